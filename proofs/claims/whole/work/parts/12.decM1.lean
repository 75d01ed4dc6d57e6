/-! decode -/
theorem dX11_run_0 : decode cX11_run 0 = .ok (.iconst 0, 1) := by decide +kernel
theorem dX11_run_1 : decode cX11_run 1 = .ok (.istore 9, 2) := by decide +kernel
theorem dX11_run_3 : decode cX11_run 3 = .ok (.sipush 400, 3) := by decide +kernel
theorem dX11_run_6 : decode cX11_run 6 = .ok (.iload_n 1, 1) := by decide +kernel
theorem dX11_run_7 : decode cX11_run 7 = .ok (.imul, 1) := by decide +kernel
theorem dX11_run_8 : decode cX11_run 8 = .ok (.iload_n 2, 1) := by decide +kernel
theorem dX11_run_9 : decode cX11_run 9 = .ok (.iadd, 1) := by decide +kernel
theorem dX11_run_10 : decode cX11_run 10 = .ok (.istore 10, 2) := by decide +kernel
theorem dX11_run_12 : decode cX11_run 12 = .ok (.iload 10, 2) := by decide +kernel
theorem dX11_run_14 : decode cX11_run 14 = .ok (.sipush 400, 3) := by decide +kernel
theorem dX11_run_17 : decode cX11_run 17 = .ok (.iload_n 1, 1) := by decide +kernel
theorem dX11_run_18 : decode cX11_run 18 = .ok (.imul, 1) := by decide +kernel
theorem dX11_run_19 : decode cX11_run 19 = .ok (.iload_n 3, 1) := by decide +kernel
theorem dX11_run_20 : decode cX11_run 20 = .ok (.iadd, 1) := by decide +kernel
theorem dX11_run_21 : decode cX11_run 21 = .ok (.if_icmp .ge 178, 3) := by decide +kernel
theorem dX11_run_24 : decode cX11_run 24 = .ok (.aload_n 0, 1) := by decide +kernel
theorem dX11_run_25 : decode cX11_run 25 = .ok (.getfield 61, 3) := by decide +kernel
theorem dX11_run_28 : decode cX11_run 28 = .ok (.iload 10, 2) := by decide +kernel
theorem dX11_run_30 : decode cX11_run 30 = .ok (.iaload, 1) := by decide +kernel
theorem dX11_run_31 : decode cX11_run 31 = .ok (.istore 11, 2) := by decide +kernel
theorem dX11_run_33 : decode cX11_run 33 = .ok (.iinc 10 1, 3) := by decide +kernel
theorem dX11_run_36 : decode cX11_run 36 = .ok (.iload 11, 2) := by decide +kernel
theorem dX11_run_38 : decode cX11_run 38 = .ok (.iconst 2, 1) := by decide +kernel
theorem dX11_run_39 : decode cX11_run 39 = .ok (.if_icmp .ge 94, 3) := by decide +kernel
theorem dX11_run_42 : decode cX11_run 42 = .ok (.aload_n 0, 1) := by decide +kernel
theorem dX11_run_43 : decode cX11_run 43 = .ok (.getfield 61, 3) := by decide +kernel
theorem dX11_run_46 : decode cX11_run 46 = .ok (.iload 10, 2) := by decide +kernel
theorem dX11_run_48 : decode cX11_run 48 = .ok (.iaload, 1) := by decide +kernel
theorem dX11_run_49 : decode cX11_run 49 = .ok (.istore 12, 2) := by decide +kernel
theorem dX11_run_51 : decode cX11_run 51 = .ok (.iinc 10 1, 3) := by decide +kernel
theorem dX11_run_54 : decode cX11_run 54 = .ok (.aload_n 0, 1) := by decide +kernel
theorem dX11_run_55 : decode cX11_run 55 = .ok (.getfield 73, 3) := by decide +kernel
theorem dX11_run_58 : decode cX11_run 58 = .ok (.iload 9, 2) := by decide +kernel
theorem dX11_run_60 : decode cX11_run 60 = .ok (.iload 11, 2) := by decide +kernel
theorem dX11_run_62 : decode cX11_run 62 = .ok (.ifCond .ne 9, 3) := by decide +kernel
theorem dX11_run_65 : decode cX11_run 65 = .ok (.iload 12, 2) := by decide +kernel
theorem dX11_run_67 : decode cX11_run 67 = .ok (.i2l, 1) := by decide +kernel
theorem dX11_run_68 : decode cX11_run 68 = .ok (.goto 58, 3) := by decide +kernel
theorem dX11_run_71 : decode cX11_run 71 = .ok (.iload 12, 2) := by decide +kernel
theorem dX11_run_73 : decode cX11_run 73 = .ok (.bipush 97, 2) := by decide +kernel
theorem dX11_run_75 : decode cX11_run 75 = .ok (.if_icmp .ne 9, 3) := by decide +kernel
theorem dX11_run_78 : decode cX11_run 78 = .ok (.iload 4, 2) := by decide +kernel
theorem dX11_run_80 : decode cX11_run 80 = .ok (.i2l, 1) := by decide +kernel
theorem dX11_run_81 : decode cX11_run 81 = .ok (.goto 45, 3) := by decide +kernel
theorem dX11_run_84 : decode cX11_run 84 = .ok (.iload 12, 2) := by decide +kernel
theorem dX11_run_86 : decode cX11_run 86 = .ok (.bipush 115, 2) := by decide +kernel
theorem dX11_run_88 : decode cX11_run 88 = .ok (.if_icmp .ne 9, 3) := by decide +kernel
theorem dX11_run_91 : decode cX11_run 91 = .ok (.iload 5, 2) := by decide +kernel
theorem dX11_run_93 : decode cX11_run 93 = .ok (.i2l, 1) := by decide +kernel
theorem dX11_run_94 : decode cX11_run 94 = .ok (.goto 32, 3) := by decide +kernel
theorem dX11_run_97 : decode cX11_run 97 = .ok (.iload 12, 2) := by decide +kernel
theorem dX11_run_99 : decode cX11_run 99 = .ok (.bipush 110, 2) := by decide +kernel
theorem dX11_run_101 : decode cX11_run 101 = .ok (.if_icmp .ne 9, 3) := by decide +kernel
theorem dX11_run_104 : decode cX11_run 104 = .ok (.iload 6, 2) := by decide +kernel
theorem dX11_run_106 : decode cX11_run 106 = .ok (.i2l, 1) := by decide +kernel
theorem dX11_run_107 : decode cX11_run 107 = .ok (.goto 19, 3) := by decide +kernel
theorem dX11_run_110 : decode cX11_run 110 = .ok (.iload 12, 2) := by decide +kernel
theorem dX11_run_112 : decode cX11_run 112 = .ok (.bipush 112, 2) := by decide +kernel
theorem dX11_run_114 : decode cX11_run 114 = .ok (.if_icmp .ne 9, 3) := by decide +kernel
theorem dX11_run_117 : decode cX11_run 117 = .ok (.iload 7, 2) := by decide +kernel
theorem dX11_run_119 : decode cX11_run 119 = .ok (.i2l, 1) := by decide +kernel
theorem dX11_run_120 : decode cX11_run 120 = .ok (.goto 6, 3) := by decide +kernel
theorem dX11_run_123 : decode cX11_run 123 = .ok (.iload 8, 2) := by decide +kernel
theorem dX11_run_125 : decode cX11_run 125 = .ok (.i2l, 1) := by decide +kernel
theorem dX11_run_126 : decode cX11_run 126 = .ok (.lastore, 1) := by decide +kernel
theorem dX11_run_127 : decode cX11_run 127 = .ok (.iinc 9 1, 3) := by decide +kernel
theorem dX11_run_130 : decode cX11_run 130 = .ok (.goto 66, 3) := by decide +kernel
theorem dX11_run_133 : decode cX11_run 133 = .ok (.iload 11, 2) := by decide +kernel
theorem dX11_run_135 : decode cX11_run 135 = .ok (.bipush 33, 2) := by decide +kernel
theorem dX11_run_137 : decode cX11_run 137 = .ok (.if_icmp .ne 26, 3) := by decide +kernel
theorem dX11_run_140 : decode cX11_run 140 = .ok (.aload_n 0, 1) := by decide +kernel
theorem dX11_run_141 : decode cX11_run 141 = .ok (.getfield 73, 3) := by decide +kernel
theorem dX11_run_144 : decode cX11_run 144 = .ok (.iload 9, 2) := by decide +kernel
theorem dX11_run_146 : decode cX11_run 146 = .ok (.iconst 1, 1) := by decide +kernel
theorem dX11_run_147 : decode cX11_run 147 = .ok (.isub, 1) := by decide +kernel
theorem dX11_run_148 : decode cX11_run 148 = .ok (.lconst 1, 1) := by decide +kernel
theorem dX11_run_149 : decode cX11_run 149 = .ok (.aload_n 0, 1) := by decide +kernel
theorem dX11_run_150 : decode cX11_run 150 = .ok (.getfield 73, 3) := by decide +kernel
theorem dX11_run_153 : decode cX11_run 153 = .ok (.iload 9, 2) := by decide +kernel
theorem dX11_run_155 : decode cX11_run 155 = .ok (.iconst 1, 1) := by decide +kernel
theorem dX11_run_156 : decode cX11_run 156 = .ok (.isub, 1) := by decide +kernel
theorem dX11_run_157 : decode cX11_run 157 = .ok (.laload, 1) := by decide +kernel
theorem dX11_run_158 : decode cX11_run 158 = .ok (.lsub, 1) := by decide +kernel
theorem dX11_run_159 : decode cX11_run 159 = .ok (.lastore, 1) := by decide +kernel
theorem dX11_run_160 : decode cX11_run 160 = .ok (.goto 36, 3) := by decide +kernel
theorem dX11_run_163 : decode cX11_run 163 = .ok (.iinc 9 (-1), 3) := by decide +kernel
theorem dX11_run_166 : decode cX11_run 166 = .ok (.aload_n 0, 1) := by decide +kernel
theorem dX11_run_167 : decode cX11_run 167 = .ok (.getfield 73, 3) := by decide +kernel
theorem dX11_run_170 : decode cX11_run 170 = .ok (.iload 9, 2) := by decide +kernel
theorem dX11_run_172 : decode cX11_run 172 = .ok (.iconst 1, 1) := by decide +kernel
theorem dX11_run_173 : decode cX11_run 173 = .ok (.isub, 1) := by decide +kernel
theorem dX11_run_174 : decode cX11_run 174 = .ok (.iload 11, 2) := by decide +kernel
theorem dX11_run_176 : decode cX11_run 176 = .ok (.aload_n 0, 1) := by decide +kernel
theorem dX11_run_177 : decode cX11_run 177 = .ok (.getfield 73, 3) := by decide +kernel
theorem dX11_run_180 : decode cX11_run 180 = .ok (.iload 9, 2) := by decide +kernel
theorem dX11_run_182 : decode cX11_run 182 = .ok (.iconst 1, 1) := by decide +kernel
theorem dX11_run_183 : decode cX11_run 183 = .ok (.isub, 1) := by decide +kernel
theorem dX11_run_184 : decode cX11_run 184 = .ok (.laload, 1) := by decide +kernel
theorem dX11_run_185 : decode cX11_run 185 = .ok (.aload_n 0, 1) := by decide +kernel
theorem dX11_run_186 : decode cX11_run 186 = .ok (.getfield 73, 3) := by decide +kernel
theorem dX11_run_189 : decode cX11_run 189 = .ok (.iload 9, 2) := by decide +kernel
theorem dX11_run_191 : decode cX11_run 191 = .ok (.laload, 1) := by decide +kernel
theorem dX11_run_192 : decode cX11_run 192 = .ok (.invokestatic 246, 3) := by decide +kernel
theorem dX11_run_195 : decode cX11_run 195 = .ok (.lastore, 1) := by decide +kernel
theorem dX11_run_196 : decode cX11_run 196 = .ok (.goto (-184), 3) := by decide +kernel
theorem dX11_run_199 : decode cX11_run 199 = .ok (.aload_n 0, 1) := by decide +kernel
theorem dX11_run_200 : decode cX11_run 200 = .ok (.getfield 73, 3) := by decide +kernel
theorem dX11_run_203 : decode cX11_run 203 = .ok (.iconst 0, 1) := by decide +kernel
theorem dX11_run_204 : decode cX11_run 204 = .ok (.laload, 1) := by decide +kernel
theorem dX11_run_205 : decode cX11_run 205 = .ok (.lreturn, 1) := by decide +kernel
theorem dX11_worthOf_0 : decode cX11_worthOf 0 = .ok (.iconst 0, 1) := by decide +kernel
theorem dX11_worthOf_1 : decode cX11_worthOf 1 = .ok (.istore 7, 2) := by decide +kernel
theorem dX11_worthOf_3 : decode cX11_worthOf 3 = .ok (.iconst 0, 1) := by decide +kernel
theorem dX11_worthOf_4 : decode cX11_worthOf 4 = .ok (.istore 8, 2) := by decide +kernel
theorem dX11_worthOf_6 : decode cX11_worthOf 6 = .ok (.iload 8, 2) := by decide +kernel
theorem dX11_worthOf_8 : decode cX11_worthOf 8 = .ok (.aload_n 0, 1) := by decide +kernel
theorem dX11_worthOf_9 : decode cX11_worthOf 9 = .ok (.getfield 64, 3) := by decide +kernel
theorem dX11_worthOf_12 : decode cX11_worthOf 12 = .ok (.iload_n 1, 1) := by decide +kernel
theorem dX11_worthOf_13 : decode cX11_worthOf 13 = .ok (.iaload, 1) := by decide +kernel
theorem dX11_worthOf_14 : decode cX11_worthOf 14 = .ok (.if_icmp .ge 89, 3) := by decide +kernel
theorem dX11_worthOf_17 : decode cX11_worthOf 17 = .ok (.aload_n 0, 1) := by decide +kernel
theorem dX11_worthOf_18 : decode cX11_worthOf 18 = .ok (.getfield 67, 3) := by decide +kernel
theorem dX11_worthOf_21 : decode cX11_worthOf 21 = .ok (.bipush 64, 2) := by decide +kernel
theorem dX11_worthOf_23 : decode cX11_worthOf 23 = .ok (.iload_n 1, 1) := by decide +kernel
theorem dX11_worthOf_24 : decode cX11_worthOf 24 = .ok (.imul, 1) := by decide +kernel
theorem dX11_worthOf_25 : decode cX11_worthOf 25 = .ok (.iload 8, 2) := by decide +kernel
theorem dX11_worthOf_27 : decode cX11_worthOf 27 = .ok (.iadd, 1) := by decide +kernel
theorem dX11_worthOf_28 : decode cX11_worthOf 28 = .ok (.iaload, 1) := by decide +kernel
theorem dX11_worthOf_29 : decode cX11_worthOf 29 = .ok (.istore 9, 2) := by decide +kernel
theorem dX11_worthOf_31 : decode cX11_worthOf 31 = .ok (.aload_n 0, 1) := by decide +kernel
theorem dX11_worthOf_32 : decode cX11_worthOf 32 = .ok (.getfield 70, 3) := by decide +kernel
theorem dX11_worthOf_35 : decode cX11_worthOf 35 = .ok (.bipush 64, 2) := by decide +kernel
theorem dX11_worthOf_37 : decode cX11_worthOf 37 = .ok (.iload_n 1, 1) := by decide +kernel
theorem dX11_worthOf_38 : decode cX11_worthOf 38 = .ok (.imul, 1) := by decide +kernel
theorem dX11_worthOf_39 : decode cX11_worthOf 39 = .ok (.iload 8, 2) := by decide +kernel
theorem dX11_worthOf_41 : decode cX11_worthOf 41 = .ok (.iadd, 1) := by decide +kernel
theorem dX11_worthOf_42 : decode cX11_worthOf 42 = .ok (.iaload, 1) := by decide +kernel
theorem dX11_worthOf_43 : decode cX11_worthOf 43 = .ok (.istore 10, 2) := by decide +kernel
theorem dX11_worthOf_45 : decode cX11_worthOf 45 = .ok (.iload 9, 2) := by decide +kernel
theorem dX11_worthOf_47 : decode cX11_worthOf 47 = .ok (.iload 7, 2) := by decide +kernel
theorem dX11_worthOf_49 : decode cX11_worthOf 49 = .ok (.if_icmp .eq 25, 3) := by decide +kernel
theorem dX11_worthOf_52 : decode cX11_worthOf 52 = .ok (.aload_n 0, 1) := by decide +kernel
theorem dX11_worthOf_53 : decode cX11_worthOf 53 = .ok (.iload_n 1, 1) := by decide +kernel
theorem dX11_worthOf_54 : decode cX11_worthOf 54 = .ok (.iload 7, 2) := by decide +kernel
theorem dX11_worthOf_56 : decode cX11_worthOf 56 = .ok (.iload 9, 2) := by decide +kernel
theorem dX11_worthOf_58 : decode cX11_worthOf 58 = .ok (.iload_n 2, 1) := by decide +kernel
theorem dX11_worthOf_59 : decode cX11_worthOf 59 = .ok (.iload_n 3, 1) := by decide +kernel
theorem dX11_worthOf_60 : decode cX11_worthOf 60 = .ok (.iload 4, 2) := by decide +kernel
theorem dX11_worthOf_62 : decode cX11_worthOf 62 = .ok (.iload 5, 2) := by decide +kernel
theorem dX11_worthOf_64 : decode cX11_worthOf 64 = .ok (.iload 6, 2) := by decide +kernel
theorem dX11_worthOf_66 : decode cX11_worthOf 66 = .ok (.invokevirtual 250, 3) := by decide +kernel
theorem dX11_worthOf_69 : decode cX11_worthOf 69 = .ok (.lconst 1, 1) := by decide +kernel
theorem dX11_worthOf_70 : decode cX11_worthOf 70 = .ok (.lcmp, 1) := by decide +kernel
theorem dX11_worthOf_71 : decode cX11_worthOf 71 = .ok (.ifCond .ne 22, 3) := by decide +kernel
theorem dX11_worthOf_74 : decode cX11_worthOf 74 = .ok (.aload_n 0, 1) := by decide +kernel
theorem dX11_worthOf_75 : decode cX11_worthOf 75 = .ok (.iload_n 1, 1) := by decide +kernel
theorem dX11_worthOf_76 : decode cX11_worthOf 76 = .ok (.iload 9, 2) := by decide +kernel
theorem dX11_worthOf_78 : decode cX11_worthOf 78 = .ok (.iload 10, 2) := by decide +kernel
theorem dX11_worthOf_80 : decode cX11_worthOf 80 = .ok (.iload_n 2, 1) := by decide +kernel
theorem dX11_worthOf_81 : decode cX11_worthOf 81 = .ok (.iload_n 3, 1) := by decide +kernel
theorem dX11_worthOf_82 : decode cX11_worthOf 82 = .ok (.iload 4, 2) := by decide +kernel
theorem dX11_worthOf_84 : decode cX11_worthOf 84 = .ok (.iload 5, 2) := by decide +kernel
theorem dX11_worthOf_86 : decode cX11_worthOf 86 = .ok (.iload 6, 2) := by decide +kernel
theorem dX11_worthOf_88 : decode cX11_worthOf 88 = .ok (.invokevirtual 250, 3) := by decide +kernel
theorem dX11_worthOf_91 : decode cX11_worthOf 91 = .ok (.l2i, 1) := by decide +kernel
theorem dX11_worthOf_92 : decode cX11_worthOf 92 = .ok (.ireturn, 1) := by decide +kernel
theorem dX11_worthOf_93 : decode cX11_worthOf 93 = .ok (.iload 10, 2) := by decide +kernel
theorem dX11_worthOf_95 : decode cX11_worthOf 95 = .ok (.istore 7, 2) := by decide +kernel
theorem dX11_worthOf_97 : decode cX11_worthOf 97 = .ok (.iinc 8 1, 3) := by decide +kernel
theorem dX11_worthOf_100 : decode cX11_worthOf 100 = .ok (.goto (-94), 3) := by decide +kernel
theorem dX11_worthOf_103 : decode cX11_worthOf 103 = .ok (.iconst 0, 1) := by decide +kernel
theorem dX11_worthOf_104 : decode cX11_worthOf 104 = .ok (.ireturn, 1) := by decide +kernel
theorem dX11_worth_0 : decode cX11_worth 0 = .ok (.aload_n 0, 1) := by decide +kernel
theorem dX11_worth_1 : decode cX11_worth 1 = .ok (.iload_n 1, 1) := by decide +kernel
theorem dX11_worth_2 : decode cX11_worth 2 = .ok (.iconst 0, 1) := by decide +kernel
theorem dX11_worth_3 : decode cX11_worth 3 = .ok (.aload_n 0, 1) := by decide +kernel
theorem dX11_worth_4 : decode cX11_worth 4 = .ok (.getfield 227, 3) := by decide +kernel
theorem dX11_worth_7 : decode cX11_worth 7 = .ok (.iconst 1, 1) := by decide +kernel
theorem dX11_worth_8 : decode cX11_worth 8 = .ok (.isub, 1) := by decide +kernel
theorem dX11_worth_9 : decode cX11_worth 9 = .ok (.invokestatic 145, 3) := by decide +kernel
theorem dX11_worth_12 : decode cX11_worth 12 = .ok (.ifCond .eq 7, 3) := by decide +kernel
theorem dX11_worth_15 : decode cX11_worth 15 = .ok (.iconst 0, 1) := by decide +kernel
theorem dX11_worth_16 : decode cX11_worth 16 = .ok (.goto 4, 3) := by decide +kernel
theorem dX11_worth_19 : decode cX11_worth 19 = .ok (.iconst 1, 1) := by decide +kernel
theorem dX11_worth_20 : decode cX11_worth 20 = .ok (.putfield 114, 3) := by decide +kernel
theorem dX11_worth_23 : decode cX11_worth 23 = .ok (.aload_n 0, 1) := by decide +kernel
theorem dX11_worth_24 : decode cX11_worth 24 = .ok (.getfield 114, 3) := by decide +kernel
theorem dX11_worth_27 : decode cX11_worth 27 = .ok (.iconst 1, 1) := by decide +kernel
theorem dX11_worth_28 : decode cX11_worth 28 = .ok (.if_icmp .ne 7, 3) := by decide +kernel
theorem dX11_worth_31 : decode cX11_worth 31 = .ok (.iconst 0, 1) := by decide +kernel
theorem dX11_worth_32 : decode cX11_worth 32 = .ok (.goto 16, 3) := by decide +kernel
theorem dX11_worth_35 : decode cX11_worth 35 = .ok (.aload_n 0, 1) := by decide +kernel
theorem dX11_worth_36 : decode cX11_worth 36 = .ok (.iload_n 1, 1) := by decide +kernel
theorem dX11_worth_37 : decode cX11_worth 37 = .ok (.iload_n 2, 1) := by decide +kernel
theorem dX11_worth_38 : decode cX11_worth 38 = .ok (.iload_n 3, 1) := by decide +kernel
theorem dX11_worth_39 : decode cX11_worth 39 = .ok (.iload 4, 2) := by decide +kernel
theorem dX11_worth_41 : decode cX11_worth 41 = .ok (.iload 5, 2) := by decide +kernel
theorem dX11_worth_43 : decode cX11_worth 43 = .ok (.iload 6, 2) := by decide +kernel
theorem dX11_worth_45 : decode cX11_worth 45 = .ok (.invokevirtual 254, 3) := by decide +kernel
theorem dX11_worth_48 : decode cX11_worth 48 = .ok (.ireturn, 1) := by decide +kernel
theorem dX11_isLand_0 : decode cX11_isLand 0 = .ok (.iload_n 1, 1) := by decide +kernel
theorem dX11_isLand_1 : decode cX11_isLand 1 = .ok (.iconst 0, 1) := by decide +kernel
theorem dX11_isLand_2 : decode cX11_isLand 2 = .ok (.aload_n 0, 1) := by decide +kernel
theorem dX11_isLand_3 : decode cX11_isLand 3 = .ok (.getfield 224, 3) := by decide +kernel
theorem dX11_isLand_6 : decode cX11_isLand 6 = .ok (.iconst 1, 1) := by decide +kernel
theorem dX11_isLand_7 : decode cX11_isLand 7 = .ok (.isub, 1) := by decide +kernel
theorem dX11_isLand_8 : decode cX11_isLand 8 = .ok (.invokestatic 145, 3) := by decide +kernel
theorem dX11_isLand_11 : decode cX11_isLand 11 = .ok (.ireturn, 1) := by decide +kernel
theorem dX11_isSeason_0 : decode cX11_isSeason 0 = .ok (.aload_n 0, 1) := by decide +kernel
theorem dX11_isSeason_1 : decode cX11_isSeason 1 = .ok (.iload_n 1, 1) := by decide +kernel
theorem dX11_isSeason_2 : decode cX11_isSeason 2 = .ok (.invokevirtual 257, 3) := by decide +kernel
theorem dX11_isSeason_5 : decode cX11_isSeason 5 = .ok (.ifCond .eq 23, 3) := by decide +kernel
theorem dX11_isSeason_8 : decode cX11_isSeason 8 = .ok (.iload_n 2, 1) := by decide +kernel
theorem dX11_isSeason_9 : decode cX11_isSeason 9 = .ok (.iconst 0, 1) := by decide +kernel
theorem dX11_isSeason_10 : decode cX11_isSeason 10 = .ok (.aload_n 0, 1) := by decide +kernel
theorem dX11_isSeason_11 : decode cX11_isSeason 11 = .ok (.getfield 13, 3) := by decide +kernel
theorem dX11_isSeason_14 : decode cX11_isSeason 14 = .ok (.iload_n 1, 1) := by decide +kernel
theorem dX11_isSeason_15 : decode cX11_isSeason 15 = .ok (.iaload, 1) := by decide +kernel
theorem dX11_isSeason_16 : decode cX11_isSeason 16 = .ok (.iconst 1, 1) := by decide +kernel
theorem dX11_isSeason_17 : decode cX11_isSeason 17 = .ok (.isub, 1) := by decide +kernel
theorem dX11_isSeason_18 : decode cX11_isSeason 18 = .ok (.invokestatic 145, 3) := by decide +kernel
theorem dX11_isSeason_21 : decode cX11_isSeason 21 = .ok (.ifCond .eq 7, 3) := by decide +kernel
theorem dX11_isSeason_24 : decode cX11_isSeason 24 = .ok (.iconst 1, 1) := by decide +kernel
theorem dX11_isSeason_25 : decode cX11_isSeason 25 = .ok (.goto 4, 3) := by decide +kernel
theorem dX11_isSeason_28 : decode cX11_isSeason 28 = .ok (.iconst 0, 1) := by decide +kernel
theorem dX11_isSeason_29 : decode cX11_isSeason 29 = .ok (.ireturn, 1) := by decide +kernel
theorem dX11_goods_0 : decode cX11_goods 0 = .ok (.iconst 0, 1) := by decide +kernel
theorem dX11_goods_1 : decode cX11_goods 1 = .ok (.istore_n 3, 1) := by decide +kernel
theorem dX11_goods_2 : decode cX11_goods 2 = .ok (.iconst 0, 1) := by decide +kernel
theorem dX11_goods_3 : decode cX11_goods 3 = .ok (.istore 4, 2) := by decide +kernel
theorem dX11_goods_5 : decode cX11_goods 5 = .ok (.iload 4, 2) := by decide +kernel
theorem dX11_goods_7 : decode cX11_goods 7 = .ok (.iload_n 2, 1) := by decide +kernel
theorem dX11_goods_8 : decode cX11_goods 8 = .ok (.aload_n 0, 1) := by decide +kernel
theorem dX11_goods_9 : decode cX11_goods 9 = .ok (.getfield 19, 3) := by decide +kernel
theorem dX11_goods_12 : decode cX11_goods 12 = .ok (.iload_n 1, 1) := by decide +kernel
theorem dX11_goods_13 : decode cX11_goods 13 = .ok (.iaload, 1) := by decide +kernel
theorem dX11_goods_14 : decode cX11_goods 14 = .ok (.invokestatic 169, 3) := by decide +kernel
theorem dX11_goods_17 : decode cX11_goods 17 = .ok (.if_icmp .ge 25, 3) := by decide +kernel
theorem dX11_goods_20 : decode cX11_goods 20 = .ok (.iload_n 3, 1) := by decide +kernel
theorem dX11_goods_21 : decode cX11_goods 21 = .ok (.aload_n 0, 1) := by decide +kernel
theorem dX11_goods_22 : decode cX11_goods 22 = .ok (.getfield 16, 3) := by decide +kernel
theorem dX11_goods_25 : decode cX11_goods 25 = .ok (.sipush 180, 3) := by decide +kernel
theorem dX11_goods_28 : decode cX11_goods 28 = .ok (.iload_n 1, 1) := by decide +kernel
theorem dX11_goods_29 : decode cX11_goods 29 = .ok (.imul, 1) := by decide +kernel
theorem dX11_goods_30 : decode cX11_goods 30 = .ok (.iload 4, 2) := by decide +kernel
theorem dX11_goods_32 : decode cX11_goods 32 = .ok (.iadd, 1) := by decide +kernel
theorem dX11_goods_33 : decode cX11_goods 33 = .ok (.iaload, 1) := by decide +kernel
theorem dX11_goods_34 : decode cX11_goods 34 = .ok (.iadd, 1) := by decide +kernel
theorem dX11_goods_35 : decode cX11_goods 35 = .ok (.istore_n 3, 1) := by decide +kernel
theorem dX11_goods_36 : decode cX11_goods 36 = .ok (.iinc 4 1, 3) := by decide +kernel
theorem dX11_goods_39 : decode cX11_goods 39 = .ok (.goto (-34), 3) := by decide +kernel
theorem dX11_goods_42 : decode cX11_goods 42 = .ok (.iload_n 3, 1) := by decide +kernel
theorem dX11_goods_43 : decode cX11_goods 43 = .ok (.ireturn, 1) := by decide +kernel
theorem dX11_priceAt_0 : decode cX11_priceAt 0 = .ok (.iload_n 2, 1) := by decide +kernel
theorem dX11_priceAt_1 : decode cX11_priceAt 1 = .ok (.aload_n 0, 1) := by decide +kernel
theorem dX11_priceAt_2 : decode cX11_priceAt 2 = .ok (.getfield 19, 3) := by decide +kernel
theorem dX11_priceAt_5 : decode cX11_priceAt 5 = .ok (.iload_n 1, 1) := by decide +kernel
theorem dX11_priceAt_6 : decode cX11_priceAt 6 = .ok (.iaload, 1) := by decide +kernel
theorem dX11_priceAt_7 : decode cX11_priceAt 7 = .ok (.if_icmp .ge 18, 3) := by decide +kernel
theorem dX11_priceAt_10 : decode cX11_priceAt 10 = .ok (.aload_n 0, 1) := by decide +kernel
theorem dX11_priceAt_11 : decode cX11_priceAt 11 = .ok (.getfield 16, 3) := by decide +kernel
theorem dX11_priceAt_14 : decode cX11_priceAt 14 = .ok (.sipush 180, 3) := by decide +kernel
theorem dX11_priceAt_17 : decode cX11_priceAt 17 = .ok (.iload_n 1, 1) := by decide +kernel
theorem dX11_priceAt_18 : decode cX11_priceAt 18 = .ok (.imul, 1) := by decide +kernel
theorem dX11_priceAt_19 : decode cX11_priceAt 19 = .ok (.iload_n 2, 1) := by decide +kernel
theorem dX11_priceAt_20 : decode cX11_priceAt 20 = .ok (.iadd, 1) := by decide +kernel
theorem dX11_priceAt_21 : decode cX11_priceAt 21 = .ok (.iaload, 1) := by decide +kernel
theorem dX11_priceAt_22 : decode cX11_priceAt 22 = .ok (.goto 4, 3) := by decide +kernel
theorem dX11_priceAt_25 : decode cX11_priceAt 25 = .ok (.iconst 0, 1) := by decide +kernel
theorem dX11_priceAt_26 : decode cX11_priceAt 26 = .ok (.ireturn, 1) := by decide +kernel
theorem dX11_hungry_0 : decode cX11_hungry 0 = .ok (.iconst 0, 1) := by decide +kernel
theorem dX11_hungry_1 : decode cX11_hungry 1 = .ok (.aload_n 0, 1) := by decide +kernel
theorem dX11_hungry_2 : decode cX11_hungry 2 = .ok (.getfield 19, 3) := by decide +kernel
theorem dX11_hungry_5 : decode cX11_hungry 5 = .ok (.iload_n 1, 1) := by decide +kernel
theorem dX11_hungry_6 : decode cX11_hungry 6 = .ok (.iaload, 1) := by decide +kernel
theorem dX11_hungry_7 : decode cX11_hungry 7 = .ok (.iload_n 2, 1) := by decide +kernel
theorem dX11_hungry_8 : decode cX11_hungry 8 = .ok (.isub, 1) := by decide +kernel
theorem dX11_hungry_9 : decode cX11_hungry 9 = .ok (.invokestatic 260, 3) := by decide +kernel
theorem dX11_hungry_12 : decode cX11_hungry 12 = .ok (.ireturn, 1) := by decide +kernel
theorem dX11_leftOf_0 : decode cX11_leftOf 0 = .ok (.aload_n 0, 1) := by decide +kernel
theorem dX11_leftOf_1 : decode cX11_leftOf 1 = .ok (.getfield 37, 3) := by decide +kernel
theorem dX11_leftOf_4 : decode cX11_leftOf 4 = .ok (.iload_n 1, 1) := by decide +kernel
theorem dX11_leftOf_5 : decode cX11_leftOf 5 = .ok (.iaload, 1) := by decide +kernel
theorem dX11_leftOf_6 : decode cX11_leftOf 6 = .ok (.ifCond .ne 7, 3) := by decide +kernel
theorem dX11_leftOf_9 : decode cX11_leftOf 9 = .ok (.iload_n 2, 1) := by decide +kernel
theorem dX11_leftOf_10 : decode cX11_leftOf 10 = .ok (.goto 13, 3) := by decide +kernel
theorem dX11_leftOf_13 : decode cX11_leftOf 13 = .ok (.iload_n 2, 1) := by decide +kernel
theorem dX11_leftOf_14 : decode cX11_leftOf 14 = .ok (.iload_n 2, 1) := by decide +kernel
theorem dX11_leftOf_15 : decode cX11_leftOf 15 = .ok (.aload_n 0, 1) := by decide +kernel
theorem dX11_leftOf_16 : decode cX11_leftOf 16 = .ok (.getfield 37, 3) := by decide +kernel
theorem dX11_leftOf_19 : decode cX11_leftOf 19 = .ok (.iload_n 1, 1) := by decide +kernel
theorem dX11_leftOf_20 : decode cX11_leftOf 20 = .ok (.iaload, 1) := by decide +kernel
theorem dX11_leftOf_21 : decode cX11_leftOf 21 = .ok (.idiv, 1) := by decide +kernel
theorem dX11_leftOf_22 : decode cX11_leftOf 22 = .ok (.isub, 1) := by decide +kernel
theorem dX11_leftOf_23 : decode cX11_leftOf 23 = .ok (.ireturn, 1) := by decide +kernel
theorem dX11_told_0 : decode cX11_told 0 = .ok (.aload_n 0, 1) := by decide +kernel
theorem dX11_told_1 : decode cX11_told 1 = .ok (.iload_n 1, 1) := by decide +kernel
theorem dX11_told_2 : decode cX11_told 2 = .ok (.invokevirtual 257, 3) := by decide +kernel
theorem dX11_told_5 : decode cX11_told 5 = .ok (.ifCond .ne 5, 3) := by decide +kernel
theorem dX11_told_8 : decode cX11_told 8 = .ok (.iconst (-1), 1) := by decide +kernel
theorem dX11_told_9 : decode cX11_told 9 = .ok (.ireturn, 1) := by decide +kernel
theorem dX11_told_10 : decode cX11_told 10 = .ok (.iload_n 2, 1) := by decide +kernel
theorem dX11_told_11 : decode cX11_told 11 = .ok (.tableswitch 103 0 7 #[45, 52, 59, 66, 73, 80, 87, 94], 45) := by decide +kernel
theorem dX11_told_56 : decode cX11_told 56 = .ok (.aload_n 0, 1) := by decide +kernel
theorem dX11_told_57 : decode cX11_told 57 = .ok (.getfield 13, 3) := by decide +kernel
theorem dX11_told_60 : decode cX11_told 60 = .ok (.iload_n 1, 1) := by decide +kernel
theorem dX11_told_61 : decode cX11_told 61 = .ok (.iaload, 1) := by decide +kernel
theorem dX11_told_62 : decode cX11_told 62 = .ok (.ireturn, 1) := by decide +kernel
theorem dX11_told_63 : decode cX11_told 63 = .ok (.aload_n 0, 1) := by decide +kernel
theorem dX11_told_64 : decode cX11_told 64 = .ok (.getfield 19, 3) := by decide +kernel
theorem dX11_told_67 : decode cX11_told 67 = .ok (.iload_n 1, 1) := by decide +kernel
theorem dX11_told_68 : decode cX11_told 68 = .ok (.iaload, 1) := by decide +kernel
theorem dX11_told_69 : decode cX11_told 69 = .ok (.ireturn, 1) := by decide +kernel
theorem dX11_told_70 : decode cX11_told 70 = .ok (.aload_n 0, 1) := by decide +kernel
theorem dX11_told_71 : decode cX11_told 71 = .ok (.getfield 34, 3) := by decide +kernel
theorem dX11_told_74 : decode cX11_told 74 = .ok (.iload_n 1, 1) := by decide +kernel
theorem dX11_told_75 : decode cX11_told 75 = .ok (.iaload, 1) := by decide +kernel
theorem dX11_told_76 : decode cX11_told 76 = .ok (.ireturn, 1) := by decide +kernel
theorem dX11_told_77 : decode cX11_told 77 = .ok (.aload_n 0, 1) := by decide +kernel
theorem dX11_told_78 : decode cX11_told 78 = .ok (.getfield 37, 3) := by decide +kernel
theorem dX11_told_81 : decode cX11_told 81 = .ok (.iload_n 1, 1) := by decide +kernel
theorem dX11_told_82 : decode cX11_told 82 = .ok (.iaload, 1) := by decide +kernel
theorem dX11_told_83 : decode cX11_told 83 = .ok (.ireturn, 1) := by decide +kernel
theorem dX11_told_84 : decode cX11_told 84 = .ok (.aload_n 0, 1) := by decide +kernel
theorem dX11_told_85 : decode cX11_told 85 = .ok (.getfield 40, 3) := by decide +kernel
theorem dX11_told_88 : decode cX11_told 88 = .ok (.iload_n 1, 1) := by decide +kernel
theorem dX11_told_89 : decode cX11_told 89 = .ok (.iaload, 1) := by decide +kernel
theorem dX11_told_90 : decode cX11_told 90 = .ok (.ireturn, 1) := by decide +kernel
theorem dX11_told_91 : decode cX11_told 91 = .ok (.aload_n 0, 1) := by decide +kernel
theorem dX11_told_92 : decode cX11_told 92 = .ok (.getfield 43, 3) := by decide +kernel
theorem dX11_told_95 : decode cX11_told 95 = .ok (.iload_n 1, 1) := by decide +kernel
theorem dX11_told_96 : decode cX11_told 96 = .ok (.iaload, 1) := by decide +kernel
theorem dX11_told_97 : decode cX11_told 97 = .ok (.ireturn, 1) := by decide +kernel
theorem dX11_told_98 : decode cX11_told 98 = .ok (.aload_n 0, 1) := by decide +kernel
theorem dX11_told_99 : decode cX11_told 99 = .ok (.getfield 46, 3) := by decide +kernel
theorem dX11_told_102 : decode cX11_told 102 = .ok (.iload_n 1, 1) := by decide +kernel
theorem dX11_told_103 : decode cX11_told 103 = .ok (.iaload, 1) := by decide +kernel
theorem dX11_told_104 : decode cX11_told 104 = .ok (.ireturn, 1) := by decide +kernel
theorem dX11_told_105 : decode cX11_told 105 = .ok (.aload_n 0, 1) := by decide +kernel
theorem dX11_told_106 : decode cX11_told 106 = .ok (.iload_n 1, 1) := by decide +kernel
theorem dX11_told_107 : decode cX11_told 107 = .ok (.sipush 180, 3) := by decide +kernel
theorem dX11_told_110 : decode cX11_told 110 = .ok (.invokevirtual 262, 3) := by decide +kernel
theorem dX11_told_113 : decode cX11_told 113 = .ok (.ireturn, 1) := by decide +kernel
theorem dX11_told_114 : decode cX11_told 114 = .ok (.iconst (-1), 1) := by decide +kernel
theorem dX11_told_115 : decode cX11_told 115 = .ok (.ireturn, 1) := by decide +kernel
theorem dX11_harvest_0 : decode cX11_harvest 0 = .ok (.aload_n 0, 1) := by decide +kernel
theorem dX11_harvest_1 : decode cX11_harvest 1 = .ok (.aload_n 0, 1) := by decide +kernel
theorem dX11_harvest_2 : decode cX11_harvest 2 = .ok (.iload_n 1, 1) := by decide +kernel
theorem dX11_harvest_3 : decode cX11_harvest 3 = .ok (.iload_n 2, 1) := by decide +kernel
theorem dX11_harvest_4 : decode cX11_harvest 4 = .ok (.invokevirtual 265, 3) := by decide +kernel
theorem dX11_harvest_7 : decode cX11_harvest 7 = .ok (.ifCond .eq 37, 3) := by decide +kernel
theorem dX11_harvest_10 : decode cX11_harvest 10 = .ok (.iload 4, 2) := by decide +kernel
theorem dX11_harvest_12 : decode cX11_harvest 12 = .ok (.iconst 0, 1) := by decide +kernel
theorem dX11_harvest_13 : decode cX11_harvest 13 = .ok (.iconst 1, 1) := by decide +kernel
theorem dX11_harvest_14 : decode cX11_harvest 14 = .ok (.invokestatic 145, 3) := by decide +kernel
theorem dX11_harvest_17 : decode cX11_harvest 17 = .ok (.ifCond .eq 27, 3) := by decide +kernel
theorem dX11_harvest_20 : decode cX11_harvest 20 = .ok (.iload_n 3, 1) := by decide +kernel
theorem dX11_harvest_21 : decode cX11_harvest 21 = .ok (.iconst 0, 1) := by decide +kernel
theorem dX11_harvest_22 : decode cX11_harvest 22 = .ok (.aload_n 0, 1) := by decide +kernel
theorem dX11_harvest_23 : decode cX11_harvest 23 = .ok (.getfield 31, 3) := by decide +kernel
theorem dX11_harvest_26 : decode cX11_harvest 26 = .ok (.iconst 4, 1) := by decide +kernel
theorem dX11_harvest_27 : decode cX11_harvest 27 = .ok (.iload_n 1, 1) := by decide +kernel
theorem dX11_harvest_28 : decode cX11_harvest 28 = .ok (.imul, 1) := by decide +kernel
theorem dX11_harvest_29 : decode cX11_harvest 29 = .ok (.iload_n 2, 1) := by decide +kernel
theorem dX11_harvest_30 : decode cX11_harvest 30 = .ok (.iadd, 1) := by decide +kernel
theorem dX11_harvest_31 : decode cX11_harvest 31 = .ok (.iaload, 1) := by decide +kernel
theorem dX11_harvest_32 : decode cX11_harvest 32 = .ok (.iconst 1, 1) := by decide +kernel
theorem dX11_harvest_33 : decode cX11_harvest 33 = .ok (.isub, 1) := by decide +kernel
theorem dX11_harvest_34 : decode cX11_harvest 34 = .ok (.invokestatic 145, 3) := by decide +kernel
theorem dX11_harvest_37 : decode cX11_harvest 37 = .ok (.ifCond .eq 7, 3) := by decide +kernel
theorem dX11_harvest_40 : decode cX11_harvest 40 = .ok (.iconst 0, 1) := by decide +kernel
theorem dX11_harvest_41 : decode cX11_harvest 41 = .ok (.goto 4, 3) := by decide +kernel
theorem dX11_harvest_44 : decode cX11_harvest 44 = .ok (.iconst 1, 1) := by decide +kernel
theorem dX11_harvest_45 : decode cX11_harvest 45 = .ok (.putfield 114, 3) := by decide +kernel
theorem dX11_harvest_48 : decode cX11_harvest 48 = .ok (.aload_n 0, 1) := by decide +kernel
theorem dX11_harvest_49 : decode cX11_harvest 49 = .ok (.getfield 114, 3) := by decide +kernel
theorem dX11_harvest_52 : decode cX11_harvest 52 = .ok (.iconst 1, 1) := by decide +kernel
theorem dX11_harvest_53 : decode cX11_harvest 53 = .ok (.if_icmp .ne 7, 3) := by decide +kernel
theorem dX11_harvest_56 : decode cX11_harvest 56 = .ok (.iconst 0, 1) := by decide +kernel
theorem dX11_harvest_57 : decode cX11_harvest 57 = .ok (.goto 39, 3) := by decide +kernel
theorem dX11_harvest_60 : decode cX11_harvest 60 = .ok (.iload 4, 2) := by decide +kernel
theorem dX11_harvest_62 : decode cX11_harvest 62 = .ok (.ifCond .ne 20, 3) := by decide +kernel
theorem dX11_harvest_65 : decode cX11_harvest 65 = .ok (.aload_n 0, 1) := by decide +kernel
theorem dX11_harvest_66 : decode cX11_harvest 66 = .ok (.getfield 25, 3) := by decide +kernel
theorem dX11_harvest_69 : decode cX11_harvest 69 = .ok (.iconst 4, 1) := by decide +kernel
theorem dX11_harvest_70 : decode cX11_harvest 70 = .ok (.iconst 4, 1) := by decide +kernel
theorem dX11_harvest_71 : decode cX11_harvest 71 = .ok (.iload_n 1, 1) := by decide +kernel
theorem dX11_harvest_72 : decode cX11_harvest 72 = .ok (.imul, 1) := by decide +kernel
theorem dX11_harvest_73 : decode cX11_harvest 73 = .ok (.iload_n 2, 1) := by decide +kernel
theorem dX11_harvest_74 : decode cX11_harvest 74 = .ok (.iadd, 1) := by decide +kernel
theorem dX11_harvest_75 : decode cX11_harvest 75 = .ok (.imul, 1) := by decide +kernel
theorem dX11_harvest_76 : decode cX11_harvest 76 = .ok (.iload_n 3, 1) := by decide +kernel
theorem dX11_harvest_77 : decode cX11_harvest 77 = .ok (.iadd, 1) := by decide +kernel
theorem dX11_harvest_78 : decode cX11_harvest 78 = .ok (.iaload, 1) := by decide +kernel
theorem dX11_harvest_79 : decode cX11_harvest 79 = .ok (.goto 17, 3) := by decide +kernel
theorem dX11_harvest_82 : decode cX11_harvest 82 = .ok (.aload_n 0, 1) := by decide +kernel
theorem dX11_harvest_83 : decode cX11_harvest 83 = .ok (.getfield 28, 3) := by decide +kernel
theorem dX11_harvest_86 : decode cX11_harvest 86 = .ok (.iconst 4, 1) := by decide +kernel
theorem dX11_harvest_87 : decode cX11_harvest 87 = .ok (.iconst 4, 1) := by decide +kernel
theorem dX11_harvest_88 : decode cX11_harvest 88 = .ok (.iload_n 1, 1) := by decide +kernel
theorem dX11_harvest_89 : decode cX11_harvest 89 = .ok (.imul, 1) := by decide +kernel
theorem dX11_harvest_90 : decode cX11_harvest 90 = .ok (.iload_n 2, 1) := by decide +kernel
theorem dX11_harvest_91 : decode cX11_harvest 91 = .ok (.iadd, 1) := by decide +kernel
theorem dX11_harvest_92 : decode cX11_harvest 92 = .ok (.imul, 1) := by decide +kernel
theorem dX11_harvest_93 : decode cX11_harvest 93 = .ok (.iload_n 3, 1) := by decide +kernel
theorem dX11_harvest_94 : decode cX11_harvest 94 = .ok (.iadd, 1) := by decide +kernel
theorem dX11_harvest_95 : decode cX11_harvest 95 = .ok (.iaload, 1) := by decide +kernel
theorem dX11_harvest_96 : decode cX11_harvest 96 = .ok (.ireturn, 1) := by decide +kernel
theorem dX11_eaten_0 : decode cX11_eaten 0 = .ok (.aload_n 0, 1) := by decide +kernel
theorem dX11_eaten_1 : decode cX11_eaten 1 = .ok (.iload_n 1, 1) := by decide +kernel
theorem dX11_eaten_2 : decode cX11_eaten 2 = .ok (.invokevirtual 257, 3) := by decide +kernel
theorem dX11_eaten_5 : decode cX11_eaten 5 = .ok (.ifCond .eq 23, 3) := by decide +kernel
theorem dX11_eaten_8 : decode cX11_eaten 8 = .ok (.iload_n 2, 1) := by decide +kernel
theorem dX11_eaten_9 : decode cX11_eaten 9 = .ok (.iconst 0, 1) := by decide +kernel
theorem dX11_eaten_10 : decode cX11_eaten 10 = .ok (.sipush 200, 3) := by decide +kernel
theorem dX11_eaten_13 : decode cX11_eaten 13 = .ok (.invokestatic 145, 3) := by decide +kernel
theorem dX11_eaten_16 : decode cX11_eaten 16 = .ok (.ifCond .eq 12, 3) := by decide +kernel
theorem dX11_eaten_19 : decode cX11_eaten 19 = .ok (.iload_n 3, 1) := by decide +kernel
theorem dX11_eaten_20 : decode cX11_eaten 20 = .ok (.iconst 0, 1) := by decide +kernel
theorem dX11_eaten_21 : decode cX11_eaten 21 = .ok (.iconst 2, 1) := by decide +kernel
theorem dX11_eaten_22 : decode cX11_eaten 22 = .ok (.invokestatic 145, 3) := by decide +kernel
theorem dX11_eaten_25 : decode cX11_eaten 25 = .ok (.ifCond .ne 5, 3) := by decide +kernel
theorem dX11_eaten_28 : decode cX11_eaten 28 = .ok (.iconst (-1), 1) := by decide +kernel
theorem dX11_eaten_29 : decode cX11_eaten 29 = .ok (.ireturn, 1) := by decide +kernel
theorem dX11_eaten_30 : decode cX11_eaten 30 = .ok (.iload_n 3, 1) := by decide +kernel
theorem dX11_eaten_31 : decode cX11_eaten 31 = .ok (.ifCond .ne 12, 3) := by decide +kernel
theorem dX11_eaten_34 : decode cX11_eaten 34 = .ok (.aload_n 0, 1) := by decide +kernel
theorem dX11_eaten_35 : decode cX11_eaten 35 = .ok (.iload_n 1, 1) := by decide +kernel
theorem dX11_eaten_36 : decode cX11_eaten 36 = .ok (.iload_n 2, 1) := by decide +kernel
theorem dX11_eaten_37 : decode cX11_eaten 37 = .ok (.invokevirtual 262, 3) := by decide +kernel
theorem dX11_eaten_40 : decode cX11_eaten 40 = .ok (.goto 23, 3) := by decide +kernel
theorem dX11_eaten_43 : decode cX11_eaten 43 = .ok (.iload_n 3, 1) := by decide +kernel
theorem dX11_eaten_44 : decode cX11_eaten 44 = .ok (.iconst 1, 1) := by decide +kernel
theorem dX11_eaten_45 : decode cX11_eaten 45 = .ok (.if_icmp .ne 12, 3) := by decide +kernel
theorem dX11_eaten_48 : decode cX11_eaten 48 = .ok (.aload_n 0, 1) := by decide +kernel
theorem dX11_eaten_49 : decode cX11_eaten 49 = .ok (.iload_n 1, 1) := by decide +kernel
theorem dX11_eaten_50 : decode cX11_eaten 50 = .ok (.iload_n 2, 1) := by decide +kernel
theorem dX11_eaten_51 : decode cX11_eaten 51 = .ok (.invokevirtual 269, 3) := by decide +kernel
theorem dX11_eaten_54 : decode cX11_eaten 54 = .ok (.goto 9, 3) := by decide +kernel
theorem dX11_eaten_57 : decode cX11_eaten 57 = .ok (.aload_n 0, 1) := by decide +kernel
theorem dX11_eaten_58 : decode cX11_eaten 58 = .ok (.iload_n 1, 1) := by decide +kernel
theorem dX11_eaten_59 : decode cX11_eaten 59 = .ok (.iload_n 2, 1) := by decide +kernel
theorem dX11_eaten_60 : decode cX11_eaten 60 = .ok (.invokevirtual 272, 3) := by decide +kernel
theorem dX11_eaten_63 : decode cX11_eaten 63 = .ok (.ireturn, 1) := by decide +kernel
theorem dX11_left_0 : decode cX11_left 0 = .ok (.aload_n 0, 1) := by decide +kernel
theorem dX11_left_1 : decode cX11_left 1 = .ok (.iload_n 1, 1) := by decide +kernel
theorem dX11_left_2 : decode cX11_left 2 = .ok (.invokevirtual 257, 3) := by decide +kernel
theorem dX11_left_5 : decode cX11_left 5 = .ok (.ifCond .eq 22, 3) := by decide +kernel
theorem dX11_left_8 : decode cX11_left 8 = .ok (.iload_n 2, 1) := by decide +kernel
theorem dX11_left_9 : decode cX11_left 9 = .ok (.iconst 0, 1) := by decide +kernel
theorem dX11_left_10 : decode cX11_left 10 = .ok (.bipush 20, 2) := by decide +kernel
theorem dX11_left_12 : decode cX11_left 12 = .ok (.invokestatic 145, 3) := by decide +kernel
theorem dX11_left_15 : decode cX11_left 15 = .ok (.ifCond .eq 12, 3) := by decide +kernel
theorem dX11_left_18 : decode cX11_left 18 = .ok (.aload_n 0, 1) := by decide +kernel
theorem dX11_left_19 : decode cX11_left 19 = .ok (.iload_n 1, 1) := by decide +kernel
theorem dX11_left_20 : decode cX11_left 20 = .ok (.iload_n 2, 1) := by decide +kernel
theorem dX11_left_21 : decode cX11_left 21 = .ok (.invokevirtual 275, 3) := by decide +kernel
theorem dX11_left_24 : decode cX11_left 24 = .ok (.goto 4, 3) := by decide +kernel
theorem dX11_left_27 : decode cX11_left 27 = .ok (.iconst (-1), 1) := by decide +kernel
theorem dX11_left_28 : decode cX11_left 28 = .ok (.ireturn, 1) := by decide +kernel
theorem dX11_law_0 : decode cX11_law 0 = .ok (.aload_n 0, 1) := by decide +kernel
theorem dX11_law_1 : decode cX11_law 1 = .ok (.iload_n 1, 1) := by decide +kernel
theorem dX11_law_2 : decode cX11_law 2 = .ok (.invokevirtual 257, 3) := by decide +kernel
theorem dX11_law_5 : decode cX11_law 5 = .ok (.ifCond .eq 13, 3) := by decide +kernel
theorem dX11_law_8 : decode cX11_law 8 = .ok (.iload_n 2, 1) := by decide +kernel
theorem dX11_law_9 : decode cX11_law 9 = .ok (.iconst 0, 1) := by decide +kernel
theorem dX11_law_10 : decode cX11_law 10 = .ok (.bipush 20, 2) := by decide +kernel
theorem dX11_law_12 : decode cX11_law 12 = .ok (.invokestatic 145, 3) := by decide +kernel
theorem dX11_law_15 : decode cX11_law 15 = .ok (.ifCond .ne 5, 3) := by decide +kernel
theorem dX11_law_18 : decode cX11_law 18 = .ok (.iconst 0, 1) := by decide +kernel
theorem dX11_law_19 : decode cX11_law 19 = .ok (.ireturn, 1) := by decide +kernel
theorem dX11_law_20 : decode cX11_law 20 = .ok (.aload_n 0, 1) := by decide +kernel
theorem dX11_law_21 : decode cX11_law 21 = .ok (.getfield 43, 3) := by decide +kernel
theorem dX11_law_24 : decode cX11_law 24 = .ok (.iload_n 1, 1) := by decide +kernel
theorem dX11_law_25 : decode cX11_law 25 = .ok (.iload_n 2, 1) := by decide +kernel
theorem dX11_law_26 : decode cX11_law 26 = .ok (.iastore, 1) := by decide +kernel
theorem dX11_law_27 : decode cX11_law 27 = .ok (.iconst 1, 1) := by decide +kernel
theorem dX11_law_28 : decode cX11_law 28 = .ok (.ireturn, 1) := by decide +kernel
theorem dX11_by_0 : decode cX11_by 0 = .ok (.aload_n 0, 1) := by decide +kernel
theorem dX11_by_1 : decode cX11_by 1 = .ok (.iload_n 1, 1) := by decide +kernel
theorem dX11_by_2 : decode cX11_by 2 = .ok (.invokevirtual 257, 3) := by decide +kernel
theorem dX11_by_5 : decode cX11_by 5 = .ok (.ifCond .eq 17, 3) := by decide +kernel
theorem dX11_by_8 : decode cX11_by 8 = .ok (.iload_n 2, 1) := by decide +kernel
theorem dX11_by_9 : decode cX11_by 9 = .ok (.iconst (-1), 1) := by decide +kernel
theorem dX11_by_10 : decode cX11_by 10 = .ok (.aload_n 0, 1) := by decide +kernel
theorem dX11_by_11 : decode cX11_by 11 = .ok (.getfield 227, 3) := by decide +kernel
theorem dX11_by_14 : decode cX11_by 14 = .ok (.iconst 1, 1) := by decide +kernel
theorem dX11_by_15 : decode cX11_by 15 = .ok (.isub, 1) := by decide +kernel
theorem dX11_by_16 : decode cX11_by 16 = .ok (.invokestatic 145, 3) := by decide +kernel
theorem dX11_by_19 : decode cX11_by 19 = .ok (.ifCond .ne 5, 3) := by decide +kernel
theorem dX11_by_22 : decode cX11_by 22 = .ok (.iconst 0, 1) := by decide +kernel
theorem dX11_by_23 : decode cX11_by 23 = .ok (.ireturn, 1) := by decide +kernel
theorem dX11_by_24 : decode cX11_by 24 = .ok (.aload_n 0, 1) := by decide +kernel
theorem dX11_by_25 : decode cX11_by 25 = .ok (.getfield 46, 3) := by decide +kernel
theorem dX11_by_28 : decode cX11_by 28 = .ok (.iload_n 1, 1) := by decide +kernel
theorem dX11_by_29 : decode cX11_by 29 = .ok (.iload_n 2, 1) := by decide +kernel
theorem dX11_by_30 : decode cX11_by 30 = .ok (.iastore, 1) := by decide +kernel
theorem dX11_by_31 : decode cX11_by 31 = .ok (.iconst 1, 1) := by decide +kernel
theorem dX11_by_32 : decode cX11_by 32 = .ok (.ireturn, 1) := by decide +kernel
theorem dX11_state_0 : decode cX11_state 0 = .ok (.iload_n 0, 1) := by decide +kernel
theorem dX11_state_1 : decode cX11_state 1 = .ok (.iconst 4, 1) := by decide +kernel
theorem dX11_state_2 : decode cX11_state 2 = .ok (.imul, 1) := by decide +kernel
theorem dX11_state_3 : decode cX11_state 3 = .ok (.iload_n 1, 1) := by decide +kernel
theorem dX11_state_4 : decode cX11_state 4 = .ok (.iadd, 1) := by decide +kernel
theorem dX11_state_5 : decode cX11_state 5 = .ok (.bipush 41, 2) := by decide +kernel
theorem dX11_state_7 : decode cX11_state 7 = .ok (.imul, 1) := by decide +kernel
theorem dX11_state_8 : decode cX11_state 8 = .ok (.iload_n 2, 1) := by decide +kernel
theorem dX11_state_9 : decode cX11_state 9 = .ok (.iadd, 1) := by decide +kernel
theorem dX11_state_10 : decode cX11_state 10 = .ok (.ireturn, 1) := by decide +kernel
theorem dX11_begin_0 : decode cX11_begin 0 = .ok (.aload_n 0, 1) := by decide +kernel
theorem dX11_begin_1 : decode cX11_begin 1 = .ok (.iload_n 1, 1) := by decide +kernel
theorem dX11_begin_2 : decode cX11_begin 2 = .ok (.putfield 278, 3) := by decide +kernel
theorem dX11_begin_5 : decode cX11_begin 5 = .ok (.aload_n 0, 1) := by decide +kernel
theorem dX11_begin_6 : decode cX11_begin 6 = .ok (.aload_n 0, 1) := by decide +kernel
theorem dX11_begin_7 : decode cX11_begin 7 = .ok (.getfield 34, 3) := by decide +kernel
theorem dX11_begin_10 : decode cX11_begin 10 = .ok (.iload_n 1, 1) := by decide +kernel
theorem dX11_begin_11 : decode cX11_begin 11 = .ok (.iaload, 1) := by decide +kernel
theorem dX11_begin_12 : decode cX11_begin 12 = .ok (.putfield 281, 3) := by decide +kernel
theorem dX11_begin_15 : decode cX11_begin 15 = .ok (.iconst 0, 1) := by decide +kernel
theorem dX11_begin_16 : decode cX11_begin 16 = .ok (.istore_n 2, 1) := by decide +kernel
theorem dX11_begin_17 : decode cX11_begin 17 = .ok (.iload_n 2, 1) := by decide +kernel
theorem dX11_begin_18 : decode cX11_begin 18 = .ok (.sipush 10660, 3) := by decide +kernel
theorem dX11_begin_21 : decode cX11_begin 21 = .ok (.if_icmp .ge 23, 3) := by decide +kernel
theorem dX11_begin_24 : decode cX11_begin 24 = .ok (.aload_n 0, 1) := by decide +kernel
theorem dX11_begin_25 : decode cX11_begin 25 = .ok (.getfield 77, 3) := by decide +kernel
theorem dX11_begin_28 : decode cX11_begin 28 = .ok (.iload_n 2, 1) := by decide +kernel
theorem dX11_begin_29 : decode cX11_begin 29 = .ok (.iconst 0, 1) := by decide +kernel
theorem dX11_begin_30 : decode cX11_begin 30 = .ok (.bastore, 1) := by decide +kernel
theorem dX11_begin_31 : decode cX11_begin 31 = .ok (.aload_n 0, 1) := by decide +kernel
theorem dX11_begin_32 : decode cX11_begin 32 = .ok (.getfield 90, 3) := by decide +kernel
theorem dX11_begin_35 : decode cX11_begin 35 = .ok (.iload_n 2, 1) := by decide +kernel
theorem dX11_begin_36 : decode cX11_begin 36 = .ok (.iconst 0, 1) := by decide +kernel
theorem dX11_begin_37 : decode cX11_begin 37 = .ok (.bastore, 1) := by decide +kernel
theorem dX11_begin_38 : decode cX11_begin 38 = .ok (.iinc 2 1, 3) := by decide +kernel
theorem dX11_begin_41 : decode cX11_begin 41 = .ok (.goto (-24), 3) := by decide +kernel
theorem dX11_begin_44 : decode cX11_begin 44 = .ok (.return_, 1) := by decide +kernel
theorem dX11_after_0 : decode cX11_after 0 = .ok (.iload_n 1, 1) := by decide +kernel
theorem dX11_after_1 : decode cX11_after 1 = .ok (.iconst 1, 1) := by decide +kernel
theorem dX11_after_2 : decode cX11_after 2 = .ok (.iadd, 1) := by decide +kernel
theorem dX11_after_3 : decode cX11_after 3 = .ok (.aload_n 0, 1) := by decide +kernel
theorem dX11_after_4 : decode cX11_after 4 = .ok (.getfield 13, 3) := by decide +kernel
theorem dX11_after_7 : decode cX11_after 7 = .ok (.aload_n 0, 1) := by decide +kernel
theorem dX11_after_8 : decode cX11_after 8 = .ok (.getfield 278, 3) := by decide +kernel
theorem dX11_after_11 : decode cX11_after 11 = .ok (.iaload, 1) := by decide +kernel
theorem dX11_after_12 : decode cX11_after 12 = .ok (.irem, 1) := by decide +kernel
theorem dX11_after_13 : decode cX11_after 13 = .ok (.ireturn, 1) := by decide +kernel
theorem dX11_harvests_0 : decode cX11_harvests 0 = .ok (.aload_n 0, 1) := by decide +kernel
theorem dX11_harvests_1 : decode cX11_harvests 1 = .ok (.getfield 31, 3) := by decide +kernel
theorem dX11_harvests_4 : decode cX11_harvests 4 = .ok (.iconst 4, 1) := by decide +kernel
theorem dX11_harvests_5 : decode cX11_harvests 5 = .ok (.aload_n 0, 1) := by decide +kernel
theorem dX11_harvests_6 : decode cX11_harvests 6 = .ok (.getfield 278, 3) := by decide +kernel
theorem dX11_harvests_9 : decode cX11_harvests 9 = .ok (.imul, 1) := by decide +kernel
theorem dX11_harvests_10 : decode cX11_harvests 10 = .ok (.iload_n 1, 1) := by decide +kernel
theorem dX11_harvests_11 : decode cX11_harvests 11 = .ok (.iadd, 1) := by decide +kernel
theorem dX11_harvests_12 : decode cX11_harvests 12 = .ok (.iaload, 1) := by decide +kernel
theorem dX11_harvests_13 : decode cX11_harvests 13 = .ok (.ireturn, 1) := by decide +kernel
theorem dX11_sacksOf_0 : decode cX11_sacksOf 0 = .ok (.aload_n 0, 1) := by decide +kernel
theorem dX11_sacksOf_1 : decode cX11_sacksOf 1 = .ok (.getfield 25, 3) := by decide +kernel
theorem dX11_sacksOf_4 : decode cX11_sacksOf 4 = .ok (.iconst 4, 1) := by decide +kernel
theorem dX11_sacksOf_5 : decode cX11_sacksOf 5 = .ok (.iconst 4, 1) := by decide +kernel
theorem dX11_sacksOf_6 : decode cX11_sacksOf 6 = .ok (.aload_n 0, 1) := by decide +kernel
theorem dX11_sacksOf_7 : decode cX11_sacksOf 7 = .ok (.getfield 278, 3) := by decide +kernel
theorem dX11_sacksOf_10 : decode cX11_sacksOf 10 = .ok (.imul, 1) := by decide +kernel
theorem dX11_sacksOf_11 : decode cX11_sacksOf 11 = .ok (.iload_n 1, 1) := by decide +kernel
theorem dX11_sacksOf_12 : decode cX11_sacksOf 12 = .ok (.iadd, 1) := by decide +kernel
theorem dX11_sacksOf_13 : decode cX11_sacksOf 13 = .ok (.imul, 1) := by decide +kernel
theorem dX11_sacksOf_14 : decode cX11_sacksOf 14 = .ok (.iload_n 2, 1) := by decide +kernel
theorem dX11_sacksOf_15 : decode cX11_sacksOf 15 = .ok (.iadd, 1) := by decide +kernel
theorem dX11_sacksOf_16 : decode cX11_sacksOf 16 = .ok (.iaload, 1) := by decide +kernel
theorem dX11_sacksOf_17 : decode cX11_sacksOf 17 = .ok (.ireturn, 1) := by decide +kernel
theorem dX11_weightIn_0 : decode cX11_weightIn 0 = .ok (.aload_n 0, 1) := by decide +kernel
theorem dX11_weightIn_1 : decode cX11_weightIn 1 = .ok (.getfield 28, 3) := by decide +kernel
theorem dX11_weightIn_4 : decode cX11_weightIn 4 = .ok (.iconst 4, 1) := by decide +kernel
theorem dX11_weightIn_5 : decode cX11_weightIn 5 = .ok (.iconst 4, 1) := by decide +kernel
theorem dX11_weightIn_6 : decode cX11_weightIn 6 = .ok (.aload_n 0, 1) := by decide +kernel
theorem dX11_weightIn_7 : decode cX11_weightIn 7 = .ok (.getfield 278, 3) := by decide +kernel
theorem dX11_weightIn_10 : decode cX11_weightIn 10 = .ok (.imul, 1) := by decide +kernel
theorem dX11_weightIn_11 : decode cX11_weightIn 11 = .ok (.iload_n 1, 1) := by decide +kernel
theorem dX11_weightIn_12 : decode cX11_weightIn 12 = .ok (.iadd, 1) := by decide +kernel
theorem dX11_weightIn_13 : decode cX11_weightIn 13 = .ok (.imul, 1) := by decide +kernel
theorem dX11_weightIn_14 : decode cX11_weightIn 14 = .ok (.iload_n 2, 1) := by decide +kernel
theorem dX11_weightIn_15 : decode cX11_weightIn 15 = .ok (.iadd, 1) := by decide +kernel
theorem dX11_weightIn_16 : decode cX11_weightIn 16 = .ok (.iaload, 1) := by decide +kernel
theorem dX11_weightIn_17 : decode cX11_weightIn 17 = .ok (.ireturn, 1) := by decide +kernel
theorem dX11_may_0 : decode cX11_may 0 = .ok (.iload_n 1, 1) := by decide +kernel
theorem dX11_may_1 : decode cX11_may 1 = .ok (.aload_n 0, 1) := by decide +kernel
theorem dX11_may_2 : decode cX11_may 2 = .ok (.getfield 40, 3) := by decide +kernel
theorem dX11_may_5 : decode cX11_may 5 = .ok (.aload_n 0, 1) := by decide +kernel
theorem dX11_may_6 : decode cX11_may 6 = .ok (.getfield 278, 3) := by decide +kernel
theorem dX11_may_9 : decode cX11_may 9 = .ok (.iaload, 1) := by decide +kernel
theorem dX11_may_10 : decode cX11_may 10 = .ok (.aload_n 0, 1) := by decide +kernel
theorem dX11_may_11 : decode cX11_may 11 = .ok (.getfield 43, 3) := by decide +kernel
theorem dX11_may_14 : decode cX11_may 14 = .ok (.aload_n 0, 1) := by decide +kernel
theorem dX11_may_15 : decode cX11_may 15 = .ok (.getfield 278, 3) := by decide +kernel
theorem dX11_may_18 : decode cX11_may 18 = .ok (.iaload, 1) := by decide +kernel
theorem dX11_may_19 : decode cX11_may 19 = .ok (.invokestatic 169, 3) := by decide +kernel
theorem dX11_may_22 : decode cX11_may 22 = .ok (.invokestatic 169, 3) := by decide +kernel
theorem dX11_may_25 : decode cX11_may 25 = .ok (.ireturn, 1) := by decide +kernel
theorem dX11_belowOf_0 : decode cX11_belowOf 0 = .ok (.iload_n 1, 1) := by decide +kernel
theorem dX11_belowOf_1 : decode cX11_belowOf 1 = .ok (.iconst 1, 1) := by decide +kernel
theorem dX11_belowOf_2 : decode cX11_belowOf 2 = .ok (.if_icmp .ne 7, 3) := by decide +kernel
theorem dX11_belowOf_5 : decode cX11_belowOf 5 = .ok (.lconst 1, 1) := by decide +kernel
theorem dX11_belowOf_6 : decode cX11_belowOf 6 = .ok (.goto 30, 3) := by decide +kernel
theorem dX11_belowOf_9 : decode cX11_belowOf 9 = .ok (.aload_n 0, 1) := by decide +kernel
theorem dX11_belowOf_10 : decode cX11_belowOf 10 = .ok (.aload_n 0, 1) := by decide +kernel
theorem dX11_belowOf_11 : decode cX11_belowOf 11 = .ok (.getfield 278, 3) := by decide +kernel
theorem dX11_belowOf_14 : decode cX11_belowOf 14 = .ok (.aload_n 0, 1) := by decide +kernel
theorem dX11_belowOf_15 : decode cX11_belowOf 15 = .ok (.iload_n 2, 1) := by decide +kernel
theorem dX11_belowOf_16 : decode cX11_belowOf 16 = .ok (.invokevirtual 284, 3) := by decide +kernel
theorem dX11_belowOf_19 : decode cX11_belowOf 19 = .ok (.invokevirtual 165, 3) := by decide +kernel
theorem dX11_belowOf_22 : decode cX11_belowOf 22 = .ok (.i2l, 1) := by decide +kernel
theorem dX11_belowOf_23 : decode cX11_belowOf 23 = .ok (.aload_n 0, 1) := by decide +kernel
theorem dX11_belowOf_24 : decode cX11_belowOf 24 = .ok (.iload_n 1, 1) := by decide +kernel
theorem dX11_belowOf_25 : decode cX11_belowOf 25 = .ok (.iconst 1, 1) := by decide +kernel
theorem dX11_belowOf_26 : decode cX11_belowOf 26 = .ok (.isub, 1) := by decide +kernel
theorem dX11_belowOf_27 : decode cX11_belowOf 27 = .ok (.aload_n 0, 1) := by decide +kernel
theorem dX11_belowOf_28 : decode cX11_belowOf 28 = .ok (.iload_n 2, 1) := by decide +kernel
theorem dX11_belowOf_29 : decode cX11_belowOf 29 = .ok (.invokevirtual 284, 3) := by decide +kernel
theorem dX11_belowOf_32 : decode cX11_belowOf 32 = .ok (.invokevirtual 287, 3) := by decide +kernel
theorem dX11_belowOf_35 : decode cX11_belowOf 35 = .ok (.lmul, 1) := by decide +kernel
theorem dX11_belowOf_36 : decode cX11_belowOf 36 = .ok (.lreturn, 1) := by decide +kernel
theorem dX11_kept_0 : decode cX11_kept 0 = .ok (.iload_n 2, 1) := by decide +kernel
theorem dX11_kept_1 : decode cX11_kept 1 = .ok (.iconst 1, 1) := by decide +kernel
theorem dX11_kept_2 : decode cX11_kept 2 = .ok (.if_icmp .ne 8, 3) := by decide +kernel
theorem dX11_kept_5 : decode cX11_kept 5 = .ok (.iload_n 1, 1) := by decide +kernel
theorem dX11_kept_6 : decode cX11_kept 6 = .ok (.iconst 3, 1) := by decide +kernel
theorem dX11_kept_7 : decode cX11_kept 7 = .ok (.if_icmp .ne 7, 3) := by decide +kernel
theorem dX11_kept_10 : decode cX11_kept 10 = .ok (.iload_n 1, 1) := by decide +kernel
theorem dX11_kept_11 : decode cX11_kept 11 = .ok (.ifCond .ne 5, 3) := by decide +kernel
theorem dX11_kept_14 : decode cX11_kept 14 = .ok (.iconst 0, 1) := by decide +kernel
theorem dX11_kept_15 : decode cX11_kept 15 = .ok (.ireturn, 1) := by decide +kernel
theorem dX11_kept_16 : decode cX11_kept 16 = .ok (.iload_n 1, 1) := by decide +kernel
theorem dX11_kept_17 : decode cX11_kept 17 = .ok (.sipush 2132, 3) := by decide +kernel
theorem dX11_kept_20 : decode cX11_kept 20 = .ok (.imul, 1) := by decide +kernel
theorem dX11_kept_21 : decode cX11_kept 21 = .ok (.iload_n 2, 1) := by decide +kernel
theorem dX11_kept_22 : decode cX11_kept 22 = .ok (.iload_n 3, 1) := by decide +kernel
theorem dX11_kept_23 : decode cX11_kept 23 = .ok (.iload 4, 2) := by decide +kernel
theorem dX11_kept_25 : decode cX11_kept 25 = .ok (.invokestatic 291, 3) := by decide +kernel
theorem dX11_kept_28 : decode cX11_kept 28 = .ok (.iadd, 1) := by decide +kernel
theorem dX11_kept_29 : decode cX11_kept 29 = .ok (.istore 5, 2) := by decide +kernel
theorem dX11_kept_31 : decode cX11_kept 31 = .ok (.aload_n 0, 1) := by decide +kernel
theorem dX11_kept_32 : decode cX11_kept 32 = .ok (.getfield 77, 3) := by decide +kernel
theorem dX11_kept_35 : decode cX11_kept 35 = .ok (.iload 5, 2) := by decide +kernel
theorem dX11_kept_37 : decode cX11_kept 37 = .ok (.baload, 1) := by decide +kernel
theorem dX11_kept_38 : decode cX11_kept 38 = .ok (.ifCond .ne 74, 3) := by decide +kernel
theorem dX11_kept_41 : decode cX11_kept 41 = .ok (.aload_n 0, 1) := by decide +kernel
theorem dX11_kept_42 : decode cX11_kept 42 = .ok (.getfield 81, 3) := by decide +kernel
theorem dX11_kept_45 : decode cX11_kept 45 = .ok (.iload 5, 2) := by decide +kernel
theorem dX11_kept_47 : decode cX11_kept 47 = .ok (.iload_n 1, 1) := by decide +kernel
theorem dX11_kept_48 : decode cX11_kept 48 = .ok (.iconst 1, 1) := by decide +kernel
theorem dX11_kept_49 : decode cX11_kept 49 = .ok (.if_icmp .ne 14, 3) := by decide +kernel
theorem dX11_kept_52 : decode cX11_kept 52 = .ok (.aload_n 0, 1) := by decide +kernel
theorem dX11_kept_53 : decode cX11_kept 53 = .ok (.iload_n 2, 1) := by decide +kernel
theorem dX11_kept_54 : decode cX11_kept 54 = .ok (.iload_n 3, 1) := by decide +kernel
theorem dX11_kept_55 : decode cX11_kept 55 = .ok (.iload 4, 2) := by decide +kernel
theorem dX11_kept_57 : decode cX11_kept 57 = .ok (.invokevirtual 295, 3) := by decide +kernel
theorem dX11_kept_60 : decode cX11_kept 60 = .ok (.goto 43, 3) := by decide +kernel
theorem dX11_kept_63 : decode cX11_kept 63 = .ok (.iload_n 1, 1) := by decide +kernel
theorem dX11_kept_64 : decode cX11_kept 64 = .ok (.iconst 2, 1) := by decide +kernel
theorem dX11_kept_65 : decode cX11_kept 65 = .ok (.if_icmp .ne 14, 3) := by decide +kernel
theorem dX11_kept_68 : decode cX11_kept 68 = .ok (.aload_n 0, 1) := by decide +kernel
theorem dX11_kept_69 : decode cX11_kept 69 = .ok (.iload_n 2, 1) := by decide +kernel
theorem dX11_kept_70 : decode cX11_kept 70 = .ok (.iload_n 3, 1) := by decide +kernel
theorem dX11_kept_71 : decode cX11_kept 71 = .ok (.iload 4, 2) := by decide +kernel
theorem dX11_kept_73 : decode cX11_kept 73 = .ok (.invokevirtual 298, 3) := by decide +kernel
theorem dX11_kept_76 : decode cX11_kept 76 = .ok (.goto 27, 3) := by decide +kernel
theorem dX11_kept_79 : decode cX11_kept 79 = .ok (.iload_n 1, 1) := by decide +kernel
theorem dX11_kept_80 : decode cX11_kept 80 = .ok (.iconst 3, 1) := by decide +kernel
theorem dX11_kept_81 : decode cX11_kept 81 = .ok (.if_icmp .ne 14, 3) := by decide +kernel
theorem dX11_kept_84 : decode cX11_kept 84 = .ok (.aload_n 0, 1) := by decide +kernel
theorem dX11_kept_85 : decode cX11_kept 85 = .ok (.iload_n 2, 1) := by decide +kernel
theorem dX11_kept_86 : decode cX11_kept 86 = .ok (.iload_n 3, 1) := by decide +kernel
theorem dX11_kept_87 : decode cX11_kept 87 = .ok (.iload 4, 2) := by decide +kernel
theorem dX11_kept_89 : decode cX11_kept 89 = .ok (.invokevirtual 301, 3) := by decide +kernel
theorem dX11_kept_92 : decode cX11_kept 92 = .ok (.goto 11, 3) := by decide +kernel
theorem dX11_kept_95 : decode cX11_kept 95 = .ok (.aload_n 0, 1) := by decide +kernel
theorem dX11_kept_96 : decode cX11_kept 96 = .ok (.iload_n 2, 1) := by decide +kernel
theorem dX11_kept_97 : decode cX11_kept 97 = .ok (.iload_n 3, 1) := by decide +kernel
theorem dX11_kept_98 : decode cX11_kept 98 = .ok (.iload 4, 2) := by decide +kernel
theorem dX11_kept_100 : decode cX11_kept 100 = .ok (.invokevirtual 304, 3) := by decide +kernel
theorem dX11_kept_103 : decode cX11_kept 103 = .ok (.iastore, 1) := by decide +kernel
theorem dX11_kept_104 : decode cX11_kept 104 = .ok (.aload_n 0, 1) := by decide +kernel
theorem dX11_kept_105 : decode cX11_kept 105 = .ok (.getfield 77, 3) := by decide +kernel
theorem dX11_kept_108 : decode cX11_kept 108 = .ok (.iload 5, 2) := by decide +kernel
theorem dX11_kept_110 : decode cX11_kept 110 = .ok (.iconst 1, 1) := by decide +kernel
theorem dX11_kept_111 : decode cX11_kept 111 = .ok (.bastore, 1) := by decide +kernel
theorem dX11_kept_112 : decode cX11_kept 112 = .ok (.aload_n 0, 1) := by decide +kernel
theorem dX11_kept_113 : decode cX11_kept 113 = .ok (.getfield 81, 3) := by decide +kernel
theorem dX11_kept_116 : decode cX11_kept 116 = .ok (.iload 5, 2) := by decide +kernel
theorem dX11_kept_118 : decode cX11_kept 118 = .ok (.iaload, 1) := by decide +kernel
theorem dX11_kept_119 : decode cX11_kept 119 = .ok (.ireturn, 1) := by decide +kernel
theorem dX11_byAll_0 : decode cX11_byAll 0 = .ok (.aload_n 0, 1) := by decide +kernel
theorem dX11_byAll_1 : decode cX11_byAll 1 = .ok (.iload_n 2, 1) := by decide +kernel
theorem dX11_byAll_2 : decode cX11_byAll 2 = .ok (.invokevirtual 284, 3) := by decide +kernel
theorem dX11_byAll_5 : decode cX11_byAll 5 = .ok (.istore 4, 2) := by decide +kernel
theorem dX11_byAll_7 : decode cX11_byAll 7 = .ok (.iconst 0, 1) := by decide +kernel
theorem dX11_byAll_8 : decode cX11_byAll 8 = .ok (.istore 5, 2) := by decide +kernel
theorem dX11_byAll_10 : decode cX11_byAll 10 = .ok (.iconst 1, 1) := by decide +kernel
theorem dX11_byAll_11 : decode cX11_byAll 11 = .ok (.aload_n 0, 1) := by decide +kernel
theorem dX11_byAll_12 : decode cX11_byAll 12 = .ok (.getfield 37, 3) := by decide +kernel
theorem dX11_byAll_15 : decode cX11_byAll 15 = .ok (.aload_n 0, 1) := by decide +kernel
theorem dX11_byAll_16 : decode cX11_byAll 16 = .ok (.getfield 278, 3) := by decide +kernel
theorem dX11_byAll_19 : decode cX11_byAll 19 = .ok (.iaload, 1) := by decide +kernel
theorem dX11_byAll_20 : decode cX11_byAll 20 = .ok (.invokestatic 260, 3) := by decide +kernel
theorem dX11_byAll_23 : decode cX11_byAll 23 = .ok (.istore 6, 2) := by decide +kernel
theorem dX11_byAll_25 : decode cX11_byAll 25 = .ok (.iload 5, 2) := by decide +kernel
theorem dX11_byAll_27 : decode cX11_byAll 27 = .ok (.aload_n 0, 1) := by decide +kernel
theorem dX11_byAll_28 : decode cX11_byAll 28 = .ok (.iload_n 3, 1) := by decide +kernel
theorem dX11_byAll_29 : decode cX11_byAll 29 = .ok (.invokevirtual 307, 3) := by decide +kernel
theorem dX11_byAll_32 : decode cX11_byAll 32 = .ok (.if_icmp .ge 156, 3) := by decide +kernel
theorem dX11_byAll_35 : decode cX11_byAll 35 = .ok (.iconst 0, 1) := by decide +kernel
theorem dX11_byAll_36 : decode cX11_byAll 36 = .ok (.istore 7, 2) := by decide +kernel
theorem dX11_byAll_38 : decode cX11_byAll 38 = .ok (.iconst 0, 1) := by decide +kernel
theorem dX11_byAll_39 : decode cX11_byAll 39 = .ok (.istore 8, 2) := by decide +kernel
theorem dX11_byAll_41 : decode cX11_byAll 41 = .ok (.iload 8, 2) := by decide +kernel
theorem dX11_byAll_43 : decode cX11_byAll 43 = .ok (.aload_n 0, 1) := by decide +kernel
theorem dX11_byAll_44 : decode cX11_byAll 44 = .ok (.iload 4, 2) := by decide +kernel
theorem dX11_byAll_46 : decode cX11_byAll 46 = .ok (.invokevirtual 310, 3) := by decide +kernel
theorem dX11_byAll_49 : decode cX11_byAll 49 = .ok (.if_icmp .ge 69, 3) := by decide +kernel
theorem dX11_byAll_52 : decode cX11_byAll 52 = .ok (.aload_n 0, 1) := by decide +kernel
theorem dX11_byAll_53 : decode cX11_byAll 53 = .ok (.aload_n 0, 1) := by decide +kernel
theorem dX11_byAll_54 : decode cX11_byAll 54 = .ok (.getfield 278, 3) := by decide +kernel
theorem dX11_byAll_57 : decode cX11_byAll 57 = .ok (.iload 5, 2) := by decide +kernel
theorem dX11_byAll_59 : decode cX11_byAll 59 = .ok (.iconst 1, 1) := by decide +kernel
theorem dX11_byAll_60 : decode cX11_byAll 60 = .ok (.iadd, 1) := by decide +kernel
theorem dX11_byAll_61 : decode cX11_byAll 61 = .ok (.invokevirtual 275, 3) := by decide +kernel
theorem dX11_byAll_64 : decode cX11_byAll 64 = .ok (.aload_n 0, 1) := by decide +kernel
theorem dX11_byAll_65 : decode cX11_byAll 65 = .ok (.iload 4, 2) := by decide +kernel
theorem dX11_byAll_67 : decode cX11_byAll 67 = .ok (.iload 8, 2) := by decide +kernel
theorem dX11_byAll_69 : decode cX11_byAll 69 = .ok (.invokevirtual 313, 3) := by decide +kernel
theorem dX11_byAll_72 : decode cX11_byAll 72 = .ok (.iadd, 1) := by decide +kernel
theorem dX11_byAll_73 : decode cX11_byAll 73 = .ok (.istore 9, 2) := by decide +kernel
theorem dX11_byAll_75 : decode cX11_byAll 75 = .ok (.iload 7, 2) := by decide +kernel
theorem dX11_byAll_77 : decode cX11_byAll 77 = .ok (.aload_n 0, 1) := by decide +kernel
theorem dX11_byAll_78 : decode cX11_byAll 78 = .ok (.iload 4, 2) := by decide +kernel
theorem dX11_byAll_80 : decode cX11_byAll 80 = .ok (.iload 8, 2) := by decide +kernel
theorem dX11_byAll_82 : decode cX11_byAll 82 = .ok (.invokevirtual 316, 3) := by decide +kernel
theorem dX11_byAll_85 : decode cX11_byAll 85 = .ok (.aload_n 0, 1) := by decide +kernel
theorem dX11_byAll_86 : decode cX11_byAll 86 = .ok (.aload_n 0, 1) := by decide +kernel
theorem dX11_byAll_87 : decode cX11_byAll 87 = .ok (.getfield 278, 3) := by decide +kernel
theorem dX11_byAll_90 : decode cX11_byAll 90 = .ok (.iload 9, 2) := by decide +kernel
theorem dX11_byAll_92 : decode cX11_byAll 92 = .ok (.aload_n 0, 1) := by decide +kernel
theorem dX11_byAll_93 : decode cX11_byAll 93 = .ok (.iconst 1, 1) := by decide +kernel
theorem dX11_byAll_94 : decode cX11_byAll 94 = .ok (.iload_n 1, 1) := by decide +kernel
theorem dX11_byAll_95 : decode cX11_byAll 95 = .ok (.iconst 1, 1) := by decide +kernel
theorem dX11_byAll_96 : decode cX11_byAll 96 = .ok (.isub, 1) := by decide +kernel
theorem dX11_byAll_97 : decode cX11_byAll 97 = .ok (.iload 4, 2) := by decide +kernel
theorem dX11_byAll_99 : decode cX11_byAll 99 = .ok (.iload 9, 2) := by decide +kernel
theorem dX11_byAll_101 : decode cX11_byAll 101 = .ok (.invokevirtual 319, 3) := by decide +kernel
theorem dX11_byAll_104 : decode cX11_byAll 104 = .ok (.isub, 1) := by decide +kernel
theorem dX11_byAll_105 : decode cX11_byAll 105 = .ok (.invokevirtual 269, 3) := by decide +kernel
theorem dX11_byAll_108 : decode cX11_byAll 108 = .ok (.imul, 1) := by decide +kernel
theorem dX11_byAll_109 : decode cX11_byAll 109 = .ok (.iadd, 1) := by decide +kernel
theorem dX11_byAll_110 : decode cX11_byAll 110 = .ok (.istore 7, 2) := by decide +kernel
theorem dX11_byAll_112 : decode cX11_byAll 112 = .ok (.iinc 8 1, 3) := by decide +kernel
theorem dX11_byAll_115 : decode cX11_byAll 115 = .ok (.goto (-74), 3) := by decide +kernel
theorem dX11_byAll_118 : decode cX11_byAll 118 = .ok (.iload 7, 2) := by decide +kernel
theorem dX11_byAll_120 : decode cX11_byAll 120 = .ok (.aload_n 0, 1) := by decide +kernel
theorem dX11_byAll_121 : decode cX11_byAll 121 = .ok (.getfield 37, 3) := by decide +kernel
theorem dX11_byAll_124 : decode cX11_byAll 124 = .ok (.aload_n 0, 1) := by decide +kernel
theorem dX11_byAll_125 : decode cX11_byAll 125 = .ok (.getfield 278, 3) := by decide +kernel
theorem dX11_byAll_128 : decode cX11_byAll 128 = .ok (.iaload, 1) := by decide +kernel
theorem dX11_byAll_129 : decode cX11_byAll 129 = .ok (.ifCond .ne 7, 3) := by decide +kernel
theorem dX11_byAll_132 : decode cX11_byAll 132 = .ok (.iconst 1, 1) := by decide +kernel
theorem dX11_byAll_133 : decode cX11_byAll 133 = .ok (.goto 7, 3) := by decide +kernel
theorem dX11_byAll_136 : decode cX11_byAll 136 = .ok (.iload 6, 2) := by decide +kernel
theorem dX11_byAll_138 : decode cX11_byAll 138 = .ok (.iconst 1, 1) := by decide +kernel
theorem dX11_byAll_139 : decode cX11_byAll 139 = .ok (.isub, 1) := by decide +kernel
theorem dX11_byAll_140 : decode cX11_byAll 140 = .ok (.imul, 1) := by decide +kernel
theorem dX11_byAll_141 : decode cX11_byAll 141 = .ok (.istore 7, 2) := by decide +kernel
theorem dX11_byAll_143 : decode cX11_byAll 143 = .ok (.iload 7, 2) := by decide +kernel
theorem dX11_byAll_145 : decode cX11_byAll 145 = .ok (.aload_n 0, 1) := by decide +kernel
theorem dX11_byAll_146 : decode cX11_byAll 146 = .ok (.aload_n 0, 1) := by decide +kernel
theorem dX11_byAll_147 : decode cX11_byAll 147 = .ok (.getfield 278, 3) := by decide +kernel
theorem dX11_byAll_150 : decode cX11_byAll 150 = .ok (.iload 4, 2) := by decide +kernel
theorem dX11_byAll_152 : decode cX11_byAll 152 = .ok (.invokevirtual 165, 3) := by decide +kernel
theorem dX11_byAll_155 : decode cX11_byAll 155 = .ok (.iload 6, 2) := by decide +kernel
theorem dX11_byAll_157 : decode cX11_byAll 157 = .ok (.imul, 1) := by decide +kernel
theorem dX11_byAll_158 : decode cX11_byAll 158 = .ok (.aload_n 0, 1) := by decide +kernel
theorem dX11_byAll_159 : decode cX11_byAll 159 = .ok (.aload_n 0, 1) := by decide +kernel
theorem dX11_byAll_160 : decode cX11_byAll 160 = .ok (.getfield 278, 3) := by decide +kernel
theorem dX11_byAll_163 : decode cX11_byAll 163 = .ok (.iload_n 3, 1) := by decide +kernel
theorem dX11_byAll_164 : decode cX11_byAll 164 = .ok (.iload 5, 2) := by decide +kernel
theorem dX11_byAll_166 : decode cX11_byAll 166 = .ok (.isub, 1) := by decide +kernel
theorem dX11_byAll_167 : decode cX11_byAll 167 = .ok (.invokevirtual 269, 3) := by decide +kernel
theorem dX11_byAll_170 : decode cX11_byAll 170 = .ok (.aload_n 0, 1) := by decide +kernel
theorem dX11_byAll_171 : decode cX11_byAll 171 = .ok (.getfield 281, 3) := by decide +kernel
theorem dX11_byAll_174 : decode cX11_byAll 174 = .ok (.iadd, 1) := by decide +kernel
theorem dX11_byAll_175 : decode cX11_byAll 175 = .ok (.imul, 1) := by decide +kernel
theorem dX11_byAll_176 : decode cX11_byAll 176 = .ok (.if_icmp .gt 6, 3) := by decide +kernel
theorem dX11_byAll_179 : decode cX11_byAll 179 = .ok (.iload 5, 2) := by decide +kernel
theorem dX11_byAll_181 : decode cX11_byAll 181 = .ok (.ireturn, 1) := by decide +kernel
theorem dX11_byAll_182 : decode cX11_byAll 182 = .ok (.iinc 5 1, 3) := by decide +kernel
theorem dX11_byAll_185 : decode cX11_byAll 185 = .ok (.goto (-160), 3) := by decide +kernel
theorem dX11_byAll_188 : decode cX11_byAll 188 = .ok (.iload 5, 2) := by decide +kernel
theorem dX11_byAll_190 : decode cX11_byAll 190 = .ok (.ireturn, 1) := by decide +kernel
theorem dX11_best_0 : decode cX11_best 0 = .ok (.iload_n 2, 1) := by decide +kernel
theorem dX11_best_1 : decode cX11_best 1 = .ok (.iconst 1, 1) := by decide +kernel
theorem dX11_best_2 : decode cX11_best 2 = .ok (.if_icmp .ne 20, 3) := by decide +kernel
theorem dX11_best_5 : decode cX11_best 5 = .ok (.iload_n 1, 1) := by decide +kernel
theorem dX11_best_6 : decode cX11_best 6 = .ok (.iconst 2, 1) := by decide +kernel
theorem dX11_best_7 : decode cX11_best 7 = .ok (.if_icmp .ne 15, 3) := by decide +kernel
theorem dX11_best_10 : decode cX11_best 10 = .ok (.aload_n 0, 1) := by decide +kernel
theorem dX11_best_11 : decode cX11_best 11 = .ok (.aload_n 0, 1) := by decide +kernel
theorem dX11_best_12 : decode cX11_best 12 = .ok (.getfield 278, 3) := by decide +kernel
theorem dX11_best_15 : decode cX11_best 15 = .ok (.iload 4, 2) := by decide +kernel
theorem dX11_best_17 : decode cX11_best 17 = .ok (.invokevirtual 262, 3) := by decide +kernel
theorem dX11_best_20 : decode cX11_best 20 = .ok (.i2l, 1) := by decide +kernel
theorem dX11_best_21 : decode cX11_best 21 = .ok (.lreturn, 1) := by decide +kernel
theorem dX11_best_22 : decode cX11_best 22 = .ok (.aload_n 0, 1) := by decide +kernel
theorem dX11_best_23 : decode cX11_best 23 = .ok (.iload_n 1, 1) := by decide +kernel
theorem dX11_best_24 : decode cX11_best 24 = .ok (.iload_n 2, 1) := by decide +kernel
theorem dX11_best_25 : decode cX11_best 25 = .ok (.iload_n 3, 1) := by decide +kernel
theorem dX11_best_26 : decode cX11_best 26 = .ok (.iload 4, 2) := by decide +kernel
theorem dX11_best_28 : decode cX11_best 28 = .ok (.invokevirtual 319, 3) := by decide +kernel
theorem dX11_best_31 : decode cX11_best 31 = .ok (.pop, 1) := by decide +kernel
theorem dX11_best_32 : decode cX11_best 32 = .ok (.aload_n 0, 1) := by decide +kernel
theorem dX11_best_33 : decode cX11_best 33 = .ok (.getfield 87, 3) := by decide +kernel
theorem dX11_best_36 : decode cX11_best 36 = .ok (.iload_n 1, 1) := by decide +kernel
theorem dX11_best_37 : decode cX11_best 37 = .ok (.sipush 2132, 3) := by decide +kernel
theorem dX11_best_40 : decode cX11_best 40 = .ok (.imul, 1) := by decide +kernel
theorem dX11_best_41 : decode cX11_best 41 = .ok (.iload_n 2, 1) := by decide +kernel
theorem dX11_best_42 : decode cX11_best 42 = .ok (.iload_n 3, 1) := by decide +kernel
theorem dX11_best_43 : decode cX11_best 43 = .ok (.iload 4, 2) := by decide +kernel
theorem dX11_best_45 : decode cX11_best 45 = .ok (.invokestatic 291, 3) := by decide +kernel
theorem dX11_best_48 : decode cX11_best 48 = .ok (.iadd, 1) := by decide +kernel
theorem dX11_best_49 : decode cX11_best 49 = .ok (.laload, 1) := by decide +kernel
theorem dX11_best_50 : decode cX11_best 50 = .ok (.lreturn, 1) := by decide +kernel
theorem dX11_behind_0 : decode cX11_behind 0 = .ok (.aload_n 0, 1) := by decide +kernel
theorem dX11_behind_1 : decode cX11_behind 1 = .ok (.iload_n 3, 1) := by decide +kernel
theorem dX11_behind_2 : decode cX11_behind 2 = .ok (.invokevirtual 284, 3) := by decide +kernel
theorem dX11_behind_5 : decode cX11_behind 5 = .ok (.istore 5, 2) := by decide +kernel
theorem dX11_behind_7 : decode cX11_behind 7 = .ok (.lconst 0, 1) := by decide +kernel
theorem dX11_behind_8 : decode cX11_behind 8 = .ok (.lstore 6, 2) := by decide +kernel
theorem dX11_behind_10 : decode cX11_behind 10 = .ok (.iconst 0, 1) := by decide +kernel
theorem dX11_behind_11 : decode cX11_behind 11 = .ok (.istore 8, 2) := by decide +kernel
theorem dX11_behind_13 : decode cX11_behind 13 = .ok (.iload 8, 2) := by decide +kernel
theorem dX11_behind_15 : decode cX11_behind 15 = .ok (.aload_n 0, 1) := by decide +kernel
theorem dX11_behind_16 : decode cX11_behind 16 = .ok (.iload 5, 2) := by decide +kernel
theorem dX11_behind_18 : decode cX11_behind 18 = .ok (.invokevirtual 310, 3) := by decide +kernel
theorem dX11_behind_21 : decode cX11_behind 21 = .ok (.if_icmp .ge 45, 3) := by decide +kernel
theorem dX11_behind_24 : decode cX11_behind 24 = .ok (.lload 6, 2) := by decide +kernel
theorem dX11_behind_26 : decode cX11_behind 26 = .ok (.aload_n 0, 1) := by decide +kernel
theorem dX11_behind_27 : decode cX11_behind 27 = .ok (.iload 5, 2) := by decide +kernel
theorem dX11_behind_29 : decode cX11_behind 29 = .ok (.iload 8, 2) := by decide +kernel
theorem dX11_behind_31 : decode cX11_behind 31 = .ok (.invokevirtual 316, 3) := by decide +kernel
theorem dX11_behind_34 : decode cX11_behind 34 = .ok (.i2l, 1) := by decide +kernel
theorem dX11_behind_35 : decode cX11_behind 35 = .ok (.aload_n 0, 1) := by decide +kernel
theorem dX11_behind_36 : decode cX11_behind 36 = .ok (.iload_n 1, 1) := by decide +kernel
theorem dX11_behind_37 : decode cX11_behind 37 = .ok (.iload_n 2, 1) := by decide +kernel
theorem dX11_behind_38 : decode cX11_behind 38 = .ok (.iconst 1, 1) := by decide +kernel
theorem dX11_behind_39 : decode cX11_behind 39 = .ok (.isub, 1) := by decide +kernel
theorem dX11_behind_40 : decode cX11_behind 40 = .ok (.iload 5, 2) := by decide +kernel
theorem dX11_behind_42 : decode cX11_behind 42 = .ok (.iload 4, 2) := by decide +kernel
theorem dX11_behind_44 : decode cX11_behind 44 = .ok (.aload_n 0, 1) := by decide +kernel
theorem dX11_behind_45 : decode cX11_behind 45 = .ok (.iload 5, 2) := by decide +kernel
theorem dX11_behind_47 : decode cX11_behind 47 = .ok (.iload 8, 2) := by decide +kernel
theorem dX11_behind_49 : decode cX11_behind 49 = .ok (.invokevirtual 313, 3) := by decide +kernel
theorem dX11_behind_52 : decode cX11_behind 52 = .ok (.iadd, 1) := by decide +kernel
theorem dX11_behind_53 : decode cX11_behind 53 = .ok (.invokevirtual 322, 3) := by decide +kernel
theorem dX11_behind_56 : decode cX11_behind 56 = .ok (.lmul, 1) := by decide +kernel
theorem dX11_behind_57 : decode cX11_behind 57 = .ok (.ladd, 1) := by decide +kernel
theorem dX11_behind_58 : decode cX11_behind 58 = .ok (.lstore 6, 2) := by decide +kernel
theorem dX11_behind_60 : decode cX11_behind 60 = .ok (.iinc 8 1, 3) := by decide +kernel
theorem dX11_behind_63 : decode cX11_behind 63 = .ok (.goto (-50), 3) := by decide +kernel
theorem dX11_behind_66 : decode cX11_behind 66 = .ok (.lload 6, 2) := by decide +kernel
theorem dX11_behind_68 : decode cX11_behind 68 = .ok (.lreturn, 1) := by decide +kernel
theorem dX11_byGood_0 : decode cX11_byGood 0 = .ok (.iconst (-1), 1) := by decide +kernel
theorem dX11_byGood_1 : decode cX11_byGood 1 = .ok (.istore 4, 2) := by decide +kernel
theorem dX11_byGood_3 : decode cX11_byGood 3 = .ok (.lconst 0, 1) := by decide +kernel
theorem dX11_byGood_4 : decode cX11_byGood 4 = .ok (.lstore 5, 2) := by decide +kernel
theorem dX11_byGood_6 : decode cX11_byGood 6 = .ok (.iconst 0, 1) := by decide +kernel
theorem dX11_byGood_7 : decode cX11_byGood 7 = .ok (.istore 7, 2) := by decide +kernel
theorem dX11_byGood_9 : decode cX11_byGood 9 = .ok (.iload 7, 2) := by decide +kernel
theorem dX11_byGood_11 : decode cX11_byGood 11 = .ok (.aload_n 0, 1) := by decide +kernel
theorem dX11_byGood_12 : decode cX11_byGood 12 = .ok (.iload_n 3, 1) := by decide +kernel
theorem dX11_byGood_13 : decode cX11_byGood 13 = .ok (.invokevirtual 307, 3) := by decide +kernel
theorem dX11_byGood_16 : decode cX11_byGood 16 = .ok (.if_icmp .gt 79, 3) := by decide +kernel
theorem dX11_byGood_19 : decode cX11_byGood 19 = .ok (.aload_n 0, 1) := by decide +kernel
theorem dX11_byGood_20 : decode cX11_byGood 20 = .ok (.aload_n 0, 1) := by decide +kernel
theorem dX11_byGood_21 : decode cX11_byGood 21 = .ok (.getfield 278, 3) := by decide +kernel
theorem dX11_byGood_24 : decode cX11_byGood 24 = .ok (.iload_n 3, 1) := by decide +kernel
theorem dX11_byGood_25 : decode cX11_byGood 25 = .ok (.iload 7, 2) := by decide +kernel
theorem dX11_byGood_27 : decode cX11_byGood 27 = .ok (.isub, 1) := by decide +kernel
theorem dX11_byGood_28 : decode cX11_byGood 28 = .ok (.invokevirtual 262, 3) := by decide +kernel
theorem dX11_byGood_31 : decode cX11_byGood 31 = .ok (.aload_n 0, 1) := by decide +kernel
theorem dX11_byGood_32 : decode cX11_byGood 32 = .ok (.getfield 281, 3) := by decide +kernel
theorem dX11_byGood_35 : decode cX11_byGood 35 = .ok (.iload 7, 2) := by decide +kernel
theorem dX11_byGood_37 : decode cX11_byGood 37 = .ok (.imul, 1) := by decide +kernel
theorem dX11_byGood_38 : decode cX11_byGood 38 = .ok (.isub, 1) := by decide +kernel
theorem dX11_byGood_39 : decode cX11_byGood 39 = .ok (.i2l, 1) := by decide +kernel
theorem dX11_byGood_40 : decode cX11_byGood 40 = .ok (.aload_n 0, 1) := by decide +kernel
theorem dX11_byGood_41 : decode cX11_byGood 41 = .ok (.iload_n 1, 1) := by decide +kernel
theorem dX11_byGood_42 : decode cX11_byGood 42 = .ok (.iload_n 2, 1) := by decide +kernel
theorem dX11_byGood_43 : decode cX11_byGood 43 = .ok (.invokevirtual 287, 3) := by decide +kernel
theorem dX11_byGood_46 : decode cX11_byGood 46 = .ok (.lmul, 1) := by decide +kernel
theorem dX11_byGood_47 : decode cX11_byGood 47 = .ok (.aload_n 0, 1) := by decide +kernel
theorem dX11_byGood_48 : decode cX11_byGood 48 = .ok (.iconst 2, 1) := by decide +kernel
theorem dX11_byGood_49 : decode cX11_byGood 49 = .ok (.iload_n 1, 1) := by decide +kernel
theorem dX11_byGood_50 : decode cX11_byGood 50 = .ok (.iload_n 2, 1) := by decide +kernel
theorem dX11_byGood_51 : decode cX11_byGood 51 = .ok (.aload_n 0, 1) := by decide +kernel
theorem dX11_byGood_52 : decode cX11_byGood 52 = .ok (.aload_n 0, 1) := by decide +kernel
theorem dX11_byGood_53 : decode cX11_byGood 53 = .ok (.getfield 278, 3) := by decide +kernel
theorem dX11_byGood_56 : decode cX11_byGood 56 = .ok (.iload 7, 2) := by decide +kernel
theorem dX11_byGood_58 : decode cX11_byGood 58 = .ok (.invokevirtual 275, 3) := by decide +kernel
theorem dX11_byGood_61 : decode cX11_byGood 61 = .ok (.invokevirtual 326, 3) := by decide +kernel
theorem dX11_byGood_64 : decode cX11_byGood 64 = .ok (.ladd, 1) := by decide +kernel
theorem dX11_byGood_65 : decode cX11_byGood 65 = .ok (.lstore 8, 2) := by decide +kernel
theorem dX11_byGood_67 : decode cX11_byGood 67 = .ok (.iload 4, 2) := by decide +kernel
theorem dX11_byGood_69 : decode cX11_byGood 69 = .ok (.iconst (-1), 1) := by decide +kernel
theorem dX11_byGood_70 : decode cX11_byGood 70 = .ok (.if_icmp .eq 11, 3) := by decide +kernel
theorem dX11_byGood_73 : decode cX11_byGood 73 = .ok (.lload 8, 2) := by decide +kernel
theorem dX11_byGood_75 : decode cX11_byGood 75 = .ok (.lload 5, 2) := by decide +kernel
theorem dX11_byGood_77 : decode cX11_byGood 77 = .ok (.lcmp, 1) := by decide +kernel
theorem dX11_byGood_78 : decode cX11_byGood 78 = .ok (.ifCond .le 11, 3) := by decide +kernel
theorem dX11_byGood_81 : decode cX11_byGood 81 = .ok (.iload 7, 2) := by decide +kernel
theorem dX11_byGood_83 : decode cX11_byGood 83 = .ok (.istore 4, 2) := by decide +kernel
theorem dX11_byGood_85 : decode cX11_byGood 85 = .ok (.lload 8, 2) := by decide +kernel
theorem dX11_byGood_87 : decode cX11_byGood 87 = .ok (.lstore 5, 2) := by decide +kernel
theorem dX11_byGood_89 : decode cX11_byGood 89 = .ok (.iinc 7 1, 3) := by decide +kernel
theorem dX11_byGood_92 : decode cX11_byGood 92 = .ok (.goto (-83), 3) := by decide +kernel
theorem dX11_byGood_95 : decode cX11_byGood 95 = .ok (.aload_n 0, 1) := by decide +kernel
theorem dX11_byGood_96 : decode cX11_byGood 96 = .ok (.getfield 87, 3) := by decide +kernel
theorem dX11_byGood_99 : decode cX11_byGood 99 = .ok (.sipush 4264, 3) := by decide +kernel
theorem dX11_byGood_102 : decode cX11_byGood 102 = .ok (.iload_n 1, 1) := by decide +kernel
theorem dX11_byGood_103 : decode cX11_byGood 103 = .ok (.iload_n 2, 1) := by decide +kernel
theorem dX11_byGood_104 : decode cX11_byGood 104 = .ok (.iload_n 3, 1) := by decide +kernel
theorem dX11_byGood_105 : decode cX11_byGood 105 = .ok (.invokestatic 291, 3) := by decide +kernel
theorem dX11_byGood_108 : decode cX11_byGood 108 = .ok (.iadd, 1) := by decide +kernel
theorem dX11_byGood_109 : decode cX11_byGood 109 = .ok (.lload 5, 2) := by decide +kernel
theorem dX11_byGood_111 : decode cX11_byGood 111 = .ok (.lastore, 1) := by decide +kernel
theorem dX11_byGood_112 : decode cX11_byGood 112 = .ok (.iload 4, 2) := by decide +kernel
theorem dX11_byGood_114 : decode cX11_byGood 114 = .ok (.ireturn, 1) := by decide +kernel
theorem dX11_takes_0 : decode cX11_takes 0 = .ok (.iload_n 1, 1) := by decide +kernel
theorem dX11_takes_1 : decode cX11_takes 1 = .ok (.ifCond .ne 7, 3) := by decide +kernel
theorem dX11_takes_4 : decode cX11_takes 4 = .ok (.iconst 0, 1) := by decide +kernel
theorem dX11_takes_5 : decode cX11_takes 5 = .ok (.goto 22, 3) := by decide +kernel
theorem dX11_takes_8 : decode cX11_takes 8 = .ok (.iload_n 1, 1) := by decide +kernel
theorem dX11_takes_9 : decode cX11_takes 9 = .ok (.aload_n 0, 1) := by decide +kernel
theorem dX11_takes_10 : decode cX11_takes 10 = .ok (.getfield 16, 3) := by decide +kernel
theorem dX11_takes_13 : decode cX11_takes 13 = .ok (.sipush 180, 3) := by decide +kernel
theorem dX11_takes_16 : decode cX11_takes 16 = .ok (.aload_n 0, 1) := by decide +kernel
theorem dX11_takes_17 : decode cX11_takes 17 = .ok (.getfield 278, 3) := by decide +kernel
theorem dX11_takes_20 : decode cX11_takes 20 = .ok (.imul, 1) := by decide +kernel
theorem dX11_takes_21 : decode cX11_takes 21 = .ok (.iload_n 1, 1) := by decide +kernel
theorem dX11_takes_22 : decode cX11_takes 22 = .ok (.iadd, 1) := by decide +kernel
theorem dX11_takes_23 : decode cX11_takes 23 = .ok (.iconst 1, 1) := by decide +kernel
theorem dX11_takes_24 : decode cX11_takes 24 = .ok (.isub, 1) := by decide +kernel
theorem dX11_takes_25 : decode cX11_takes 25 = .ok (.iaload, 1) := by decide +kernel
theorem dX11_takes_26 : decode cX11_takes 26 = .ok (.imul, 1) := by decide +kernel
theorem dX11_takes_27 : decode cX11_takes 27 = .ok (.ireturn, 1) := by decide +kernel
theorem dX11_soldOf_0 : decode cX11_soldOf 0 = .ok (.iconst 0, 1) := by decide +kernel
theorem dX11_soldOf_1 : decode cX11_soldOf 1 = .ok (.istore_n 2, 1) := by decide +kernel
theorem dX11_soldOf_2 : decode cX11_soldOf 2 = .ok (.iconst 1, 1) := by decide +kernel
theorem dX11_soldOf_3 : decode cX11_soldOf 3 = .ok (.istore_n 3, 1) := by decide +kernel
theorem dX11_soldOf_4 : decode cX11_soldOf 4 = .ok (.iload_n 3, 1) := by decide +kernel
theorem dX11_soldOf_5 : decode cX11_soldOf 5 = .ok (.iload_n 1, 1) := by decide +kernel
theorem dX11_soldOf_6 : decode cX11_soldOf 6 = .ok (.aload_n 0, 1) := by decide +kernel
theorem dX11_soldOf_7 : decode cX11_soldOf 7 = .ok (.getfield 19, 3) := by decide +kernel
theorem dX11_soldOf_10 : decode cX11_soldOf 10 = .ok (.aload_n 0, 1) := by decide +kernel
theorem dX11_soldOf_11 : decode cX11_soldOf 11 = .ok (.getfield 278, 3) := by decide +kernel
theorem dX11_soldOf_14 : decode cX11_soldOf 14 = .ok (.iaload, 1) := by decide +kernel
theorem dX11_soldOf_15 : decode cX11_soldOf 15 = .ok (.invokestatic 169, 3) := by decide +kernel
theorem dX11_soldOf_18 : decode cX11_soldOf 18 = .ok (.if_icmp .gt 28, 3) := by decide +kernel
theorem dX11_soldOf_21 : decode cX11_soldOf 21 = .ok (.aload_n 0, 1) := by decide +kernel
theorem dX11_soldOf_22 : decode cX11_soldOf 22 = .ok (.iload_n 3, 1) := by decide +kernel
theorem dX11_soldOf_23 : decode cX11_soldOf 23 = .ok (.invokevirtual 329, 3) := by decide +kernel
theorem dX11_soldOf_26 : decode cX11_soldOf 26 = .ok (.aload_n 0, 1) := by decide +kernel
theorem dX11_soldOf_27 : decode cX11_soldOf 27 = .ok (.iload_n 2, 1) := by decide +kernel
theorem dX11_soldOf_28 : decode cX11_soldOf 28 = .ok (.invokevirtual 329, 3) := by decide +kernel
theorem dX11_soldOf_31 : decode cX11_soldOf 31 = .ok (.if_icmp .le 7, 3) := by decide +kernel
theorem dX11_soldOf_34 : decode cX11_soldOf 34 = .ok (.iload_n 3, 1) := by decide +kernel
theorem dX11_soldOf_35 : decode cX11_soldOf 35 = .ok (.goto 4, 3) := by decide +kernel
theorem dX11_soldOf_38 : decode cX11_soldOf 38 = .ok (.iload_n 2, 1) := by decide +kernel
theorem dX11_soldOf_39 : decode cX11_soldOf 39 = .ok (.istore_n 2, 1) := by decide +kernel
theorem dX11_soldOf_40 : decode cX11_soldOf 40 = .ok (.iinc 3 1, 3) := by decide +kernel
theorem dX11_soldOf_43 : decode cX11_soldOf 43 = .ok (.goto (-39), 3) := by decide +kernel
theorem dX11_soldOf_46 : decode cX11_soldOf 46 = .ok (.iload_n 2, 1) := by decide +kernel
theorem dX11_soldOf_47 : decode cX11_soldOf 47 = .ok (.ireturn, 1) := by decide +kernel
theorem dX11_byOne_0 : decode cX11_byOne 0 = .ok (.iconst (-1), 1) := by decide +kernel
theorem dX11_byOne_1 : decode cX11_byOne 1 = .ok (.istore 4, 2) := by decide +kernel
theorem dX11_byOne_3 : decode cX11_byOne 3 = .ok (.lconst 0, 1) := by decide +kernel
theorem dX11_byOne_4 : decode cX11_byOne 4 = .ok (.lstore 5, 2) := by decide +kernel
theorem dX11_byOne_6 : decode cX11_byOne 6 = .ok (.iload_n 1, 1) := by decide +kernel
theorem dX11_byOne_7 : decode cX11_byOne 7 = .ok (.iconst 1, 1) := by decide +kernel
theorem dX11_byOne_8 : decode cX11_byOne 8 = .ok (.if_icmp .ne 7, 3) := by decide +kernel
theorem dX11_byOne_11 : decode cX11_byOne 11 = .ok (.iconst 0, 1) := by decide +kernel
theorem dX11_byOne_12 : decode cX11_byOne 12 = .ok (.goto 8, 3) := by decide +kernel
theorem dX11_byOne_15 : decode cX11_byOne 15 = .ok (.aload_n 0, 1) := by decide +kernel
theorem dX11_byOne_16 : decode cX11_byOne 16 = .ok (.iload_n 3, 1) := by decide +kernel
theorem dX11_byOne_17 : decode cX11_byOne 17 = .ok (.invokevirtual 307, 3) := by decide +kernel
theorem dX11_byOne_20 : decode cX11_byOne 20 = .ok (.istore 7, 2) := by decide +kernel
theorem dX11_byOne_22 : decode cX11_byOne 22 = .ok (.iconst 0, 1) := by decide +kernel
theorem dX11_byOne_23 : decode cX11_byOne 23 = .ok (.istore 8, 2) := by decide +kernel
theorem dX11_byOne_25 : decode cX11_byOne 25 = .ok (.iload 8, 2) := by decide +kernel
theorem dX11_byOne_27 : decode cX11_byOne 27 = .ok (.iload 7, 2) := by decide +kernel
theorem dX11_byOne_29 : decode cX11_byOne 29 = .ok (.if_icmp .gt 92, 3) := by decide +kernel
theorem dX11_byOne_32 : decode cX11_byOne 32 = .ok (.aload_n 0, 1) := by decide +kernel
theorem dX11_byOne_33 : decode cX11_byOne 33 = .ok (.iload_n 3, 1) := by decide +kernel
theorem dX11_byOne_34 : decode cX11_byOne 34 = .ok (.iload 8, 2) := by decide +kernel
theorem dX11_byOne_36 : decode cX11_byOne 36 = .ok (.isub, 1) := by decide +kernel
theorem dX11_byOne_37 : decode cX11_byOne 37 = .ok (.invokevirtual 332, 3) := by decide +kernel
theorem dX11_byOne_40 : decode cX11_byOne 40 = .ok (.istore 9, 2) := by decide +kernel
theorem dX11_byOne_42 : decode cX11_byOne 42 = .ok (.aload_n 0, 1) := by decide +kernel
theorem dX11_byOne_43 : decode cX11_byOne 43 = .ok (.iload 9, 2) := by decide +kernel
theorem dX11_byOne_45 : decode cX11_byOne 45 = .ok (.invokevirtual 329, 3) := by decide +kernel
theorem dX11_byOne_48 : decode cX11_byOne 48 = .ok (.aload_n 0, 1) := by decide +kernel
theorem dX11_byOne_49 : decode cX11_byOne 49 = .ok (.getfield 281, 3) := by decide +kernel
theorem dX11_byOne_52 : decode cX11_byOne 52 = .ok (.iload 8, 2) := by decide +kernel
theorem dX11_byOne_54 : decode cX11_byOne 54 = .ok (.imul, 1) := by decide +kernel
theorem dX11_byOne_55 : decode cX11_byOne 55 = .ok (.isub, 1) := by decide +kernel
theorem dX11_byOne_56 : decode cX11_byOne 56 = .ok (.i2l, 1) := by decide +kernel
theorem dX11_byOne_57 : decode cX11_byOne 57 = .ok (.aload_n 0, 1) := by decide +kernel
theorem dX11_byOne_58 : decode cX11_byOne 58 = .ok (.iload_n 1, 1) := by decide +kernel
theorem dX11_byOne_59 : decode cX11_byOne 59 = .ok (.iload_n 2, 1) := by decide +kernel
theorem dX11_byOne_60 : decode cX11_byOne 60 = .ok (.invokevirtual 287, 3) := by decide +kernel
theorem dX11_byOne_63 : decode cX11_byOne 63 = .ok (.lmul, 1) := by decide +kernel
theorem dX11_byOne_64 : decode cX11_byOne 64 = .ok (.iload_n 1, 1) := by decide +kernel
theorem dX11_byOne_65 : decode cX11_byOne 65 = .ok (.iconst 1, 1) := by decide +kernel
theorem dX11_byOne_66 : decode cX11_byOne 66 = .ok (.if_icmp .ne 7, 3) := by decide +kernel
theorem dX11_byOne_69 : decode cX11_byOne 69 = .ok (.lconst 0, 1) := by decide +kernel
theorem dX11_byOne_70 : decode cX11_byOne 70 = .ok (.goto 20, 3) := by decide +kernel
theorem dX11_byOne_73 : decode cX11_byOne 73 = .ok (.aload_n 0, 1) := by decide +kernel
theorem dX11_byOne_74 : decode cX11_byOne 74 = .ok (.iconst 3, 1) := by decide +kernel
theorem dX11_byOne_75 : decode cX11_byOne 75 = .ok (.iload_n 1, 1) := by decide +kernel
theorem dX11_byOne_76 : decode cX11_byOne 76 = .ok (.iload_n 2, 1) := by decide +kernel
theorem dX11_byOne_77 : decode cX11_byOne 77 = .ok (.aload_n 0, 1) := by decide +kernel
theorem dX11_byOne_78 : decode cX11_byOne 78 = .ok (.aload_n 0, 1) := by decide +kernel
theorem dX11_byOne_79 : decode cX11_byOne 79 = .ok (.getfield 278, 3) := by decide +kernel
theorem dX11_byOne_82 : decode cX11_byOne 82 = .ok (.iload 8, 2) := by decide +kernel
theorem dX11_byOne_84 : decode cX11_byOne 84 = .ok (.invokevirtual 275, 3) := by decide +kernel
theorem dX11_byOne_87 : decode cX11_byOne 87 = .ok (.invokevirtual 326, 3) := by decide +kernel
theorem dX11_byOne_90 : decode cX11_byOne 90 = .ok (.ladd, 1) := by decide +kernel
theorem dX11_byOne_91 : decode cX11_byOne 91 = .ok (.lstore 10, 2) := by decide +kernel
theorem dX11_byOne_93 : decode cX11_byOne 93 = .ok (.iload 4, 2) := by decide +kernel
theorem dX11_byOne_95 : decode cX11_byOne 95 = .ok (.iconst (-1), 1) := by decide +kernel
theorem dX11_byOne_96 : decode cX11_byOne 96 = .ok (.if_icmp .eq 11, 3) := by decide +kernel
theorem dX11_byOne_99 : decode cX11_byOne 99 = .ok (.lload 10, 2) := by decide +kernel
theorem dX11_byOne_101 : decode cX11_byOne 101 = .ok (.lload 5, 2) := by decide +kernel
theorem dX11_byOne_103 : decode cX11_byOne 103 = .ok (.lcmp, 1) := by decide +kernel
theorem dX11_byOne_104 : decode cX11_byOne 104 = .ok (.ifCond .le 11, 3) := by decide +kernel
theorem dX11_byOne_107 : decode cX11_byOne 107 = .ok (.iload 8, 2) := by decide +kernel
theorem dX11_byOne_109 : decode cX11_byOne 109 = .ok (.istore 4, 2) := by decide +kernel
theorem dX11_byOne_111 : decode cX11_byOne 111 = .ok (.lload 10, 2) := by decide +kernel
theorem dX11_byOne_113 : decode cX11_byOne 113 = .ok (.lstore 5, 2) := by decide +kernel
theorem dX11_byOne_115 : decode cX11_byOne 115 = .ok (.iinc 8 1, 3) := by decide +kernel
theorem dX11_byOne_118 : decode cX11_byOne 118 = .ok (.goto (-93), 3) := by decide +kernel
theorem dX11_byOne_121 : decode cX11_byOne 121 = .ok (.aload_n 0, 1) := by decide +kernel
theorem dX11_byOne_122 : decode cX11_byOne 122 = .ok (.getfield 87, 3) := by decide +kernel
theorem dX11_byOne_125 : decode cX11_byOne 125 = .ok (.sipush 6396, 3) := by decide +kernel
theorem dX11_byOne_128 : decode cX11_byOne 128 = .ok (.iload_n 1, 1) := by decide +kernel
theorem dX11_byOne_129 : decode cX11_byOne 129 = .ok (.iload_n 2, 1) := by decide +kernel
theorem dX11_byOne_130 : decode cX11_byOne 130 = .ok (.iload_n 3, 1) := by decide +kernel
theorem dX11_byOne_131 : decode cX11_byOne 131 = .ok (.invokestatic 291, 3) := by decide +kernel
theorem dX11_byOne_134 : decode cX11_byOne 134 = .ok (.iadd, 1) := by decide +kernel
theorem dX11_byOne_135 : decode cX11_byOne 135 = .ok (.lload 5, 2) := by decide +kernel
theorem dX11_byOne_137 : decode cX11_byOne 137 = .ok (.lastore, 1) := by decide +kernel
theorem dX11_byOne_138 : decode cX11_byOne 138 = .ok (.aload_n 0, 1) := by decide +kernel
theorem dX11_byOne_139 : decode cX11_byOne 139 = .ok (.getfield 84, 3) := by decide +kernel
theorem dX11_byOne_142 : decode cX11_byOne 142 = .ok (.iload_n 1, 1) := by decide +kernel
theorem dX11_byOne_143 : decode cX11_byOne 143 = .ok (.iload_n 2, 1) := by decide +kernel
theorem dX11_byOne_144 : decode cX11_byOne 144 = .ok (.iload_n 3, 1) := by decide +kernel
theorem dX11_byOne_145 : decode cX11_byOne 145 = .ok (.invokestatic 291, 3) := by decide +kernel
theorem dX11_byOne_148 : decode cX11_byOne 148 = .ok (.aload_n 0, 1) := by decide +kernel
theorem dX11_byOne_149 : decode cX11_byOne 149 = .ok (.iload_n 3, 1) := by decide +kernel
theorem dX11_byOne_150 : decode cX11_byOne 150 = .ok (.iload 4, 2) := by decide +kernel
theorem dX11_byOne_152 : decode cX11_byOne 152 = .ok (.isub, 1) := by decide +kernel
theorem dX11_byOne_153 : decode cX11_byOne 153 = .ok (.invokevirtual 332, 3) := by decide +kernel
theorem dX11_byOne_156 : decode cX11_byOne 156 = .ok (.iastore, 1) := by decide +kernel
theorem dX11_byOne_157 : decode cX11_byOne 157 = .ok (.iload 4, 2) := by decide +kernel
theorem dX11_byOne_159 : decode cX11_byOne 159 = .ok (.ireturn, 1) := by decide +kernel
theorem dX11_byRule_0 : decode cX11_byRule 0 = .ok (.aload_n 0, 1) := by decide +kernel
theorem dX11_byRule_1 : decode cX11_byRule 1 = .ok (.getfield 46, 3) := by decide +kernel
theorem dX11_byRule_4 : decode cX11_byRule 4 = .ok (.aload_n 0, 1) := by decide +kernel
theorem dX11_byRule_5 : decode cX11_byRule 5 = .ok (.getfield 278, 3) := by decide +kernel
theorem dX11_byRule_8 : decode cX11_byRule 8 = .ok (.iaload, 1) := by decide +kernel
theorem dX11_byRule_9 : decode cX11_byRule 9 = .ok (.iconst (-1), 1) := by decide +kernel
theorem dX11_byRule_10 : decode cX11_byRule 10 = .ok (.if_icmp .ne 5, 3) := by decide +kernel
theorem dX11_byRule_13 : decode cX11_byRule 13 = .ok (.iconst 0, 1) := by decide +kernel
theorem dX11_byRule_14 : decode cX11_byRule 14 = .ok (.ireturn, 1) := by decide +kernel
theorem dX11_byRule_15 : decode cX11_byRule 15 = .ok (.iconst 0, 1) := by decide +kernel
theorem dX11_byRule_16 : decode cX11_byRule 16 = .ok (.aload_n 0, 1) := by decide +kernel
theorem dX11_byRule_17 : decode cX11_byRule 17 = .ok (.iload_n 3, 1) := by decide +kernel
theorem dX11_byRule_18 : decode cX11_byRule 18 = .ok (.invokevirtual 307, 3) := by decide +kernel
theorem dX11_byRule_21 : decode cX11_byRule 21 = .ok (.aload_n 0, 1) := by decide +kernel
theorem dX11_byRule_22 : decode cX11_byRule 22 = .ok (.aload_n 0, 1) := by decide +kernel
theorem dX11_byRule_23 : decode cX11_byRule 23 = .ok (.getfield 46, 3) := by decide +kernel
theorem dX11_byRule_26 : decode cX11_byRule 26 = .ok (.aload_n 0, 1) := by decide +kernel
theorem dX11_byRule_27 : decode cX11_byRule 27 = .ok (.getfield 278, 3) := by decide +kernel
theorem dX11_byRule_30 : decode cX11_byRule 30 = .ok (.iaload, 1) := by decide +kernel
theorem dX11_byRule_31 : decode cX11_byRule 31 = .ok (.iload_n 3, 1) := by decide +kernel
theorem dX11_byRule_32 : decode cX11_byRule 32 = .ok (.iload_n 2, 1) := by decide +kernel
theorem dX11_byRule_33 : decode cX11_byRule 33 = .ok (.iload_n 1, 1) := by decide +kernel
theorem dX11_byRule_34 : decode cX11_byRule 34 = .ok (.aload_n 0, 1) := by decide +kernel
theorem dX11_byRule_35 : decode cX11_byRule 35 = .ok (.aload_n 0, 1) := by decide +kernel
theorem dX11_byRule_36 : decode cX11_byRule 36 = .ok (.getfield 278, 3) := by decide +kernel
theorem dX11_byRule_39 : decode cX11_byRule 39 = .ok (.iload_n 3, 1) := by decide +kernel
theorem dX11_byRule_40 : decode cX11_byRule 40 = .ok (.invokevirtual 269, 3) := by decide +kernel
theorem dX11_byRule_43 : decode cX11_byRule 43 = .ok (.aload_n 0, 1) := by decide +kernel
theorem dX11_byRule_44 : decode cX11_byRule 44 = .ok (.iload_n 3, 1) := by decide +kernel
theorem dX11_byRule_45 : decode cX11_byRule 45 = .ok (.invokevirtual 307, 3) := by decide +kernel
theorem dX11_byRule_48 : decode cX11_byRule 48 = .ok (.invokevirtual 254, 3) := by decide +kernel
theorem dX11_byRule_51 : decode cX11_byRule 51 = .ok (.invokestatic 169, 3) := by decide +kernel
theorem dX11_byRule_54 : decode cX11_byRule 54 = .ok (.invokestatic 260, 3) := by decide +kernel
theorem dX11_byRule_57 : decode cX11_byRule 57 = .ok (.ireturn, 1) := by decide +kernel
theorem dX11_eats_0 : decode cX11_eats 0 = .ok (.aload_n 0, 1) := by decide +kernel
theorem dX11_eats_1 : decode cX11_eats 1 = .ok (.iload_n 1, 1) := by decide +kernel
theorem dX11_eats_2 : decode cX11_eats 2 = .ok (.iload_n 2, 1) := by decide +kernel
theorem dX11_eats_3 : decode cX11_eats 3 = .ok (.iload_n 3, 1) := by decide +kernel
theorem dX11_eats_4 : decode cX11_eats 4 = .ok (.iload 4, 2) := by decide +kernel
theorem dX11_eats_6 : decode cX11_eats 6 = .ok (.invokevirtual 319, 3) := by decide +kernel
theorem dX11_eats_9 : decode cX11_eats 9 = .ok (.istore 5, 2) := by decide +kernel
theorem dX11_eats_11 : decode cX11_eats 11 = .ok (.iload_n 1, 1) := by decide +kernel
theorem dX11_eats_12 : decode cX11_eats 12 = .ok (.iconst 3, 1) := by decide +kernel
theorem dX11_eats_13 : decode cX11_eats 13 = .ok (.if_icmp .ne 18, 3) := by decide +kernel
theorem dX11_eats_16 : decode cX11_eats 16 = .ok (.aload_n 0, 1) := by decide +kernel
theorem dX11_eats_17 : decode cX11_eats 17 = .ok (.getfield 84, 3) := by decide +kernel
theorem dX11_eats_20 : decode cX11_eats 20 = .ok (.iload_n 2, 1) := by decide +kernel
theorem dX11_eats_21 : decode cX11_eats 21 = .ok (.iload_n 3, 1) := by decide +kernel
theorem dX11_eats_22 : decode cX11_eats 22 = .ok (.iload 4, 2) := by decide +kernel
theorem dX11_eats_24 : decode cX11_eats 24 = .ok (.invokestatic 291, 3) := by decide +kernel
theorem dX11_eats_27 : decode cX11_eats 27 = .ok (.iaload, 1) := by decide +kernel
theorem dX11_eats_28 : decode cX11_eats 28 = .ok (.goto 20, 3) := by decide +kernel
theorem dX11_eats_31 : decode cX11_eats 31 = .ok (.aload_n 0, 1) := by decide +kernel
theorem dX11_eats_32 : decode cX11_eats 32 = .ok (.getfield 19, 3) := by decide +kernel
theorem dX11_eats_35 : decode cX11_eats 35 = .ok (.aload_n 0, 1) := by decide +kernel
theorem dX11_eats_36 : decode cX11_eats 36 = .ok (.getfield 278, 3) := by decide +kernel
theorem dX11_eats_39 : decode cX11_eats 39 = .ok (.iaload, 1) := by decide +kernel
theorem dX11_eats_40 : decode cX11_eats 40 = .ok (.iload 4, 2) := by decide +kernel
theorem dX11_eats_42 : decode cX11_eats 42 = .ok (.iload 5, 2) := by decide +kernel
theorem dX11_eats_44 : decode cX11_eats 44 = .ok (.isub, 1) := by decide +kernel
theorem dX11_eats_45 : decode cX11_eats 45 = .ok (.invokestatic 169, 3) := by decide +kernel
theorem dX11_eats_48 : decode cX11_eats 48 = .ok (.ireturn, 1) := by decide +kernel
theorem dX11_priceOf_0 : decode cX11_priceOf 0 = .ok (.aload_n 0, 1) := by decide +kernel
theorem dX11_priceOf_1 : decode cX11_priceOf 1 = .ok (.iload_n 1, 1) := by decide +kernel
theorem dX11_priceOf_2 : decode cX11_priceOf 2 = .ok (.iload_n 2, 1) := by decide +kernel
theorem dX11_priceOf_3 : decode cX11_priceOf 3 = .ok (.iload_n 3, 1) := by decide +kernel
theorem dX11_priceOf_4 : decode cX11_priceOf 4 = .ok (.iload 4, 2) := by decide +kernel
theorem dX11_priceOf_6 : decode cX11_priceOf 6 = .ok (.invokevirtual 335, 3) := by decide +kernel
theorem dX11_priceOf_9 : decode cX11_priceOf 9 = .ok (.istore 5, 2) := by decide +kernel
theorem dX11_priceOf_11 : decode cX11_priceOf 11 = .ok (.iload_n 1, 1) := by decide +kernel
theorem dX11_priceOf_12 : decode cX11_priceOf 12 = .ok (.iconst 3, 1) := by decide +kernel
theorem dX11_priceOf_13 : decode cX11_priceOf 13 = .ok (.if_icmp .eq 16, 3) := by decide +kernel
theorem dX11_priceOf_16 : decode cX11_priceOf 16 = .ok (.aload_n 0, 1) := by decide +kernel
theorem dX11_priceOf_17 : decode cX11_priceOf 17 = .ok (.aload_n 0, 1) := by decide +kernel
theorem dX11_priceOf_18 : decode cX11_priceOf 18 = .ok (.getfield 278, 3) := by decide +kernel
theorem dX11_priceOf_21 : decode cX11_priceOf 21 = .ok (.iload 5, 2) := by decide +kernel
theorem dX11_priceOf_23 : decode cX11_priceOf 23 = .ok (.invokevirtual 269, 3) := by decide +kernel
theorem dX11_priceOf_26 : decode cX11_priceOf 26 = .ok (.goto 31, 3) := by decide +kernel
theorem dX11_priceOf_29 : decode cX11_priceOf 29 = .ok (.iload 5, 2) := by decide +kernel
theorem dX11_priceOf_31 : decode cX11_priceOf 31 = .ok (.ifCond .ne 8, 3) := by decide +kernel
theorem dX11_priceOf_34 : decode cX11_priceOf 34 = .ok (.bipush 100, 2) := by decide +kernel
theorem dX11_priceOf_36 : decode cX11_priceOf 36 = .ok (.goto 21, 3) := by decide +kernel
theorem dX11_priceOf_39 : decode cX11_priceOf 39 = .ok (.aload_n 0, 1) := by decide +kernel
theorem dX11_priceOf_40 : decode cX11_priceOf 40 = .ok (.getfield 16, 3) := by decide +kernel
theorem dX11_priceOf_43 : decode cX11_priceOf 43 = .ok (.sipush 180, 3) := by decide +kernel
theorem dX11_priceOf_46 : decode cX11_priceOf 46 = .ok (.aload_n 0, 1) := by decide +kernel
theorem dX11_priceOf_47 : decode cX11_priceOf 47 = .ok (.getfield 278, 3) := by decide +kernel
theorem dX11_priceOf_50 : decode cX11_priceOf 50 = .ok (.imul, 1) := by decide +kernel
theorem dX11_priceOf_51 : decode cX11_priceOf 51 = .ok (.iload 5, 2) := by decide +kernel
theorem dX11_priceOf_53 : decode cX11_priceOf 53 = .ok (.iadd, 1) := by decide +kernel
theorem dX11_priceOf_54 : decode cX11_priceOf 54 = .ok (.iconst 1, 1) := by decide +kernel
theorem dX11_priceOf_55 : decode cX11_priceOf 55 = .ok (.isub, 1) := by decide +kernel
theorem dX11_priceOf_56 : decode cX11_priceOf 56 = .ok (.iaload, 1) := by decide +kernel
theorem dX11_priceOf_57 : decode cX11_priceOf 57 = .ok (.ireturn, 1) := by decide +kernel
theorem dX11_fare_0 : decode cX11_fare 0 = .ok (.iload_n 1, 1) := by decide +kernel
theorem dX11_fare_1 : decode cX11_fare 1 = .ok (.sipush 2132, 3) := by decide +kernel
theorem dX11_fare_4 : decode cX11_fare 4 = .ok (.imul, 1) := by decide +kernel
theorem dX11_fare_5 : decode cX11_fare 5 = .ok (.iload_n 2, 1) := by decide +kernel
theorem dX11_fare_6 : decode cX11_fare 6 = .ok (.iload_n 3, 1) := by decide +kernel
theorem dX11_fare_7 : decode cX11_fare 7 = .ok (.iload 4, 2) := by decide +kernel
theorem dX11_fare_9 : decode cX11_fare 9 = .ok (.invokestatic 291, 3) := by decide +kernel
theorem dX11_fare_12 : decode cX11_fare 12 = .ok (.iadd, 1) := by decide +kernel
theorem dX11_fare_13 : decode cX11_fare 13 = .ok (.istore 5, 2) := by decide +kernel
theorem dX11_fare_15 : decode cX11_fare 15 = .ok (.aload_n 0, 1) := by decide +kernel
theorem dX11_fare_16 : decode cX11_fare 16 = .ok (.getfield 90, 3) := by decide +kernel
theorem dX11_fare_19 : decode cX11_fare 19 = .ok (.iload 5, 2) := by decide +kernel
theorem dX11_fare_21 : decode cX11_fare 21 = .ok (.baload, 1) := by decide +kernel
theorem dX11_fare_22 : decode cX11_fare 22 = .ok (.ifCond .eq 11, 3) := by decide +kernel
theorem dX11_fare_25 : decode cX11_fare 25 = .ok (.aload_n 0, 1) := by decide +kernel
theorem dX11_fare_26 : decode cX11_fare 26 = .ok (.getfield 93, 3) := by decide +kernel
theorem dX11_fare_29 : decode cX11_fare 29 = .ok (.iload 5, 2) := by decide +kernel
theorem dX11_fare_31 : decode cX11_fare 31 = .ok (.laload, 1) := by decide +kernel
theorem dX11_fare_32 : decode cX11_fare 32 = .ok (.lreturn, 1) := by decide +kernel
theorem dX11_fare_33 : decode cX11_fare 33 = .ok (.aload_n 0, 1) := by decide +kernel
theorem dX11_fare_34 : decode cX11_fare 34 = .ok (.iload_n 1, 1) := by decide +kernel
theorem dX11_fare_35 : decode cX11_fare 35 = .ok (.iload_n 2, 1) := by decide +kernel
theorem dX11_fare_36 : decode cX11_fare 36 = .ok (.iload_n 3, 1) := by decide +kernel
theorem dX11_fare_37 : decode cX11_fare 37 = .ok (.iload 4, 2) := by decide +kernel
theorem dX11_fare_39 : decode cX11_fare 39 = .ok (.invokevirtual 319, 3) := by decide +kernel
theorem dX11_fare_42 : decode cX11_fare 42 = .ok (.istore 6, 2) := by decide +kernel
theorem dX11_fare_44 : decode cX11_fare 44 = .ok (.aload_n 0, 1) := by decide +kernel
theorem dX11_fare_45 : decode cX11_fare 45 = .ok (.aload_n 0, 1) := by decide +kernel
theorem dX11_fare_46 : decode cX11_fare 46 = .ok (.getfield 278, 3) := by decide +kernel
theorem dX11_fare_49 : decode cX11_fare 49 = .ok (.aload_n 0, 1) := by decide +kernel
theorem dX11_fare_50 : decode cX11_fare 50 = .ok (.iload_n 1, 1) := by decide +kernel
theorem dX11_fare_51 : decode cX11_fare 51 = .ok (.iload_n 2, 1) := by decide +kernel
theorem dX11_fare_52 : decode cX11_fare 52 = .ok (.iload_n 3, 1) := by decide +kernel
theorem dX11_fare_53 : decode cX11_fare 53 = .ok (.iload 4, 2) := by decide +kernel
theorem dX11_fare_55 : decode cX11_fare 55 = .ok (.invokevirtual 335, 3) := by decide +kernel
theorem dX11_fare_58 : decode cX11_fare 58 = .ok (.invokevirtual 262, 3) := by decide +kernel
theorem dX11_fare_61 : decode cX11_fare 61 = .ok (.aload_n 0, 1) := by decide +kernel
theorem dX11_fare_62 : decode cX11_fare 62 = .ok (.getfield 281, 3) := by decide +kernel
theorem dX11_fare_65 : decode cX11_fare 65 = .ok (.iload 6, 2) := by decide +kernel
theorem dX11_fare_67 : decode cX11_fare 67 = .ok (.imul, 1) := by decide +kernel
theorem dX11_fare_68 : decode cX11_fare 68 = .ok (.isub, 1) := by decide +kernel
theorem dX11_fare_69 : decode cX11_fare 69 = .ok (.i2l, 1) := by decide +kernel
theorem dX11_fare_70 : decode cX11_fare 70 = .ok (.aload_n 0, 1) := by decide +kernel
theorem dX11_fare_71 : decode cX11_fare 71 = .ok (.iload_n 2, 1) := by decide +kernel
theorem dX11_fare_72 : decode cX11_fare 72 = .ok (.iload_n 3, 1) := by decide +kernel
theorem dX11_fare_73 : decode cX11_fare 73 = .ok (.invokevirtual 287, 3) := by decide +kernel
theorem dX11_fare_76 : decode cX11_fare 76 = .ok (.lmul, 1) := by decide +kernel
theorem dX11_fare_77 : decode cX11_fare 77 = .ok (.lstore 7, 2) := by decide +kernel
theorem dX11_fare_79 : decode cX11_fare 79 = .ok (.aload_n 0, 1) := by decide +kernel
theorem dX11_fare_80 : decode cX11_fare 80 = .ok (.iload_n 3, 1) := by decide +kernel
theorem dX11_fare_81 : decode cX11_fare 81 = .ok (.invokevirtual 284, 3) := by decide +kernel
theorem dX11_fare_84 : decode cX11_fare 84 = .ok (.istore 9, 2) := by decide +kernel
theorem dX11_fare_86 : decode cX11_fare 86 = .ok (.iconst 0, 1) := by decide +kernel
theorem dX11_fare_87 : decode cX11_fare 87 = .ok (.istore 10, 2) := by decide +kernel
theorem dX11_fare_89 : decode cX11_fare 89 = .ok (.iload 10, 2) := by decide +kernel
theorem dX11_fare_91 : decode cX11_fare 91 = .ok (.aload_n 0, 1) := by decide +kernel
theorem dX11_fare_92 : decode cX11_fare 92 = .ok (.iload 9, 2) := by decide +kernel
theorem dX11_fare_94 : decode cX11_fare 94 = .ok (.invokevirtual 310, 3) := by decide +kernel
theorem dX11_fare_97 : decode cX11_fare 97 = .ok (.if_icmp .ge 58, 3) := by decide +kernel
theorem dX11_fare_100 : decode cX11_fare 100 = .ok (.iload_n 2, 1) := by decide +kernel
theorem dX11_fare_101 : decode cX11_fare 101 = .ok (.iconst 1, 1) := by decide +kernel
theorem dX11_fare_102 : decode cX11_fare 102 = .ok (.if_icmp .le 53, 3) := by decide +kernel
theorem dX11_fare_105 : decode cX11_fare 105 = .ok (.lload 7, 2) := by decide +kernel
theorem dX11_fare_107 : decode cX11_fare 107 = .ok (.aload_n 0, 1) := by decide +kernel
theorem dX11_fare_108 : decode cX11_fare 108 = .ok (.iload 9, 2) := by decide +kernel
theorem dX11_fare_110 : decode cX11_fare 110 = .ok (.iload 10, 2) := by decide +kernel
theorem dX11_fare_112 : decode cX11_fare 112 = .ok (.invokevirtual 316, 3) := by decide +kernel
theorem dX11_fare_115 : decode cX11_fare 115 = .ok (.i2l, 1) := by decide +kernel
theorem dX11_fare_116 : decode cX11_fare 116 = .ok (.aload_n 0, 1) := by decide +kernel
theorem dX11_fare_117 : decode cX11_fare 117 = .ok (.iload_n 1, 1) := by decide +kernel
theorem dX11_fare_118 : decode cX11_fare 118 = .ok (.iload_n 2, 1) := by decide +kernel
theorem dX11_fare_119 : decode cX11_fare 119 = .ok (.iconst 1, 1) := by decide +kernel
theorem dX11_fare_120 : decode cX11_fare 120 = .ok (.isub, 1) := by decide +kernel
theorem dX11_fare_121 : decode cX11_fare 121 = .ok (.iload 9, 2) := by decide +kernel
theorem dX11_fare_123 : decode cX11_fare 123 = .ok (.aload_n 0, 1) := by decide +kernel
theorem dX11_fare_124 : decode cX11_fare 124 = .ok (.aload_n 0, 1) := by decide +kernel
theorem dX11_fare_125 : decode cX11_fare 125 = .ok (.getfield 278, 3) := by decide +kernel
theorem dX11_fare_128 : decode cX11_fare 128 = .ok (.iload 6, 2) := by decide +kernel
theorem dX11_fare_130 : decode cX11_fare 130 = .ok (.invokevirtual 275, 3) := by decide +kernel
theorem dX11_fare_133 : decode cX11_fare 133 = .ok (.aload_n 0, 1) := by decide +kernel
theorem dX11_fare_134 : decode cX11_fare 134 = .ok (.iload 9, 2) := by decide +kernel
theorem dX11_fare_136 : decode cX11_fare 136 = .ok (.iload 10, 2) := by decide +kernel
theorem dX11_fare_138 : decode cX11_fare 138 = .ok (.invokevirtual 313, 3) := by decide +kernel
theorem dX11_fare_141 : decode cX11_fare 141 = .ok (.iadd, 1) := by decide +kernel
theorem dX11_fare_142 : decode cX11_fare 142 = .ok (.invokevirtual 338, 3) := by decide +kernel
theorem dX11_fare_145 : decode cX11_fare 145 = .ok (.lmul, 1) := by decide +kernel
theorem dX11_fare_146 : decode cX11_fare 146 = .ok (.ladd, 1) := by decide +kernel
theorem dX11_fare_147 : decode cX11_fare 147 = .ok (.lstore 7, 2) := by decide +kernel
theorem dX11_fare_149 : decode cX11_fare 149 = .ok (.iinc 10 1, 3) := by decide +kernel
theorem dX11_fare_152 : decode cX11_fare 152 = .ok (.goto (-63), 3) := by decide +kernel
theorem dX11_fare_155 : decode cX11_fare 155 = .ok (.aload_n 0, 1) := by decide +kernel
theorem dX11_fare_156 : decode cX11_fare 156 = .ok (.getfield 93, 3) := by decide +kernel
theorem dX11_fare_159 : decode cX11_fare 159 = .ok (.iload 5, 2) := by decide +kernel
theorem dX11_fare_161 : decode cX11_fare 161 = .ok (.lload 7, 2) := by decide +kernel
theorem dX11_fare_163 : decode cX11_fare 163 = .ok (.lastore, 1) := by decide +kernel
theorem dX11_fare_164 : decode cX11_fare 164 = .ok (.aload_n 0, 1) := by decide +kernel
theorem dX11_fare_165 : decode cX11_fare 165 = .ok (.getfield 90, 3) := by decide +kernel
theorem dX11_fare_168 : decode cX11_fare 168 = .ok (.iload 5, 2) := by decide +kernel
theorem dX11_fare_170 : decode cX11_fare 170 = .ok (.iconst 1, 1) := by decide +kernel
theorem dX11_fare_171 : decode cX11_fare 171 = .ok (.bastore, 1) := by decide +kernel
theorem dX11_fare_172 : decode cX11_fare 172 = .ok (.lload 7, 2) := by decide +kernel
theorem dX11_fare_174 : decode cX11_fare 174 = .ok (.lreturn, 1) := by decide +kernel
theorem dX11_isState_0 : decode cX11_isState 0 = .ok (.aload_n 0, 1) := by decide +kernel
theorem dX11_isState_1 : decode cX11_isState 1 = .ok (.iload_n 1, 1) := by decide +kernel
theorem dX11_isState_2 : decode cX11_isState 2 = .ok (.iload_n 3, 1) := by decide +kernel
theorem dX11_isState_3 : decode cX11_isState 3 = .ok (.invokevirtual 265, 3) := by decide +kernel
theorem dX11_isState_6 : decode cX11_isState 6 = .ok (.ifCond .eq 28, 3) := by decide +kernel
theorem dX11_isState_9 : decode cX11_isState 9 = .ok (.iload_n 2, 1) := by decide +kernel
theorem dX11_isState_10 : decode cX11_isState 10 = .ok (.iconst 1, 1) := by decide +kernel
theorem dX11_isState_11 : decode cX11_isState 11 = .ok (.bipush 12, 2) := by decide +kernel
theorem dX11_isState_13 : decode cX11_isState 13 = .ok (.invokestatic 145, 3) := by decide +kernel
theorem dX11_isState_16 : decode cX11_isState 16 = .ok (.ifCond .eq 18, 3) := by decide +kernel
theorem dX11_isState_19 : decode cX11_isState 19 = .ok (.iload 4, 2) := by decide +kernel
theorem dX11_isState_21 : decode cX11_isState 21 = .ok (.iconst 0, 1) := by decide +kernel
theorem dX11_isState_22 : decode cX11_isState 22 = .ok (.bipush 40, 2) := by decide +kernel
theorem dX11_isState_24 : decode cX11_isState 24 = .ok (.invokestatic 145, 3) := by decide +kernel
theorem dX11_isState_27 : decode cX11_isState 27 = .ok (.ifCond .eq 7, 3) := by decide +kernel
theorem dX11_isState_30 : decode cX11_isState 30 = .ok (.iconst 1, 1) := by decide +kernel
theorem dX11_isState_31 : decode cX11_isState 31 = .ok (.goto 4, 3) := by decide +kernel
theorem dX11_isState_34 : decode cX11_isState 34 = .ok (.iconst 0, 1) := by decide +kernel
theorem dX11_isState_35 : decode cX11_isState 35 = .ok (.ireturn, 1) := by decide +kernel
theorem dX11_isKind_0 : decode cX11_isKind 0 = .ok (.iload_n 0, 1) := by decide +kernel
theorem dX11_isKind_1 : decode cX11_isKind 1 = .ok (.iconst 0, 1) := by decide +kernel
theorem dX11_isKind_2 : decode cX11_isKind 2 = .ok (.iconst 4, 1) := by decide +kernel
theorem dX11_isKind_3 : decode cX11_isKind 3 = .ok (.invokestatic 145, 3) := by decide +kernel
theorem dX11_isKind_6 : decode cX11_isKind 6 = .ok (.ireturn, 1) := by decide +kernel
theorem dX11_keep_0 : decode cX11_keep 0 = .ok (.aload_n 0, 1) := by decide +kernel
theorem dX11_keep_1 : decode cX11_keep 1 = .ok (.iload_n 1, 1) := by decide +kernel
theorem dX11_keep_2 : decode cX11_keep 2 = .ok (.iload_n 3, 1) := by decide +kernel
theorem dX11_keep_3 : decode cX11_keep 3 = .ok (.iload 4, 2) := by decide +kernel
theorem dX11_keep_5 : decode cX11_keep 5 = .ok (.iload 5, 2) := by decide +kernel
theorem dX11_keep_7 : decode cX11_keep 7 = .ok (.invokevirtual 341, 3) := by decide +kernel
theorem dX11_keep_10 : decode cX11_keep 10 = .ok (.ifCond .eq 10, 3) := by decide +kernel
theorem dX11_keep_13 : decode cX11_keep 13 = .ok (.iload_n 2, 1) := by decide +kernel
theorem dX11_keep_14 : decode cX11_keep 14 = .ok (.invokestatic 345, 3) := by decide +kernel
theorem dX11_keep_17 : decode cX11_keep 17 = .ok (.ifCond .ne 5, 3) := by decide +kernel
theorem dX11_keep_20 : decode cX11_keep 20 = .ok (.iconst (-1), 1) := by decide +kernel
theorem dX11_keep_21 : decode cX11_keep 21 = .ok (.ireturn, 1) := by decide +kernel
theorem dX11_keep_22 : decode cX11_keep 22 = .ok (.aload_n 0, 1) := by decide +kernel
theorem dX11_keep_23 : decode cX11_keep 23 = .ok (.iload_n 1, 1) := by decide +kernel
theorem dX11_keep_24 : decode cX11_keep 24 = .ok (.invokevirtual 348, 3) := by decide +kernel
theorem dX11_keep_27 : decode cX11_keep 27 = .ok (.aload_n 0, 1) := by decide +kernel
theorem dX11_keep_28 : decode cX11_keep 28 = .ok (.iload_n 2, 1) := by decide +kernel
theorem dX11_keep_29 : decode cX11_keep 29 = .ok (.iload_n 3, 1) := by decide +kernel
theorem dX11_keep_30 : decode cX11_keep 30 = .ok (.iload 4, 2) := by decide +kernel
theorem dX11_keep_32 : decode cX11_keep 32 = .ok (.iload 5, 2) := by decide +kernel
theorem dX11_keep_34 : decode cX11_keep 34 = .ok (.invokevirtual 319, 3) := by decide +kernel
theorem dX11_keep_37 : decode cX11_keep 37 = .ok (.ireturn, 1) := by decide +kernel
theorem dX11_sold_0 : decode cX11_sold 0 = .ok (.aload_n 0, 1) := by decide +kernel
theorem dX11_sold_1 : decode cX11_sold 1 = .ok (.iload_n 1, 1) := by decide +kernel
theorem dX11_sold_2 : decode cX11_sold 2 = .ok (.iload_n 3, 1) := by decide +kernel
theorem dX11_sold_3 : decode cX11_sold 3 = .ok (.iload 4, 2) := by decide +kernel
theorem dX11_sold_5 : decode cX11_sold 5 = .ok (.iload 5, 2) := by decide +kernel
theorem dX11_sold_7 : decode cX11_sold 7 = .ok (.invokevirtual 341, 3) := by decide +kernel
theorem dX11_sold_10 : decode cX11_sold 10 = .ok (.ifCond .eq 10, 3) := by decide +kernel
theorem dX11_sold_13 : decode cX11_sold 13 = .ok (.iload_n 2, 1) := by decide +kernel
theorem dX11_sold_14 : decode cX11_sold 14 = .ok (.invokestatic 345, 3) := by decide +kernel
theorem dX11_sold_17 : decode cX11_sold 17 = .ok (.ifCond .ne 5, 3) := by decide +kernel
theorem dX11_sold_20 : decode cX11_sold 20 = .ok (.iconst (-1), 1) := by decide +kernel
theorem dX11_sold_21 : decode cX11_sold 21 = .ok (.ireturn, 1) := by decide +kernel
theorem dX11_sold_22 : decode cX11_sold 22 = .ok (.aload_n 0, 1) := by decide +kernel
theorem dX11_sold_23 : decode cX11_sold 23 = .ok (.iload_n 1, 1) := by decide +kernel
theorem dX11_sold_24 : decode cX11_sold 24 = .ok (.invokevirtual 348, 3) := by decide +kernel
theorem dX11_sold_27 : decode cX11_sold 27 = .ok (.aload_n 0, 1) := by decide +kernel
theorem dX11_sold_28 : decode cX11_sold 28 = .ok (.iload_n 2, 1) := by decide +kernel
theorem dX11_sold_29 : decode cX11_sold 29 = .ok (.iload_n 3, 1) := by decide +kernel
theorem dX11_sold_30 : decode cX11_sold 30 = .ok (.iload 4, 2) := by decide +kernel
theorem dX11_sold_32 : decode cX11_sold 32 = .ok (.iload 5, 2) := by decide +kernel
theorem dX11_sold_34 : decode cX11_sold 34 = .ok (.invokevirtual 335, 3) := by decide +kernel
theorem dX11_sold_37 : decode cX11_sold 37 = .ok (.ireturn, 1) := by decide +kernel
theorem dX11_price_0 : decode cX11_price 0 = .ok (.aload_n 0, 1) := by decide +kernel
theorem dX11_price_1 : decode cX11_price 1 = .ok (.iload_n 1, 1) := by decide +kernel
theorem dX11_price_2 : decode cX11_price 2 = .ok (.iload_n 3, 1) := by decide +kernel
theorem dX11_price_3 : decode cX11_price 3 = .ok (.iload 4, 2) := by decide +kernel
theorem dX11_price_5 : decode cX11_price 5 = .ok (.iload 5, 2) := by decide +kernel
theorem dX11_price_7 : decode cX11_price 7 = .ok (.invokevirtual 341, 3) := by decide +kernel
theorem dX11_price_10 : decode cX11_price 10 = .ok (.ifCond .eq 10, 3) := by decide +kernel
theorem dX11_price_13 : decode cX11_price 13 = .ok (.iload_n 2, 1) := by decide +kernel
theorem dX11_price_14 : decode cX11_price 14 = .ok (.invokestatic 345, 3) := by decide +kernel
theorem dX11_price_17 : decode cX11_price 17 = .ok (.ifCond .ne 5, 3) := by decide +kernel
theorem dX11_price_20 : decode cX11_price 20 = .ok (.iconst (-1), 1) := by decide +kernel
theorem dX11_price_21 : decode cX11_price 21 = .ok (.ireturn, 1) := by decide +kernel
theorem dX11_price_22 : decode cX11_price 22 = .ok (.aload_n 0, 1) := by decide +kernel
theorem dX11_price_23 : decode cX11_price 23 = .ok (.iload_n 1, 1) := by decide +kernel
theorem dX11_price_24 : decode cX11_price 24 = .ok (.invokevirtual 348, 3) := by decide +kernel
theorem dX11_price_27 : decode cX11_price 27 = .ok (.aload_n 0, 1) := by decide +kernel
theorem dX11_price_28 : decode cX11_price 28 = .ok (.iload_n 2, 1) := by decide +kernel
theorem dX11_price_29 : decode cX11_price 29 = .ok (.iload_n 3, 1) := by decide +kernel
theorem dX11_price_30 : decode cX11_price 30 = .ok (.iload 4, 2) := by decide +kernel
theorem dX11_price_32 : decode cX11_price 32 = .ok (.iload 5, 2) := by decide +kernel
theorem dX11_price_34 : decode cX11_price 34 = .ok (.invokevirtual 351, 3) := by decide +kernel
theorem dX11_price_37 : decode cX11_price 37 = .ok (.ireturn, 1) := by decide +kernel
theorem dX11_below_0 : decode cX11_below 0 = .ok (.aload_n 0, 1) := by decide +kernel
theorem dX11_below_1 : decode cX11_below 1 = .ok (.iload_n 1, 1) := by decide +kernel
theorem dX11_below_2 : decode cX11_below 2 = .ok (.iload_n 2, 1) := by decide +kernel
theorem dX11_below_3 : decode cX11_below 3 = .ok (.iload_n 3, 1) := by decide +kernel
theorem dX11_below_4 : decode cX11_below 4 = .ok (.iconst 0, 1) := by decide +kernel
theorem dX11_below_5 : decode cX11_below 5 = .ok (.invokevirtual 341, 3) := by decide +kernel
theorem dX11_below_8 : decode cX11_below 8 = .ok (.ifCond .ne 7, 3) := by decide +kernel
theorem dX11_below_11 : decode cX11_below 11 = .ok (.ldc2_w 354, 3) := by decide +kernel
theorem dX11_below_14 : decode cX11_below 14 = .ok (.lreturn, 1) := by decide +kernel
theorem dX11_below_15 : decode cX11_below 15 = .ok (.aload_n 0, 1) := by decide +kernel
theorem dX11_below_16 : decode cX11_below 16 = .ok (.iload_n 1, 1) := by decide +kernel
theorem dX11_below_17 : decode cX11_below 17 = .ok (.invokevirtual 348, 3) := by decide +kernel
theorem dX11_below_20 : decode cX11_below 20 = .ok (.aload_n 0, 1) := by decide +kernel
theorem dX11_below_21 : decode cX11_below 21 = .ok (.iload_n 2, 1) := by decide +kernel
theorem dX11_below_22 : decode cX11_below 22 = .ok (.iload_n 3, 1) := by decide +kernel
theorem dX11_below_23 : decode cX11_below 23 = .ok (.invokevirtual 287, 3) := by decide +kernel
theorem dX11_below_26 : decode cX11_below 26 = .ok (.lreturn, 1) := by decide +kernel
theorem dX11_welfare_0 : decode cX11_welfare 0 = .ok (.aload_n 0, 1) := by decide +kernel
theorem dX11_welfare_1 : decode cX11_welfare 1 = .ok (.iload_n 1, 1) := by decide +kernel
theorem dX11_welfare_2 : decode cX11_welfare 2 = .ok (.iload_n 3, 1) := by decide +kernel
theorem dX11_welfare_3 : decode cX11_welfare 3 = .ok (.iload 4, 2) := by decide +kernel
theorem dX11_welfare_5 : decode cX11_welfare 5 = .ok (.iload 5, 2) := by decide +kernel
theorem dX11_welfare_7 : decode cX11_welfare 7 = .ok (.invokevirtual 341, 3) := by decide +kernel
theorem dX11_welfare_10 : decode cX11_welfare 10 = .ok (.ifCond .eq 10, 3) := by decide +kernel
theorem dX11_welfare_13 : decode cX11_welfare 13 = .ok (.iload_n 2, 1) := by decide +kernel
theorem dX11_welfare_14 : decode cX11_welfare 14 = .ok (.invokestatic 345, 3) := by decide +kernel
theorem dX11_welfare_17 : decode cX11_welfare 17 = .ok (.ifCond .ne 7, 3) := by decide +kernel
theorem dX11_welfare_20 : decode cX11_welfare 20 = .ok (.ldc2_w 354, 3) := by decide +kernel
theorem dX11_welfare_23 : decode cX11_welfare 23 = .ok (.lreturn, 1) := by decide +kernel
theorem dX11_welfare_24 : decode cX11_welfare 24 = .ok (.aload_n 0, 1) := by decide +kernel
theorem dX11_welfare_25 : decode cX11_welfare 25 = .ok (.iload_n 1, 1) := by decide +kernel
theorem dX11_welfare_26 : decode cX11_welfare 26 = .ok (.invokevirtual 348, 3) := by decide +kernel
theorem dX11_welfare_29 : decode cX11_welfare 29 = .ok (.aload_n 0, 1) := by decide +kernel
theorem dX11_welfare_30 : decode cX11_welfare 30 = .ok (.iload_n 2, 1) := by decide +kernel
theorem dX11_welfare_31 : decode cX11_welfare 31 = .ok (.iload_n 3, 1) := by decide +kernel
theorem dX11_welfare_32 : decode cX11_welfare 32 = .ok (.iload 4, 2) := by decide +kernel
theorem dX11_welfare_34 : decode cX11_welfare 34 = .ok (.iload 5, 2) := by decide +kernel
theorem dX11_welfare_36 : decode cX11_welfare 36 = .ok (.invokevirtual 338, 3) := by decide +kernel
theorem dX11_welfare_39 : decode cX11_welfare 39 = .ok (.lreturn, 1) := by decide +kernel
theorem dX11_takings_0 : decode cX11_takings 0 = .ok (.aload_n 0, 1) := by decide +kernel
theorem dX11_takings_1 : decode cX11_takings 1 = .ok (.iload_n 1, 1) := by decide +kernel
theorem dX11_takings_2 : decode cX11_takings 2 = .ok (.iload_n 2, 1) := by decide +kernel
theorem dX11_takings_3 : decode cX11_takings 3 = .ok (.iload_n 3, 1) := by decide +kernel
theorem dX11_takings_4 : decode cX11_takings 4 = .ok (.iload 4, 2) := by decide +kernel
theorem dX11_takings_6 : decode cX11_takings 6 = .ok (.invokevirtual 341, 3) := by decide +kernel
theorem dX11_takings_9 : decode cX11_takings 9 = .ok (.ifCond .ne 7, 3) := by decide +kernel
theorem dX11_takings_12 : decode cX11_takings 12 = .ok (.ldc2_w 354, 3) := by decide +kernel
theorem dX11_takings_15 : decode cX11_takings 15 = .ok (.lreturn, 1) := by decide +kernel
theorem dX11_takings_16 : decode cX11_takings 16 = .ok (.aload_n 0, 1) := by decide +kernel
theorem dX11_takings_17 : decode cX11_takings 17 = .ok (.iload_n 1, 1) := by decide +kernel
theorem dX11_takings_18 : decode cX11_takings 18 = .ok (.invokevirtual 348, 3) := by decide +kernel
theorem dX11_takings_21 : decode cX11_takings 21 = .ok (.aload_n 0, 1) := by decide +kernel
theorem dX11_takings_22 : decode cX11_takings 22 = .ok (.iconst 3, 1) := by decide +kernel
theorem dX11_takings_23 : decode cX11_takings 23 = .ok (.iload_n 2, 1) := by decide +kernel
theorem dX11_takings_24 : decode cX11_takings 24 = .ok (.iload_n 3, 1) := by decide +kernel
theorem dX11_takings_25 : decode cX11_takings 25 = .ok (.iload 4, 2) := by decide +kernel
theorem dX11_takings_27 : decode cX11_takings 27 = .ok (.invokevirtual 322, 3) := by decide +kernel
theorem dX11_takings_30 : decode cX11_takings 30 = .ok (.lreturn, 1) := by decide +kernel
theorem dX11_unlike_0 : decode cX11_unlike 0 = .ok (.aload_n 0, 1) := by decide +kernel
theorem dX11_unlike_1 : decode cX11_unlike 1 = .ok (.iload_n 1, 1) := by decide +kernel
theorem dX11_unlike_2 : decode cX11_unlike 2 = .ok (.iload_n 2, 1) := by decide +kernel
theorem dX11_unlike_3 : decode cX11_unlike 3 = .ok (.iload_n 3, 1) := by decide +kernel
theorem dX11_unlike_4 : decode cX11_unlike 4 = .ok (.iconst 0, 1) := by decide +kernel
theorem dX11_unlike_5 : decode cX11_unlike 5 = .ok (.invokevirtual 341, 3) := by decide +kernel
theorem dX11_unlike_8 : decode cX11_unlike 8 = .ok (.ifCond .ne 5, 3) := by decide +kernel
theorem dX11_unlike_11 : decode cX11_unlike 11 = .ok (.iconst (-1), 1) := by decide +kernel
theorem dX11_unlike_12 : decode cX11_unlike 12 = .ok (.ireturn, 1) := by decide +kernel
theorem dX11_unlike_13 : decode cX11_unlike 13 = .ok (.aload_n 0, 1) := by decide +kernel
theorem dX11_unlike_14 : decode cX11_unlike 14 = .ok (.iload_n 1, 1) := by decide +kernel
theorem dX11_unlike_15 : decode cX11_unlike 15 = .ok (.invokevirtual 348, 3) := by decide +kernel
theorem dX11_unlike_18 : decode cX11_unlike 18 = .ok (.iconst 0, 1) := by decide +kernel
theorem dX11_unlike_19 : decode cX11_unlike 19 = .ok (.istore 4, 2) := by decide +kernel
theorem dX11_unlike_21 : decode cX11_unlike 21 = .ok (.iload 4, 2) := by decide +kernel
theorem dX11_unlike_23 : decode cX11_unlike 23 = .ok (.bipush 41, 2) := by decide +kernel
theorem dX11_unlike_25 : decode cX11_unlike 25 = .ok (.if_icmp .ge 33, 3) := by decide +kernel
theorem dX11_unlike_28 : decode cX11_unlike 28 = .ok (.aload_n 0, 1) := by decide +kernel
theorem dX11_unlike_29 : decode cX11_unlike 29 = .ok (.iconst 1, 1) := by decide +kernel
theorem dX11_unlike_30 : decode cX11_unlike 30 = .ok (.iload_n 2, 1) := by decide +kernel
theorem dX11_unlike_31 : decode cX11_unlike 31 = .ok (.iload_n 3, 1) := by decide +kernel
theorem dX11_unlike_32 : decode cX11_unlike 32 = .ok (.iload 4, 2) := by decide +kernel
theorem dX11_unlike_34 : decode cX11_unlike 34 = .ok (.invokevirtual 319, 3) := by decide +kernel
theorem dX11_unlike_37 : decode cX11_unlike 37 = .ok (.aload_n 0, 1) := by decide +kernel
theorem dX11_unlike_38 : decode cX11_unlike 38 = .ok (.iconst 2, 1) := by decide +kernel
theorem dX11_unlike_39 : decode cX11_unlike 39 = .ok (.iload_n 2, 1) := by decide +kernel
theorem dX11_unlike_40 : decode cX11_unlike 40 = .ok (.iload_n 3, 1) := by decide +kernel
theorem dX11_unlike_41 : decode cX11_unlike 41 = .ok (.iload 4, 2) := by decide +kernel
theorem dX11_unlike_43 : decode cX11_unlike 43 = .ok (.invokevirtual 319, 3) := by decide +kernel
theorem dX11_unlike_46 : decode cX11_unlike 46 = .ok (.if_icmp .eq 6, 3) := by decide +kernel
theorem dX11_unlike_49 : decode cX11_unlike 49 = .ok (.iload 4, 2) := by decide +kernel
theorem dX11_unlike_51 : decode cX11_unlike 51 = .ok (.ireturn, 1) := by decide +kernel
theorem dX11_unlike_52 : decode cX11_unlike 52 = .ok (.iinc 4 1, 3) := by decide +kernel
theorem dX11_unlike_55 : decode cX11_unlike 55 = .ok (.goto (-34), 3) := by decide +kernel
theorem dX11_unlike_58 : decode cX11_unlike 58 = .ok (.iconst (-1), 1) := by decide +kernel
theorem dX11_unlike_59 : decode cX11_unlike 59 = .ok (.ireturn, 1) := by decide +kernel
theorem dX11_isStill_0 : decode cX11_isStill 0 = .ok (.iconst 0, 1) := by decide +kernel
theorem dX11_isStill_1 : decode cX11_isStill 1 = .ok (.istore_n 3, 1) := by decide +kernel
theorem dX11_isStill_2 : decode cX11_isStill 2 = .ok (.iload_n 3, 1) := by decide +kernel
theorem dX11_isStill_3 : decode cX11_isStill 3 = .ok (.aload_n 0, 1) := by decide +kernel
theorem dX11_isStill_4 : decode cX11_isStill 4 = .ok (.getfield 13, 3) := by decide +kernel
theorem dX11_isStill_7 : decode cX11_isStill 7 = .ok (.aload_n 0, 1) := by decide +kernel
theorem dX11_isStill_8 : decode cX11_isStill 8 = .ok (.getfield 278, 3) := by decide +kernel
theorem dX11_isStill_11 : decode cX11_isStill 11 = .ok (.iaload, 1) := by decide +kernel
theorem dX11_isStill_12 : decode cX11_isStill 12 = .ok (.if_icmp .ge 50, 3) := by decide +kernel
theorem dX11_isStill_15 : decode cX11_isStill 15 = .ok (.iconst 0, 1) := by decide +kernel
theorem dX11_isStill_16 : decode cX11_isStill 16 = .ok (.istore 4, 2) := by decide +kernel
theorem dX11_isStill_18 : decode cX11_isStill 18 = .ok (.iload 4, 2) := by decide +kernel
theorem dX11_isStill_20 : decode cX11_isStill 20 = .ok (.bipush 41, 2) := by decide +kernel
theorem dX11_isStill_22 : decode cX11_isStill 22 = .ok (.if_icmp .ge 34, 3) := by decide +kernel
theorem dX11_isStill_25 : decode cX11_isStill 25 = .ok (.aload_n 0, 1) := by decide +kernel
theorem dX11_isStill_26 : decode cX11_isStill 26 = .ok (.iload_n 1, 1) := by decide +kernel
theorem dX11_isStill_27 : decode cX11_isStill 27 = .ok (.iload_n 2, 1) := by decide +kernel
theorem dX11_isStill_28 : decode cX11_isStill 28 = .ok (.iload_n 3, 1) := by decide +kernel
theorem dX11_isStill_29 : decode cX11_isStill 29 = .ok (.iload 4, 2) := by decide +kernel
theorem dX11_isStill_31 : decode cX11_isStill 31 = .ok (.invokevirtual 319, 3) := by decide +kernel
theorem dX11_isStill_34 : decode cX11_isStill 34 = .ok (.aload_n 0, 1) := by decide +kernel
theorem dX11_isStill_35 : decode cX11_isStill 35 = .ok (.iload_n 1, 1) := by decide +kernel
theorem dX11_isStill_36 : decode cX11_isStill 36 = .ok (.iload_n 2, 1) := by decide +kernel
theorem dX11_isStill_37 : decode cX11_isStill 37 = .ok (.iconst 1, 1) := by decide +kernel
theorem dX11_isStill_38 : decode cX11_isStill 38 = .ok (.iadd, 1) := by decide +kernel
theorem dX11_isStill_39 : decode cX11_isStill 39 = .ok (.iload_n 3, 1) := by decide +kernel
theorem dX11_isStill_40 : decode cX11_isStill 40 = .ok (.iload 4, 2) := by decide +kernel
theorem dX11_isStill_42 : decode cX11_isStill 42 = .ok (.invokevirtual 319, 3) := by decide +kernel
theorem dX11_isStill_45 : decode cX11_isStill 45 = .ok (.if_icmp .eq 5, 3) := by decide +kernel
theorem dX11_isStill_48 : decode cX11_isStill 48 = .ok (.iconst 0, 1) := by decide +kernel
theorem dX11_isStill_49 : decode cX11_isStill 49 = .ok (.ireturn, 1) := by decide +kernel
theorem dX11_isStill_50 : decode cX11_isStill 50 = .ok (.iinc 4 1, 3) := by decide +kernel
theorem dX11_isStill_53 : decode cX11_isStill 53 = .ok (.goto (-35), 3) := by decide +kernel
theorem dX11_isStill_56 : decode cX11_isStill 56 = .ok (.iinc 3 1, 3) := by decide +kernel
theorem dX11_isStill_59 : decode cX11_isStill 59 = .ok (.goto (-57), 3) := by decide +kernel
theorem dX11_isStill_62 : decode cX11_isStill 62 = .ok (.iconst 1, 1) := by decide +kernel
theorem dX11_isStill_63 : decode cX11_isStill 63 = .ok (.ireturn, 1) := by decide +kernel
