/-! decode -/
theorem dX1_init_0 : decode cX1_init 0 = .ok (.aload_n 0, 1) := by decide +kernel
theorem dX1_init_1 : decode cX1_init 1 = .ok (.aload_n 1, 1) := by decide +kernel
theorem dX1_init_2 : decode cX1_init 2 = .ok (.invokespecial 3, 3) := by decide +kernel
theorem dX1_init_5 : decode cX1_init 5 = .ok (.aload_n 0, 1) := by decide +kernel
theorem dX1_init_6 : decode cX1_init 6 = .ok (.bipush 100, 2) := by decide +kernel
theorem dX1_init_8 : decode cX1_init 8 = .ok (.newarray .int, 2) := by decide +kernel
theorem dX1_init_10 : decode cX1_init 10 = .ok (.putfield 9, 3) := by decide +kernel
theorem dX1_init_13 : decode cX1_init 13 = .ok (.aload_n 0, 1) := by decide +kernel
theorem dX1_init_14 : decode cX1_init 14 = .ok (.iconst 4, 1) := by decide +kernel
theorem dX1_init_15 : decode cX1_init 15 = .ok (.newarray .int, 2) := by decide +kernel
theorem dX1_init_17 : decode cX1_init 17 = .ok (.putfield 15, 3) := by decide +kernel
theorem dX1_init_20 : decode cX1_init 20 = .ok (.aload_n 0, 1) := by decide +kernel
theorem dX1_init_21 : decode cX1_init 21 = .ok (.iconst 4, 1) := by decide +kernel
theorem dX1_init_22 : decode cX1_init 22 = .ok (.newarray .int, 2) := by decide +kernel
theorem dX1_init_24 : decode cX1_init 24 = .ok (.putfield 18, 3) := by decide +kernel
theorem dX1_init_27 : decode cX1_init 27 = .ok (.aload_n 0, 1) := by decide +kernel
theorem dX1_init_28 : decode cX1_init 28 = .ok (.bipush 16, 2) := by decide +kernel
theorem dX1_init_30 : decode cX1_init 30 = .ok (.newarray .int, 2) := by decide +kernel
theorem dX1_init_32 : decode cX1_init 32 = .ok (.putfield 21, 3) := by decide +kernel
theorem dX1_init_35 : decode cX1_init 35 = .ok (.aload_n 0, 1) := by decide +kernel
theorem dX1_init_36 : decode cX1_init 36 = .ok (.bipush 16, 2) := by decide +kernel
theorem dX1_init_38 : decode cX1_init 38 = .ok (.newarray .int, 2) := by decide +kernel
theorem dX1_init_40 : decode cX1_init 40 = .ok (.putfield 24, 3) := by decide +kernel
theorem dX1_init_43 : decode cX1_init 43 = .ok (.return_, 1) := by decide +kernel
theorem dX1_findFault_0 : decode cX1_findFault 0 = .ok (.aload_n 0, 1) := by decide +kernel
theorem dX1_findFault_1 : decode cX1_findFault 1 = .ok (.invokevirtual 27, 3) := by decide +kernel
theorem dX1_findFault_4 : decode cX1_findFault 4 = .ok (.aload_n 0, 1) := by decide +kernel
theorem dX1_findFault_5 : decode cX1_findFault 5 = .ok (.invokevirtual 31, 3) := by decide +kernel
theorem dX1_findFault_8 : decode cX1_findFault 8 = .ok (.aload_n 0, 1) := by decide +kernel
theorem dX1_findFault_9 : decode cX1_findFault 9 = .ok (.bipush 121, 2) := by decide +kernel
theorem dX1_findFault_11 : decode cX1_findFault 11 = .ok (.invokevirtual 34, 3) := by decide +kernel
theorem dX1_findFault_14 : decode cX1_findFault 14 = .ok (.ifCond .eq 14, 3) := by decide +kernel
theorem dX1_findFault_17 : decode cX1_findFault 17 = .ok (.aload_n 0, 1) := by decide +kernel
theorem dX1_findFault_18 : decode cX1_findFault 18 = .ok (.invokevirtual 38, 3) := by decide +kernel
theorem dX1_findFault_21 : decode cX1_findFault 21 = .ok (.ifCond .eq 7, 3) := by decide +kernel
theorem dX1_findFault_24 : decode cX1_findFault 24 = .ok (.iconst 1, 1) := by decide +kernel
theorem dX1_findFault_25 : decode cX1_findFault 25 = .ok (.goto 4, 3) := by decide +kernel
theorem dX1_findFault_28 : decode cX1_findFault 28 = .ok (.iconst 0, 1) := by decide +kernel
theorem dX1_findFault_29 : decode cX1_findFault 29 = .ok (.istore_n 1, 1) := by decide +kernel
theorem dX1_findFault_30 : decode cX1_findFault 30 = .ok (.iconst 0, 1) := by decide +kernel
theorem dX1_findFault_31 : decode cX1_findFault 31 = .ok (.istore_n 2, 1) := by decide +kernel
theorem dX1_findFault_32 : decode cX1_findFault 32 = .ok (.iload_n 2, 1) := by decide +kernel
theorem dX1_findFault_33 : decode cX1_findFault 33 = .ok (.sipush 240, 3) := by decide +kernel
theorem dX1_findFault_36 : decode cX1_findFault 36 = .ok (.if_icmp .ge 27, 3) := by decide +kernel
theorem dX1_findFault_39 : decode cX1_findFault 39 = .ok (.iload_n 1, 1) := by decide +kernel
theorem dX1_findFault_40 : decode cX1_findFault 40 = .ok (.ifCond .eq 23, 3) := by decide +kernel
theorem dX1_findFault_43 : decode cX1_findFault 43 = .ok (.aload_n 0, 1) := by decide +kernel
theorem dX1_findFault_44 : decode cX1_findFault 44 = .ok (.bipush 59, 2) := by decide +kernel
theorem dX1_findFault_46 : decode cX1_findFault 46 = .ok (.invokevirtual 42, 3) := by decide +kernel
theorem dX1_findFault_49 : decode cX1_findFault 49 = .ok (.ifCond .eq 14, 3) := by decide +kernel
theorem dX1_findFault_52 : decode cX1_findFault 52 = .ok (.aload_n 0, 1) := by decide +kernel
theorem dX1_findFault_53 : decode cX1_findFault 53 = .ok (.invokevirtual 45, 3) := by decide +kernel
theorem dX1_findFault_56 : decode cX1_findFault 56 = .ok (.istore_n 1, 1) := by decide +kernel
theorem dX1_findFault_57 : decode cX1_findFault 57 = .ok (.iinc 2 1, 3) := by decide +kernel
theorem dX1_findFault_60 : decode cX1_findFault 60 = .ok (.goto (-28), 3) := by decide +kernel
theorem dX1_findFault_63 : decode cX1_findFault 63 = .ok (.aload_n 0, 1) := by decide +kernel
theorem dX1_findFault_64 : decode cX1_findFault 64 = .ok (.invokevirtual 48, 3) := by decide +kernel
theorem dX1_findFault_67 : decode cX1_findFault 67 = .ok (.ireturn, 1) := by decide +kernel
theorem dX1_clearDraft_0 : decode cX1_clearDraft 0 = .ok (.aload_n 0, 1) := by decide +kernel
theorem dX1_clearDraft_1 : decode cX1_clearDraft 1 = .ok (.getfield 9, 3) := by decide +kernel
theorem dX1_clearDraft_4 : decode cX1_clearDraft 4 = .ok (.iconst 0, 1) := by decide +kernel
theorem dX1_clearDraft_5 : decode cX1_clearDraft 5 = .ok (.invokestatic 52, 3) := by decide +kernel
theorem dX1_clearDraft_8 : decode cX1_clearDraft 8 = .ok (.aload_n 0, 1) := by decide +kernel
theorem dX1_clearDraft_9 : decode cX1_clearDraft 9 = .ok (.getfield 15, 3) := by decide +kernel
theorem dX1_clearDraft_12 : decode cX1_clearDraft 12 = .ok (.iconst 0, 1) := by decide +kernel
theorem dX1_clearDraft_13 : decode cX1_clearDraft 13 = .ok (.invokestatic 52, 3) := by decide +kernel
theorem dX1_clearDraft_16 : decode cX1_clearDraft 16 = .ok (.aload_n 0, 1) := by decide +kernel
theorem dX1_clearDraft_17 : decode cX1_clearDraft 17 = .ok (.getfield 18, 3) := by decide +kernel
theorem dX1_clearDraft_20 : decode cX1_clearDraft 20 = .ok (.iconst 0, 1) := by decide +kernel
theorem dX1_clearDraft_21 : decode cX1_clearDraft 21 = .ok (.invokestatic 52, 3) := by decide +kernel
theorem dX1_clearDraft_24 : decode cX1_clearDraft 24 = .ok (.aload_n 0, 1) := by decide +kernel
theorem dX1_clearDraft_25 : decode cX1_clearDraft 25 = .ok (.iconst 0, 1) := by decide +kernel
theorem dX1_clearDraft_26 : decode cX1_clearDraft 26 = .ok (.putfield 58, 3) := by decide +kernel
theorem dX1_clearDraft_29 : decode cX1_clearDraft 29 = .ok (.aload_n 0, 1) := by decide +kernel
theorem dX1_clearDraft_30 : decode cX1_clearDraft 30 = .ok (.iconst 0, 1) := by decide +kernel
theorem dX1_clearDraft_31 : decode cX1_clearDraft 31 = .ok (.putfield 62, 3) := by decide +kernel
theorem dX1_clearDraft_34 : decode cX1_clearDraft 34 = .ok (.aload_n 0, 1) := by decide +kernel
theorem dX1_clearDraft_35 : decode cX1_clearDraft 35 = .ok (.iconst 0, 1) := by decide +kernel
theorem dX1_clearDraft_36 : decode cX1_clearDraft 36 = .ok (.putfield 65, 3) := by decide +kernel
theorem dX1_clearDraft_39 : decode cX1_clearDraft 39 = .ok (.aload_n 0, 1) := by decide +kernel
theorem dX1_clearDraft_40 : decode cX1_clearDraft 40 = .ok (.iconst 0, 1) := by decide +kernel
theorem dX1_clearDraft_41 : decode cX1_clearDraft 41 = .ok (.putfield 68, 3) := by decide +kernel
theorem dX1_clearDraft_44 : decode cX1_clearDraft 44 = .ok (.aload_n 0, 1) := by decide +kernel
theorem dX1_clearDraft_45 : decode cX1_clearDraft 45 = .ok (.bipush 20, 2) := by decide +kernel
theorem dX1_clearDraft_47 : decode cX1_clearDraft 47 = .ok (.putfield 71, 3) := by decide +kernel
theorem dX1_clearDraft_50 : decode cX1_clearDraft 50 = .ok (.aload_n 0, 1) := by decide +kernel
theorem dX1_clearDraft_51 : decode cX1_clearDraft 51 = .ok (.iconst 0, 1) := by decide +kernel
theorem dX1_clearDraft_52 : decode cX1_clearDraft 52 = .ok (.putfield 74, 3) := by decide +kernel
theorem dX1_clearDraft_55 : decode cX1_clearDraft 55 = .ok (.return_, 1) := by decide +kernel
theorem dX1_readsStatement_0 : decode cX1_readsStatement 0 = .ok (.aload_n 0, 1) := by decide +kernel
theorem dX1_readsStatement_1 : decode cX1_readsStatement 1 = .ok (.bipush 119, 2) := by decide +kernel
theorem dX1_readsStatement_3 : decode cX1_readsStatement 3 = .ok (.invokevirtual 42, 3) := by decide +kernel
theorem dX1_readsStatement_6 : decode cX1_readsStatement 6 = .ok (.ifCond .eq 8, 3) := by decide +kernel
theorem dX1_readsStatement_9 : decode cX1_readsStatement 9 = .ok (.aload_n 0, 1) := by decide +kernel
theorem dX1_readsStatement_10 : decode cX1_readsStatement 10 = .ok (.invokevirtual 77, 3) := by decide +kernel
theorem dX1_readsStatement_13 : decode cX1_readsStatement 13 = .ok (.ireturn, 1) := by decide +kernel
theorem dX1_readsStatement_14 : decode cX1_readsStatement 14 = .ok (.aload_n 0, 1) := by decide +kernel
theorem dX1_readsStatement_15 : decode cX1_readsStatement 15 = .ok (.bipush 104, 2) := by decide +kernel
theorem dX1_readsStatement_17 : decode cX1_readsStatement 17 = .ok (.invokevirtual 42, 3) := by decide +kernel
theorem dX1_readsStatement_20 : decode cX1_readsStatement 20 = .ok (.ifCond .eq 8, 3) := by decide +kernel
theorem dX1_readsStatement_23 : decode cX1_readsStatement 23 = .ok (.aload_n 0, 1) := by decide +kernel
theorem dX1_readsStatement_24 : decode cX1_readsStatement 24 = .ok (.invokevirtual 80, 3) := by decide +kernel
theorem dX1_readsStatement_27 : decode cX1_readsStatement 27 = .ok (.ireturn, 1) := by decide +kernel
theorem dX1_readsStatement_28 : decode cX1_readsStatement 28 = .ok (.aload_n 0, 1) := by decide +kernel
theorem dX1_readsStatement_29 : decode cX1_readsStatement 29 = .ok (.bipush 99, 2) := by decide +kernel
theorem dX1_readsStatement_31 : decode cX1_readsStatement 31 = .ok (.invokevirtual 42, 3) := by decide +kernel
theorem dX1_readsStatement_34 : decode cX1_readsStatement 34 = .ok (.ifCond .eq 8, 3) := by decide +kernel
theorem dX1_readsStatement_37 : decode cX1_readsStatement 37 = .ok (.aload_n 0, 1) := by decide +kernel
theorem dX1_readsStatement_38 : decode cX1_readsStatement 38 = .ok (.invokevirtual 83, 3) := by decide +kernel
theorem dX1_readsStatement_41 : decode cX1_readsStatement 41 = .ok (.ireturn, 1) := by decide +kernel
theorem dX1_readsStatement_42 : decode cX1_readsStatement 42 = .ok (.aload_n 0, 1) := by decide +kernel
theorem dX1_readsStatement_43 : decode cX1_readsStatement 43 = .ok (.bipush 109, 2) := by decide +kernel
theorem dX1_readsStatement_45 : decode cX1_readsStatement 45 = .ok (.invokevirtual 42, 3) := by decide +kernel
theorem dX1_readsStatement_48 : decode cX1_readsStatement 48 = .ok (.ifCond .eq 8, 3) := by decide +kernel
theorem dX1_readsStatement_51 : decode cX1_readsStatement 51 = .ok (.aload_n 0, 1) := by decide +kernel
theorem dX1_readsStatement_52 : decode cX1_readsStatement 52 = .ok (.invokevirtual 86, 3) := by decide +kernel
theorem dX1_readsStatement_55 : decode cX1_readsStatement 55 = .ok (.ireturn, 1) := by decide +kernel
theorem dX1_readsStatement_56 : decode cX1_readsStatement 56 = .ok (.aload_n 0, 1) := by decide +kernel
theorem dX1_readsStatement_57 : decode cX1_readsStatement 57 = .ok (.bipush 114, 2) := by decide +kernel
theorem dX1_readsStatement_59 : decode cX1_readsStatement 59 = .ok (.invokevirtual 34, 3) := by decide +kernel
theorem dX1_readsStatement_62 : decode cX1_readsStatement 62 = .ok (.ifCond .eq 14, 3) := by decide +kernel
theorem dX1_readsStatement_65 : decode cX1_readsStatement 65 = .ok (.aload_n 0, 1) := by decide +kernel
theorem dX1_readsStatement_66 : decode cX1_readsStatement 66 = .ok (.invokevirtual 89, 3) := by decide +kernel
theorem dX1_readsStatement_69 : decode cX1_readsStatement 69 = .ok (.ifCond .eq 7, 3) := by decide +kernel
theorem dX1_readsStatement_72 : decode cX1_readsStatement 72 = .ok (.iconst 1, 1) := by decide +kernel
theorem dX1_readsStatement_73 : decode cX1_readsStatement 73 = .ok (.goto 4, 3) := by decide +kernel
theorem dX1_readsStatement_76 : decode cX1_readsStatement 76 = .ok (.iconst 0, 1) := by decide +kernel
theorem dX1_readsStatement_77 : decode cX1_readsStatement 77 = .ok (.ireturn, 1) := by decide +kernel
theorem dX1_readsYear_0 : decode cX1_readsYear 0 = .ok (.aload_n 0, 1) := by decide +kernel
theorem dX1_readsYear_1 : decode cX1_readsYear 1 = .ok (.iconst 1, 1) := by decide +kernel
theorem dX1_readsYear_2 : decode cX1_readsYear 2 = .ok (.iconst 4, 1) := by decide +kernel
theorem dX1_readsYear_3 : decode cX1_readsYear 3 = .ok (.invokevirtual 92, 3) := by decide +kernel
theorem dX1_readsYear_6 : decode cX1_readsYear 6 = .ok (.ifCond .ne 5, 3) := by decide +kernel
theorem dX1_readsYear_9 : decode cX1_readsYear 9 = .ok (.iconst 0, 1) := by decide +kernel
theorem dX1_readsYear_10 : decode cX1_readsYear 10 = .ok (.ireturn, 1) := by decide +kernel
theorem dX1_readsYear_11 : decode cX1_readsYear 11 = .ok (.aload_n 0, 1) := by decide +kernel
theorem dX1_readsYear_12 : decode cX1_readsYear 12 = .ok (.aload_n 0, 1) := by decide +kernel
theorem dX1_readsYear_13 : decode cX1_readsYear 13 = .ok (.getfield 96, 3) := by decide +kernel
theorem dX1_readsYear_16 : decode cX1_readsYear 16 = .ok (.putfield 58, 3) := by decide +kernel
theorem dX1_readsYear_19 : decode cX1_readsYear 19 = .ok (.iconst 1, 1) := by decide +kernel
theorem dX1_readsYear_20 : decode cX1_readsYear 20 = .ok (.ireturn, 1) := by decide +kernel
theorem dX1_readsEaters_0 : decode cX1_readsEaters 0 = .ok (.aload_n 0, 1) := by decide +kernel
theorem dX1_readsEaters_1 : decode cX1_readsEaters 1 = .ok (.dup, 1) := by decide +kernel
theorem dX1_readsEaters_2 : decode cX1_readsEaters 2 = .ok (.getfield 74, 3) := by decide +kernel
theorem dX1_readsEaters_5 : decode cX1_readsEaters 5 = .ok (.iconst 1, 1) := by decide +kernel
theorem dX1_readsEaters_6 : decode cX1_readsEaters 6 = .ok (.iadd, 1) := by decide +kernel
theorem dX1_readsEaters_7 : decode cX1_readsEaters 7 = .ok (.putfield 74, 3) := by decide +kernel
theorem dX1_readsEaters_10 : decode cX1_readsEaters 10 = .ok (.aload_n 0, 1) := by decide +kernel
theorem dX1_readsEaters_11 : decode cX1_readsEaters 11 = .ok (.getfield 74, 3) := by decide +kernel
theorem dX1_readsEaters_14 : decode cX1_readsEaters 14 = .ok (.bipush 20, 2) := by decide +kernel
theorem dX1_readsEaters_16 : decode cX1_readsEaters 16 = .ok (.if_icmp .le 14, 3) := by decide +kernel
theorem dX1_readsEaters_19 : decode cX1_readsEaters 19 = .ok (.aload_n 0, 1) := by decide +kernel
theorem dX1_readsEaters_20 : decode cX1_readsEaters 20 = .ok (.aload_n 0, 1) := by decide +kernel
theorem dX1_readsEaters_21 : decode cX1_readsEaters 21 = .ok (.getfield 99, 3) := by decide +kernel
theorem dX1_readsEaters_24 : decode cX1_readsEaters 24 = .ok (.iconst 1, 1) := by decide +kernel
theorem dX1_readsEaters_25 : decode cX1_readsEaters 25 = .ok (.isub, 1) := by decide +kernel
theorem dX1_readsEaters_26 : decode cX1_readsEaters 26 = .ok (.invokevirtual 102, 3) := by decide +kernel
theorem dX1_readsEaters_29 : decode cX1_readsEaters 29 = .ok (.ireturn, 1) := by decide +kernel
theorem dX1_readsEaters_30 : decode cX1_readsEaters 30 = .ok (.aload_n 0, 1) := by decide +kernel
theorem dX1_readsEaters_31 : decode cX1_readsEaters 31 = .ok (.iconst 1, 1) := by decide +kernel
theorem dX1_readsEaters_32 : decode cX1_readsEaters 32 = .ok (.bipush 99, 2) := by decide +kernel
theorem dX1_readsEaters_34 : decode cX1_readsEaters 34 = .ok (.invokevirtual 92, 3) := by decide +kernel
theorem dX1_readsEaters_37 : decode cX1_readsEaters 37 = .ok (.ifCond .ne 5, 3) := by decide +kernel
theorem dX1_readsEaters_40 : decode cX1_readsEaters 40 = .ok (.iconst 0, 1) := by decide +kernel
theorem dX1_readsEaters_41 : decode cX1_readsEaters 41 = .ok (.ireturn, 1) := by decide +kernel
theorem dX1_readsEaters_42 : decode cX1_readsEaters 42 = .ok (.aload_n 0, 1) := by decide +kernel
theorem dX1_readsEaters_43 : decode cX1_readsEaters 43 = .ok (.getfield 96, 3) := by decide +kernel
theorem dX1_readsEaters_46 : decode cX1_readsEaters 46 = .ok (.istore_n 1, 1) := by decide +kernel
theorem dX1_readsEaters_47 : decode cX1_readsEaters 47 = .ok (.aload_n 0, 1) := by decide +kernel
theorem dX1_readsEaters_48 : decode cX1_readsEaters 48 = .ok (.iconst 1, 1) := by decide +kernel
theorem dX1_readsEaters_49 : decode cX1_readsEaters 49 = .ok (.bipush 9, 2) := by decide +kernel
theorem dX1_readsEaters_51 : decode cX1_readsEaters 51 = .ok (.invokevirtual 92, 3) := by decide +kernel
theorem dX1_readsEaters_54 : decode cX1_readsEaters 54 = .ok (.ifCond .ne 5, 3) := by decide +kernel
theorem dX1_readsEaters_57 : decode cX1_readsEaters 57 = .ok (.iconst 0, 1) := by decide +kernel
theorem dX1_readsEaters_58 : decode cX1_readsEaters 58 = .ok (.ireturn, 1) := by decide +kernel
theorem dX1_readsEaters_59 : decode cX1_readsEaters 59 = .ok (.aload_n 0, 1) := by decide +kernel
theorem dX1_readsEaters_60 : decode cX1_readsEaters 60 = .ok (.getfield 9, 3) := by decide +kernel
theorem dX1_readsEaters_63 : decode cX1_readsEaters 63 = .ok (.iload_n 1, 1) := by decide +kernel
theorem dX1_readsEaters_64 : decode cX1_readsEaters 64 = .ok (.dup2, 1) := by decide +kernel
theorem dX1_readsEaters_65 : decode cX1_readsEaters 65 = .ok (.iaload, 1) := by decide +kernel
theorem dX1_readsEaters_66 : decode cX1_readsEaters 66 = .ok (.aload_n 0, 1) := by decide +kernel
theorem dX1_readsEaters_67 : decode cX1_readsEaters 67 = .ok (.getfield 96, 3) := by decide +kernel
theorem dX1_readsEaters_70 : decode cX1_readsEaters 70 = .ok (.iadd, 1) := by decide +kernel
theorem dX1_readsEaters_71 : decode cX1_readsEaters 71 = .ok (.iastore, 1) := by decide +kernel
theorem dX1_readsEaters_72 : decode cX1_readsEaters 72 = .ok (.aload_n 0, 1) := by decide +kernel
theorem dX1_readsEaters_73 : decode cX1_readsEaters 73 = .ok (.dup, 1) := by decide +kernel
theorem dX1_readsEaters_74 : decode cX1_readsEaters 74 = .ok (.getfield 62, 3) := by decide +kernel
theorem dX1_readsEaters_77 : decode cX1_readsEaters 77 = .ok (.aload_n 0, 1) := by decide +kernel
theorem dX1_readsEaters_78 : decode cX1_readsEaters 78 = .ok (.getfield 96, 3) := by decide +kernel
theorem dX1_readsEaters_81 : decode cX1_readsEaters 81 = .ok (.iadd, 1) := by decide +kernel
theorem dX1_readsEaters_82 : decode cX1_readsEaters 82 = .ok (.putfield 62, 3) := by decide +kernel
theorem dX1_readsEaters_85 : decode cX1_readsEaters 85 = .ok (.iconst 1, 1) := by decide +kernel
theorem dX1_readsEaters_86 : decode cX1_readsEaters 86 = .ok (.ireturn, 1) := by decide +kernel
theorem dX1_readsHarvest_0 : decode cX1_readsHarvest 0 = .ok (.aload_n 0, 1) := by decide +kernel
theorem dX1_readsHarvest_1 : decode cX1_readsHarvest 1 = .ok (.iconst 0, 1) := by decide +kernel
theorem dX1_readsHarvest_2 : decode cX1_readsHarvest 2 = .ok (.aload_n 0, 1) := by decide +kernel
theorem dX1_readsHarvest_3 : decode cX1_readsHarvest 3 = .ok (.getfield 58, 3) := by decide +kernel
theorem dX1_readsHarvest_6 : decode cX1_readsHarvest 6 = .ok (.iconst 1, 1) := by decide +kernel
theorem dX1_readsHarvest_7 : decode cX1_readsHarvest 7 = .ok (.isub, 1) := by decide +kernel
theorem dX1_readsHarvest_8 : decode cX1_readsHarvest 8 = .ok (.invokevirtual 92, 3) := by decide +kernel
theorem dX1_readsHarvest_11 : decode cX1_readsHarvest 11 = .ok (.ifCond .ne 5, 3) := by decide +kernel
theorem dX1_readsHarvest_14 : decode cX1_readsHarvest 14 = .ok (.iconst 0, 1) := by decide +kernel
theorem dX1_readsHarvest_15 : decode cX1_readsHarvest 15 = .ok (.ireturn, 1) := by decide +kernel
theorem dX1_readsHarvest_16 : decode cX1_readsHarvest 16 = .ok (.aload_n 0, 1) := by decide +kernel
theorem dX1_readsHarvest_17 : decode cX1_readsHarvest 17 = .ok (.getfield 96, 3) := by decide +kernel
theorem dX1_readsHarvest_20 : decode cX1_readsHarvest 20 = .ok (.istore_n 1, 1) := by decide +kernel
theorem dX1_readsHarvest_21 : decode cX1_readsHarvest 21 = .ok (.aload_n 0, 1) := by decide +kernel
theorem dX1_readsHarvest_22 : decode cX1_readsHarvest 22 = .ok (.getfield 15, 3) := by decide +kernel
theorem dX1_readsHarvest_25 : decode cX1_readsHarvest 25 = .ok (.iload_n 1, 1) := by decide +kernel
theorem dX1_readsHarvest_26 : decode cX1_readsHarvest 26 = .ok (.iaload, 1) := by decide +kernel
theorem dX1_readsHarvest_27 : decode cX1_readsHarvest 27 = .ok (.iconst 4, 1) := by decide +kernel
theorem dX1_readsHarvest_28 : decode cX1_readsHarvest 28 = .ok (.if_icmp .lt 14, 3) := by decide +kernel
theorem dX1_readsHarvest_31 : decode cX1_readsHarvest 31 = .ok (.aload_n 0, 1) := by decide +kernel
theorem dX1_readsHarvest_32 : decode cX1_readsHarvest 32 = .ok (.aload_n 0, 1) := by decide +kernel
theorem dX1_readsHarvest_33 : decode cX1_readsHarvest 33 = .ok (.getfield 99, 3) := by decide +kernel
theorem dX1_readsHarvest_36 : decode cX1_readsHarvest 36 = .ok (.iconst 1, 1) := by decide +kernel
theorem dX1_readsHarvest_37 : decode cX1_readsHarvest 37 = .ok (.isub, 1) := by decide +kernel
theorem dX1_readsHarvest_38 : decode cX1_readsHarvest 38 = .ok (.invokevirtual 102, 3) := by decide +kernel
theorem dX1_readsHarvest_41 : decode cX1_readsHarvest 41 = .ok (.ireturn, 1) := by decide +kernel
theorem dX1_readsHarvest_42 : decode cX1_readsHarvest 42 = .ok (.aload_n 0, 1) := by decide +kernel
theorem dX1_readsHarvest_43 : decode cX1_readsHarvest 43 = .ok (.iconst 0, 1) := by decide +kernel
theorem dX1_readsHarvest_44 : decode cX1_readsHarvest 44 = .ok (.bipush 20, 2) := by decide +kernel
theorem dX1_readsHarvest_46 : decode cX1_readsHarvest 46 = .ok (.invokevirtual 92, 3) := by decide +kernel
theorem dX1_readsHarvest_49 : decode cX1_readsHarvest 49 = .ok (.ifCond .ne 5, 3) := by decide +kernel
theorem dX1_readsHarvest_52 : decode cX1_readsHarvest 52 = .ok (.iconst 0, 1) := by decide +kernel
theorem dX1_readsHarvest_53 : decode cX1_readsHarvest 53 = .ok (.ireturn, 1) := by decide +kernel
theorem dX1_readsHarvest_54 : decode cX1_readsHarvest 54 = .ok (.iload_n 1, 1) := by decide +kernel
theorem dX1_readsHarvest_55 : decode cX1_readsHarvest 55 = .ok (.iconst 4, 1) := by decide +kernel
theorem dX1_readsHarvest_56 : decode cX1_readsHarvest 56 = .ok (.imul, 1) := by decide +kernel
theorem dX1_readsHarvest_57 : decode cX1_readsHarvest 57 = .ok (.aload_n 0, 1) := by decide +kernel
theorem dX1_readsHarvest_58 : decode cX1_readsHarvest 58 = .ok (.getfield 15, 3) := by decide +kernel
theorem dX1_readsHarvest_61 : decode cX1_readsHarvest 61 = .ok (.iload_n 1, 1) := by decide +kernel
theorem dX1_readsHarvest_62 : decode cX1_readsHarvest 62 = .ok (.iaload, 1) := by decide +kernel
theorem dX1_readsHarvest_63 : decode cX1_readsHarvest 63 = .ok (.iadd, 1) := by decide +kernel
theorem dX1_readsHarvest_64 : decode cX1_readsHarvest 64 = .ok (.istore_n 2, 1) := by decide +kernel
theorem dX1_readsHarvest_65 : decode cX1_readsHarvest 65 = .ok (.aload_n 0, 1) := by decide +kernel
theorem dX1_readsHarvest_66 : decode cX1_readsHarvest 66 = .ok (.getfield 21, 3) := by decide +kernel
theorem dX1_readsHarvest_69 : decode cX1_readsHarvest 69 = .ok (.iload_n 2, 1) := by decide +kernel
theorem dX1_readsHarvest_70 : decode cX1_readsHarvest 70 = .ok (.aload_n 0, 1) := by decide +kernel
theorem dX1_readsHarvest_71 : decode cX1_readsHarvest 71 = .ok (.getfield 96, 3) := by decide +kernel
theorem dX1_readsHarvest_74 : decode cX1_readsHarvest 74 = .ok (.iastore, 1) := by decide +kernel
theorem dX1_readsHarvest_75 : decode cX1_readsHarvest 75 = .ok (.aload_n 0, 1) := by decide +kernel
theorem dX1_readsHarvest_76 : decode cX1_readsHarvest 76 = .ok (.iconst 1, 1) := by decide +kernel
theorem dX1_readsHarvest_77 : decode cX1_readsHarvest 77 = .ok (.bipush 9, 2) := by decide +kernel
theorem dX1_readsHarvest_79 : decode cX1_readsHarvest 79 = .ok (.bipush 12, 2) := by decide +kernel
theorem dX1_readsHarvest_81 : decode cX1_readsHarvest 81 = .ok (.aload_n 0, 1) := by decide +kernel
theorem dX1_readsHarvest_82 : decode cX1_readsHarvest 82 = .ok (.getfield 18, 3) := by decide +kernel
theorem dX1_readsHarvest_85 : decode cX1_readsHarvest 85 = .ok (.iload_n 1, 1) := by decide +kernel
theorem dX1_readsHarvest_86 : decode cX1_readsHarvest 86 = .ok (.iaload, 1) := by decide +kernel
theorem dX1_readsHarvest_87 : decode cX1_readsHarvest 87 = .ok (.isub, 1) := by decide +kernel
theorem dX1_readsHarvest_88 : decode cX1_readsHarvest 88 = .ok (.invokestatic 105, 3) := by decide +kernel
theorem dX1_readsHarvest_91 : decode cX1_readsHarvest 91 = .ok (.invokevirtual 92, 3) := by decide +kernel
theorem dX1_readsHarvest_94 : decode cX1_readsHarvest 94 = .ok (.ifCond .ne 5, 3) := by decide +kernel
theorem dX1_readsHarvest_97 : decode cX1_readsHarvest 97 = .ok (.iconst 0, 1) := by decide +kernel
theorem dX1_readsHarvest_98 : decode cX1_readsHarvest 98 = .ok (.ireturn, 1) := by decide +kernel
theorem dX1_readsHarvest_99 : decode cX1_readsHarvest 99 = .ok (.aload_n 0, 1) := by decide +kernel
theorem dX1_readsHarvest_100 : decode cX1_readsHarvest 100 = .ok (.getfield 24, 3) := by decide +kernel
theorem dX1_readsHarvest_103 : decode cX1_readsHarvest 103 = .ok (.iload_n 2, 1) := by decide +kernel
theorem dX1_readsHarvest_104 : decode cX1_readsHarvest 104 = .ok (.aload_n 0, 1) := by decide +kernel
theorem dX1_readsHarvest_105 : decode cX1_readsHarvest 105 = .ok (.getfield 96, 3) := by decide +kernel
theorem dX1_readsHarvest_108 : decode cX1_readsHarvest 108 = .ok (.iastore, 1) := by decide +kernel
theorem dX1_readsHarvest_109 : decode cX1_readsHarvest 109 = .ok (.aload_n 0, 1) := by decide +kernel
theorem dX1_readsHarvest_110 : decode cX1_readsHarvest 110 = .ok (.getfield 18, 3) := by decide +kernel
theorem dX1_readsHarvest_113 : decode cX1_readsHarvest 113 = .ok (.iload_n 1, 1) := by decide +kernel
theorem dX1_readsHarvest_114 : decode cX1_readsHarvest 114 = .ok (.dup2, 1) := by decide +kernel
theorem dX1_readsHarvest_115 : decode cX1_readsHarvest 115 = .ok (.iaload, 1) := by decide +kernel
theorem dX1_readsHarvest_116 : decode cX1_readsHarvest 116 = .ok (.aload_n 0, 1) := by decide +kernel
theorem dX1_readsHarvest_117 : decode cX1_readsHarvest 117 = .ok (.getfield 96, 3) := by decide +kernel
theorem dX1_readsHarvest_120 : decode cX1_readsHarvest 120 = .ok (.iadd, 1) := by decide +kernel
theorem dX1_readsHarvest_121 : decode cX1_readsHarvest 121 = .ok (.iastore, 1) := by decide +kernel
theorem dX1_readsHarvest_122 : decode cX1_readsHarvest 122 = .ok (.aload_n 0, 1) := by decide +kernel
theorem dX1_readsHarvest_123 : decode cX1_readsHarvest 123 = .ok (.getfield 15, 3) := by decide +kernel
theorem dX1_readsHarvest_126 : decode cX1_readsHarvest 126 = .ok (.iload_n 1, 1) := by decide +kernel
theorem dX1_readsHarvest_127 : decode cX1_readsHarvest 127 = .ok (.dup2, 1) := by decide +kernel
theorem dX1_readsHarvest_128 : decode cX1_readsHarvest 128 = .ok (.iaload, 1) := by decide +kernel
theorem dX1_readsHarvest_129 : decode cX1_readsHarvest 129 = .ok (.iconst 1, 1) := by decide +kernel
theorem dX1_readsHarvest_130 : decode cX1_readsHarvest 130 = .ok (.iadd, 1) := by decide +kernel
theorem dX1_readsHarvest_131 : decode cX1_readsHarvest 131 = .ok (.iastore, 1) := by decide +kernel
theorem dX1_readsHarvest_132 : decode cX1_readsHarvest 132 = .ok (.iconst 1, 1) := by decide +kernel
theorem dX1_readsHarvest_133 : decode cX1_readsHarvest 133 = .ok (.ireturn, 1) := by decide +kernel
theorem dX1_readsCost_0 : decode cX1_readsCost 0 = .ok (.aload_n 0, 1) := by decide +kernel
theorem dX1_readsCost_1 : decode cX1_readsCost 1 = .ok (.iconst 0, 1) := by decide +kernel
theorem dX1_readsCost_2 : decode cX1_readsCost 2 = .ok (.bipush 30, 2) := by decide +kernel
theorem dX1_readsCost_4 : decode cX1_readsCost 4 = .ok (.invokevirtual 92, 3) := by decide +kernel
theorem dX1_readsCost_7 : decode cX1_readsCost 7 = .ok (.ifCond .ne 5, 3) := by decide +kernel
theorem dX1_readsCost_10 : decode cX1_readsCost 10 = .ok (.iconst 0, 1) := by decide +kernel
theorem dX1_readsCost_11 : decode cX1_readsCost 11 = .ok (.ireturn, 1) := by decide +kernel
theorem dX1_readsCost_12 : decode cX1_readsCost 12 = .ok (.aload_n 0, 1) := by decide +kernel
theorem dX1_readsCost_13 : decode cX1_readsCost 13 = .ok (.aload_n 0, 1) := by decide +kernel
theorem dX1_readsCost_14 : decode cX1_readsCost 14 = .ok (.getfield 96, 3) := by decide +kernel
theorem dX1_readsCost_17 : decode cX1_readsCost 17 = .ok (.putfield 65, 3) := by decide +kernel
theorem dX1_readsCost_20 : decode cX1_readsCost 20 = .ok (.iconst 1, 1) := by decide +kernel
theorem dX1_readsCost_21 : decode cX1_readsCost 21 = .ok (.ireturn, 1) := by decide +kernel
theorem dX1_readsMice_0 : decode cX1_readsMice 0 = .ok (.aload_n 0, 1) := by decide +kernel
theorem dX1_readsMice_1 : decode cX1_readsMice 1 = .ok (.iconst 0, 1) := by decide +kernel
theorem dX1_readsMice_2 : decode cX1_readsMice 2 = .ok (.bipush 20, 2) := by decide +kernel
theorem dX1_readsMice_4 : decode cX1_readsMice 4 = .ok (.invokevirtual 92, 3) := by decide +kernel
theorem dX1_readsMice_7 : decode cX1_readsMice 7 = .ok (.ifCond .ne 5, 3) := by decide +kernel
theorem dX1_readsMice_10 : decode cX1_readsMice 10 = .ok (.iconst 0, 1) := by decide +kernel
theorem dX1_readsMice_11 : decode cX1_readsMice 11 = .ok (.ireturn, 1) := by decide +kernel
theorem dX1_readsMice_12 : decode cX1_readsMice 12 = .ok (.aload_n 0, 1) := by decide +kernel
theorem dX1_readsMice_13 : decode cX1_readsMice 13 = .ok (.getfield 96, 3) := by decide +kernel
theorem dX1_readsMice_16 : decode cX1_readsMice 16 = .ok (.iconst 1, 1) := by decide +kernel
theorem dX1_readsMice_17 : decode cX1_readsMice 17 = .ok (.if_icmp .ne 14, 3) := by decide +kernel
theorem dX1_readsMice_20 : decode cX1_readsMice 20 = .ok (.aload_n 0, 1) := by decide +kernel
theorem dX1_readsMice_21 : decode cX1_readsMice 21 = .ok (.aload_n 0, 1) := by decide +kernel
theorem dX1_readsMice_22 : decode cX1_readsMice 22 = .ok (.getfield 99, 3) := by decide +kernel
theorem dX1_readsMice_25 : decode cX1_readsMice 25 = .ok (.iconst 1, 1) := by decide +kernel
theorem dX1_readsMice_26 : decode cX1_readsMice 26 = .ok (.isub, 1) := by decide +kernel
theorem dX1_readsMice_27 : decode cX1_readsMice 27 = .ok (.invokevirtual 102, 3) := by decide +kernel
theorem dX1_readsMice_30 : decode cX1_readsMice 30 = .ok (.ireturn, 1) := by decide +kernel
theorem dX1_readsMice_31 : decode cX1_readsMice 31 = .ok (.aload_n 0, 1) := by decide +kernel
theorem dX1_readsMice_32 : decode cX1_readsMice 32 = .ok (.aload_n 0, 1) := by decide +kernel
theorem dX1_readsMice_33 : decode cX1_readsMice 33 = .ok (.getfield 96, 3) := by decide +kernel
theorem dX1_readsMice_36 : decode cX1_readsMice 36 = .ok (.putfield 68, 3) := by decide +kernel
theorem dX1_readsMice_39 : decode cX1_readsMice 39 = .ok (.iconst 1, 1) := by decide +kernel
theorem dX1_readsMice_40 : decode cX1_readsMice 40 = .ok (.ireturn, 1) := by decide +kernel
theorem dX1_readsRoom_0 : decode cX1_readsRoom 0 = .ok (.aload_n 0, 1) := by decide +kernel
theorem dX1_readsRoom_1 : decode cX1_readsRoom 1 = .ok (.iconst 0, 1) := by decide +kernel
theorem dX1_readsRoom_2 : decode cX1_readsRoom 2 = .ok (.bipush 20, 2) := by decide +kernel
theorem dX1_readsRoom_4 : decode cX1_readsRoom 4 = .ok (.invokevirtual 92, 3) := by decide +kernel
theorem dX1_readsRoom_7 : decode cX1_readsRoom 7 = .ok (.ifCond .ne 5, 3) := by decide +kernel
theorem dX1_readsRoom_10 : decode cX1_readsRoom 10 = .ok (.iconst 0, 1) := by decide +kernel
theorem dX1_readsRoom_11 : decode cX1_readsRoom 11 = .ok (.ireturn, 1) := by decide +kernel
theorem dX1_readsRoom_12 : decode cX1_readsRoom 12 = .ok (.aload_n 0, 1) := by decide +kernel
theorem dX1_readsRoom_13 : decode cX1_readsRoom 13 = .ok (.aload_n 0, 1) := by decide +kernel
theorem dX1_readsRoom_14 : decode cX1_readsRoom 14 = .ok (.getfield 96, 3) := by decide +kernel
theorem dX1_readsRoom_17 : decode cX1_readsRoom 17 = .ok (.putfield 71, 3) := by decide +kernel
theorem dX1_readsRoom_20 : decode cX1_readsRoom 20 = .ok (.iconst 1, 1) := by decide +kernel
theorem dX1_readsRoom_21 : decode cX1_readsRoom 21 = .ok (.ireturn, 1) := by decide +kernel
theorem dX1_readsNumber_0 : decode cX1_readsNumber 0 = .ok (.aload_n 0, 1) := by decide +kernel
theorem dX1_readsNumber_1 : decode cX1_readsNumber 1 = .ok (.invokevirtual 111, 3) := by decide +kernel
theorem dX1_readsNumber_4 : decode cX1_readsNumber 4 = .ok (.bipush 32, 2) := by decide +kernel
theorem dX1_readsNumber_6 : decode cX1_readsNumber 6 = .ok (.if_icmp .eq 12, 3) := by decide +kernel
theorem dX1_readsNumber_9 : decode cX1_readsNumber 9 = .ok (.aload_n 0, 1) := by decide +kernel
theorem dX1_readsNumber_10 : decode cX1_readsNumber 10 = .ok (.aload_n 0, 1) := by decide +kernel
theorem dX1_readsNumber_11 : decode cX1_readsNumber 11 = .ok (.getfield 99, 3) := by decide +kernel
theorem dX1_readsNumber_14 : decode cX1_readsNumber 14 = .ok (.invokevirtual 102, 3) := by decide +kernel
theorem dX1_readsNumber_17 : decode cX1_readsNumber 17 = .ok (.ireturn, 1) := by decide +kernel
theorem dX1_readsNumber_18 : decode cX1_readsNumber 18 = .ok (.aload_n 0, 1) := by decide +kernel
theorem dX1_readsNumber_19 : decode cX1_readsNumber 19 = .ok (.invokevirtual 114, 3) := by decide +kernel
theorem dX1_readsNumber_22 : decode cX1_readsNumber 22 = .ok (.aload_n 0, 1) := by decide +kernel
theorem dX1_readsNumber_23 : decode cX1_readsNumber 23 = .ok (.invokevirtual 111, 3) := by decide +kernel
theorem dX1_readsNumber_26 : decode cX1_readsNumber 26 = .ok (.invokestatic 117, 3) := by decide +kernel
theorem dX1_readsNumber_29 : decode cX1_readsNumber 29 = .ok (.ifCond .ne 12, 3) := by decide +kernel
theorem dX1_readsNumber_32 : decode cX1_readsNumber 32 = .ok (.aload_n 0, 1) := by decide +kernel
theorem dX1_readsNumber_33 : decode cX1_readsNumber 33 = .ok (.aload_n 0, 1) := by decide +kernel
theorem dX1_readsNumber_34 : decode cX1_readsNumber 34 = .ok (.getfield 99, 3) := by decide +kernel
theorem dX1_readsNumber_37 : decode cX1_readsNumber 37 = .ok (.invokevirtual 102, 3) := by decide +kernel
theorem dX1_readsNumber_40 : decode cX1_readsNumber 40 = .ok (.ireturn, 1) := by decide +kernel
theorem dX1_readsNumber_41 : decode cX1_readsNumber 41 = .ok (.aload_n 0, 1) := by decide +kernel
theorem dX1_readsNumber_42 : decode cX1_readsNumber 42 = .ok (.aload_n 0, 1) := by decide +kernel
theorem dX1_readsNumber_43 : decode cX1_readsNumber 43 = .ok (.invokevirtual 111, 3) := by decide +kernel
theorem dX1_readsNumber_46 : decode cX1_readsNumber 46 = .ok (.bipush 48, 2) := by decide +kernel
theorem dX1_readsNumber_48 : decode cX1_readsNumber 48 = .ok (.isub, 1) := by decide +kernel
theorem dX1_readsNumber_49 : decode cX1_readsNumber 49 = .ok (.putfield 96, 3) := by decide +kernel
theorem dX1_readsNumber_52 : decode cX1_readsNumber 52 = .ok (.aload_n 0, 1) := by decide +kernel
theorem dX1_readsNumber_53 : decode cX1_readsNumber 53 = .ok (.dup, 1) := by decide +kernel
theorem dX1_readsNumber_54 : decode cX1_readsNumber 54 = .ok (.getfield 99, 3) := by decide +kernel
theorem dX1_readsNumber_57 : decode cX1_readsNumber 57 = .ok (.iconst 1, 1) := by decide +kernel
theorem dX1_readsNumber_58 : decode cX1_readsNumber 58 = .ok (.iadd, 1) := by decide +kernel
theorem dX1_readsNumber_59 : decode cX1_readsNumber 59 = .ok (.putfield 99, 3) := by decide +kernel
theorem dX1_readsNumber_62 : decode cX1_readsNumber 62 = .ok (.aload_n 0, 1) := by decide +kernel
theorem dX1_readsNumber_63 : decode cX1_readsNumber 63 = .ok (.invokevirtual 111, 3) := by decide +kernel
theorem dX1_readsNumber_66 : decode cX1_readsNumber 66 = .ok (.invokestatic 117, 3) := by decide +kernel
theorem dX1_readsNumber_69 : decode cX1_readsNumber 69 = .ok (.ifCond .eq 32, 3) := by decide +kernel
theorem dX1_readsNumber_72 : decode cX1_readsNumber 72 = .ok (.aload_n 0, 1) := by decide +kernel
theorem dX1_readsNumber_73 : decode cX1_readsNumber 73 = .ok (.aload_n 0, 1) := by decide +kernel
theorem dX1_readsNumber_74 : decode cX1_readsNumber 74 = .ok (.getfield 96, 3) := by decide +kernel
theorem dX1_readsNumber_77 : decode cX1_readsNumber 77 = .ok (.bipush 10, 2) := by decide +kernel
theorem dX1_readsNumber_79 : decode cX1_readsNumber 79 = .ok (.imul, 1) := by decide +kernel
theorem dX1_readsNumber_80 : decode cX1_readsNumber 80 = .ok (.aload_n 0, 1) := by decide +kernel
theorem dX1_readsNumber_81 : decode cX1_readsNumber 81 = .ok (.invokevirtual 111, 3) := by decide +kernel
theorem dX1_readsNumber_84 : decode cX1_readsNumber 84 = .ok (.iadd, 1) := by decide +kernel
theorem dX1_readsNumber_85 : decode cX1_readsNumber 85 = .ok (.bipush 48, 2) := by decide +kernel
theorem dX1_readsNumber_87 : decode cX1_readsNumber 87 = .ok (.isub, 1) := by decide +kernel
theorem dX1_readsNumber_88 : decode cX1_readsNumber 88 = .ok (.putfield 96, 3) := by decide +kernel
theorem dX1_readsNumber_91 : decode cX1_readsNumber 91 = .ok (.aload_n 0, 1) := by decide +kernel
theorem dX1_readsNumber_92 : decode cX1_readsNumber 92 = .ok (.dup, 1) := by decide +kernel
theorem dX1_readsNumber_93 : decode cX1_readsNumber 93 = .ok (.getfield 99, 3) := by decide +kernel
theorem dX1_readsNumber_96 : decode cX1_readsNumber 96 = .ok (.iconst 1, 1) := by decide +kernel
theorem dX1_readsNumber_97 : decode cX1_readsNumber 97 = .ok (.iadd, 1) := by decide +kernel
theorem dX1_readsNumber_98 : decode cX1_readsNumber 98 = .ok (.putfield 99, 3) := by decide +kernel
theorem dX1_readsNumber_101 : decode cX1_readsNumber 101 = .ok (.aload_n 0, 1) := by decide +kernel
theorem dX1_readsNumber_102 : decode cX1_readsNumber 102 = .ok (.getfield 96, 3) := by decide +kernel
theorem dX1_readsNumber_105 : decode cX1_readsNumber 105 = .ok (.iload_n 1, 1) := by decide +kernel
theorem dX1_readsNumber_106 : decode cX1_readsNumber 106 = .ok (.iload_n 2, 1) := by decide +kernel
theorem dX1_readsNumber_107 : decode cX1_readsNumber 107 = .ok (.invokestatic 120, 3) := by decide +kernel
theorem dX1_readsNumber_110 : decode cX1_readsNumber 110 = .ok (.ifCond .ne 16, 3) := by decide +kernel
theorem dX1_readsNumber_113 : decode cX1_readsNumber 113 = .ok (.aload_n 0, 1) := by decide +kernel
theorem dX1_readsNumber_114 : decode cX1_readsNumber 114 = .ok (.aload_n 0, 1) := by decide +kernel
theorem dX1_readsNumber_115 : decode cX1_readsNumber 115 = .ok (.getfield 99, 3) := by decide +kernel
theorem dX1_readsNumber_118 : decode cX1_readsNumber 118 = .ok (.iconst 1, 1) := by decide +kernel
theorem dX1_readsNumber_119 : decode cX1_readsNumber 119 = .ok (.isub, 1) := by decide +kernel
theorem dX1_readsNumber_120 : decode cX1_readsNumber 120 = .ok (.invokevirtual 102, 3) := by decide +kernel
theorem dX1_readsNumber_123 : decode cX1_readsNumber 123 = .ok (.ifCond .eq 7, 3) := by decide +kernel
theorem dX1_readsNumber_126 : decode cX1_readsNumber 126 = .ok (.iconst 1, 1) := by decide +kernel
theorem dX1_readsNumber_127 : decode cX1_readsNumber 127 = .ok (.goto 4, 3) := by decide +kernel
theorem dX1_readsNumber_130 : decode cX1_readsNumber 130 = .ok (.iconst 0, 1) := by decide +kernel
theorem dX1_readsNumber_131 : decode cX1_readsNumber 131 = .ok (.ireturn, 1) := by decide +kernel
theorem dX3_init_0 : decode cX3_init 0 = .ok (.aload_n 0, 1) := by decide +kernel
theorem dX3_init_1 : decode cX3_init 1 = .ok (.invokespecial 3, 3) := by decide +kernel
theorem dX3_init_4 : decode cX3_init 4 = .ok (.aload_n 0, 1) := by decide +kernel
theorem dX3_init_5 : decode cX3_init 5 = .ok (.aload_n 1, 1) := by decide +kernel
theorem dX3_init_6 : decode cX3_init 6 = .ok (.putfield 9, 3) := by decide +kernel
theorem dX3_init_9 : decode cX3_init 9 = .ok (.return_, 1) := by decide +kernel
theorem dX3_goToBeginning_0 : decode cX3_goToBeginning 0 = .ok (.aload_n 0, 1) := by decide +kernel
theorem dX3_goToBeginning_1 : decode cX3_goToBeginning 1 = .ok (.iconst 0, 1) := by decide +kernel
theorem dX3_goToBeginning_2 : decode cX3_goToBeginning 2 = .ok (.putfield 15, 3) := by decide +kernel
theorem dX3_goToBeginning_5 : decode cX3_goToBeginning 5 = .ok (.aload_n 0, 1) := by decide +kernel
theorem dX3_goToBeginning_6 : decode cX3_goToBeginning 6 = .ok (.iconst (-1), 1) := by decide +kernel
theorem dX3_goToBeginning_7 : decode cX3_goToBeginning 7 = .ok (.putfield 19, 3) := by decide +kernel
theorem dX3_goToBeginning_10 : decode cX3_goToBeginning 10 = .ok (.return_, 1) := by decide +kernel
theorem dX3_here_0 : decode cX3_here 0 = .ok (.aload_n 0, 1) := by decide +kernel
theorem dX3_here_1 : decode cX3_here 1 = .ok (.getfield 15, 3) := by decide +kernel
theorem dX3_here_4 : decode cX3_here 4 = .ok (.ifCond .lt 32, 3) := by decide +kernel
theorem dX3_here_7 : decode cX3_here 7 = .ok (.aload_n 0, 1) := by decide +kernel
theorem dX3_here_8 : decode cX3_here 8 = .ok (.getfield 15, 3) := by decide +kernel
theorem dX3_here_11 : decode cX3_here 11 = .ok (.aload_n 0, 1) := by decide +kernel
theorem dX3_here_12 : decode cX3_here 12 = .ok (.getfield 9, 3) := by decide +kernel
theorem dX3_here_15 : decode cX3_here 15 = .ok (.getfield 22, 3) := by decide +kernel
theorem dX3_here_18 : decode cX3_here 18 = .ok (.if_icmp .ge 18, 3) := by decide +kernel
theorem dX3_here_21 : decode cX3_here 21 = .ok (.aload_n 0, 1) := by decide +kernel
theorem dX3_here_22 : decode cX3_here 22 = .ok (.getfield 9, 3) := by decide +kernel
theorem dX3_here_25 : decode cX3_here 25 = .ok (.getfield 27, 3) := by decide +kernel
theorem dX3_here_28 : decode cX3_here 28 = .ok (.aload_n 0, 1) := by decide +kernel
theorem dX3_here_29 : decode cX3_here 29 = .ok (.getfield 15, 3) := by decide +kernel
theorem dX3_here_32 : decode cX3_here 32 = .ok (.iaload, 1) := by decide +kernel
theorem dX3_here_33 : decode cX3_here 33 = .ok (.goto 4, 3) := by decide +kernel
theorem dX3_here_36 : decode cX3_here 36 = .ok (.iconst 0, 1) := by decide +kernel
theorem dX3_here_37 : decode cX3_here 37 = .ok (.ireturn, 1) := by decide +kernel
theorem dX3_isDigit_0 : decode cX3_isDigit 0 = .ok (.iload_n 0, 1) := by decide +kernel
theorem dX3_isDigit_1 : decode cX3_isDigit 1 = .ok (.bipush 48, 2) := by decide +kernel
theorem dX3_isDigit_3 : decode cX3_isDigit 3 = .ok (.if_icmp .lt 13, 3) := by decide +kernel
theorem dX3_isDigit_6 : decode cX3_isDigit 6 = .ok (.iload_n 0, 1) := by decide +kernel
theorem dX3_isDigit_7 : decode cX3_isDigit 7 = .ok (.bipush 57, 2) := by decide +kernel
theorem dX3_isDigit_9 : decode cX3_isDigit 9 = .ok (.if_icmp .gt 7, 3) := by decide +kernel
theorem dX3_isDigit_12 : decode cX3_isDigit 12 = .ok (.iconst 1, 1) := by decide +kernel
theorem dX3_isDigit_13 : decode cX3_isDigit 13 = .ok (.goto 4, 3) := by decide +kernel
theorem dX3_isDigit_16 : decode cX3_isDigit 16 = .ok (.iconst 0, 1) := by decide +kernel
theorem dX3_isDigit_17 : decode cX3_isDigit 17 = .ok (.ireturn, 1) := by decide +kernel
theorem dX3_skipBlanks_0 : decode cX3_skipBlanks 0 = .ok (.aload_n 0, 1) := by decide +kernel
theorem dX3_skipBlanks_1 : decode cX3_skipBlanks 1 = .ok (.getfield 15, 3) := by decide +kernel
theorem dX3_skipBlanks_4 : decode cX3_skipBlanks 4 = .ok (.istore_n 1, 1) := by decide +kernel
theorem dX3_skipBlanks_5 : decode cX3_skipBlanks 5 = .ok (.iload_n 1, 1) := by decide +kernel
theorem dX3_skipBlanks_6 : decode cX3_skipBlanks 6 = .ok (.aload_n 0, 1) := by decide +kernel
theorem dX3_skipBlanks_7 : decode cX3_skipBlanks 7 = .ok (.getfield 9, 3) := by decide +kernel
theorem dX3_skipBlanks_10 : decode cX3_skipBlanks 10 = .ok (.getfield 22, 3) := by decide +kernel
theorem dX3_skipBlanks_13 : decode cX3_skipBlanks 13 = .ok (.if_icmp .ge 33, 3) := by decide +kernel
theorem dX3_skipBlanks_16 : decode cX3_skipBlanks 16 = .ok (.aload_n 0, 1) := by decide +kernel
theorem dX3_skipBlanks_17 : decode cX3_skipBlanks 17 = .ok (.getfield 9, 3) := by decide +kernel
theorem dX3_skipBlanks_20 : decode cX3_skipBlanks 20 = .ok (.getfield 27, 3) := by decide +kernel
theorem dX3_skipBlanks_23 : decode cX3_skipBlanks 23 = .ok (.iload_n 1, 1) := by decide +kernel
theorem dX3_skipBlanks_24 : decode cX3_skipBlanks 24 = .ok (.iaload, 1) := by decide +kernel
theorem dX3_skipBlanks_25 : decode cX3_skipBlanks 25 = .ok (.bipush 32, 2) := by decide +kernel
theorem dX3_skipBlanks_27 : decode cX3_skipBlanks 27 = .ok (.if_icmp .ne 19, 3) := by decide +kernel
theorem dX3_skipBlanks_30 : decode cX3_skipBlanks 30 = .ok (.aload_n 0, 1) := by decide +kernel
theorem dX3_skipBlanks_31 : decode cX3_skipBlanks 31 = .ok (.dup, 1) := by decide +kernel
theorem dX3_skipBlanks_32 : decode cX3_skipBlanks 32 = .ok (.getfield 15, 3) := by decide +kernel
theorem dX3_skipBlanks_35 : decode cX3_skipBlanks 35 = .ok (.iconst 1, 1) := by decide +kernel
theorem dX3_skipBlanks_36 : decode cX3_skipBlanks 36 = .ok (.iadd, 1) := by decide +kernel
theorem dX3_skipBlanks_37 : decode cX3_skipBlanks 37 = .ok (.putfield 15, 3) := by decide +kernel
theorem dX3_skipBlanks_40 : decode cX3_skipBlanks 40 = .ok (.iinc 1 1, 3) := by decide +kernel
theorem dX3_skipBlanks_43 : decode cX3_skipBlanks 43 = .ok (.goto (-38), 3) := by decide +kernel
theorem dX3_skipBlanks_46 : decode cX3_skipBlanks 46 = .ok (.return_, 1) := by decide +kernel
theorem dX3_isWrongAt_0 : decode cX3_isWrongAt 0 = .ok (.aload_n 0, 1) := by decide +kernel
theorem dX3_isWrongAt_1 : decode cX3_isWrongAt 1 = .ok (.getfield 19, 3) := by decide +kernel
theorem dX3_isWrongAt_4 : decode cX3_isWrongAt 4 = .ok (.iconst (-1), 1) := by decide +kernel
theorem dX3_isWrongAt_5 : decode cX3_isWrongAt 5 = .ok (.if_icmp .ne 8, 3) := by decide +kernel
theorem dX3_isWrongAt_8 : decode cX3_isWrongAt 8 = .ok (.aload_n 0, 1) := by decide +kernel
theorem dX3_isWrongAt_9 : decode cX3_isWrongAt 9 = .ok (.iload_n 1, 1) := by decide +kernel
theorem dX3_isWrongAt_10 : decode cX3_isWrongAt 10 = .ok (.putfield 19, 3) := by decide +kernel
theorem dX3_isWrongAt_13 : decode cX3_isWrongAt 13 = .ok (.iconst 0, 1) := by decide +kernel
theorem dX3_isWrongAt_14 : decode cX3_isWrongAt 14 = .ok (.ireturn, 1) := by decide +kernel
theorem dX3_takes_0 : decode cX3_takes 0 = .ok (.aload_n 0, 1) := by decide +kernel
theorem dX3_takes_1 : decode cX3_takes 1 = .ok (.invokevirtual 31, 3) := by decide +kernel
theorem dX3_takes_4 : decode cX3_takes 4 = .ok (.aload_n 0, 1) := by decide +kernel
theorem dX3_takes_5 : decode cX3_takes 5 = .ok (.invokevirtual 34, 3) := by decide +kernel
theorem dX3_takes_8 : decode cX3_takes 8 = .ok (.iload_n 1, 1) := by decide +kernel
theorem dX3_takes_9 : decode cX3_takes 9 = .ok (.if_icmp .eq 5, 3) := by decide +kernel
theorem dX3_takes_12 : decode cX3_takes 12 = .ok (.iconst 0, 1) := by decide +kernel
theorem dX3_takes_13 : decode cX3_takes 13 = .ok (.ireturn, 1) := by decide +kernel
theorem dX3_takes_14 : decode cX3_takes 14 = .ok (.aload_n 0, 1) := by decide +kernel
theorem dX3_takes_15 : decode cX3_takes 15 = .ok (.dup, 1) := by decide +kernel
theorem dX3_takes_16 : decode cX3_takes 16 = .ok (.getfield 15, 3) := by decide +kernel
theorem dX3_takes_19 : decode cX3_takes 19 = .ok (.iconst 1, 1) := by decide +kernel
theorem dX3_takes_20 : decode cX3_takes 20 = .ok (.iadd, 1) := by decide +kernel
theorem dX3_takes_21 : decode cX3_takes 21 = .ok (.putfield 15, 3) := by decide +kernel
theorem dX3_takes_24 : decode cX3_takes 24 = .ok (.iconst 1, 1) := by decide +kernel
theorem dX3_takes_25 : decode cX3_takes 25 = .ok (.ireturn, 1) := by decide +kernel
theorem dX3_needs_0 : decode cX3_needs 0 = .ok (.aload_n 0, 1) := by decide +kernel
theorem dX3_needs_1 : decode cX3_needs 1 = .ok (.invokevirtual 31, 3) := by decide +kernel
theorem dX3_needs_4 : decode cX3_needs 4 = .ok (.aload_n 0, 1) := by decide +kernel
theorem dX3_needs_5 : decode cX3_needs 5 = .ok (.invokevirtual 34, 3) := by decide +kernel
theorem dX3_needs_8 : decode cX3_needs 8 = .ok (.iload_n 1, 1) := by decide +kernel
theorem dX3_needs_9 : decode cX3_needs 9 = .ok (.if_icmp .eq 12, 3) := by decide +kernel
theorem dX3_needs_12 : decode cX3_needs 12 = .ok (.aload_n 0, 1) := by decide +kernel
theorem dX3_needs_13 : decode cX3_needs 13 = .ok (.aload_n 0, 1) := by decide +kernel
theorem dX3_needs_14 : decode cX3_needs 14 = .ok (.getfield 15, 3) := by decide +kernel
theorem dX3_needs_17 : decode cX3_needs 17 = .ok (.invokevirtual 38, 3) := by decide +kernel
theorem dX3_needs_20 : decode cX3_needs 20 = .ok (.ireturn, 1) := by decide +kernel
theorem dX3_needs_21 : decode cX3_needs 21 = .ok (.aload_n 0, 1) := by decide +kernel
theorem dX3_needs_22 : decode cX3_needs 22 = .ok (.dup, 1) := by decide +kernel
theorem dX3_needs_23 : decode cX3_needs 23 = .ok (.getfield 15, 3) := by decide +kernel
theorem dX3_needs_26 : decode cX3_needs 26 = .ok (.iconst 1, 1) := by decide +kernel
theorem dX3_needs_27 : decode cX3_needs 27 = .ok (.iadd, 1) := by decide +kernel
theorem dX3_needs_28 : decode cX3_needs 28 = .ok (.putfield 15, 3) := by decide +kernel
theorem dX3_needs_31 : decode cX3_needs 31 = .ok (.iconst 1, 1) := by decide +kernel
theorem dX3_needs_32 : decode cX3_needs 32 = .ok (.ireturn, 1) := by decide +kernel
theorem dX3_faultAtEnd_0 : decode cX3_faultAtEnd 0 = .ok (.aload_n 0, 1) := by decide +kernel
theorem dX3_faultAtEnd_1 : decode cX3_faultAtEnd 1 = .ok (.getfield 19, 3) := by decide +kernel
theorem dX3_faultAtEnd_4 : decode cX3_faultAtEnd 4 = .ok (.iconst (-1), 1) := by decide +kernel
theorem dX3_faultAtEnd_5 : decode cX3_faultAtEnd 5 = .ok (.if_icmp .ne 25, 3) := by decide +kernel
theorem dX3_faultAtEnd_8 : decode cX3_faultAtEnd 8 = .ok (.aload_n 0, 1) := by decide +kernel
theorem dX3_faultAtEnd_9 : decode cX3_faultAtEnd 9 = .ok (.getfield 15, 3) := by decide +kernel
theorem dX3_faultAtEnd_12 : decode cX3_faultAtEnd 12 = .ok (.aload_n 0, 1) := by decide +kernel
theorem dX3_faultAtEnd_13 : decode cX3_faultAtEnd 13 = .ok (.getfield 9, 3) := by decide +kernel
theorem dX3_faultAtEnd_16 : decode cX3_faultAtEnd 16 = .ok (.getfield 22, 3) := by decide +kernel
theorem dX3_faultAtEnd_19 : decode cX3_faultAtEnd 19 = .ok (.if_icmp .ge 11, 3) := by decide +kernel
theorem dX3_faultAtEnd_22 : decode cX3_faultAtEnd 22 = .ok (.aload_n 0, 1) := by decide +kernel
theorem dX3_faultAtEnd_23 : decode cX3_faultAtEnd 23 = .ok (.aload_n 0, 1) := by decide +kernel
theorem dX3_faultAtEnd_24 : decode cX3_faultAtEnd 24 = .ok (.getfield 15, 3) := by decide +kernel
theorem dX3_faultAtEnd_27 : decode cX3_faultAtEnd 27 = .ok (.putfield 19, 3) := by decide +kernel
theorem dX3_faultAtEnd_30 : decode cX3_faultAtEnd 30 = .ok (.aload_n 0, 1) := by decide +kernel
theorem dX3_faultAtEnd_31 : decode cX3_faultAtEnd 31 = .ok (.getfield 19, 3) := by decide +kernel
theorem dX3_faultAtEnd_34 : decode cX3_faultAtEnd 34 = .ok (.ireturn, 1) := by decide +kernel
theorem dX4_init_0 : decode cX4_init 0 = .ok (.aload_n 0, 1) := by decide +kernel
theorem dX4_init_1 : decode cX4_init 1 = .ok (.invokespecial 3, 3) := by decide +kernel
theorem dX4_init_4 : decode cX4_init 4 = .ok (.aload_n 0, 1) := by decide +kernel
theorem dX4_init_5 : decode cX4_init 5 = .ok (.aload_n 1, 1) := by decide +kernel
theorem dX4_init_6 : decode cX4_init 6 = .ok (.putfield 9, 3) := by decide +kernel
theorem dX4_init_9 : decode cX4_init 9 = .ok (.aload_n 0, 1) := by decide +kernel
theorem dX4_init_10 : decode cX4_init 10 = .ok (.bipush 64, 2) := by decide +kernel
theorem dX4_init_12 : decode cX4_init 12 = .ok (.newarray .int, 2) := by decide +kernel
theorem dX4_init_14 : decode cX4_init 14 = .ok (.putfield 15, 3) := by decide +kernel
theorem dX4_init_17 : decode cX4_init 17 = .ok (.aload_n 0, 1) := by decide +kernel
theorem dX4_init_18 : decode cX4_init 18 = .ok (.iconst 5, 1) := by decide +kernel
theorem dX4_init_19 : decode cX4_init 19 = .ok (.newarray .int, 2) := by decide +kernel
theorem dX4_init_21 : decode cX4_init 21 = .ok (.putfield 18, 3) := by decide +kernel
theorem dX4_init_24 : decode cX4_init 24 = .ok (.return_, 1) := by decide +kernel
theorem dX4_letterCode_0 : decode cX4_letterCode 0 = .ok (.iload_n 0, 1) := by decide +kernel
theorem dX4_letterCode_1 : decode cX4_letterCode 1 = .ok (.lookupswitch 65 #[(97, 51), (110, 56), (112, 59), (114, 62), (115, 53)], 51) := by decide +kernel
theorem dX4_letterCode_52 : decode cX4_letterCode 52 = .ok (.iconst (-1), 1) := by decide +kernel
theorem dX4_letterCode_53 : decode cX4_letterCode 53 = .ok (.ireturn, 1) := by decide +kernel
theorem dX4_letterCode_54 : decode cX4_letterCode 54 = .ok (.bipush (-2), 2) := by decide +kernel
theorem dX4_letterCode_56 : decode cX4_letterCode 56 = .ok (.ireturn, 1) := by decide +kernel
theorem dX4_letterCode_57 : decode cX4_letterCode 57 = .ok (.bipush (-3), 2) := by decide +kernel
theorem dX4_letterCode_59 : decode cX4_letterCode 59 = .ok (.ireturn, 1) := by decide +kernel
theorem dX4_letterCode_60 : decode cX4_letterCode 60 = .ok (.bipush (-4), 2) := by decide +kernel
theorem dX4_letterCode_62 : decode cX4_letterCode 62 = .ok (.ireturn, 1) := by decide +kernel
theorem dX4_letterCode_63 : decode cX4_letterCode 63 = .ok (.bipush (-5), 2) := by decide +kernel
theorem dX4_letterCode_65 : decode cX4_letterCode 65 = .ok (.ireturn, 1) := by decide +kernel
theorem dX4_letterCode_66 : decode cX4_letterCode 66 = .ok (.iconst 0, 1) := by decide +kernel
theorem dX4_letterCode_67 : decode cX4_letterCode 67 = .ok (.ireturn, 1) := by decide +kernel
theorem dX4_worthOf_0 : decode cX4_worthOf 0 = .ok (.aload_n 0, 1) := by decide +kernel
theorem dX4_worthOf_1 : decode cX4_worthOf 1 = .ok (.getfield 18, 3) := by decide +kernel
theorem dX4_worthOf_4 : decode cX4_worthOf 4 = .ok (.iconst 0, 1) := by decide +kernel
theorem dX4_worthOf_5 : decode cX4_worthOf 5 = .ok (.iload_n 1, 1) := by decide +kernel
theorem dX4_worthOf_6 : decode cX4_worthOf 6 = .ok (.iastore, 1) := by decide +kernel
theorem dX4_worthOf_7 : decode cX4_worthOf 7 = .ok (.aload_n 0, 1) := by decide +kernel
theorem dX4_worthOf_8 : decode cX4_worthOf 8 = .ok (.getfield 18, 3) := by decide +kernel
theorem dX4_worthOf_11 : decode cX4_worthOf 11 = .ok (.iconst 1, 1) := by decide +kernel
theorem dX4_worthOf_12 : decode cX4_worthOf 12 = .ok (.iload_n 2, 1) := by decide +kernel
theorem dX4_worthOf_13 : decode cX4_worthOf 13 = .ok (.iastore, 1) := by decide +kernel
theorem dX4_worthOf_14 : decode cX4_worthOf 14 = .ok (.aload_n 0, 1) := by decide +kernel
theorem dX4_worthOf_15 : decode cX4_worthOf 15 = .ok (.getfield 18, 3) := by decide +kernel
theorem dX4_worthOf_18 : decode cX4_worthOf 18 = .ok (.iconst 2, 1) := by decide +kernel
theorem dX4_worthOf_19 : decode cX4_worthOf 19 = .ok (.iload_n 3, 1) := by decide +kernel
theorem dX4_worthOf_20 : decode cX4_worthOf 20 = .ok (.iastore, 1) := by decide +kernel
theorem dX4_worthOf_21 : decode cX4_worthOf 21 = .ok (.aload_n 0, 1) := by decide +kernel
theorem dX4_worthOf_22 : decode cX4_worthOf 22 = .ok (.getfield 18, 3) := by decide +kernel
theorem dX4_worthOf_25 : decode cX4_worthOf 25 = .ok (.iconst 3, 1) := by decide +kernel
theorem dX4_worthOf_26 : decode cX4_worthOf 26 = .ok (.iload 4, 2) := by decide +kernel
theorem dX4_worthOf_28 : decode cX4_worthOf 28 = .ok (.iastore, 1) := by decide +kernel
theorem dX4_worthOf_29 : decode cX4_worthOf 29 = .ok (.aload_n 0, 1) := by decide +kernel
theorem dX4_worthOf_30 : decode cX4_worthOf 30 = .ok (.getfield 18, 3) := by decide +kernel
theorem dX4_worthOf_33 : decode cX4_worthOf 33 = .ok (.iconst 4, 1) := by decide +kernel
theorem dX4_worthOf_34 : decode cX4_worthOf 34 = .ok (.iload 5, 2) := by decide +kernel
theorem dX4_worthOf_36 : decode cX4_worthOf 36 = .ok (.iastore, 1) := by decide +kernel
theorem dX4_worthOf_37 : decode cX4_worthOf 37 = .ok (.aload_n 0, 1) := by decide +kernel
theorem dX4_worthOf_38 : decode cX4_worthOf 38 = .ok (.iconst 0, 1) := by decide +kernel
theorem dX4_worthOf_39 : decode cX4_worthOf 39 = .ok (.putfield 21, 3) := by decide +kernel
theorem dX4_worthOf_42 : decode cX4_worthOf 42 = .ok (.iconst 0, 1) := by decide +kernel
theorem dX4_worthOf_43 : decode cX4_worthOf 43 = .ok (.istore 6, 2) := by decide +kernel
theorem dX4_worthOf_45 : decode cX4_worthOf 45 = .ok (.iconst 0, 1) := by decide +kernel
theorem dX4_worthOf_46 : decode cX4_worthOf 46 = .ok (.istore 7, 2) := by decide +kernel
theorem dX4_worthOf_48 : decode cX4_worthOf 48 = .ok (.iload 7, 2) := by decide +kernel
theorem dX4_worthOf_50 : decode cX4_worthOf 50 = .ok (.aload_n 0, 1) := by decide +kernel
theorem dX4_worthOf_51 : decode cX4_worthOf 51 = .ok (.getfield 9, 3) := by decide +kernel
theorem dX4_worthOf_54 : decode cX4_worthOf 54 = .ok (.arraylength, 1) := by decide +kernel
theorem dX4_worthOf_55 : decode cX4_worthOf 55 = .ok (.if_icmp .ge 82, 3) := by decide +kernel
theorem dX4_worthOf_58 : decode cX4_worthOf 58 = .ok (.aload_n 0, 1) := by decide +kernel
theorem dX4_worthOf_59 : decode cX4_worthOf 59 = .ok (.getfield 9, 3) := by decide +kernel
theorem dX4_worthOf_62 : decode cX4_worthOf 62 = .ok (.iload 7, 2) := by decide +kernel
theorem dX4_worthOf_64 : decode cX4_worthOf 64 = .ok (.iaload, 1) := by decide +kernel
theorem dX4_worthOf_65 : decode cX4_worthOf 65 = .ok (.istore 8, 2) := by decide +kernel
theorem dX4_worthOf_67 : decode cX4_worthOf 67 = .ok (.iload 6, 2) := by decide +kernel
theorem dX4_worthOf_69 : decode cX4_worthOf 69 = .ok (.ifCond .eq 20, 3) := by decide +kernel
theorem dX4_worthOf_72 : decode cX4_worthOf 72 = .ok (.iload 8, 2) := by decide +kernel
theorem dX4_worthOf_74 : decode cX4_worthOf 74 = .ok (.bipush (-17), 2) := by decide +kernel
theorem dX4_worthOf_76 : decode cX4_worthOf 76 = .ok (.if_icmp .eq 7, 3) := by decide +kernel
theorem dX4_worthOf_79 : decode cX4_worthOf 79 = .ok (.iconst 1, 1) := by decide +kernel
theorem dX4_worthOf_80 : decode cX4_worthOf 80 = .ok (.goto 4, 3) := by decide +kernel
theorem dX4_worthOf_83 : decode cX4_worthOf 83 = .ok (.iconst 0, 1) := by decide +kernel
theorem dX4_worthOf_84 : decode cX4_worthOf 84 = .ok (.istore 6, 2) := by decide +kernel
theorem dX4_worthOf_86 : decode cX4_worthOf 86 = .ok (.goto 45, 3) := by decide +kernel
theorem dX4_worthOf_89 : decode cX4_worthOf 89 = .ok (.iload 8, 2) := by decide +kernel
theorem dX4_worthOf_91 : decode cX4_worthOf 91 = .ok (.bipush (-17), 2) := by decide +kernel
theorem dX4_worthOf_93 : decode cX4_worthOf 93 = .ok (.if_icmp .ne 8, 3) := by decide +kernel
theorem dX4_worthOf_96 : decode cX4_worthOf 96 = .ok (.aload_n 0, 1) := by decide +kernel
theorem dX4_worthOf_97 : decode cX4_worthOf 97 = .ok (.invokevirtual 25, 3) := by decide +kernel
theorem dX4_worthOf_100 : decode cX4_worthOf 100 = .ok (.ireturn, 1) := by decide +kernel
theorem dX4_worthOf_101 : decode cX4_worthOf 101 = .ok (.iload 8, 2) := by decide +kernel
theorem dX4_worthOf_103 : decode cX4_worthOf 103 = .ok (.bipush (-16), 2) := by decide +kernel
theorem dX4_worthOf_105 : decode cX4_worthOf 105 = .ok (.if_icmp .ne 20, 3) := by decide +kernel
theorem dX4_worthOf_108 : decode cX4_worthOf 108 = .ok (.aload_n 0, 1) := by decide +kernel
theorem dX4_worthOf_109 : decode cX4_worthOf 109 = .ok (.invokevirtual 25, 3) := by decide +kernel
theorem dX4_worthOf_112 : decode cX4_worthOf 112 = .ok (.ifCond .ne 7, 3) := by decide +kernel
theorem dX4_worthOf_115 : decode cX4_worthOf 115 = .ok (.iconst 1, 1) := by decide +kernel
theorem dX4_worthOf_116 : decode cX4_worthOf 116 = .ok (.goto 4, 3) := by decide +kernel
theorem dX4_worthOf_119 : decode cX4_worthOf 119 = .ok (.iconst 0, 1) := by decide +kernel
theorem dX4_worthOf_120 : decode cX4_worthOf 120 = .ok (.istore 6, 2) := by decide +kernel
theorem dX4_worthOf_122 : decode cX4_worthOf 122 = .ok (.goto 9, 3) := by decide +kernel
theorem dX4_worthOf_125 : decode cX4_worthOf 125 = .ok (.aload_n 0, 1) := by decide +kernel
theorem dX4_worthOf_126 : decode cX4_worthOf 126 = .ok (.iload 8, 2) := by decide +kernel
theorem dX4_worthOf_128 : decode cX4_worthOf 128 = .ok (.invokevirtual 29, 3) := by decide +kernel
theorem dX4_worthOf_131 : decode cX4_worthOf 131 = .ok (.iinc 7 1, 3) := by decide +kernel
theorem dX4_worthOf_134 : decode cX4_worthOf 134 = .ok (.goto (-86), 3) := by decide +kernel
theorem dX4_worthOf_137 : decode cX4_worthOf 137 = .ok (.iconst 0, 1) := by decide +kernel
theorem dX4_worthOf_138 : decode cX4_worthOf 138 = .ok (.ireturn, 1) := by decide +kernel
theorem dX4_take_0 : decode cX4_take 0 = .ok (.iload_n 1, 1) := by decide +kernel
theorem dX4_take_1 : decode cX4_take 1 = .ok (.ifCond .lt 11, 3) := by decide +kernel
theorem dX4_take_4 : decode cX4_take 4 = .ok (.aload_n 0, 1) := by decide +kernel
theorem dX4_take_5 : decode cX4_take 5 = .ok (.iload_n 1, 1) := by decide +kernel
theorem dX4_take_6 : decode cX4_take 6 = .ok (.invokevirtual 33, 3) := by decide +kernel
theorem dX4_take_9 : decode cX4_take 9 = .ok (.goto 94, 3) := by decide +kernel
theorem dX4_take_12 : decode cX4_take 12 = .ok (.iload_n 1, 1) := by decide +kernel
theorem dX4_take_13 : decode cX4_take 13 = .ok (.bipush (-5), 2) := by decide +kernel
theorem dX4_take_15 : decode cX4_take 15 = .ok (.if_icmp .lt 18, 3) := by decide +kernel
theorem dX4_take_18 : decode cX4_take 18 = .ok (.aload_n 0, 1) := by decide +kernel
theorem dX4_take_19 : decode cX4_take 19 = .ok (.aload_n 0, 1) := by decide +kernel
theorem dX4_take_20 : decode cX4_take 20 = .ok (.getfield 18, 3) := by decide +kernel
theorem dX4_take_23 : decode cX4_take 23 = .ok (.iconst (-1), 1) := by decide +kernel
theorem dX4_take_24 : decode cX4_take 24 = .ok (.iload_n 1, 1) := by decide +kernel
theorem dX4_take_25 : decode cX4_take 25 = .ok (.isub, 1) := by decide +kernel
theorem dX4_take_26 : decode cX4_take 26 = .ok (.iaload, 1) := by decide +kernel
theorem dX4_take_27 : decode cX4_take 27 = .ok (.invokevirtual 33, 3) := by decide +kernel
theorem dX4_take_30 : decode cX4_take 30 = .ok (.goto 73, 3) := by decide +kernel
theorem dX4_take_33 : decode cX4_take 33 = .ok (.iload_n 1, 1) := by decide +kernel
theorem dX4_take_34 : decode cX4_take 34 = .ok (.bipush (-15), 2) := by decide +kernel
theorem dX4_take_36 : decode cX4_take 36 = .ok (.if_icmp .ne 22, 3) := by decide +kernel
theorem dX4_take_39 : decode cX4_take 39 = .ok (.aload_n 0, 1) := by decide +kernel
theorem dX4_take_40 : decode cX4_take 40 = .ok (.aload_n 0, 1) := by decide +kernel
theorem dX4_take_41 : decode cX4_take 41 = .ok (.invokevirtual 25, 3) := by decide +kernel
theorem dX4_take_44 : decode cX4_take 44 = .ok (.ifCond .ne 7, 3) := by decide +kernel
theorem dX4_take_47 : decode cX4_take 47 = .ok (.iconst 1, 1) := by decide +kernel
theorem dX4_take_48 : decode cX4_take 48 = .ok (.goto 4, 3) := by decide +kernel
theorem dX4_take_51 : decode cX4_take 51 = .ok (.iconst 0, 1) := by decide +kernel
theorem dX4_take_52 : decode cX4_take 52 = .ok (.invokevirtual 33, 3) := by decide +kernel
theorem dX4_take_55 : decode cX4_take 55 = .ok (.goto 48, 3) := by decide +kernel
theorem dX4_take_58 : decode cX4_take 58 = .ok (.aload_n 0, 1) := by decide +kernel
theorem dX4_take_59 : decode cX4_take 59 = .ok (.invokevirtual 25, 3) := by decide +kernel
theorem dX4_take_62 : decode cX4_take 62 = .ok (.istore_n 2, 1) := by decide +kernel
theorem dX4_take_63 : decode cX4_take 63 = .ok (.aload_n 0, 1) := by decide +kernel
theorem dX4_take_64 : decode cX4_take 64 = .ok (.invokevirtual 25, 3) := by decide +kernel
theorem dX4_take_67 : decode cX4_take 67 = .ok (.istore_n 3, 1) := by decide +kernel
theorem dX4_take_68 : decode cX4_take 68 = .ok (.aload_n 0, 1) := by decide +kernel
theorem dX4_take_69 : decode cX4_take 69 = .ok (.iload_n 1, 1) := by decide +kernel
theorem dX4_take_70 : decode cX4_take 70 = .ok (.bipush (-9), 2) := by decide +kernel
theorem dX4_take_72 : decode cX4_take 72 = .ok (.if_icmp .lt 14, 3) := by decide +kernel
theorem dX4_take_75 : decode cX4_take 75 = .ok (.iload_n 1, 1) := by decide +kernel
theorem dX4_take_76 : decode cX4_take 76 = .ok (.iload_n 3, 1) := by decide +kernel
theorem dX4_take_77 : decode cX4_take 77 = .ok (.i2l, 1) := by decide +kernel
theorem dX4_take_78 : decode cX4_take 78 = .ok (.iload_n 2, 1) := by decide +kernel
theorem dX4_take_79 : decode cX4_take 79 = .ok (.i2l, 1) := by decide +kernel
theorem dX4_take_80 : decode cX4_take 80 = .ok (.invokestatic 36, 3) := by decide +kernel
theorem dX4_take_83 : decode cX4_take 83 = .ok (.goto 17, 3) := by decide +kernel
theorem dX4_take_86 : decode cX4_take 86 = .ok (.iload_n 1, 1) := by decide +kernel
theorem dX4_take_87 : decode cX4_take 87 = .ok (.iload_n 3, 1) := by decide +kernel
theorem dX4_take_88 : decode cX4_take 88 = .ok (.iload_n 2, 1) := by decide +kernel
theorem dX4_take_89 : decode cX4_take 89 = .ok (.invokestatic 40, 3) := by decide +kernel
theorem dX4_take_92 : decode cX4_take 92 = .ok (.ifCond .eq 7, 3) := by decide +kernel
theorem dX4_take_95 : decode cX4_take 95 = .ok (.iconst 1, 1) := by decide +kernel
theorem dX4_take_96 : decode cX4_take 96 = .ok (.goto 4, 3) := by decide +kernel
theorem dX4_take_99 : decode cX4_take 99 = .ok (.iconst 0, 1) := by decide +kernel
theorem dX4_take_100 : decode cX4_take 100 = .ok (.invokevirtual 33, 3) := by decide +kernel
theorem dX4_take_103 : decode cX4_take 103 = .ok (.return_, 1) := by decide +kernel
theorem dX4_reckoned_0 : decode cX4_reckoned 0 = .ok (.iload_n 0, 1) := by decide +kernel
theorem dX4_reckoned_1 : decode cX4_reckoned 1 = .ok (.tableswitch 51 (-8) (-6) #[43, 35, 27], 27) := by decide +kernel
theorem dX4_reckoned_28 : decode cX4_reckoned 28 = .ok (.lload_n 1, 1) := by decide +kernel
theorem dX4_reckoned_29 : decode cX4_reckoned 29 = .ok (.lload_n 3, 1) := by decide +kernel
theorem dX4_reckoned_30 : decode cX4_reckoned 30 = .ok (.ladd, 1) := by decide +kernel
theorem dX4_reckoned_31 : decode cX4_reckoned 31 = .ok (.lstore 5, 2) := by decide +kernel
theorem dX4_reckoned_33 : decode cX4_reckoned 33 = .ok (.goto 34, 3) := by decide +kernel
theorem dX4_reckoned_36 : decode cX4_reckoned 36 = .ok (.lload_n 1, 1) := by decide +kernel
theorem dX4_reckoned_37 : decode cX4_reckoned 37 = .ok (.lload_n 3, 1) := by decide +kernel
theorem dX4_reckoned_38 : decode cX4_reckoned 38 = .ok (.lsub, 1) := by decide +kernel
theorem dX4_reckoned_39 : decode cX4_reckoned 39 = .ok (.lstore 5, 2) := by decide +kernel
theorem dX4_reckoned_41 : decode cX4_reckoned 41 = .ok (.goto 26, 3) := by decide +kernel
theorem dX4_reckoned_44 : decode cX4_reckoned 44 = .ok (.lload_n 1, 1) := by decide +kernel
theorem dX4_reckoned_45 : decode cX4_reckoned 45 = .ok (.lload_n 3, 1) := by decide +kernel
theorem dX4_reckoned_46 : decode cX4_reckoned 46 = .ok (.lmul, 1) := by decide +kernel
theorem dX4_reckoned_47 : decode cX4_reckoned 47 = .ok (.lstore 5, 2) := by decide +kernel
theorem dX4_reckoned_49 : decode cX4_reckoned 49 = .ok (.goto 18, 3) := by decide +kernel
theorem dX4_reckoned_52 : decode cX4_reckoned 52 = .ok (.lload_n 3, 1) := by decide +kernel
theorem dX4_reckoned_53 : decode cX4_reckoned 53 = .ok (.lconst 0, 1) := by decide +kernel
theorem dX4_reckoned_54 : decode cX4_reckoned 54 = .ok (.lcmp, 1) := by decide +kernel
theorem dX4_reckoned_55 : decode cX4_reckoned 55 = .ok (.ifCond .ne 7, 3) := by decide +kernel
theorem dX4_reckoned_58 : decode cX4_reckoned 58 = .ok (.lconst 0, 1) := by decide +kernel
theorem dX4_reckoned_59 : decode cX4_reckoned 59 = .ok (.goto 6, 3) := by decide +kernel
theorem dX4_reckoned_62 : decode cX4_reckoned 62 = .ok (.lload_n 1, 1) := by decide +kernel
theorem dX4_reckoned_63 : decode cX4_reckoned 63 = .ok (.lload_n 3, 1) := by decide +kernel
theorem dX4_reckoned_64 : decode cX4_reckoned 64 = .ok (.ldiv, 1) := by decide +kernel
theorem dX4_reckoned_65 : decode cX4_reckoned 65 = .ok (.lstore 5, 2) := by decide +kernel
theorem dX4_reckoned_67 : decode cX4_reckoned 67 = .ok (.ldc2_w 44, 3) := by decide +kernel
theorem dX4_reckoned_70 : decode cX4_reckoned 70 = .ok (.ldc2_w 46, 3) := by decide +kernel
theorem dX4_reckoned_73 : decode cX4_reckoned 73 = .ok (.lload 5, 2) := by decide +kernel
theorem dX4_reckoned_75 : decode cX4_reckoned 75 = .ok (.invokestatic 48, 3) := by decide +kernel
theorem dX4_reckoned_78 : decode cX4_reckoned 78 = .ok (.invokestatic 54, 3) := by decide +kernel
theorem dX4_reckoned_81 : decode cX4_reckoned 81 = .ok (.l2i, 1) := by decide +kernel
theorem dX4_reckoned_82 : decode cX4_reckoned 82 = .ok (.ireturn, 1) := by decide +kernel
theorem dX4_isTrue_0 : decode cX4_isTrue 0 = .ok (.iload_n 0, 1) := by decide +kernel
theorem dX4_isTrue_1 : decode cX4_isTrue 1 = .ok (.tableswitch 78 (-13) (-10) #[64, 53, 42, 31], 31) := by decide +kernel
theorem dX4_isTrue_32 : decode cX4_isTrue 32 = .ok (.iload_n 1, 1) := by decide +kernel
theorem dX4_isTrue_33 : decode cX4_isTrue 33 = .ok (.iload_n 2, 1) := by decide +kernel
theorem dX4_isTrue_34 : decode cX4_isTrue 34 = .ok (.if_icmp .ne 7, 3) := by decide +kernel
theorem dX4_isTrue_37 : decode cX4_isTrue 37 = .ok (.iconst 1, 1) := by decide +kernel
theorem dX4_isTrue_38 : decode cX4_isTrue 38 = .ok (.goto 4, 3) := by decide +kernel
theorem dX4_isTrue_41 : decode cX4_isTrue 41 = .ok (.iconst 0, 1) := by decide +kernel
theorem dX4_isTrue_42 : decode cX4_isTrue 42 = .ok (.ireturn, 1) := by decide +kernel
theorem dX4_isTrue_43 : decode cX4_isTrue 43 = .ok (.iload_n 1, 1) := by decide +kernel
theorem dX4_isTrue_44 : decode cX4_isTrue 44 = .ok (.iload_n 2, 1) := by decide +kernel
theorem dX4_isTrue_45 : decode cX4_isTrue 45 = .ok (.if_icmp .ge 7, 3) := by decide +kernel
theorem dX4_isTrue_48 : decode cX4_isTrue 48 = .ok (.iconst 1, 1) := by decide +kernel
theorem dX4_isTrue_49 : decode cX4_isTrue 49 = .ok (.goto 4, 3) := by decide +kernel
theorem dX4_isTrue_52 : decode cX4_isTrue 52 = .ok (.iconst 0, 1) := by decide +kernel
theorem dX4_isTrue_53 : decode cX4_isTrue 53 = .ok (.ireturn, 1) := by decide +kernel
theorem dX4_isTrue_54 : decode cX4_isTrue 54 = .ok (.iload_n 1, 1) := by decide +kernel
theorem dX4_isTrue_55 : decode cX4_isTrue 55 = .ok (.iload_n 2, 1) := by decide +kernel
theorem dX4_isTrue_56 : decode cX4_isTrue 56 = .ok (.if_icmp .le 7, 3) := by decide +kernel
theorem dX4_isTrue_59 : decode cX4_isTrue 59 = .ok (.iconst 1, 1) := by decide +kernel
theorem dX4_isTrue_60 : decode cX4_isTrue 60 = .ok (.goto 4, 3) := by decide +kernel
theorem dX4_isTrue_63 : decode cX4_isTrue 63 = .ok (.iconst 0, 1) := by decide +kernel
theorem dX4_isTrue_64 : decode cX4_isTrue 64 = .ok (.ireturn, 1) := by decide +kernel
theorem dX4_isTrue_65 : decode cX4_isTrue 65 = .ok (.iload_n 1, 1) := by decide +kernel
theorem dX4_isTrue_66 : decode cX4_isTrue 66 = .ok (.ifCond .eq 11, 3) := by decide +kernel
theorem dX4_isTrue_69 : decode cX4_isTrue 69 = .ok (.iload_n 2, 1) := by decide +kernel
theorem dX4_isTrue_70 : decode cX4_isTrue 70 = .ok (.ifCond .eq 7, 3) := by decide +kernel
theorem dX4_isTrue_73 : decode cX4_isTrue 73 = .ok (.iconst 1, 1) := by decide +kernel
theorem dX4_isTrue_74 : decode cX4_isTrue 74 = .ok (.goto 4, 3) := by decide +kernel
theorem dX4_isTrue_77 : decode cX4_isTrue 77 = .ok (.iconst 0, 1) := by decide +kernel
theorem dX4_isTrue_78 : decode cX4_isTrue 78 = .ok (.ireturn, 1) := by decide +kernel
theorem dX4_isTrue_79 : decode cX4_isTrue 79 = .ok (.iload_n 1, 1) := by decide +kernel
theorem dX4_isTrue_80 : decode cX4_isTrue 80 = .ok (.ifCond .ne 7, 3) := by decide +kernel
theorem dX4_isTrue_83 : decode cX4_isTrue 83 = .ok (.iload_n 2, 1) := by decide +kernel
theorem dX4_isTrue_84 : decode cX4_isTrue 84 = .ok (.ifCond .eq 7, 3) := by decide +kernel
theorem dX4_isTrue_87 : decode cX4_isTrue 87 = .ok (.iconst 1, 1) := by decide +kernel
theorem dX4_isTrue_88 : decode cX4_isTrue 88 = .ok (.goto 4, 3) := by decide +kernel
theorem dX4_isTrue_91 : decode cX4_isTrue 91 = .ok (.iconst 0, 1) := by decide +kernel
theorem dX4_isTrue_92 : decode cX4_isTrue 92 = .ok (.ireturn, 1) := by decide +kernel
theorem dX4_push_0 : decode cX4_push 0 = .ok (.aload_n 0, 1) := by decide +kernel
theorem dX4_push_1 : decode cX4_push 1 = .ok (.getfield 21, 3) := by decide +kernel
theorem dX4_push_4 : decode cX4_push 4 = .ok (.aload_n 0, 1) := by decide +kernel
theorem dX4_push_5 : decode cX4_push 5 = .ok (.getfield 15, 3) := by decide +kernel
theorem dX4_push_8 : decode cX4_push 8 = .ok (.arraylength, 1) := by decide +kernel
theorem dX4_push_9 : decode cX4_push 9 = .ok (.if_icmp .ge 23, 3) := by decide +kernel
theorem dX4_push_12 : decode cX4_push 12 = .ok (.aload_n 0, 1) := by decide +kernel
theorem dX4_push_13 : decode cX4_push 13 = .ok (.getfield 15, 3) := by decide +kernel
theorem dX4_push_16 : decode cX4_push 16 = .ok (.aload_n 0, 1) := by decide +kernel
theorem dX4_push_17 : decode cX4_push 17 = .ok (.getfield 21, 3) := by decide +kernel
theorem dX4_push_20 : decode cX4_push 20 = .ok (.iload_n 1, 1) := by decide +kernel
theorem dX4_push_21 : decode cX4_push 21 = .ok (.iastore, 1) := by decide +kernel
theorem dX4_push_22 : decode cX4_push 22 = .ok (.aload_n 0, 1) := by decide +kernel
theorem dX4_push_23 : decode cX4_push 23 = .ok (.dup, 1) := by decide +kernel
theorem dX4_push_24 : decode cX4_push 24 = .ok (.getfield 21, 3) := by decide +kernel
theorem dX4_push_27 : decode cX4_push 27 = .ok (.iconst 1, 1) := by decide +kernel
theorem dX4_push_28 : decode cX4_push 28 = .ok (.iadd, 1) := by decide +kernel
theorem dX4_push_29 : decode cX4_push 29 = .ok (.putfield 21, 3) := by decide +kernel
theorem dX4_push_32 : decode cX4_push 32 = .ok (.return_, 1) := by decide +kernel
theorem dX4_pull_0 : decode cX4_pull 0 = .ok (.aload_n 0, 1) := by decide +kernel
theorem dX4_pull_1 : decode cX4_pull 1 = .ok (.getfield 21, 3) := by decide +kernel
theorem dX4_pull_4 : decode cX4_pull 4 = .ok (.ifCond .gt 5, 3) := by decide +kernel
theorem dX4_pull_7 : decode cX4_pull 7 = .ok (.iconst 0, 1) := by decide +kernel
theorem dX4_pull_8 : decode cX4_pull 8 = .ok (.ireturn, 1) := by decide +kernel
theorem dX4_pull_9 : decode cX4_pull 9 = .ok (.aload_n 0, 1) := by decide +kernel
theorem dX4_pull_10 : decode cX4_pull 10 = .ok (.dup, 1) := by decide +kernel
theorem dX4_pull_11 : decode cX4_pull 11 = .ok (.getfield 21, 3) := by decide +kernel
theorem dX4_pull_14 : decode cX4_pull 14 = .ok (.iconst 1, 1) := by decide +kernel
theorem dX4_pull_15 : decode cX4_pull 15 = .ok (.isub, 1) := by decide +kernel
theorem dX4_pull_16 : decode cX4_pull 16 = .ok (.putfield 21, 3) := by decide +kernel
theorem dX4_pull_19 : decode cX4_pull 19 = .ok (.aload_n 0, 1) := by decide +kernel
theorem dX4_pull_20 : decode cX4_pull 20 = .ok (.getfield 15, 3) := by decide +kernel
theorem dX4_pull_23 : decode cX4_pull 23 = .ok (.aload_n 0, 1) := by decide +kernel
theorem dX4_pull_24 : decode cX4_pull 24 = .ok (.getfield 21, 3) := by decide +kernel
theorem dX4_pull_27 : decode cX4_pull 27 = .ok (.iaload, 1) := by decide +kernel
theorem dX4_pull_28 : decode cX4_pull 28 = .ok (.ireturn, 1) := by decide +kernel
theorem dX5_init_0 : decode cX5_init 0 = .ok (.aload_n 0, 1) := by decide +kernel
theorem dX5_init_1 : decode cX5_init 1 = .ok (.aload_n 1, 1) := by decide +kernel
theorem dX5_init_2 : decode cX5_init 2 = .ok (.invokespecial 3, 3) := by decide +kernel
theorem dX5_init_5 : decode cX5_init 5 = .ok (.aload_n 0, 1) := by decide +kernel
theorem dX5_init_6 : decode cX5_init 6 = .ok (.sipush 482, 3) := by decide +kernel
theorem dX5_init_9 : decode cX5_init 9 = .ok (.newarray .int, 2) := by decide +kernel
theorem dX5_init_11 : decode cX5_init 11 = .ok (.putfield 11, 3) := by decide +kernel
theorem dX5_init_14 : decode cX5_init 14 = .ok (.return_, 1) := by decide +kernel
theorem dX5_findFault_0 : decode cX5_findFault 0 = .ok (.aload_n 0, 1) := by decide +kernel
theorem dX5_findFault_1 : decode cX5_findFault 1 = .ok (.iconst 0, 1) := by decide +kernel
theorem dX5_findFault_2 : decode cX5_findFault 2 = .ok (.putfield 15, 3) := by decide +kernel
theorem dX5_findFault_5 : decode cX5_findFault 5 = .ok (.aload_n 0, 1) := by decide +kernel
theorem dX5_findFault_6 : decode cX5_findFault 6 = .ok (.invokevirtual 19, 3) := by decide +kernel
theorem dX5_findFault_9 : decode cX5_findFault 9 = .ok (.aload_n 0, 1) := by decide +kernel
theorem dX5_findFault_10 : decode cX5_findFault 10 = .ok (.invokevirtual 23, 3) := by decide +kernel
theorem dX5_findFault_13 : decode cX5_findFault 13 = .ok (.istore_n 1, 1) := by decide +kernel
theorem dX5_findFault_14 : decode cX5_findFault 14 = .ok (.iconst 0, 1) := by decide +kernel
theorem dX5_findFault_15 : decode cX5_findFault 15 = .ok (.istore_n 2, 1) := by decide +kernel
theorem dX5_findFault_16 : decode cX5_findFault 16 = .ok (.iload_n 2, 1) := by decide +kernel
theorem dX5_findFault_17 : decode cX5_findFault 17 = .ok (.sipush 240, 3) := by decide +kernel
theorem dX5_findFault_20 : decode cX5_findFault 20 = .ok (.if_icmp .ge 27, 3) := by decide +kernel
theorem dX5_findFault_23 : decode cX5_findFault 23 = .ok (.iload_n 1, 1) := by decide +kernel
theorem dX5_findFault_24 : decode cX5_findFault 24 = .ok (.ifCond .eq 23, 3) := by decide +kernel
theorem dX5_findFault_27 : decode cX5_findFault 27 = .ok (.aload_n 0, 1) := by decide +kernel
theorem dX5_findFault_28 : decode cX5_findFault 28 = .ok (.bipush 59, 2) := by decide +kernel
theorem dX5_findFault_30 : decode cX5_findFault 30 = .ok (.invokevirtual 27, 3) := by decide +kernel
theorem dX5_findFault_33 : decode cX5_findFault 33 = .ok (.ifCond .eq 14, 3) := by decide +kernel
theorem dX5_findFault_36 : decode cX5_findFault 36 = .ok (.aload_n 0, 1) := by decide +kernel
theorem dX5_findFault_37 : decode cX5_findFault 37 = .ok (.invokevirtual 23, 3) := by decide +kernel
theorem dX5_findFault_40 : decode cX5_findFault 40 = .ok (.istore_n 1, 1) := by decide +kernel
theorem dX5_findFault_41 : decode cX5_findFault 41 = .ok (.iinc 2 1, 3) := by decide +kernel
theorem dX5_findFault_44 : decode cX5_findFault 44 = .ok (.goto (-28), 3) := by decide +kernel
theorem dX5_findFault_47 : decode cX5_findFault 47 = .ok (.aload_n 0, 1) := by decide +kernel
theorem dX5_findFault_48 : decode cX5_findFault 48 = .ok (.invokevirtual 31, 3) := by decide +kernel
theorem dX5_findFault_51 : decode cX5_findFault 51 = .ok (.ireturn, 1) := by decide +kernel
theorem dX5_written_0 : decode cX5_written 0 = .ok (.aload_n 0, 1) := by decide +kernel
theorem dX5_written_1 : decode cX5_written 1 = .ok (.getfield 11, 3) := by decide +kernel
theorem dX5_written_4 : decode cX5_written 4 = .ok (.aload_n 0, 1) := by decide +kernel
theorem dX5_written_5 : decode cX5_written 5 = .ok (.getfield 15, 3) := by decide +kernel
theorem dX5_written_8 : decode cX5_written 8 = .ok (.invokestatic 35, 3) := by decide +kernel
theorem dX5_written_11 : decode cX5_written 11 = .ok (.areturn, 1) := by decide +kernel
theorem dX5_readsClause_0 : decode cX5_readsClause 0 = .ok (.aload_n 0, 1) := by decide +kernel
theorem dX5_readsClause_1 : decode cX5_readsClause 1 = .ok (.bipush 107, 2) := by decide +kernel
theorem dX5_readsClause_3 : decode cX5_readsClause 3 = .ok (.invokevirtual 41, 3) := by decide +kernel
theorem dX5_readsClause_6 : decode cX5_readsClause 6 = .ok (.ifCond .eq 12, 3) := by decide +kernel
theorem dX5_readsClause_9 : decode cX5_readsClause 9 = .ok (.aload_n 0, 1) := by decide +kernel
theorem dX5_readsClause_10 : decode cX5_readsClause 10 = .ok (.bipush 58, 2) := by decide +kernel
theorem dX5_readsClause_12 : decode cX5_readsClause 12 = .ok (.invokevirtual 41, 3) := by decide +kernel
theorem dX5_readsClause_15 : decode cX5_readsClause 15 = .ok (.ifCond .ne 5, 3) := by decide +kernel
theorem dX5_readsClause_18 : decode cX5_readsClause 18 = .ok (.iconst 0, 1) := by decide +kernel
theorem dX5_readsClause_19 : decode cX5_readsClause 19 = .ok (.ireturn, 1) := by decide +kernel
theorem dX5_readsClause_20 : decode cX5_readsClause 20 = .ok (.aload_n 0, 1) := by decide +kernel
theorem dX5_readsClause_21 : decode cX5_readsClause 21 = .ok (.invokevirtual 44, 3) := by decide +kernel
theorem dX5_readsClause_24 : decode cX5_readsClause 24 = .ok (.aload_n 0, 1) := by decide +kernel
theorem dX5_readsClause_25 : decode cX5_readsClause 25 = .ok (.invokevirtual 47, 3) := by decide +kernel
theorem dX5_readsClause_28 : decode cX5_readsClause 28 = .ok (.bipush 33, 2) := by decide +kernel
theorem dX5_readsClause_30 : decode cX5_readsClause 30 = .ok (.if_icmp .eq 12, 3) := by decide +kernel
theorem dX5_readsClause_33 : decode cX5_readsClause 33 = .ok (.aload_n 0, 1) := by decide +kernel
theorem dX5_readsClause_34 : decode cX5_readsClause 34 = .ok (.invokevirtual 47, 3) := by decide +kernel
theorem dX5_readsClause_37 : decode cX5_readsClause 37 = .ok (.bipush 40, 2) := by decide +kernel
theorem dX5_readsClause_39 : decode cX5_readsClause 39 = .ok (.if_icmp .ne 25, 3) := by decide +kernel
theorem dX5_readsClause_42 : decode cX5_readsClause 42 = .ok (.aload_n 0, 1) := by decide +kernel
theorem dX5_readsClause_43 : decode cX5_readsClause 43 = .ok (.iconst 0, 1) := by decide +kernel
theorem dX5_readsClause_44 : decode cX5_readsClause 44 = .ok (.iconst 0, 1) := by decide +kernel
theorem dX5_readsClause_45 : decode cX5_readsClause 45 = .ok (.invokevirtual 50, 3) := by decide +kernel
theorem dX5_readsClause_48 : decode cX5_readsClause 48 = .ok (.ifCond .eq 14, 3) := by decide +kernel
theorem dX5_readsClause_51 : decode cX5_readsClause 51 = .ok (.aload_n 0, 1) := by decide +kernel
theorem dX5_readsClause_52 : decode cX5_readsClause 52 = .ok (.invokevirtual 54, 3) := by decide +kernel
theorem dX5_readsClause_55 : decode cX5_readsClause 55 = .ok (.ifCond .eq 7, 3) := by decide +kernel
theorem dX5_readsClause_58 : decode cX5_readsClause 58 = .ok (.iconst 1, 1) := by decide +kernel
theorem dX5_readsClause_59 : decode cX5_readsClause 59 = .ok (.goto 4, 3) := by decide +kernel
theorem dX5_readsClause_62 : decode cX5_readsClause 62 = .ok (.iconst 0, 1) := by decide +kernel
theorem dX5_readsClause_63 : decode cX5_readsClause 63 = .ok (.ireturn, 1) := by decide +kernel
theorem dX5_readsClause_64 : decode cX5_readsClause 64 = .ok (.aload_n 0, 1) := by decide +kernel
theorem dX5_readsClause_65 : decode cX5_readsClause 65 = .ok (.iconst 0, 1) := by decide +kernel
theorem dX5_readsClause_66 : decode cX5_readsClause 66 = .ok (.invokevirtual 57, 3) := by decide +kernel
theorem dX5_readsClause_69 : decode cX5_readsClause 69 = .ok (.ifCond .ne 5, 3) := by decide +kernel
theorem dX5_readsClause_72 : decode cX5_readsClause 72 = .ok (.iconst 0, 1) := by decide +kernel
theorem dX5_readsClause_73 : decode cX5_readsClause 73 = .ok (.ireturn, 1) := by decide +kernel
theorem dX5_readsClause_74 : decode cX5_readsClause 74 = .ok (.aload_n 0, 1) := by decide +kernel
theorem dX5_readsClause_75 : decode cX5_readsClause 75 = .ok (.invokevirtual 60, 3) := by decide +kernel
theorem dX5_readsClause_78 : decode cX5_readsClause 78 = .ok (.ifCond .eq 25, 3) := by decide +kernel
theorem dX5_readsClause_81 : decode cX5_readsClause 81 = .ok (.aload_n 0, 1) := by decide +kernel
theorem dX5_readsClause_82 : decode cX5_readsClause 82 = .ok (.iconst 0, 1) := by decide +kernel
theorem dX5_readsClause_83 : decode cX5_readsClause 83 = .ok (.iconst 1, 1) := by decide +kernel
theorem dX5_readsClause_84 : decode cX5_readsClause 84 = .ok (.invokevirtual 50, 3) := by decide +kernel
theorem dX5_readsClause_87 : decode cX5_readsClause 87 = .ok (.ifCond .eq 14, 3) := by decide +kernel
theorem dX5_readsClause_90 : decode cX5_readsClause 90 = .ok (.aload_n 0, 1) := by decide +kernel
theorem dX5_readsClause_91 : decode cX5_readsClause 91 = .ok (.invokevirtual 54, 3) := by decide +kernel
theorem dX5_readsClause_94 : decode cX5_readsClause 94 = .ok (.ifCond .eq 7, 3) := by decide +kernel
theorem dX5_readsClause_97 : decode cX5_readsClause 97 = .ok (.iconst 1, 1) := by decide +kernel
theorem dX5_readsClause_98 : decode cX5_readsClause 98 = .ok (.goto 4, 3) := by decide +kernel
theorem dX5_readsClause_101 : decode cX5_readsClause 101 = .ok (.iconst 0, 1) := by decide +kernel
theorem dX5_readsClause_102 : decode cX5_readsClause 102 = .ok (.ireturn, 1) := by decide +kernel
theorem dX5_readsClause_103 : decode cX5_readsClause 103 = .ok (.aload_n 0, 1) := by decide +kernel
theorem dX5_readsClause_104 : decode cX5_readsClause 104 = .ok (.bipush (-17), 2) := by decide +kernel
theorem dX5_readsClause_106 : decode cX5_readsClause 106 = .ok (.invokevirtual 65, 3) := by decide +kernel
theorem dX5_readsClause_109 : decode cX5_readsClause 109 = .ok (.ireturn, 1) := by decide +kernel
theorem dX5_readsGiven_0 : decode cX5_readsGiven 0 = .ok (.aload_n 0, 1) := by decide +kernel
theorem dX5_readsGiven_1 : decode cX5_readsGiven 1 = .ok (.bipush 63, 2) := by decide +kernel
theorem dX5_readsGiven_3 : decode cX5_readsGiven 3 = .ok (.invokevirtual 41, 3) := by decide +kernel
theorem dX5_readsGiven_6 : decode cX5_readsGiven 6 = .ok (.ifCond .eq 33, 3) := by decide +kernel
theorem dX5_readsGiven_9 : decode cX5_readsGiven 9 = .ok (.aload_n 0, 1) := by decide +kernel
theorem dX5_readsGiven_10 : decode cX5_readsGiven 10 = .ok (.bipush (-16), 2) := by decide +kernel
theorem dX5_readsGiven_12 : decode cX5_readsGiven 12 = .ok (.invokevirtual 65, 3) := by decide +kernel
theorem dX5_readsGiven_15 : decode cX5_readsGiven 15 = .ok (.ifCond .eq 24, 3) := by decide +kernel
theorem dX5_readsGiven_18 : decode cX5_readsGiven 18 = .ok (.aload_n 0, 1) := by decide +kernel
theorem dX5_readsGiven_19 : decode cX5_readsGiven 19 = .ok (.iconst 0, 1) := by decide +kernel
theorem dX5_readsGiven_20 : decode cX5_readsGiven 20 = .ok (.invokevirtual 57, 3) := by decide +kernel
theorem dX5_readsGiven_23 : decode cX5_readsGiven 23 = .ok (.ifCond .eq 16, 3) := by decide +kernel
theorem dX5_readsGiven_26 : decode cX5_readsGiven 26 = .ok (.aload_n 0, 1) := by decide +kernel
theorem dX5_readsGiven_27 : decode cX5_readsGiven 27 = .ok (.bipush (-17), 2) := by decide +kernel
theorem dX5_readsGiven_29 : decode cX5_readsGiven 29 = .ok (.invokevirtual 65, 3) := by decide +kernel
theorem dX5_readsGiven_32 : decode cX5_readsGiven 32 = .ok (.ifCond .eq 7, 3) := by decide +kernel
theorem dX5_readsGiven_35 : decode cX5_readsGiven 35 = .ok (.iconst 1, 1) := by decide +kernel
theorem dX5_readsGiven_36 : decode cX5_readsGiven 36 = .ok (.goto 4, 3) := by decide +kernel
theorem dX5_readsGiven_39 : decode cX5_readsGiven 39 = .ok (.iconst 0, 1) := by decide +kernel
theorem dX5_readsGiven_40 : decode cX5_readsGiven 40 = .ok (.ireturn, 1) := by decide +kernel
theorem dX5_readsCondition_0 : decode cX5_readsCondition 0 = .ok (.aload_n 0, 1) := by decide +kernel
theorem dX5_readsCondition_1 : decode cX5_readsCondition 1 = .ok (.iload_n 1, 1) := by decide +kernel
theorem dX5_readsCondition_2 : decode cX5_readsCondition 2 = .ok (.iload_n 2, 1) := by decide +kernel
theorem dX5_readsCondition_3 : decode cX5_readsCondition 3 = .ok (.invokevirtual 68, 3) := by decide +kernel
theorem dX5_readsCondition_6 : decode cX5_readsCondition 6 = .ok (.istore_n 3, 1) := by decide +kernel
theorem dX5_readsCondition_7 : decode cX5_readsCondition 7 = .ok (.iconst 0, 1) := by decide +kernel
theorem dX5_readsCondition_8 : decode cX5_readsCondition 8 = .ok (.istore 4, 2) := by decide +kernel
theorem dX5_readsCondition_10 : decode cX5_readsCondition 10 = .ok (.iload 4, 2) := by decide +kernel
theorem dX5_readsCondition_12 : decode cX5_readsCondition 12 = .ok (.sipush 240, 3) := by decide +kernel
theorem dX5_readsCondition_15 : decode cX5_readsCondition 15 = .ok (.if_icmp .ge 46, 3) := by decide +kernel
theorem dX5_readsCondition_18 : decode cX5_readsCondition 18 = .ok (.iload_n 3, 1) := by decide +kernel
theorem dX5_readsCondition_19 : decode cX5_readsCondition 19 = .ok (.ifCond .eq 42, 3) := by decide +kernel
theorem dX5_readsCondition_22 : decode cX5_readsCondition 22 = .ok (.aload_n 0, 1) := by decide +kernel
theorem dX5_readsCondition_23 : decode cX5_readsCondition 23 = .ok (.bipush 124, 2) := by decide +kernel
theorem dX5_readsCondition_25 : decode cX5_readsCondition 25 = .ok (.invokevirtual 27, 3) := by decide +kernel
theorem dX5_readsCondition_28 : decode cX5_readsCondition 28 = .ok (.ifCond .eq 33, 3) := by decide +kernel
theorem dX5_readsCondition_31 : decode cX5_readsCondition 31 = .ok (.aload_n 0, 1) := by decide +kernel
theorem dX5_readsCondition_32 : decode cX5_readsCondition 32 = .ok (.iload_n 1, 1) := by decide +kernel
theorem dX5_readsCondition_33 : decode cX5_readsCondition 33 = .ok (.iconst 0, 1) := by decide +kernel
theorem dX5_readsCondition_34 : decode cX5_readsCondition 34 = .ok (.invokevirtual 68, 3) := by decide +kernel
theorem dX5_readsCondition_37 : decode cX5_readsCondition 37 = .ok (.ifCond .eq 16, 3) := by decide +kernel
theorem dX5_readsCondition_40 : decode cX5_readsCondition 40 = .ok (.aload_n 0, 1) := by decide +kernel
theorem dX5_readsCondition_41 : decode cX5_readsCondition 41 = .ok (.bipush (-14), 2) := by decide +kernel
theorem dX5_readsCondition_43 : decode cX5_readsCondition 43 = .ok (.invokevirtual 65, 3) := by decide +kernel
theorem dX5_readsCondition_46 : decode cX5_readsCondition 46 = .ok (.ifCond .eq 7, 3) := by decide +kernel
theorem dX5_readsCondition_49 : decode cX5_readsCondition 49 = .ok (.iconst 1, 1) := by decide +kernel
theorem dX5_readsCondition_50 : decode cX5_readsCondition 50 = .ok (.goto 4, 3) := by decide +kernel
theorem dX5_readsCondition_53 : decode cX5_readsCondition 53 = .ok (.iconst 0, 1) := by decide +kernel
theorem dX5_readsCondition_54 : decode cX5_readsCondition 54 = .ok (.istore_n 3, 1) := by decide +kernel
theorem dX5_readsCondition_55 : decode cX5_readsCondition 55 = .ok (.iinc 4 1, 3) := by decide +kernel
theorem dX5_readsCondition_58 : decode cX5_readsCondition 58 = .ok (.goto (-48), 3) := by decide +kernel
theorem dX5_readsCondition_61 : decode cX5_readsCondition 61 = .ok (.iload_n 3, 1) := by decide +kernel
theorem dX5_readsCondition_62 : decode cX5_readsCondition 62 = .ok (.ireturn, 1) := by decide +kernel
theorem dX5_readsTruth_0 : decode cX5_readsTruth 0 = .ok (.iload_n 2, 1) := by decide +kernel
theorem dX5_readsTruth_1 : decode cX5_readsTruth 1 = .ok (.ifCond .eq 11, 3) := by decide +kernel
theorem dX5_readsTruth_4 : decode cX5_readsTruth 4 = .ok (.aload_n 0, 1) := by decide +kernel
theorem dX5_readsTruth_5 : decode cX5_readsTruth 5 = .ok (.iload_n 1, 1) := by decide +kernel
theorem dX5_readsTruth_6 : decode cX5_readsTruth 6 = .ok (.invokevirtual 71, 3) := by decide +kernel
theorem dX5_readsTruth_9 : decode cX5_readsTruth 9 = .ok (.goto 8, 3) := by decide +kernel
theorem dX5_readsTruth_12 : decode cX5_readsTruth 12 = .ok (.aload_n 0, 1) := by decide +kernel
theorem dX5_readsTruth_13 : decode cX5_readsTruth 13 = .ok (.iload_n 1, 1) := by decide +kernel
theorem dX5_readsTruth_14 : decode cX5_readsTruth 14 = .ok (.invokevirtual 74, 3) := by decide +kernel
theorem dX5_readsTruth_17 : decode cX5_readsTruth 17 = .ok (.istore_n 3, 1) := by decide +kernel
theorem dX5_readsTruth_18 : decode cX5_readsTruth 18 = .ok (.iconst 0, 1) := by decide +kernel
theorem dX5_readsTruth_19 : decode cX5_readsTruth 19 = .ok (.istore 4, 2) := by decide +kernel
theorem dX5_readsTruth_21 : decode cX5_readsTruth 21 = .ok (.iload 4, 2) := by decide +kernel
theorem dX5_readsTruth_23 : decode cX5_readsTruth 23 = .ok (.sipush 240, 3) := by decide +kernel
theorem dX5_readsTruth_26 : decode cX5_readsTruth 26 = .ok (.if_icmp .ge 45, 3) := by decide +kernel
theorem dX5_readsTruth_29 : decode cX5_readsTruth 29 = .ok (.iload_n 3, 1) := by decide +kernel
theorem dX5_readsTruth_30 : decode cX5_readsTruth 30 = .ok (.ifCond .eq 41, 3) := by decide +kernel
theorem dX5_readsTruth_33 : decode cX5_readsTruth 33 = .ok (.aload_n 0, 1) := by decide +kernel
theorem dX5_readsTruth_34 : decode cX5_readsTruth 34 = .ok (.bipush 38, 2) := by decide +kernel
theorem dX5_readsTruth_36 : decode cX5_readsTruth 36 = .ok (.invokevirtual 27, 3) := by decide +kernel
theorem dX5_readsTruth_39 : decode cX5_readsTruth 39 = .ok (.ifCond .eq 32, 3) := by decide +kernel
theorem dX5_readsTruth_42 : decode cX5_readsTruth 42 = .ok (.aload_n 0, 1) := by decide +kernel
theorem dX5_readsTruth_43 : decode cX5_readsTruth 43 = .ok (.iload_n 1, 1) := by decide +kernel
theorem dX5_readsTruth_44 : decode cX5_readsTruth 44 = .ok (.invokevirtual 74, 3) := by decide +kernel
theorem dX5_readsTruth_47 : decode cX5_readsTruth 47 = .ok (.ifCond .eq 16, 3) := by decide +kernel
theorem dX5_readsTruth_50 : decode cX5_readsTruth 50 = .ok (.aload_n 0, 1) := by decide +kernel
theorem dX5_readsTruth_51 : decode cX5_readsTruth 51 = .ok (.bipush (-13), 2) := by decide +kernel
theorem dX5_readsTruth_53 : decode cX5_readsTruth 53 = .ok (.invokevirtual 65, 3) := by decide +kernel
theorem dX5_readsTruth_56 : decode cX5_readsTruth 56 = .ok (.ifCond .eq 7, 3) := by decide +kernel
theorem dX5_readsTruth_59 : decode cX5_readsTruth 59 = .ok (.iconst 1, 1) := by decide +kernel
theorem dX5_readsTruth_60 : decode cX5_readsTruth 60 = .ok (.goto 4, 3) := by decide +kernel
theorem dX5_readsTruth_63 : decode cX5_readsTruth 63 = .ok (.iconst 0, 1) := by decide +kernel
theorem dX5_readsTruth_64 : decode cX5_readsTruth 64 = .ok (.istore_n 3, 1) := by decide +kernel
theorem dX5_readsTruth_65 : decode cX5_readsTruth 65 = .ok (.iinc 4 1, 3) := by decide +kernel
theorem dX5_readsTruth_68 : decode cX5_readsTruth 68 = .ok (.goto (-47), 3) := by decide +kernel
theorem dX5_readsTruth_71 : decode cX5_readsTruth 71 = .ok (.iload_n 3, 1) := by decide +kernel
theorem dX5_readsTruth_72 : decode cX5_readsTruth 72 = .ok (.ireturn, 1) := by decide +kernel
theorem dX5_readsUnit_0 : decode cX5_readsUnit 0 = .ok (.aload_n 0, 1) := by decide +kernel
theorem dX5_readsUnit_1 : decode cX5_readsUnit 1 = .ok (.invokevirtual 44, 3) := by decide +kernel
theorem dX5_readsUnit_4 : decode cX5_readsUnit 4 = .ok (.aload_n 0, 1) := by decide +kernel
theorem dX5_readsUnit_5 : decode cX5_readsUnit 5 = .ok (.invokevirtual 47, 3) := by decide +kernel
theorem dX5_readsUnit_8 : decode cX5_readsUnit 8 = .ok (.bipush 33, 2) := by decide +kernel
theorem dX5_readsUnit_10 : decode cX5_readsUnit 10 = .ok (.if_icmp .ne 36, 3) := by decide +kernel
theorem dX5_readsUnit_13 : decode cX5_readsUnit 13 = .ok (.aload_n 0, 1) := by decide +kernel
theorem dX5_readsUnit_14 : decode cX5_readsUnit 14 = .ok (.iload_n 1, 1) := by decide +kernel
theorem dX5_readsUnit_15 : decode cX5_readsUnit 15 = .ok (.invokevirtual 77, 3) := by decide +kernel
theorem dX5_readsUnit_18 : decode cX5_readsUnit 18 = .ok (.ifCond .eq 26, 3) := by decide +kernel
theorem dX5_readsUnit_21 : decode cX5_readsUnit 21 = .ok (.aload_n 0, 1) := by decide +kernel
theorem dX5_readsUnit_22 : decode cX5_readsUnit 22 = .ok (.iload_n 1, 1) := by decide +kernel
theorem dX5_readsUnit_23 : decode cX5_readsUnit 23 = .ok (.iconst 1, 1) := by decide +kernel
theorem dX5_readsUnit_24 : decode cX5_readsUnit 24 = .ok (.iadd, 1) := by decide +kernel
theorem dX5_readsUnit_25 : decode cX5_readsUnit 25 = .ok (.invokevirtual 74, 3) := by decide +kernel
theorem dX5_readsUnit_28 : decode cX5_readsUnit 28 = .ok (.ifCond .eq 16, 3) := by decide +kernel
theorem dX5_readsUnit_31 : decode cX5_readsUnit 31 = .ok (.aload_n 0, 1) := by decide +kernel
theorem dX5_readsUnit_32 : decode cX5_readsUnit 32 = .ok (.bipush (-15), 2) := by decide +kernel
theorem dX5_readsUnit_34 : decode cX5_readsUnit 34 = .ok (.invokevirtual 65, 3) := by decide +kernel
theorem dX5_readsUnit_37 : decode cX5_readsUnit 37 = .ok (.ifCond .eq 7, 3) := by decide +kernel
theorem dX5_readsUnit_40 : decode cX5_readsUnit 40 = .ok (.iconst 1, 1) := by decide +kernel
theorem dX5_readsUnit_41 : decode cX5_readsUnit 41 = .ok (.goto 4, 3) := by decide +kernel
theorem dX5_readsUnit_44 : decode cX5_readsUnit 44 = .ok (.iconst 0, 1) := by decide +kernel
theorem dX5_readsUnit_45 : decode cX5_readsUnit 45 = .ok (.ireturn, 1) := by decide +kernel
theorem dX5_readsUnit_46 : decode cX5_readsUnit 46 = .ok (.aload_n 0, 1) := by decide +kernel
theorem dX5_readsUnit_47 : decode cX5_readsUnit 47 = .ok (.invokevirtual 47, 3) := by decide +kernel
theorem dX5_readsUnit_50 : decode cX5_readsUnit 50 = .ok (.bipush 40, 2) := by decide +kernel
theorem dX5_readsUnit_52 : decode cX5_readsUnit 52 = .ok (.if_icmp .ne 37, 3) := by decide +kernel
theorem dX5_readsUnit_55 : decode cX5_readsUnit 55 = .ok (.aload_n 0, 1) := by decide +kernel
theorem dX5_readsUnit_56 : decode cX5_readsUnit 56 = .ok (.iload_n 1, 1) := by decide +kernel
theorem dX5_readsUnit_57 : decode cX5_readsUnit 57 = .ok (.invokevirtual 77, 3) := by decide +kernel
theorem dX5_readsUnit_60 : decode cX5_readsUnit 60 = .ok (.ifCond .eq 27, 3) := by decide +kernel
theorem dX5_readsUnit_63 : decode cX5_readsUnit 63 = .ok (.aload_n 0, 1) := by decide +kernel
theorem dX5_readsUnit_64 : decode cX5_readsUnit 64 = .ok (.iload_n 1, 1) := by decide +kernel
theorem dX5_readsUnit_65 : decode cX5_readsUnit 65 = .ok (.iconst 1, 1) := by decide +kernel
theorem dX5_readsUnit_66 : decode cX5_readsUnit 66 = .ok (.iadd, 1) := by decide +kernel
theorem dX5_readsUnit_67 : decode cX5_readsUnit 67 = .ok (.iconst 0, 1) := by decide +kernel
theorem dX5_readsUnit_68 : decode cX5_readsUnit 68 = .ok (.invokevirtual 50, 3) := by decide +kernel
theorem dX5_readsUnit_71 : decode cX5_readsUnit 71 = .ok (.ifCond .eq 16, 3) := by decide +kernel
theorem dX5_readsUnit_74 : decode cX5_readsUnit 74 = .ok (.aload_n 0, 1) := by decide +kernel
theorem dX5_readsUnit_75 : decode cX5_readsUnit 75 = .ok (.bipush 41, 2) := by decide +kernel
theorem dX5_readsUnit_77 : decode cX5_readsUnit 77 = .ok (.invokevirtual 41, 3) := by decide +kernel
theorem dX5_readsUnit_80 : decode cX5_readsUnit 80 = .ok (.ifCond .eq 7, 3) := by decide +kernel
theorem dX5_readsUnit_83 : decode cX5_readsUnit 83 = .ok (.iconst 1, 1) := by decide +kernel
theorem dX5_readsUnit_84 : decode cX5_readsUnit 84 = .ok (.goto 4, 3) := by decide +kernel
theorem dX5_readsUnit_87 : decode cX5_readsUnit 87 = .ok (.iconst 0, 1) := by decide +kernel
theorem dX5_readsUnit_88 : decode cX5_readsUnit 88 = .ok (.ireturn, 1) := by decide +kernel
theorem dX5_readsUnit_89 : decode cX5_readsUnit 89 = .ok (.aload_n 0, 1) := by decide +kernel
theorem dX5_readsUnit_90 : decode cX5_readsUnit 90 = .ok (.iload_n 1, 1) := by decide +kernel
theorem dX5_readsUnit_91 : decode cX5_readsUnit 91 = .ok (.invokevirtual 57, 3) := by decide +kernel
theorem dX5_readsUnit_94 : decode cX5_readsUnit 94 = .ok (.ifCond .eq 15, 3) := by decide +kernel
theorem dX5_readsUnit_97 : decode cX5_readsUnit 97 = .ok (.aload_n 0, 1) := by decide +kernel
theorem dX5_readsUnit_98 : decode cX5_readsUnit 98 = .ok (.iload_n 1, 1) := by decide +kernel
theorem dX5_readsUnit_99 : decode cX5_readsUnit 99 = .ok (.invokevirtual 71, 3) := by decide +kernel
theorem dX5_readsUnit_102 : decode cX5_readsUnit 102 = .ok (.ifCond .eq 7, 3) := by decide +kernel
theorem dX5_readsUnit_105 : decode cX5_readsUnit 105 = .ok (.iconst 1, 1) := by decide +kernel
theorem dX5_readsUnit_106 : decode cX5_readsUnit 106 = .ok (.goto 4, 3) := by decide +kernel
theorem dX5_readsUnit_109 : decode cX5_readsUnit 109 = .ok (.iconst 0, 1) := by decide +kernel
theorem dX5_readsUnit_110 : decode cX5_readsUnit 110 = .ok (.ireturn, 1) := by decide +kernel
theorem dX5_isAtComparison_0 : decode cX5_isAtComparison 0 = .ok (.aload_n 0, 1) := by decide +kernel
theorem dX5_isAtComparison_1 : decode cX5_isAtComparison 1 = .ok (.invokevirtual 44, 3) := by decide +kernel
theorem dX5_isAtComparison_4 : decode cX5_isAtComparison 4 = .ok (.aload_n 0, 1) := by decide +kernel
theorem dX5_isAtComparison_5 : decode cX5_isAtComparison 5 = .ok (.invokevirtual 47, 3) := by decide +kernel
theorem dX5_isAtComparison_8 : decode cX5_isAtComparison 8 = .ok (.bipush 61, 2) := by decide +kernel
theorem dX5_isAtComparison_10 : decode cX5_isAtComparison 10 = .ok (.if_icmp .eq 21, 3) := by decide +kernel
theorem dX5_isAtComparison_13 : decode cX5_isAtComparison 13 = .ok (.aload_n 0, 1) := by decide +kernel
theorem dX5_isAtComparison_14 : decode cX5_isAtComparison 14 = .ok (.invokevirtual 47, 3) := by decide +kernel
theorem dX5_isAtComparison_17 : decode cX5_isAtComparison 17 = .ok (.bipush 60, 2) := by decide +kernel
theorem dX5_isAtComparison_19 : decode cX5_isAtComparison 19 = .ok (.if_icmp .eq 12, 3) := by decide +kernel
theorem dX5_isAtComparison_22 : decode cX5_isAtComparison 22 = .ok (.aload_n 0, 1) := by decide +kernel
theorem dX5_isAtComparison_23 : decode cX5_isAtComparison 23 = .ok (.invokevirtual 47, 3) := by decide +kernel
theorem dX5_isAtComparison_26 : decode cX5_isAtComparison 26 = .ok (.bipush 62, 2) := by decide +kernel
theorem dX5_isAtComparison_28 : decode cX5_isAtComparison 28 = .ok (.if_icmp .ne 7, 3) := by decide +kernel
theorem dX5_isAtComparison_31 : decode cX5_isAtComparison 31 = .ok (.iconst 1, 1) := by decide +kernel
theorem dX5_isAtComparison_32 : decode cX5_isAtComparison 32 = .ok (.goto 4, 3) := by decide +kernel
theorem dX5_isAtComparison_35 : decode cX5_isAtComparison 35 = .ok (.iconst 0, 1) := by decide +kernel
theorem dX5_isAtComparison_36 : decode cX5_isAtComparison 36 = .ok (.ireturn, 1) := by decide +kernel
theorem dX5_readsComparison_0 : decode cX5_readsComparison 0 = .ok (.aload_n 0, 1) := by decide +kernel
theorem dX5_readsComparison_1 : decode cX5_readsComparison 1 = .ok (.invokevirtual 60, 3) := by decide +kernel
theorem dX5_readsComparison_4 : decode cX5_readsComparison 4 = .ok (.ifCond .ne 12, 3) := by decide +kernel
theorem dX5_readsComparison_7 : decode cX5_readsComparison 7 = .ok (.aload_n 0, 1) := by decide +kernel
theorem dX5_readsComparison_8 : decode cX5_readsComparison 8 = .ok (.aload_n 0, 1) := by decide +kernel
theorem dX5_readsComparison_9 : decode cX5_readsComparison 9 = .ok (.getfield 80, 3) := by decide +kernel
theorem dX5_readsComparison_12 : decode cX5_readsComparison 12 = .ok (.invokevirtual 83, 3) := by decide +kernel
theorem dX5_readsComparison_15 : decode cX5_readsComparison 15 = .ok (.ireturn, 1) := by decide +kernel
theorem dX5_readsComparison_16 : decode cX5_readsComparison 16 = .ok (.aload_n 0, 1) := by decide +kernel
theorem dX5_readsComparison_17 : decode cX5_readsComparison 17 = .ok (.invokevirtual 47, 3) := by decide +kernel
theorem dX5_readsComparison_20 : decode cX5_readsComparison 20 = .ok (.istore_n 2, 1) := by decide +kernel
theorem dX5_readsComparison_21 : decode cX5_readsComparison 21 = .ok (.aload_n 0, 1) := by decide +kernel
theorem dX5_readsComparison_22 : decode cX5_readsComparison 22 = .ok (.dup, 1) := by decide +kernel
theorem dX5_readsComparison_23 : decode cX5_readsComparison 23 = .ok (.getfield 80, 3) := by decide +kernel
theorem dX5_readsComparison_26 : decode cX5_readsComparison 26 = .ok (.iconst 1, 1) := by decide +kernel
theorem dX5_readsComparison_27 : decode cX5_readsComparison 27 = .ok (.iadd, 1) := by decide +kernel
theorem dX5_readsComparison_28 : decode cX5_readsComparison 28 = .ok (.putfield 80, 3) := by decide +kernel
theorem dX5_readsComparison_31 : decode cX5_readsComparison 31 = .ok (.iload_n 2, 1) := by decide +kernel
theorem dX5_readsComparison_32 : decode cX5_readsComparison 32 = .ok (.bipush 61, 2) := by decide +kernel
theorem dX5_readsComparison_34 : decode cX5_readsComparison 34 = .ok (.if_icmp .ne 8, 3) := by decide +kernel
theorem dX5_readsComparison_37 : decode cX5_readsComparison 37 = .ok (.bipush (-10), 2) := by decide +kernel
theorem dX5_readsComparison_39 : decode cX5_readsComparison 39 = .ok (.goto 16, 3) := by decide +kernel
theorem dX5_readsComparison_42 : decode cX5_readsComparison 42 = .ok (.iload_n 2, 1) := by decide +kernel
theorem dX5_readsComparison_43 : decode cX5_readsComparison 43 = .ok (.bipush 60, 2) := by decide +kernel
theorem dX5_readsComparison_45 : decode cX5_readsComparison 45 = .ok (.if_icmp .ne 8, 3) := by decide +kernel
theorem dX5_readsComparison_48 : decode cX5_readsComparison 48 = .ok (.bipush (-11), 2) := by decide +kernel
theorem dX5_readsComparison_50 : decode cX5_readsComparison 50 = .ok (.goto 5, 3) := by decide +kernel
theorem dX5_readsComparison_53 : decode cX5_readsComparison 53 = .ok (.bipush (-12), 2) := by decide +kernel
theorem dX5_readsComparison_55 : decode cX5_readsComparison 55 = .ok (.istore_n 3, 1) := by decide +kernel
theorem dX5_readsComparison_56 : decode cX5_readsComparison 56 = .ok (.aload_n 0, 1) := by decide +kernel
theorem dX5_readsComparison_57 : decode cX5_readsComparison 57 = .ok (.iload_n 1, 1) := by decide +kernel
theorem dX5_readsComparison_58 : decode cX5_readsComparison 58 = .ok (.invokevirtual 57, 3) := by decide +kernel
theorem dX5_readsComparison_61 : decode cX5_readsComparison 61 = .ok (.ifCond .eq 15, 3) := by decide +kernel
theorem dX5_readsComparison_64 : decode cX5_readsComparison 64 = .ok (.aload_n 0, 1) := by decide +kernel
theorem dX5_readsComparison_65 : decode cX5_readsComparison 65 = .ok (.iload_n 3, 1) := by decide +kernel
theorem dX5_readsComparison_66 : decode cX5_readsComparison 66 = .ok (.invokevirtual 65, 3) := by decide +kernel
theorem dX5_readsComparison_69 : decode cX5_readsComparison 69 = .ok (.ifCond .eq 7, 3) := by decide +kernel
theorem dX5_readsComparison_72 : decode cX5_readsComparison 72 = .ok (.iconst 1, 1) := by decide +kernel
theorem dX5_readsComparison_73 : decode cX5_readsComparison 73 = .ok (.goto 4, 3) := by decide +kernel
theorem dX5_readsComparison_76 : decode cX5_readsComparison 76 = .ok (.iconst 0, 1) := by decide +kernel
theorem dX5_readsComparison_77 : decode cX5_readsComparison 77 = .ok (.ireturn, 1) := by decide +kernel
theorem dX5_readsSum_0 : decode cX5_readsSum 0 = .ok (.aload_n 0, 1) := by decide +kernel
theorem dX5_readsSum_1 : decode cX5_readsSum 1 = .ok (.iload_n 1, 1) := by decide +kernel
theorem dX5_readsSum_2 : decode cX5_readsSum 2 = .ok (.invokevirtual 86, 3) := by decide +kernel
theorem dX5_readsSum_5 : decode cX5_readsSum 5 = .ok (.istore_n 2, 1) := by decide +kernel
theorem dX5_readsSum_6 : decode cX5_readsSum 6 = .ok (.aload_n 0, 1) := by decide +kernel
theorem dX5_readsSum_7 : decode cX5_readsSum 7 = .ok (.invokevirtual 44, 3) := by decide +kernel
theorem dX5_readsSum_10 : decode cX5_readsSum 10 = .ok (.iconst 0, 1) := by decide +kernel
theorem dX5_readsSum_11 : decode cX5_readsSum 11 = .ok (.istore_n 3, 1) := by decide +kernel
theorem dX5_readsSum_12 : decode cX5_readsSum 12 = .ok (.iload_n 3, 1) := by decide +kernel
theorem dX5_readsSum_13 : decode cX5_readsSum 13 = .ok (.sipush 240, 3) := by decide +kernel
theorem dX5_readsSum_16 : decode cX5_readsSum 16 = .ok (.if_icmp .ge 86, 3) := by decide +kernel
theorem dX5_readsSum_19 : decode cX5_readsSum 19 = .ok (.iload_n 2, 1) := by decide +kernel
theorem dX5_readsSum_20 : decode cX5_readsSum 20 = .ok (.ifCond .eq 82, 3) := by decide +kernel
theorem dX5_readsSum_23 : decode cX5_readsSum 23 = .ok (.aload_n 0, 1) := by decide +kernel
theorem dX5_readsSum_24 : decode cX5_readsSum 24 = .ok (.invokevirtual 47, 3) := by decide +kernel
theorem dX5_readsSum_27 : decode cX5_readsSum 27 = .ok (.bipush 43, 2) := by decide +kernel
theorem dX5_readsSum_29 : decode cX5_readsSum 29 = .ok (.if_icmp .eq 12, 3) := by decide +kernel
theorem dX5_readsSum_32 : decode cX5_readsSum 32 = .ok (.aload_n 0, 1) := by decide +kernel
theorem dX5_readsSum_33 : decode cX5_readsSum 33 = .ok (.invokevirtual 47, 3) := by decide +kernel
theorem dX5_readsSum_36 : decode cX5_readsSum 36 = .ok (.bipush 45, 2) := by decide +kernel
theorem dX5_readsSum_38 : decode cX5_readsSum 38 = .ok (.if_icmp .ne 64, 3) := by decide +kernel
theorem dX5_readsSum_41 : decode cX5_readsSum 41 = .ok (.aload_n 0, 1) := by decide +kernel
theorem dX5_readsSum_42 : decode cX5_readsSum 42 = .ok (.invokevirtual 47, 3) := by decide +kernel
theorem dX5_readsSum_45 : decode cX5_readsSum 45 = .ok (.bipush 43, 2) := by decide +kernel
theorem dX5_readsSum_47 : decode cX5_readsSum 47 = .ok (.if_icmp .ne 8, 3) := by decide +kernel
theorem dX5_readsSum_50 : decode cX5_readsSum 50 = .ok (.bipush (-6), 2) := by decide +kernel
theorem dX5_readsSum_52 : decode cX5_readsSum 52 = .ok (.goto 5, 3) := by decide +kernel
theorem dX5_readsSum_55 : decode cX5_readsSum 55 = .ok (.bipush (-7), 2) := by decide +kernel
theorem dX5_readsSum_57 : decode cX5_readsSum 57 = .ok (.istore 4, 2) := by decide +kernel
theorem dX5_readsSum_59 : decode cX5_readsSum 59 = .ok (.aload_n 0, 1) := by decide +kernel
theorem dX5_readsSum_60 : decode cX5_readsSum 60 = .ok (.dup, 1) := by decide +kernel
theorem dX5_readsSum_61 : decode cX5_readsSum 61 = .ok (.getfield 80, 3) := by decide +kernel
theorem dX5_readsSum_64 : decode cX5_readsSum 64 = .ok (.iconst 1, 1) := by decide +kernel
theorem dX5_readsSum_65 : decode cX5_readsSum 65 = .ok (.iadd, 1) := by decide +kernel
theorem dX5_readsSum_66 : decode cX5_readsSum 66 = .ok (.putfield 80, 3) := by decide +kernel
theorem dX5_readsSum_69 : decode cX5_readsSum 69 = .ok (.aload_n 0, 1) := by decide +kernel
theorem dX5_readsSum_70 : decode cX5_readsSum 70 = .ok (.iload_n 1, 1) := by decide +kernel
theorem dX5_readsSum_71 : decode cX5_readsSum 71 = .ok (.invokevirtual 86, 3) := by decide +kernel
theorem dX5_readsSum_74 : decode cX5_readsSum 74 = .ok (.ifCond .eq 16, 3) := by decide +kernel
theorem dX5_readsSum_77 : decode cX5_readsSum 77 = .ok (.aload_n 0, 1) := by decide +kernel
theorem dX5_readsSum_78 : decode cX5_readsSum 78 = .ok (.iload 4, 2) := by decide +kernel
theorem dX5_readsSum_80 : decode cX5_readsSum 80 = .ok (.invokevirtual 65, 3) := by decide +kernel
theorem dX5_readsSum_83 : decode cX5_readsSum 83 = .ok (.ifCond .eq 7, 3) := by decide +kernel
theorem dX5_readsSum_86 : decode cX5_readsSum 86 = .ok (.iconst 1, 1) := by decide +kernel
theorem dX5_readsSum_87 : decode cX5_readsSum 87 = .ok (.goto 4, 3) := by decide +kernel
theorem dX5_readsSum_90 : decode cX5_readsSum 90 = .ok (.iconst 0, 1) := by decide +kernel
theorem dX5_readsSum_91 : decode cX5_readsSum 91 = .ok (.istore_n 2, 1) := by decide +kernel
theorem dX5_readsSum_92 : decode cX5_readsSum 92 = .ok (.aload_n 0, 1) := by decide +kernel
theorem dX5_readsSum_93 : decode cX5_readsSum 93 = .ok (.invokevirtual 44, 3) := by decide +kernel
theorem dX5_readsSum_96 : decode cX5_readsSum 96 = .ok (.iinc 3 1, 3) := by decide +kernel
theorem dX5_readsSum_99 : decode cX5_readsSum 99 = .ok (.goto (-87), 3) := by decide +kernel
theorem dX5_readsSum_102 : decode cX5_readsSum 102 = .ok (.iload_n 2, 1) := by decide +kernel
theorem dX5_readsSum_103 : decode cX5_readsSum 103 = .ok (.ireturn, 1) := by decide +kernel
theorem dX5_readsTerm_0 : decode cX5_readsTerm 0 = .ok (.aload_n 0, 1) := by decide +kernel
theorem dX5_readsTerm_1 : decode cX5_readsTerm 1 = .ok (.iload_n 1, 1) := by decide +kernel
theorem dX5_readsTerm_2 : decode cX5_readsTerm 2 = .ok (.invokevirtual 89, 3) := by decide +kernel
theorem dX5_readsTerm_5 : decode cX5_readsTerm 5 = .ok (.istore_n 2, 1) := by decide +kernel
theorem dX5_readsTerm_6 : decode cX5_readsTerm 6 = .ok (.aload_n 0, 1) := by decide +kernel
theorem dX5_readsTerm_7 : decode cX5_readsTerm 7 = .ok (.invokevirtual 44, 3) := by decide +kernel
theorem dX5_readsTerm_10 : decode cX5_readsTerm 10 = .ok (.iconst 0, 1) := by decide +kernel
theorem dX5_readsTerm_11 : decode cX5_readsTerm 11 = .ok (.istore_n 3, 1) := by decide +kernel
theorem dX5_readsTerm_12 : decode cX5_readsTerm 12 = .ok (.iload_n 3, 1) := by decide +kernel
theorem dX5_readsTerm_13 : decode cX5_readsTerm 13 = .ok (.sipush 240, 3) := by decide +kernel
theorem dX5_readsTerm_16 : decode cX5_readsTerm 16 = .ok (.if_icmp .ge 86, 3) := by decide +kernel
theorem dX5_readsTerm_19 : decode cX5_readsTerm 19 = .ok (.iload_n 2, 1) := by decide +kernel
theorem dX5_readsTerm_20 : decode cX5_readsTerm 20 = .ok (.ifCond .eq 82, 3) := by decide +kernel
theorem dX5_readsTerm_23 : decode cX5_readsTerm 23 = .ok (.aload_n 0, 1) := by decide +kernel
theorem dX5_readsTerm_24 : decode cX5_readsTerm 24 = .ok (.invokevirtual 47, 3) := by decide +kernel
theorem dX5_readsTerm_27 : decode cX5_readsTerm 27 = .ok (.bipush 42, 2) := by decide +kernel
theorem dX5_readsTerm_29 : decode cX5_readsTerm 29 = .ok (.if_icmp .eq 12, 3) := by decide +kernel
theorem dX5_readsTerm_32 : decode cX5_readsTerm 32 = .ok (.aload_n 0, 1) := by decide +kernel
theorem dX5_readsTerm_33 : decode cX5_readsTerm 33 = .ok (.invokevirtual 47, 3) := by decide +kernel
theorem dX5_readsTerm_36 : decode cX5_readsTerm 36 = .ok (.bipush 47, 2) := by decide +kernel
theorem dX5_readsTerm_38 : decode cX5_readsTerm 38 = .ok (.if_icmp .ne 64, 3) := by decide +kernel
theorem dX5_readsTerm_41 : decode cX5_readsTerm 41 = .ok (.aload_n 0, 1) := by decide +kernel
theorem dX5_readsTerm_42 : decode cX5_readsTerm 42 = .ok (.invokevirtual 47, 3) := by decide +kernel
theorem dX5_readsTerm_45 : decode cX5_readsTerm 45 = .ok (.bipush 42, 2) := by decide +kernel
theorem dX5_readsTerm_47 : decode cX5_readsTerm 47 = .ok (.if_icmp .ne 8, 3) := by decide +kernel
theorem dX5_readsTerm_50 : decode cX5_readsTerm 50 = .ok (.bipush (-8), 2) := by decide +kernel
theorem dX5_readsTerm_52 : decode cX5_readsTerm 52 = .ok (.goto 5, 3) := by decide +kernel
theorem dX5_readsTerm_55 : decode cX5_readsTerm 55 = .ok (.bipush (-9), 2) := by decide +kernel
theorem dX5_readsTerm_57 : decode cX5_readsTerm 57 = .ok (.istore 4, 2) := by decide +kernel
theorem dX5_readsTerm_59 : decode cX5_readsTerm 59 = .ok (.aload_n 0, 1) := by decide +kernel
theorem dX5_readsTerm_60 : decode cX5_readsTerm 60 = .ok (.dup, 1) := by decide +kernel
theorem dX5_readsTerm_61 : decode cX5_readsTerm 61 = .ok (.getfield 80, 3) := by decide +kernel
theorem dX5_readsTerm_64 : decode cX5_readsTerm 64 = .ok (.iconst 1, 1) := by decide +kernel
theorem dX5_readsTerm_65 : decode cX5_readsTerm 65 = .ok (.iadd, 1) := by decide +kernel
theorem dX5_readsTerm_66 : decode cX5_readsTerm 66 = .ok (.putfield 80, 3) := by decide +kernel
theorem dX5_readsTerm_69 : decode cX5_readsTerm 69 = .ok (.aload_n 0, 1) := by decide +kernel
theorem dX5_readsTerm_70 : decode cX5_readsTerm 70 = .ok (.iload_n 1, 1) := by decide +kernel
theorem dX5_readsTerm_71 : decode cX5_readsTerm 71 = .ok (.invokevirtual 89, 3) := by decide +kernel
theorem dX5_readsTerm_74 : decode cX5_readsTerm 74 = .ok (.ifCond .eq 16, 3) := by decide +kernel
theorem dX5_readsTerm_77 : decode cX5_readsTerm 77 = .ok (.aload_n 0, 1) := by decide +kernel
theorem dX5_readsTerm_78 : decode cX5_readsTerm 78 = .ok (.iload 4, 2) := by decide +kernel
theorem dX5_readsTerm_80 : decode cX5_readsTerm 80 = .ok (.invokevirtual 65, 3) := by decide +kernel
theorem dX5_readsTerm_83 : decode cX5_readsTerm 83 = .ok (.ifCond .eq 7, 3) := by decide +kernel
theorem dX5_readsTerm_86 : decode cX5_readsTerm 86 = .ok (.iconst 1, 1) := by decide +kernel
theorem dX5_readsTerm_87 : decode cX5_readsTerm 87 = .ok (.goto 4, 3) := by decide +kernel
theorem dX5_readsTerm_90 : decode cX5_readsTerm 90 = .ok (.iconst 0, 1) := by decide +kernel
theorem dX5_readsTerm_91 : decode cX5_readsTerm 91 = .ok (.istore_n 2, 1) := by decide +kernel
theorem dX5_readsTerm_92 : decode cX5_readsTerm 92 = .ok (.aload_n 0, 1) := by decide +kernel
theorem dX5_readsTerm_93 : decode cX5_readsTerm 93 = .ok (.invokevirtual 44, 3) := by decide +kernel
theorem dX5_readsTerm_96 : decode cX5_readsTerm 96 = .ok (.iinc 3 1, 3) := by decide +kernel
theorem dX5_readsTerm_99 : decode cX5_readsTerm 99 = .ok (.goto (-87), 3) := by decide +kernel
theorem dX5_readsTerm_102 : decode cX5_readsTerm 102 = .ok (.iload_n 2, 1) := by decide +kernel
theorem dX5_readsTerm_103 : decode cX5_readsTerm 103 = .ok (.ireturn, 1) := by decide +kernel
theorem dX5_readsAtom_0 : decode cX5_readsAtom 0 = .ok (.aload_n 0, 1) := by decide +kernel
theorem dX5_readsAtom_1 : decode cX5_readsAtom 1 = .ok (.invokevirtual 44, 3) := by decide +kernel
theorem dX5_readsAtom_4 : decode cX5_readsAtom 4 = .ok (.aload_n 0, 1) := by decide +kernel
theorem dX5_readsAtom_5 : decode cX5_readsAtom 5 = .ok (.invokevirtual 47, 3) := by decide +kernel
theorem dX5_readsAtom_8 : decode cX5_readsAtom 8 = .ok (.invokestatic 92, 3) := by decide +kernel
theorem dX5_readsAtom_11 : decode cX5_readsAtom 11 = .ok (.ifCond .eq 8, 3) := by decide +kernel
theorem dX5_readsAtom_14 : decode cX5_readsAtom 14 = .ok (.aload_n 0, 1) := by decide +kernel
theorem dX5_readsAtom_15 : decode cX5_readsAtom 15 = .ok (.invokevirtual 95, 3) := by decide +kernel
theorem dX5_readsAtom_18 : decode cX5_readsAtom 18 = .ok (.ireturn, 1) := by decide +kernel
theorem dX5_readsAtom_19 : decode cX5_readsAtom 19 = .ok (.aload_n 0, 1) := by decide +kernel
theorem dX5_readsAtom_20 : decode cX5_readsAtom 20 = .ok (.invokevirtual 47, 3) := by decide +kernel
theorem dX5_readsAtom_23 : decode cX5_readsAtom 23 = .ok (.bipush 91, 2) := by decide +kernel
theorem dX5_readsAtom_25 : decode cX5_readsAtom 25 = .ok (.if_icmp .ne 36, 3) := by decide +kernel
theorem dX5_readsAtom_28 : decode cX5_readsAtom 28 = .ok (.aload_n 0, 1) := by decide +kernel
theorem dX5_readsAtom_29 : decode cX5_readsAtom 29 = .ok (.iload_n 1, 1) := by decide +kernel
theorem dX5_readsAtom_30 : decode cX5_readsAtom 30 = .ok (.invokevirtual 77, 3) := by decide +kernel
theorem dX5_readsAtom_33 : decode cX5_readsAtom 33 = .ok (.ifCond .eq 26, 3) := by decide +kernel
theorem dX5_readsAtom_36 : decode cX5_readsAtom 36 = .ok (.aload_n 0, 1) := by decide +kernel
theorem dX5_readsAtom_37 : decode cX5_readsAtom 37 = .ok (.iload_n 1, 1) := by decide +kernel
theorem dX5_readsAtom_38 : decode cX5_readsAtom 38 = .ok (.iconst 1, 1) := by decide +kernel
theorem dX5_readsAtom_39 : decode cX5_readsAtom 39 = .ok (.iadd, 1) := by decide +kernel
theorem dX5_readsAtom_40 : decode cX5_readsAtom 40 = .ok (.invokevirtual 57, 3) := by decide +kernel
theorem dX5_readsAtom_43 : decode cX5_readsAtom 43 = .ok (.ifCond .eq 16, 3) := by decide +kernel
theorem dX5_readsAtom_46 : decode cX5_readsAtom 46 = .ok (.aload_n 0, 1) := by decide +kernel
theorem dX5_readsAtom_47 : decode cX5_readsAtom 47 = .ok (.bipush 93, 2) := by decide +kernel
theorem dX5_readsAtom_49 : decode cX5_readsAtom 49 = .ok (.invokevirtual 41, 3) := by decide +kernel
theorem dX5_readsAtom_52 : decode cX5_readsAtom 52 = .ok (.ifCond .eq 7, 3) := by decide +kernel
theorem dX5_readsAtom_55 : decode cX5_readsAtom 55 = .ok (.iconst 1, 1) := by decide +kernel
theorem dX5_readsAtom_56 : decode cX5_readsAtom 56 = .ok (.goto 4, 3) := by decide +kernel
theorem dX5_readsAtom_59 : decode cX5_readsAtom 59 = .ok (.iconst 0, 1) := by decide +kernel
theorem dX5_readsAtom_60 : decode cX5_readsAtom 60 = .ok (.ireturn, 1) := by decide +kernel
theorem dX5_readsAtom_61 : decode cX5_readsAtom 61 = .ok (.aload_n 0, 1) := by decide +kernel
theorem dX5_readsAtom_62 : decode cX5_readsAtom 62 = .ok (.invokevirtual 47, 3) := by decide +kernel
theorem dX5_readsAtom_65 : decode cX5_readsAtom 65 = .ok (.invokestatic 98, 3) := by decide +kernel
theorem dX5_readsAtom_68 : decode cX5_readsAtom 68 = .ok (.istore_n 2, 1) := by decide +kernel
theorem dX5_readsAtom_69 : decode cX5_readsAtom 69 = .ok (.iload_n 2, 1) := by decide +kernel
theorem dX5_readsAtom_70 : decode cX5_readsAtom 70 = .ok (.ifCond .ne 12, 3) := by decide +kernel
theorem dX5_readsAtom_73 : decode cX5_readsAtom 73 = .ok (.aload_n 0, 1) := by decide +kernel
theorem dX5_readsAtom_74 : decode cX5_readsAtom 74 = .ok (.aload_n 0, 1) := by decide +kernel
theorem dX5_readsAtom_75 : decode cX5_readsAtom 75 = .ok (.getfield 80, 3) := by decide +kernel
theorem dX5_readsAtom_78 : decode cX5_readsAtom 78 = .ok (.invokevirtual 83, 3) := by decide +kernel
theorem dX5_readsAtom_81 : decode cX5_readsAtom 81 = .ok (.ireturn, 1) := by decide +kernel
theorem dX5_readsAtom_82 : decode cX5_readsAtom 82 = .ok (.aload_n 0, 1) := by decide +kernel
theorem dX5_readsAtom_83 : decode cX5_readsAtom 83 = .ok (.dup, 1) := by decide +kernel
theorem dX5_readsAtom_84 : decode cX5_readsAtom 84 = .ok (.getfield 80, 3) := by decide +kernel
theorem dX5_readsAtom_87 : decode cX5_readsAtom 87 = .ok (.iconst 1, 1) := by decide +kernel
theorem dX5_readsAtom_88 : decode cX5_readsAtom 88 = .ok (.iadd, 1) := by decide +kernel
theorem dX5_readsAtom_89 : decode cX5_readsAtom 89 = .ok (.putfield 80, 3) := by decide +kernel
theorem dX5_readsAtom_92 : decode cX5_readsAtom 92 = .ok (.aload_n 0, 1) := by decide +kernel
theorem dX5_readsAtom_93 : decode cX5_readsAtom 93 = .ok (.iload_n 2, 1) := by decide +kernel
theorem dX5_readsAtom_94 : decode cX5_readsAtom 94 = .ok (.invokevirtual 65, 3) := by decide +kernel
theorem dX5_readsAtom_97 : decode cX5_readsAtom 97 = .ok (.ireturn, 1) := by decide +kernel
theorem dX5_readsDigits_0 : decode cX5_readsDigits 0 = .ok (.iconst 0, 1) := by decide +kernel
theorem dX5_readsDigits_1 : decode cX5_readsDigits 1 = .ok (.istore_n 1, 1) := by decide +kernel
theorem dX5_readsDigits_2 : decode cX5_readsDigits 2 = .ok (.iconst 0, 1) := by decide +kernel
theorem dX5_readsDigits_3 : decode cX5_readsDigits 3 = .ok (.istore_n 2, 1) := by decide +kernel
theorem dX5_readsDigits_4 : decode cX5_readsDigits 4 = .ok (.iload_n 2, 1) := by decide +kernel
theorem dX5_readsDigits_5 : decode cX5_readsDigits 5 = .ok (.iconst 4, 1) := by decide +kernel
theorem dX5_readsDigits_6 : decode cX5_readsDigits 6 = .ok (.if_icmp .ge 42, 3) := by decide +kernel
theorem dX5_readsDigits_9 : decode cX5_readsDigits 9 = .ok (.aload_n 0, 1) := by decide +kernel
theorem dX5_readsDigits_10 : decode cX5_readsDigits 10 = .ok (.invokevirtual 47, 3) := by decide +kernel
theorem dX5_readsDigits_13 : decode cX5_readsDigits 13 = .ok (.invokestatic 92, 3) := by decide +kernel
theorem dX5_readsDigits_16 : decode cX5_readsDigits 16 = .ok (.ifCond .eq 32, 3) := by decide +kernel
theorem dX5_readsDigits_19 : decode cX5_readsDigits 19 = .ok (.iload_n 1, 1) := by decide +kernel
theorem dX5_readsDigits_20 : decode cX5_readsDigits 20 = .ok (.bipush 10, 2) := by decide +kernel
theorem dX5_readsDigits_22 : decode cX5_readsDigits 22 = .ok (.imul, 1) := by decide +kernel
theorem dX5_readsDigits_23 : decode cX5_readsDigits 23 = .ok (.aload_n 0, 1) := by decide +kernel
theorem dX5_readsDigits_24 : decode cX5_readsDigits 24 = .ok (.invokevirtual 47, 3) := by decide +kernel
theorem dX5_readsDigits_27 : decode cX5_readsDigits 27 = .ok (.iadd, 1) := by decide +kernel
theorem dX5_readsDigits_28 : decode cX5_readsDigits 28 = .ok (.bipush 48, 2) := by decide +kernel
theorem dX5_readsDigits_30 : decode cX5_readsDigits 30 = .ok (.isub, 1) := by decide +kernel
theorem dX5_readsDigits_31 : decode cX5_readsDigits 31 = .ok (.istore_n 1, 1) := by decide +kernel
theorem dX5_readsDigits_32 : decode cX5_readsDigits 32 = .ok (.aload_n 0, 1) := by decide +kernel
theorem dX5_readsDigits_33 : decode cX5_readsDigits 33 = .ok (.dup, 1) := by decide +kernel
theorem dX5_readsDigits_34 : decode cX5_readsDigits 34 = .ok (.getfield 80, 3) := by decide +kernel
theorem dX5_readsDigits_37 : decode cX5_readsDigits 37 = .ok (.iconst 1, 1) := by decide +kernel
theorem dX5_readsDigits_38 : decode cX5_readsDigits 38 = .ok (.iadd, 1) := by decide +kernel
theorem dX5_readsDigits_39 : decode cX5_readsDigits 39 = .ok (.putfield 80, 3) := by decide +kernel
theorem dX5_readsDigits_42 : decode cX5_readsDigits 42 = .ok (.iinc 2 1, 3) := by decide +kernel
theorem dX5_readsDigits_45 : decode cX5_readsDigits 45 = .ok (.goto (-41), 3) := by decide +kernel
theorem dX5_readsDigits_48 : decode cX5_readsDigits 48 = .ok (.aload_n 0, 1) := by decide +kernel
theorem dX5_readsDigits_49 : decode cX5_readsDigits 49 = .ok (.invokevirtual 47, 3) := by decide +kernel
theorem dX5_readsDigits_52 : decode cX5_readsDigits 52 = .ok (.invokestatic 92, 3) := by decide +kernel
theorem dX5_readsDigits_55 : decode cX5_readsDigits 55 = .ok (.ifCond .eq 14, 3) := by decide +kernel
theorem dX5_readsDigits_58 : decode cX5_readsDigits 58 = .ok (.aload_n 0, 1) := by decide +kernel
theorem dX5_readsDigits_59 : decode cX5_readsDigits 59 = .ok (.aload_n 0, 1) := by decide +kernel
theorem dX5_readsDigits_60 : decode cX5_readsDigits 60 = .ok (.getfield 80, 3) := by decide +kernel
theorem dX5_readsDigits_63 : decode cX5_readsDigits 63 = .ok (.invokevirtual 83, 3) := by decide +kernel
theorem dX5_readsDigits_66 : decode cX5_readsDigits 66 = .ok (.goto 8, 3) := by decide +kernel
theorem dX5_readsDigits_69 : decode cX5_readsDigits 69 = .ok (.aload_n 0, 1) := by decide +kernel
theorem dX5_readsDigits_70 : decode cX5_readsDigits 70 = .ok (.iload_n 1, 1) := by decide +kernel
theorem dX5_readsDigits_71 : decode cX5_readsDigits 71 = .ok (.invokevirtual 65, 3) := by decide +kernel
theorem dX5_readsDigits_74 : decode cX5_readsDigits 74 = .ok (.ireturn, 1) := by decide +kernel
theorem dX5_goesDeeper_0 : decode cX5_goesDeeper 0 = .ok (.iload_n 1, 1) := by decide +kernel
theorem dX5_goesDeeper_1 : decode cX5_goesDeeper 1 = .ok (.bipush 6, 2) := by decide +kernel
theorem dX5_goesDeeper_3 : decode cX5_goesDeeper 3 = .ok (.if_icmp .lt 12, 3) := by decide +kernel
theorem dX5_goesDeeper_6 : decode cX5_goesDeeper 6 = .ok (.aload_n 0, 1) := by decide +kernel
theorem dX5_goesDeeper_7 : decode cX5_goesDeeper 7 = .ok (.aload_n 0, 1) := by decide +kernel
theorem dX5_goesDeeper_8 : decode cX5_goesDeeper 8 = .ok (.getfield 80, 3) := by decide +kernel
theorem dX5_goesDeeper_11 : decode cX5_goesDeeper 11 = .ok (.invokevirtual 83, 3) := by decide +kernel
theorem dX5_goesDeeper_14 : decode cX5_goesDeeper 14 = .ok (.ireturn, 1) := by decide +kernel
theorem dX5_goesDeeper_15 : decode cX5_goesDeeper 15 = .ok (.aload_n 0, 1) := by decide +kernel
theorem dX5_goesDeeper_16 : decode cX5_goesDeeper 16 = .ok (.dup, 1) := by decide +kernel
theorem dX5_goesDeeper_17 : decode cX5_goesDeeper 17 = .ok (.getfield 80, 3) := by decide +kernel
theorem dX5_goesDeeper_20 : decode cX5_goesDeeper 20 = .ok (.iconst 1, 1) := by decide +kernel
theorem dX5_goesDeeper_21 : decode cX5_goesDeeper 21 = .ok (.iadd, 1) := by decide +kernel
theorem dX5_goesDeeper_22 : decode cX5_goesDeeper 22 = .ok (.putfield 80, 3) := by decide +kernel
theorem dX5_goesDeeper_25 : decode cX5_goesDeeper 25 = .ok (.iconst 1, 1) := by decide +kernel
theorem dX5_goesDeeper_26 : decode cX5_goesDeeper 26 = .ok (.ireturn, 1) := by decide +kernel
theorem dX5_writes_0 : decode cX5_writes 0 = .ok (.aload_n 0, 1) := by decide +kernel
theorem dX5_writes_1 : decode cX5_writes 1 = .ok (.getfield 15, 3) := by decide +kernel
theorem dX5_writes_4 : decode cX5_writes 4 = .ok (.aload_n 0, 1) := by decide +kernel
theorem dX5_writes_5 : decode cX5_writes 5 = .ok (.getfield 11, 3) := by decide +kernel
theorem dX5_writes_8 : decode cX5_writes 8 = .ok (.arraylength, 1) := by decide +kernel
theorem dX5_writes_9 : decode cX5_writes 9 = .ok (.if_icmp .ge 23, 3) := by decide +kernel
theorem dX5_writes_12 : decode cX5_writes 12 = .ok (.aload_n 0, 1) := by decide +kernel
theorem dX5_writes_13 : decode cX5_writes 13 = .ok (.getfield 11, 3) := by decide +kernel
theorem dX5_writes_16 : decode cX5_writes 16 = .ok (.aload_n 0, 1) := by decide +kernel
theorem dX5_writes_17 : decode cX5_writes 17 = .ok (.getfield 15, 3) := by decide +kernel
theorem dX5_writes_20 : decode cX5_writes 20 = .ok (.iload_n 1, 1) := by decide +kernel
theorem dX5_writes_21 : decode cX5_writes 21 = .ok (.iastore, 1) := by decide +kernel
theorem dX5_writes_22 : decode cX5_writes 22 = .ok (.aload_n 0, 1) := by decide +kernel
theorem dX5_writes_23 : decode cX5_writes 23 = .ok (.dup, 1) := by decide +kernel
theorem dX5_writes_24 : decode cX5_writes 24 = .ok (.getfield 15, 3) := by decide +kernel
theorem dX5_writes_27 : decode cX5_writes 27 = .ok (.iconst 1, 1) := by decide +kernel
theorem dX5_writes_28 : decode cX5_writes 28 = .ok (.iadd, 1) := by decide +kernel
theorem dX5_writes_29 : decode cX5_writes 29 = .ok (.putfield 15, 3) := by decide +kernel
theorem dX5_writes_32 : decode cX5_writes 32 = .ok (.iconst 1, 1) := by decide +kernel
theorem dX5_writes_33 : decode cX5_writes 33 = .ok (.ireturn, 1) := by decide +kernel
