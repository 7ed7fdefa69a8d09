theorem dX0_init_0 : decode cX0_init 0 = .ok (.aload_n 0, 1) := by decide +kernel
theorem dX0_init_1 : decode cX0_init 1 = .ok (.invokespecial 5, 3) := by decide +kernel
theorem dX0_init_4 : decode cX0_init 4 = .ok (.aload_n 0, 1) := by decide +kernel
theorem dX0_init_5 : decode cX0_init 5 = .ok (.sipush 128, 3) := by decide +kernel
theorem dX0_init_8 : decode cX0_init 8 = .ok (.newarray .long, 2) := by decide +kernel
theorem dX0_init_10 : decode cX0_init 10 = .ok (.putfield 11, 3) := by decide +kernel
theorem dX0_init_13 : decode cX0_init 13 = .ok (.aload_n 0, 1) := by decide +kernel
theorem dX0_init_14 : decode cX0_init 14 = .ok (.sipush 128, 3) := by decide +kernel
theorem dX0_init_17 : decode cX0_init 17 = .ok (.newarray .int, 2) := by decide +kernel
theorem dX0_init_19 : decode cX0_init 19 = .ok (.putfield 15, 3) := by decide +kernel
theorem dX0_init_22 : decode cX0_init 22 = .ok (.aload_n 0, 1) := by decide +kernel
theorem dX0_init_23 : decode cX0_init 23 = .ok (.sipush 1664, 3) := by decide +kernel
theorem dX0_init_26 : decode cX0_init 26 = .ok (.newarray .int, 2) := by decide +kernel
theorem dX0_init_28 : decode cX0_init 28 = .ok (.putfield 19, 3) := by decide +kernel
theorem dX0_init_31 : decode cX0_init 31 = .ok (.aload_n 0, 1) := by decide +kernel
theorem dX0_init_32 : decode cX0_init 32 = .ok (.bipush 13, 2) := by decide +kernel
theorem dX0_init_34 : decode cX0_init 34 = .ok (.newarray .int, 2) := by decide +kernel
theorem dX0_init_36 : decode cX0_init 36 = .ok (.putfield 22, 3) := by decide +kernel
theorem dX0_init_39 : decode cX0_init 39 = .ok (.aload_n 0, 1) := by decide +kernel
theorem dX0_init_40 : decode cX0_init 40 = .ok (.sipush 8192, 3) := by decide +kernel
theorem dX0_init_43 : decode cX0_init 43 = .ok (.newarray .int, 2) := by decide +kernel
theorem dX0_init_45 : decode cX0_init 45 = .ok (.putfield 25, 3) := by decide +kernel
theorem dX0_init_48 : decode cX0_init 48 = .ok (.aload_n 0, 1) := by decide +kernel
theorem dX0_init_49 : decode cX0_init 49 = .ok (.bipush 13, 2) := by decide +kernel
theorem dX0_init_51 : decode cX0_init 51 = .ok (.newarray .int, 2) := by decide +kernel
theorem dX0_init_53 : decode cX0_init 53 = .ok (.putfield 28, 3) := by decide +kernel
theorem dX0_init_56 : decode cX0_init 56 = .ok (.return_, 1) := by decide +kernel
theorem dX0_build_0 : decode cX0_build 0 = .ok (.aload_n 0, 1) := by decide +kernel
theorem dX0_build_1 : decode cX0_build 1 = .ok (.getfield 31, 3) := by decide +kernel
theorem dX0_build_4 : decode cX0_build 4 = .ok (.ifCond .eq 4, 3) := by decide +kernel
theorem dX0_build_7 : decode cX0_build 7 = .ok (.return_, 1) := by decide +kernel
theorem dX0_build_8 : decode cX0_build 8 = .ok (.aload_n 0, 1) := by decide +kernel
theorem dX0_build_9 : decode cX0_build 9 = .ok (.iconst 1, 1) := by decide +kernel
theorem dX0_build_10 : decode cX0_build 10 = .ok (.putfield 31, 3) := by decide +kernel
theorem dX0_build_13 : decode cX0_build 13 = .ok (.aload_n 0, 1) := by decide +kernel
theorem dX0_build_14 : decode cX0_build 14 = .ok (.aload_n 1, 1) := by decide +kernel
theorem dX0_build_15 : decode cX0_build 15 = .ok (.invokestatic 35, 3) := by decide +kernel
theorem dX0_build_18 : decode cX0_build 18 = .ok (.putfield 39, 3) := by decide +kernel
theorem dX0_build_21 : decode cX0_build 21 = .ok (.aload_n 0, 1) := by decide +kernel
theorem dX0_build_22 : decode cX0_build 22 = .ok (.iconst 0, 1) := by decide +kernel
theorem dX0_build_23 : decode cX0_build 23 = .ok (.putfield 43, 3) := by decide +kernel
theorem dX0_build_26 : decode cX0_build 26 = .ok (.aload_n 0, 1) := by decide +kernel
theorem dX0_build_27 : decode cX0_build 27 = .ok (.getfield 25, 3) := by decide +kernel
theorem dX0_build_30 : decode cX0_build 30 = .ok (.iconst 0, 1) := by decide +kernel
theorem dX0_build_31 : decode cX0_build 31 = .ok (.invokestatic 46, 3) := by decide +kernel
theorem dX0_build_34 : decode cX0_build 34 = .ok (.aload_n 0, 1) := by decide +kernel
theorem dX0_build_35 : decode cX0_build 35 = .ok (.getfield 22, 3) := by decide +kernel
theorem dX0_build_38 : decode cX0_build 38 = .ok (.aload_n 0, 1) := by decide +kernel
theorem dX0_build_39 : decode cX0_build 39 = .ok (.getfield 39, 3) := by decide +kernel
theorem dX0_build_42 : decode cX0_build 42 = .ok (.invokestatic 46, 3) := by decide +kernel
theorem dX0_build_45 : decode cX0_build 45 = .ok (.iconst 0, 1) := by decide +kernel
theorem dX0_build_46 : decode cX0_build 46 = .ok (.istore_n 2, 1) := by decide +kernel
theorem dX0_build_47 : decode cX0_build 47 = .ok (.iload_n 2, 1) := by decide +kernel
theorem dX0_build_48 : decode cX0_build 48 = .ok (.aload_n 0, 1) := by decide +kernel
theorem dX0_build_49 : decode cX0_build 49 = .ok (.getfield 11, 3) := by decide +kernel
theorem dX0_build_52 : decode cX0_build 52 = .ok (.arraylength, 1) := by decide +kernel
theorem dX0_build_53 : decode cX0_build 53 = .ok (.if_icmp .ge 71, 3) := by decide +kernel
theorem dX0_build_56 : decode cX0_build 56 = .ok (.aload_n 0, 1) := by decide +kernel
theorem dX0_build_57 : decode cX0_build 57 = .ok (.getfield 11, 3) := by decide +kernel
theorem dX0_build_60 : decode cX0_build 60 = .ok (.iload_n 2, 1) := by decide +kernel
theorem dX0_build_61 : decode cX0_build 61 = .ok (.aload_n 1, 1) := by decide +kernel
theorem dX0_build_62 : decode cX0_build 62 = .ok (.iload_n 2, 1) := by decide +kernel
theorem dX0_build_63 : decode cX0_build 63 = .ok (.invokestatic 52, 3) := by decide +kernel
theorem dX0_build_66 : decode cX0_build 66 = .ok (.invokevirtual 56, 3) := by decide +kernel
theorem dX0_build_69 : decode cX0_build 69 = .ok (.ifCond .eq 23, 3) := by decide +kernel
theorem dX0_build_72 : decode cX0_build 72 = .ok (.aload_n 1, 1) := by decide +kernel
theorem dX0_build_73 : decode cX0_build 73 = .ok (.iload_n 2, 1) := by decide +kernel
theorem dX0_build_74 : decode cX0_build 74 = .ok (.invokestatic 62, 3) := by decide +kernel
theorem dX0_build_77 : decode cX0_build 77 = .ok (.invokevirtual 65, 3) := by decide +kernel
theorem dX0_build_80 : decode cX0_build 80 = .ok (.ifCond .eq 12, 3) := by decide +kernel
theorem dX0_build_83 : decode cX0_build 83 = .ok (.aload_n 0, 1) := by decide +kernel
theorem dX0_build_84 : decode cX0_build 84 = .ok (.aload_n 1, 1) := by decide +kernel
theorem dX0_build_85 : decode cX0_build 85 = .ok (.iload_n 2, 1) := by decide +kernel
theorem dX0_build_86 : decode cX0_build 86 = .ok (.invokevirtual 68, 3) := by decide +kernel
theorem dX0_build_89 : decode cX0_build 89 = .ok (.goto 4, 3) := by decide +kernel
theorem dX0_build_92 : decode cX0_build 92 = .ok (.lconst 0, 1) := by decide +kernel
theorem dX0_build_93 : decode cX0_build 93 = .ok (.lastore, 1) := by decide +kernel
theorem dX0_build_94 : decode cX0_build 94 = .ok (.aload_n 0, 1) := by decide +kernel
theorem dX0_build_95 : decode cX0_build 95 = .ok (.getfield 11, 3) := by decide +kernel
theorem dX0_build_98 : decode cX0_build 98 = .ok (.iload_n 2, 1) := by decide +kernel
theorem dX0_build_99 : decode cX0_build 99 = .ok (.laload, 1) := by decide +kernel
theorem dX0_build_100 : decode cX0_build 100 = .ok (.lconst 0, 1) := by decide +kernel
theorem dX0_build_101 : decode cX0_build 101 = .ok (.lcmp, 1) := by decide +kernel
theorem dX0_build_102 : decode cX0_build 102 = .ok (.ifCond .eq 16, 3) := by decide +kernel
theorem dX0_build_105 : decode cX0_build 105 = .ok (.aload_n 0, 1) := by decide +kernel
theorem dX0_build_106 : decode cX0_build 106 = .ok (.iload_n 2, 1) := by decide +kernel
theorem dX0_build_107 : decode cX0_build 107 = .ok (.invokevirtual 72, 3) := by decide +kernel
theorem dX0_build_110 : decode cX0_build 110 = .ok (.ifCond .eq 8, 3) := by decide +kernel
theorem dX0_build_113 : decode cX0_build 113 = .ok (.aload_n 0, 1) := by decide +kernel
theorem dX0_build_114 : decode cX0_build 114 = .ok (.iload_n 2, 1) := by decide +kernel
theorem dX0_build_115 : decode cX0_build 115 = .ok (.invokevirtual 75, 3) := by decide +kernel
theorem dX0_build_118 : decode cX0_build 118 = .ok (.iinc 2 1, 3) := by decide +kernel
theorem dX0_build_121 : decode cX0_build 121 = .ok (.goto (-74), 3) := by decide +kernel
theorem dX0_build_124 : decode cX0_build 124 = .ok (.return_, 1) := by decide +kernel
theorem dX0_bathOf_0 : decode cX0_bathOf 0 = .ok (.iload_n 0, 1) := by decide +kernel
theorem dX0_bathOf_1 : decode cX0_bathOf 1 = .ok (.bipush 64, 2) := by decide +kernel
theorem dX0_bathOf_3 : decode cX0_bathOf 3 = .ok (.idiv, 1) := by decide +kernel
theorem dX0_bathOf_4 : decode cX0_bathOf 4 = .ok (.ireturn, 1) := by decide +kernel
theorem dX0_setOf_0 : decode cX0_setOf 0 = .ok (.iload_n 0, 1) := by decide +kernel
theorem dX0_setOf_1 : decode cX0_setOf 1 = .ok (.bipush 64, 2) := by decide +kernel
theorem dX0_setOf_3 : decode cX0_setOf 3 = .ok (.irem, 1) := by decide +kernel
theorem dX0_setOf_4 : decode cX0_setOf 4 = .ok (.ireturn, 1) := by decide +kernel
theorem dX0_presentIn_0 : decode cX0_presentIn 0 = .ok (.iconst 0, 1) := by decide +kernel
theorem dX0_presentIn_1 : decode cX0_presentIn 1 = .ok (.istore_n 1, 1) := by decide +kernel
theorem dX0_presentIn_2 : decode cX0_presentIn 2 = .ok (.iconst 0, 1) := by decide +kernel
theorem dX0_presentIn_3 : decode cX0_presentIn 3 = .ok (.istore_n 2, 1) := by decide +kernel
theorem dX0_presentIn_4 : decode cX0_presentIn 4 = .ok (.iload_n 2, 1) := by decide +kernel
theorem dX0_presentIn_5 : decode cX0_presentIn 5 = .ok (.bipush 13, 2) := by decide +kernel
theorem dX0_presentIn_7 : decode cX0_presentIn 7 = .ok (.if_icmp .ge 27, 3) := by decide +kernel
theorem dX0_presentIn_10 : decode cX0_presentIn 10 = .ok (.iload_n 1, 1) := by decide +kernel
theorem dX0_presentIn_11 : decode cX0_presentIn 11 = .ok (.aload_n 0, 1) := by decide +kernel
theorem dX0_presentIn_12 : decode cX0_presentIn 12 = .ok (.iload_n 2, 1) := by decide +kernel
theorem dX0_presentIn_13 : decode cX0_presentIn 13 = .ok (.invokevirtual 79, 3) := by decide +kernel
theorem dX0_presentIn_16 : decode cX0_presentIn 16 = .ok (.ifCond .eq 9, 3) := by decide +kernel
theorem dX0_presentIn_19 : decode cX0_presentIn 19 = .ok (.iconst 1, 1) := by decide +kernel
theorem dX0_presentIn_20 : decode cX0_presentIn 20 = .ok (.iload_n 2, 1) := by decide +kernel
theorem dX0_presentIn_21 : decode cX0_presentIn 21 = .ok (.ishl, 1) := by decide +kernel
theorem dX0_presentIn_22 : decode cX0_presentIn 22 = .ok (.goto 4, 3) := by decide +kernel
theorem dX0_presentIn_25 : decode cX0_presentIn 25 = .ok (.iconst 0, 1) := by decide +kernel
theorem dX0_presentIn_26 : decode cX0_presentIn 26 = .ok (.ior, 1) := by decide +kernel
theorem dX0_presentIn_27 : decode cX0_presentIn 27 = .ok (.istore_n 1, 1) := by decide +kernel
theorem dX0_presentIn_28 : decode cX0_presentIn 28 = .ok (.iinc 2 1, 3) := by decide +kernel
theorem dX0_presentIn_31 : decode cX0_presentIn 31 = .ok (.goto (-27), 3) := by decide +kernel
theorem dX0_presentIn_34 : decode cX0_presentIn 34 = .ok (.iload_n 1, 1) := by decide +kernel
theorem dX0_presentIn_35 : decode cX0_presentIn 35 = .ok (.ireturn, 1) := by decide +kernel
theorem dX0_leadersOf_0 : decode cX0_leadersOf 0 = .ok (.lconst 0, 1) := by decide +kernel
theorem dX0_leadersOf_1 : decode cX0_leadersOf 1 = .ok (.lstore_n 3, 1) := by decide +kernel
theorem dX0_leadersOf_2 : decode cX0_leadersOf 2 = .ok (.iconst 0, 1) := by decide +kernel
theorem dX0_leadersOf_3 : decode cX0_leadersOf 3 = .ok (.istore 5, 2) := by decide +kernel
theorem dX0_leadersOf_5 : decode cX0_leadersOf 5 = .ok (.iload 5, 2) := by decide +kernel
theorem dX0_leadersOf_7 : decode cX0_leadersOf 7 = .ok (.aload_n 0, 1) := by decide +kernel
theorem dX0_leadersOf_8 : decode cX0_leadersOf 8 = .ok (.getfield 28, 3) := by decide +kernel
theorem dX0_leadersOf_11 : decode cX0_leadersOf 11 = .ok (.arraylength, 1) := by decide +kernel
theorem dX0_leadersOf_12 : decode cX0_leadersOf 12 = .ok (.if_icmp .ge 62, 3) := by decide +kernel
theorem dX0_leadersOf_15 : decode cX0_leadersOf 15 = .ok (.aload_n 0, 1) := by decide +kernel
theorem dX0_leadersOf_16 : decode cX0_leadersOf 16 = .ok (.getfield 39, 3) := by decide +kernel
theorem dX0_leadersOf_19 : decode cX0_leadersOf 19 = .ok (.iload 5, 2) := by decide +kernel
theorem dX0_leadersOf_21 : decode cX0_leadersOf 21 = .ok (.invokestatic 82, 3) := by decide +kernel
theorem dX0_leadersOf_24 : decode cX0_leadersOf 24 = .ok (.ifCond .eq 44, 3) := by decide +kernel
theorem dX0_leadersOf_27 : decode cX0_leadersOf 27 = .ok (.aload_n 0, 1) := by decide +kernel
theorem dX0_leadersOf_28 : decode cX0_leadersOf 28 = .ok (.getfield 28, 3) := by decide +kernel
theorem dX0_leadersOf_31 : decode cX0_leadersOf 31 = .ok (.iload 5, 2) := by decide +kernel
theorem dX0_leadersOf_33 : decode cX0_leadersOf 33 = .ok (.aload_n 1, 1) := by decide +kernel
theorem dX0_leadersOf_34 : decode cX0_leadersOf 34 = .ok (.iload_n 2, 1) := by decide +kernel
theorem dX0_leadersOf_35 : decode cX0_leadersOf 35 = .ok (.invokestatic 52, 3) := by decide +kernel
theorem dX0_leadersOf_38 : decode cX0_leadersOf 38 = .ok (.iconst 0, 1) := by decide +kernel
theorem dX0_leadersOf_39 : decode cX0_leadersOf 39 = .ok (.aload_n 1, 1) := by decide +kernel
theorem dX0_leadersOf_40 : decode cX0_leadersOf 40 = .ok (.iload_n 2, 1) := by decide +kernel
theorem dX0_leadersOf_41 : decode cX0_leadersOf 41 = .ok (.invokestatic 62, 3) := by decide +kernel
theorem dX0_leadersOf_44 : decode cX0_leadersOf 44 = .ok (.iload 5, 2) := by decide +kernel
theorem dX0_leadersOf_46 : decode cX0_leadersOf 46 = .ok (.invokevirtual 86, 3) := by decide +kernel
theorem dX0_leadersOf_49 : decode cX0_leadersOf 49 = .ok (.invokevirtual 90, 3) := by decide +kernel
theorem dX0_leadersOf_52 : decode cX0_leadersOf 52 = .ok (.iastore, 1) := by decide +kernel
theorem dX0_leadersOf_53 : decode cX0_leadersOf 53 = .ok (.lload_n 3, 1) := by decide +kernel
theorem dX0_leadersOf_54 : decode cX0_leadersOf 54 = .ok (.aload_n 0, 1) := by decide +kernel
theorem dX0_leadersOf_55 : decode cX0_leadersOf 55 = .ok (.iload 5, 2) := by decide +kernel
theorem dX0_leadersOf_57 : decode cX0_leadersOf 57 = .ok (.invokevirtual 94, 3) := by decide +kernel
theorem dX0_leadersOf_60 : decode cX0_leadersOf 60 = .ok (.i2l, 1) := by decide +kernel
theorem dX0_leadersOf_61 : decode cX0_leadersOf 61 = .ok (.iconst 4, 1) := by decide +kernel
theorem dX0_leadersOf_62 : decode cX0_leadersOf 62 = .ok (.iload 5, 2) := by decide +kernel
theorem dX0_leadersOf_64 : decode cX0_leadersOf 64 = .ok (.imul, 1) := by decide +kernel
theorem dX0_leadersOf_65 : decode cX0_leadersOf 65 = .ok (.lshl, 1) := by decide +kernel
theorem dX0_leadersOf_66 : decode cX0_leadersOf 66 = .ok (.lor, 1) := by decide +kernel
theorem dX0_leadersOf_67 : decode cX0_leadersOf 67 = .ok (.lstore_n 3, 1) := by decide +kernel
theorem dX0_leadersOf_68 : decode cX0_leadersOf 68 = .ok (.iinc 5 1, 3) := by decide +kernel
theorem dX0_leadersOf_71 : decode cX0_leadersOf 71 = .ok (.goto (-66), 3) := by decide +kernel
theorem dX0_leadersOf_74 : decode cX0_leadersOf 74 = .ok (.lload_n 3, 1) := by decide +kernel
theorem dX0_leadersOf_75 : decode cX0_leadersOf 75 = .ok (.lreturn, 1) := by decide +kernel
theorem dX0_leaderOf_0 : decode cX0_leaderOf 0 = .ok (.iconst 0, 1) := by decide +kernel
theorem dX0_leaderOf_1 : decode cX0_leaderOf 1 = .ok (.istore_n 2, 1) := by decide +kernel
theorem dX0_leaderOf_2 : decode cX0_leaderOf 2 = .ok (.iload_n 2, 1) := by decide +kernel
theorem dX0_leaderOf_3 : decode cX0_leaderOf 3 = .ok (.iload_n 1, 1) := by decide +kernel
theorem dX0_leaderOf_4 : decode cX0_leaderOf 4 = .ok (.if_icmp .ge 46, 3) := by decide +kernel
theorem dX0_leaderOf_7 : decode cX0_leaderOf 7 = .ok (.iload_n 1, 1) := by decide +kernel
theorem dX0_leaderOf_8 : decode cX0_leaderOf 8 = .ok (.aload_n 0, 1) := by decide +kernel
theorem dX0_leaderOf_9 : decode cX0_leaderOf 9 = .ok (.getfield 28, 3) := by decide +kernel
theorem dX0_leaderOf_12 : decode cX0_leaderOf 12 = .ok (.arraylength, 1) := by decide +kernel
theorem dX0_leaderOf_13 : decode cX0_leaderOf 13 = .ok (.if_icmp .ge 37, 3) := by decide +kernel
theorem dX0_leaderOf_16 : decode cX0_leaderOf 16 = .ok (.aload_n 0, 1) := by decide +kernel
theorem dX0_leaderOf_17 : decode cX0_leaderOf 17 = .ok (.getfield 39, 3) := by decide +kernel
theorem dX0_leaderOf_20 : decode cX0_leaderOf 20 = .ok (.iload_n 2, 1) := by decide +kernel
theorem dX0_leaderOf_21 : decode cX0_leaderOf 21 = .ok (.invokestatic 82, 3) := by decide +kernel
theorem dX0_leaderOf_24 : decode cX0_leaderOf 24 = .ok (.ifCond .eq 20, 3) := by decide +kernel
theorem dX0_leaderOf_27 : decode cX0_leaderOf 27 = .ok (.aload_n 0, 1) := by decide +kernel
theorem dX0_leaderOf_28 : decode cX0_leaderOf 28 = .ok (.getfield 28, 3) := by decide +kernel
theorem dX0_leaderOf_31 : decode cX0_leaderOf 31 = .ok (.iload_n 2, 1) := by decide +kernel
theorem dX0_leaderOf_32 : decode cX0_leaderOf 32 = .ok (.iaload, 1) := by decide +kernel
theorem dX0_leaderOf_33 : decode cX0_leaderOf 33 = .ok (.aload_n 0, 1) := by decide +kernel
theorem dX0_leaderOf_34 : decode cX0_leaderOf 34 = .ok (.getfield 28, 3) := by decide +kernel
theorem dX0_leaderOf_37 : decode cX0_leaderOf 37 = .ok (.iload_n 1, 1) := by decide +kernel
theorem dX0_leaderOf_38 : decode cX0_leaderOf 38 = .ok (.iaload, 1) := by decide +kernel
theorem dX0_leaderOf_39 : decode cX0_leaderOf 39 = .ok (.if_icmp .ne 5, 3) := by decide +kernel
theorem dX0_leaderOf_42 : decode cX0_leaderOf 42 = .ok (.iload_n 2, 1) := by decide +kernel
theorem dX0_leaderOf_43 : decode cX0_leaderOf 43 = .ok (.ireturn, 1) := by decide +kernel
theorem dX0_leaderOf_44 : decode cX0_leaderOf 44 = .ok (.iinc 2 1, 3) := by decide +kernel
theorem dX0_leaderOf_47 : decode cX0_leaderOf 47 = .ok (.goto (-45), 3) := by decide +kernel
theorem dX0_leaderOf_50 : decode cX0_leaderOf 50 = .ok (.iload_n 1, 1) := by decide +kernel
theorem dX0_leaderOf_51 : decode cX0_leaderOf 51 = .ok (.ireturn, 1) := by decide +kernel
theorem dX0_isNew_0 : decode cX0_isNew 0 = .ok (.iconst 0, 1) := by decide +kernel
theorem dX0_isNew_1 : decode cX0_isNew 1 = .ok (.istore_n 2, 1) := by decide +kernel
theorem dX0_isNew_2 : decode cX0_isNew 2 = .ok (.iload_n 2, 1) := by decide +kernel
theorem dX0_isNew_3 : decode cX0_isNew 3 = .ok (.aload_n 0, 1) := by decide +kernel
theorem dX0_isNew_4 : decode cX0_isNew 4 = .ok (.getfield 43, 3) := by decide +kernel
theorem dX0_isNew_7 : decode cX0_isNew 7 = .ok (.if_icmp .ge 39, 3) := by decide +kernel
theorem dX0_isNew_10 : decode cX0_isNew 10 = .ok (.iload_n 2, 1) := by decide +kernel
theorem dX0_isNew_11 : decode cX0_isNew 11 = .ok (.aload_n 0, 1) := by decide +kernel
theorem dX0_isNew_12 : decode cX0_isNew 12 = .ok (.getfield 15, 3) := by decide +kernel
theorem dX0_isNew_15 : decode cX0_isNew 15 = .ok (.arraylength, 1) := by decide +kernel
theorem dX0_isNew_16 : decode cX0_isNew 16 = .ok (.if_icmp .ge 30, 3) := by decide +kernel
theorem dX0_isNew_19 : decode cX0_isNew 19 = .ok (.aload_n 0, 1) := by decide +kernel
theorem dX0_isNew_20 : decode cX0_isNew 20 = .ok (.aload_n 0, 1) := by decide +kernel
theorem dX0_isNew_21 : decode cX0_isNew 21 = .ok (.getfield 15, 3) := by decide +kernel
theorem dX0_isNew_24 : decode cX0_isNew 24 = .ok (.iload_n 2, 1) := by decide +kernel
theorem dX0_isNew_25 : decode cX0_isNew 25 = .ok (.iaload, 1) := by decide +kernel
theorem dX0_isNew_26 : decode cX0_isNew 26 = .ok (.invokevirtual 97, 3) := by decide +kernel
theorem dX0_isNew_29 : decode cX0_isNew 29 = .ok (.aload_n 0, 1) := by decide +kernel
theorem dX0_isNew_30 : decode cX0_isNew 30 = .ok (.iload_n 1, 1) := by decide +kernel
theorem dX0_isNew_31 : decode cX0_isNew 31 = .ok (.invokevirtual 97, 3) := by decide +kernel
theorem dX0_isNew_34 : decode cX0_isNew 34 = .ok (.lcmp, 1) := by decide +kernel
theorem dX0_isNew_35 : decode cX0_isNew 35 = .ok (.ifCond .ne 5, 3) := by decide +kernel
theorem dX0_isNew_38 : decode cX0_isNew 38 = .ok (.iconst 0, 1) := by decide +kernel
theorem dX0_isNew_39 : decode cX0_isNew 39 = .ok (.ireturn, 1) := by decide +kernel
theorem dX0_isNew_40 : decode cX0_isNew 40 = .ok (.iinc 2 1, 3) := by decide +kernel
theorem dX0_isNew_43 : decode cX0_isNew 43 = .ok (.goto (-41), 3) := by decide +kernel
theorem dX0_isNew_46 : decode cX0_isNew 46 = .ok (.iconst 1, 1) := by decide +kernel
theorem dX0_isNew_47 : decode cX0_isNew 47 = .ok (.ireturn, 1) := by decide +kernel
theorem dX0_addUseful_0 : decode cX0_addUseful 0 = .ok (.aload_n 0, 1) := by decide +kernel
theorem dX0_addUseful_1 : decode cX0_addUseful 1 = .ok (.getfield 43, 3) := by decide +kernel
theorem dX0_addUseful_4 : decode cX0_addUseful 4 = .ok (.aload_n 0, 1) := by decide +kernel
theorem dX0_addUseful_5 : decode cX0_addUseful 5 = .ok (.getfield 15, 3) := by decide +kernel
theorem dX0_addUseful_8 : decode cX0_addUseful 8 = .ok (.arraylength, 1) := by decide +kernel
theorem dX0_addUseful_9 : decode cX0_addUseful 9 = .ok (.if_icmp .lt 4, 3) := by decide +kernel
theorem dX0_addUseful_12 : decode cX0_addUseful 12 = .ok (.return_, 1) := by decide +kernel
theorem dX0_addUseful_13 : decode cX0_addUseful 13 = .ok (.aload_n 0, 1) := by decide +kernel
theorem dX0_addUseful_14 : decode cX0_addUseful 14 = .ok (.getfield 15, 3) := by decide +kernel
theorem dX0_addUseful_17 : decode cX0_addUseful 17 = .ok (.aload_n 0, 1) := by decide +kernel
theorem dX0_addUseful_18 : decode cX0_addUseful 18 = .ok (.getfield 43, 3) := by decide +kernel
theorem dX0_addUseful_21 : decode cX0_addUseful 21 = .ok (.iload_n 1, 1) := by decide +kernel
theorem dX0_addUseful_22 : decode cX0_addUseful 22 = .ok (.iastore, 1) := by decide +kernel
theorem dX0_addUseful_23 : decode cX0_addUseful 23 = .ok (.aload_n 0, 1) := by decide +kernel
theorem dX0_addUseful_24 : decode cX0_addUseful 24 = .ok (.getfield 43, 3) := by decide +kernel
theorem dX0_addUseful_27 : decode cX0_addUseful 27 = .ok (.bipush 13, 2) := by decide +kernel
theorem dX0_addUseful_29 : decode cX0_addUseful 29 = .ok (.imul, 1) := by decide +kernel
theorem dX0_addUseful_30 : decode cX0_addUseful 30 = .ok (.istore_n 2, 1) := by decide +kernel
theorem dX0_addUseful_31 : decode cX0_addUseful 31 = .ok (.aload_n 0, 1) := by decide +kernel
theorem dX0_addUseful_32 : decode cX0_addUseful 32 = .ok (.dup, 1) := by decide +kernel
theorem dX0_addUseful_33 : decode cX0_addUseful 33 = .ok (.getfield 43, 3) := by decide +kernel
theorem dX0_addUseful_36 : decode cX0_addUseful 36 = .ok (.iconst 1, 1) := by decide +kernel
theorem dX0_addUseful_37 : decode cX0_addUseful 37 = .ok (.iadd, 1) := by decide +kernel
theorem dX0_addUseful_38 : decode cX0_addUseful 38 = .ok (.putfield 43, 3) := by decide +kernel
theorem dX0_addUseful_41 : decode cX0_addUseful 41 = .ok (.iconst 0, 1) := by decide +kernel
theorem dX0_addUseful_42 : decode cX0_addUseful 42 = .ok (.istore_n 3, 1) := by decide +kernel
theorem dX0_addUseful_43 : decode cX0_addUseful 43 = .ok (.iload_n 3, 1) := by decide +kernel
theorem dX0_addUseful_44 : decode cX0_addUseful 44 = .ok (.bipush 13, 2) := by decide +kernel
theorem dX0_addUseful_46 : decode cX0_addUseful 46 = .ok (.if_icmp .ge 52, 3) := by decide +kernel
theorem dX0_addUseful_49 : decode cX0_addUseful 49 = .ok (.aload_n 0, 1) := by decide +kernel
theorem dX0_addUseful_50 : decode cX0_addUseful 50 = .ok (.aload_n 0, 1) := by decide +kernel
theorem dX0_addUseful_51 : decode cX0_addUseful 51 = .ok (.iload_n 1, 1) := by decide +kernel
theorem dX0_addUseful_52 : decode cX0_addUseful 52 = .ok (.invokevirtual 97, 3) := by decide +kernel
theorem dX0_addUseful_55 : decode cX0_addUseful 55 = .ok (.iload_n 3, 1) := by decide +kernel
theorem dX0_addUseful_56 : decode cX0_addUseful 56 = .ok (.invokevirtual 101, 3) := by decide +kernel
theorem dX0_addUseful_59 : decode cX0_addUseful 59 = .ok (.istore 4, 2) := by decide +kernel
theorem dX0_addUseful_61 : decode cX0_addUseful 61 = .ok (.iload 4, 2) := by decide +kernel
theorem dX0_addUseful_63 : decode cX0_addUseful 63 = .ok (.ifCond .eq 29, 3) := by decide +kernel
theorem dX0_addUseful_66 : decode cX0_addUseful 66 = .ok (.iload_n 2, 1) := by decide +kernel
theorem dX0_addUseful_67 : decode cX0_addUseful 67 = .ok (.aload_n 0, 1) := by decide +kernel
theorem dX0_addUseful_68 : decode cX0_addUseful 68 = .ok (.getfield 19, 3) := by decide +kernel
theorem dX0_addUseful_71 : decode cX0_addUseful 71 = .ok (.arraylength, 1) := by decide +kernel
theorem dX0_addUseful_72 : decode cX0_addUseful 72 = .ok (.if_icmp .ge 20, 3) := by decide +kernel
theorem dX0_addUseful_75 : decode cX0_addUseful 75 = .ok (.aload_n 0, 1) := by decide +kernel
theorem dX0_addUseful_76 : decode cX0_addUseful 76 = .ok (.getfield 19, 3) := by decide +kernel
theorem dX0_addUseful_79 : decode cX0_addUseful 79 = .ok (.iload_n 2, 1) := by decide +kernel
theorem dX0_addUseful_80 : decode cX0_addUseful 80 = .ok (.iload 4, 2) := by decide +kernel
theorem dX0_addUseful_82 : decode cX0_addUseful 82 = .ok (.iastore, 1) := by decide +kernel
theorem dX0_addUseful_83 : decode cX0_addUseful 83 = .ok (.iinc 2 1, 3) := by decide +kernel
theorem dX0_addUseful_86 : decode cX0_addUseful 86 = .ok (.aload_n 0, 1) := by decide +kernel
theorem dX0_addUseful_87 : decode cX0_addUseful 87 = .ok (.iload 4, 2) := by decide +kernel
theorem dX0_addUseful_89 : decode cX0_addUseful 89 = .ok (.invokevirtual 105, 3) := by decide +kernel
theorem dX0_addUseful_92 : decode cX0_addUseful 92 = .ok (.iinc 3 1, 3) := by decide +kernel
theorem dX0_addUseful_95 : decode cX0_addUseful 95 = .ok (.goto (-52), 3) := by decide +kernel
theorem dX0_addUseful_98 : decode cX0_addUseful 98 = .ok (.iload_n 2, 1) := by decide +kernel
theorem dX0_addUseful_99 : decode cX0_addUseful 99 = .ok (.aload_n 0, 1) := by decide +kernel
theorem dX0_addUseful_100 : decode cX0_addUseful 100 = .ok (.getfield 43, 3) := by decide +kernel
theorem dX0_addUseful_103 : decode cX0_addUseful 103 = .ok (.bipush 13, 2) := by decide +kernel
theorem dX0_addUseful_105 : decode cX0_addUseful 105 = .ok (.imul, 1) := by decide +kernel
theorem dX0_addUseful_106 : decode cX0_addUseful 106 = .ok (.if_icmp .ge 19, 3) := by decide +kernel
theorem dX0_addUseful_109 : decode cX0_addUseful 109 = .ok (.iload_n 2, 1) := by decide +kernel
theorem dX0_addUseful_110 : decode cX0_addUseful 110 = .ok (.aload_n 0, 1) := by decide +kernel
theorem dX0_addUseful_111 : decode cX0_addUseful 111 = .ok (.getfield 19, 3) := by decide +kernel
theorem dX0_addUseful_114 : decode cX0_addUseful 114 = .ok (.arraylength, 1) := by decide +kernel
theorem dX0_addUseful_115 : decode cX0_addUseful 115 = .ok (.if_icmp .ge 10, 3) := by decide +kernel
theorem dX0_addUseful_118 : decode cX0_addUseful 118 = .ok (.aload_n 0, 1) := by decide +kernel
theorem dX0_addUseful_119 : decode cX0_addUseful 119 = .ok (.getfield 19, 3) := by decide +kernel
theorem dX0_addUseful_122 : decode cX0_addUseful 122 = .ok (.iload_n 2, 1) := by decide +kernel
theorem dX0_addUseful_123 : decode cX0_addUseful 123 = .ok (.iconst 0, 1) := by decide +kernel
theorem dX0_addUseful_124 : decode cX0_addUseful 124 = .ok (.iastore, 1) := by decide +kernel
theorem dX0_addUseful_125 : decode cX0_addUseful 125 = .ok (.return_, 1) := by decide +kernel
theorem dX0_togetherWith_0 : decode cX0_togetherWith 0 = .ok (.iconst 0, 1) := by decide +kernel
theorem dX0_togetherWith_1 : decode cX0_togetherWith 1 = .ok (.istore 4, 2) := by decide +kernel
theorem dX0_togetherWith_3 : decode cX0_togetherWith 3 = .ok (.iload_n 3, 1) := by decide +kernel
theorem dX0_togetherWith_4 : decode cX0_togetherWith 4 = .ok (.istore 5, 2) := by decide +kernel
theorem dX0_togetherWith_6 : decode cX0_togetherWith 6 = .ok (.iload 5, 2) := by decide +kernel
theorem dX0_togetherWith_8 : decode cX0_togetherWith 8 = .ok (.bipush 13, 2) := by decide +kernel
theorem dX0_togetherWith_10 : decode cX0_togetherWith 10 = .ok (.if_icmp .ge 40, 3) := by decide +kernel
theorem dX0_togetherWith_13 : decode cX0_togetherWith 13 = .ok (.aload_n 0, 1) := by decide +kernel
theorem dX0_togetherWith_14 : decode cX0_togetherWith 14 = .ok (.getfield 39, 3) := by decide +kernel
theorem dX0_togetherWith_17 : decode cX0_togetherWith 17 = .ok (.iload 5, 2) := by decide +kernel
theorem dX0_togetherWith_19 : decode cX0_togetherWith 19 = .ok (.invokestatic 82, 3) := by decide +kernel
theorem dX0_togetherWith_22 : decode cX0_togetherWith 22 = .ok (.ifCond .eq 22, 3) := by decide +kernel
theorem dX0_togetherWith_25 : decode cX0_togetherWith 25 = .ok (.lload_n 1, 1) := by decide +kernel
theorem dX0_togetherWith_26 : decode cX0_togetherWith 26 = .ok (.iload 5, 2) := by decide +kernel
theorem dX0_togetherWith_28 : decode cX0_togetherWith 28 = .ok (.invokestatic 108, 3) := by decide +kernel
theorem dX0_togetherWith_31 : decode cX0_togetherWith 31 = .ok (.iload_n 3, 1) := by decide +kernel
theorem dX0_togetherWith_32 : decode cX0_togetherWith 32 = .ok (.if_icmp .ne 12, 3) := by decide +kernel
theorem dX0_togetherWith_35 : decode cX0_togetherWith 35 = .ok (.iload 4, 2) := by decide +kernel
theorem dX0_togetherWith_37 : decode cX0_togetherWith 37 = .ok (.iconst 1, 1) := by decide +kernel
theorem dX0_togetherWith_38 : decode cX0_togetherWith 38 = .ok (.iload 5, 2) := by decide +kernel
theorem dX0_togetherWith_40 : decode cX0_togetherWith 40 = .ok (.ishl, 1) := by decide +kernel
theorem dX0_togetherWith_41 : decode cX0_togetherWith 41 = .ok (.ior, 1) := by decide +kernel
theorem dX0_togetherWith_42 : decode cX0_togetherWith 42 = .ok (.istore 4, 2) := by decide +kernel
theorem dX0_togetherWith_44 : decode cX0_togetherWith 44 = .ok (.iinc 5 1, 3) := by decide +kernel
theorem dX0_togetherWith_47 : decode cX0_togetherWith 47 = .ok (.goto (-41), 3) := by decide +kernel
theorem dX0_togetherWith_50 : decode cX0_togetherWith 50 = .ok (.iload 4, 2) := by decide +kernel
theorem dX0_togetherWith_52 : decode cX0_togetherWith 52 = .ok (.ireturn, 1) := by decide +kernel
theorem dX0_partAlikes_0 : decode cX0_partAlikes 0 = .ok (.iconst 0, 1) := by decide +kernel
theorem dX0_partAlikes_1 : decode cX0_partAlikes 1 = .ok (.istore_n 2, 1) := by decide +kernel
theorem dX0_partAlikes_2 : decode cX0_partAlikes 2 = .ok (.iload_n 2, 1) := by decide +kernel
theorem dX0_partAlikes_3 : decode cX0_partAlikes 3 = .ok (.aload_n 0, 1) := by decide +kernel
theorem dX0_partAlikes_4 : decode cX0_partAlikes 4 = .ok (.getfield 22, 3) := by decide +kernel
theorem dX0_partAlikes_7 : decode cX0_partAlikes 7 = .ok (.arraylength, 1) := by decide +kernel
theorem dX0_partAlikes_8 : decode cX0_partAlikes 8 = .ok (.if_icmp .ge 27, 3) := by decide +kernel
theorem dX0_partAlikes_11 : decode cX0_partAlikes 11 = .ok (.iload_n 1, 1) := by decide +kernel
theorem dX0_partAlikes_12 : decode cX0_partAlikes 12 = .ok (.iload_n 2, 1) := by decide +kernel
theorem dX0_partAlikes_13 : decode cX0_partAlikes 13 = .ok (.invokestatic 82, 3) := by decide +kernel
theorem dX0_partAlikes_16 : decode cX0_partAlikes 16 = .ok (.ifCond .eq 13, 3) := by decide +kernel
theorem dX0_partAlikes_19 : decode cX0_partAlikes 19 = .ok (.aload_n 0, 1) := by decide +kernel
theorem dX0_partAlikes_20 : decode cX0_partAlikes 20 = .ok (.getfield 22, 3) := by decide +kernel
theorem dX0_partAlikes_23 : decode cX0_partAlikes 23 = .ok (.iload_n 2, 1) := by decide +kernel
theorem dX0_partAlikes_24 : decode cX0_partAlikes 24 = .ok (.dup2, 1) := by decide +kernel
theorem dX0_partAlikes_25 : decode cX0_partAlikes 25 = .ok (.iaload, 1) := by decide +kernel
theorem dX0_partAlikes_26 : decode cX0_partAlikes 26 = .ok (.iload_n 1, 1) := by decide +kernel
theorem dX0_partAlikes_27 : decode cX0_partAlikes 27 = .ok (.iand, 1) := by decide +kernel
theorem dX0_partAlikes_28 : decode cX0_partAlikes 28 = .ok (.iastore, 1) := by decide +kernel
theorem dX0_partAlikes_29 : decode cX0_partAlikes 29 = .ok (.iinc 2 1, 3) := by decide +kernel
theorem dX0_partAlikes_32 : decode cX0_partAlikes 32 = .ok (.goto (-30), 3) := by decide +kernel
theorem dX0_partAlikes_35 : decode cX0_partAlikes 35 = .ok (.return_, 1) := by decide +kernel
theorem dX0_leadersAt_0 : decode cX0_leadersAt 0 = .ok (.iload_n 1, 1) := by decide +kernel
theorem dX0_leadersAt_1 : decode cX0_leadersAt 1 = .ok (.ifCond .lt 21, 3) := by decide +kernel
theorem dX0_leadersAt_4 : decode cX0_leadersAt 4 = .ok (.iload_n 1, 1) := by decide +kernel
theorem dX0_leadersAt_5 : decode cX0_leadersAt 5 = .ok (.aload_n 0, 1) := by decide +kernel
theorem dX0_leadersAt_6 : decode cX0_leadersAt 6 = .ok (.getfield 11, 3) := by decide +kernel
theorem dX0_leadersAt_9 : decode cX0_leadersAt 9 = .ok (.arraylength, 1) := by decide +kernel
theorem dX0_leadersAt_10 : decode cX0_leadersAt 10 = .ok (.if_icmp .ge 12, 3) := by decide +kernel
theorem dX0_leadersAt_13 : decode cX0_leadersAt 13 = .ok (.aload_n 0, 1) := by decide +kernel
theorem dX0_leadersAt_14 : decode cX0_leadersAt 14 = .ok (.getfield 11, 3) := by decide +kernel
theorem dX0_leadersAt_17 : decode cX0_leadersAt 17 = .ok (.iload_n 1, 1) := by decide +kernel
theorem dX0_leadersAt_18 : decode cX0_leadersAt 18 = .ok (.laload, 1) := by decide +kernel
theorem dX0_leadersAt_19 : decode cX0_leadersAt 19 = .ok (.goto 4, 3) := by decide +kernel
theorem dX0_leadersAt_22 : decode cX0_leadersAt 22 = .ok (.lconst 0, 1) := by decide +kernel
theorem dX0_leadersAt_23 : decode cX0_leadersAt 23 = .ok (.lreturn, 1) := by decide +kernel
theorem dX0_leaderIn_0 : decode cX0_leaderIn 0 = .ok (.lload_n 0, 1) := by decide +kernel
theorem dX0_leaderIn_1 : decode cX0_leaderIn 1 = .ok (.iconst 4, 1) := by decide +kernel
theorem dX0_leaderIn_2 : decode cX0_leaderIn 2 = .ok (.iload_n 2, 1) := by decide +kernel
theorem dX0_leaderIn_3 : decode cX0_leaderIn 3 = .ok (.imul, 1) := by decide +kernel
theorem dX0_leaderIn_4 : decode cX0_leaderIn 4 = .ok (.lushr, 1) := by decide +kernel
theorem dX0_leaderIn_5 : decode cX0_leaderIn 5 = .ok (.l2i, 1) := by decide +kernel
theorem dX0_leaderIn_6 : decode cX0_leaderIn 6 = .ok (.bipush 15, 2) := by decide +kernel
theorem dX0_leaderIn_8 : decode cX0_leaderIn 8 = .ok (.iand, 1) := by decide +kernel
theorem dX0_leaderIn_9 : decode cX0_leaderIn 9 = .ok (.ireturn, 1) := by decide +kernel
theorem dX0_alikeTo_0 : decode cX0_alikeTo 0 = .ok (.iload_n 1, 1) := by decide +kernel
theorem dX0_alikeTo_1 : decode cX0_alikeTo 1 = .ok (.ifCond .lt 21, 3) := by decide +kernel
theorem dX0_alikeTo_4 : decode cX0_alikeTo 4 = .ok (.iload_n 1, 1) := by decide +kernel
theorem dX0_alikeTo_5 : decode cX0_alikeTo 5 = .ok (.aload_n 0, 1) := by decide +kernel
theorem dX0_alikeTo_6 : decode cX0_alikeTo 6 = .ok (.getfield 22, 3) := by decide +kernel
theorem dX0_alikeTo_9 : decode cX0_alikeTo 9 = .ok (.arraylength, 1) := by decide +kernel
theorem dX0_alikeTo_10 : decode cX0_alikeTo 10 = .ok (.if_icmp .ge 12, 3) := by decide +kernel
theorem dX0_alikeTo_13 : decode cX0_alikeTo 13 = .ok (.aload_n 0, 1) := by decide +kernel
theorem dX0_alikeTo_14 : decode cX0_alikeTo 14 = .ok (.getfield 22, 3) := by decide +kernel
theorem dX0_alikeTo_17 : decode cX0_alikeTo 17 = .ok (.iload_n 1, 1) := by decide +kernel
theorem dX0_alikeTo_18 : decode cX0_alikeTo 18 = .ok (.iaload, 1) := by decide +kernel
theorem dX0_alikeTo_19 : decode cX0_alikeTo 19 = .ok (.goto 4, 3) := by decide +kernel
theorem dX0_alikeTo_22 : decode cX0_alikeTo 22 = .ok (.iconst 0, 1) := by decide +kernel
theorem dX0_alikeTo_23 : decode cX0_alikeTo 23 = .ok (.ireturn, 1) := by decide +kernel
theorem dX0_merged_0 : decode cX0_merged 0 = .ok (.iconst 0, 1) := by decide +kernel
theorem dX0_merged_1 : decode cX0_merged 1 = .ok (.istore_n 2, 1) := by decide +kernel
theorem dX0_merged_2 : decode cX0_merged 2 = .ok (.iconst 0, 1) := by decide +kernel
theorem dX0_merged_3 : decode cX0_merged 3 = .ok (.istore_n 3, 1) := by decide +kernel
theorem dX0_merged_4 : decode cX0_merged 4 = .ok (.iload_n 3, 1) := by decide +kernel
theorem dX0_merged_5 : decode cX0_merged 5 = .ok (.bipush 13, 2) := by decide +kernel
theorem dX0_merged_7 : decode cX0_merged 7 = .ok (.if_icmp .ge 32, 3) := by decide +kernel
theorem dX0_merged_10 : decode cX0_merged 10 = .ok (.iload_n 1, 1) := by decide +kernel
theorem dX0_merged_11 : decode cX0_merged 11 = .ok (.iload_n 3, 1) := by decide +kernel
theorem dX0_merged_12 : decode cX0_merged 12 = .ok (.invokestatic 82, 3) := by decide +kernel
theorem dX0_merged_15 : decode cX0_merged 15 = .ok (.ifCond .eq 18, 3) := by decide +kernel
theorem dX0_merged_18 : decode cX0_merged 18 = .ok (.iload_n 2, 1) := by decide +kernel
theorem dX0_merged_19 : decode cX0_merged 19 = .ok (.aload_n 0, 1) := by decide +kernel
theorem dX0_merged_20 : decode cX0_merged 20 = .ok (.iload_n 3, 1) := by decide +kernel
theorem dX0_merged_21 : decode cX0_merged 21 = .ok (.invokevirtual 111, 3) := by decide +kernel
theorem dX0_merged_24 : decode cX0_merged 24 = .ok (.aload_n 0, 1) := by decide +kernel
theorem dX0_merged_25 : decode cX0_merged 25 = .ok (.iload_n 3, 1) := by decide +kernel
theorem dX0_merged_26 : decode cX0_merged 26 = .ok (.invokevirtual 111, 3) := by decide +kernel
theorem dX0_merged_29 : decode cX0_merged 29 = .ok (.ineg, 1) := by decide +kernel
theorem dX0_merged_30 : decode cX0_merged 30 = .ok (.iand, 1) := by decide +kernel
theorem dX0_merged_31 : decode cX0_merged 31 = .ok (.ior, 1) := by decide +kernel
theorem dX0_merged_32 : decode cX0_merged 32 = .ok (.istore_n 2, 1) := by decide +kernel
theorem dX0_merged_33 : decode cX0_merged 33 = .ok (.iinc 3 1, 3) := by decide +kernel
theorem dX0_merged_36 : decode cX0_merged 36 = .ok (.goto (-32), 3) := by decide +kernel
theorem dX0_merged_39 : decode cX0_merged 39 = .ok (.iload_n 2, 1) := by decide +kernel
theorem dX0_merged_40 : decode cX0_merged 40 = .ok (.ireturn, 1) := by decide +kernel
theorem dX0_fewest_0 : decode cX0_fewest 0 = .ok (.iconst 0, 1) := by decide +kernel
theorem dX0_fewest_1 : decode cX0_fewest 1 = .ok (.istore_n 2, 1) := by decide +kernel
theorem dX0_fewest_2 : decode cX0_fewest 2 = .ok (.iload_n 2, 1) := by decide +kernel
theorem dX0_fewest_3 : decode cX0_fewest 3 = .ok (.bipush 13, 2) := by decide +kernel
theorem dX0_fewest_5 : decode cX0_fewest 5 = .ok (.if_icmp .ge 18, 3) := by decide +kernel
theorem dX0_fewest_8 : decode cX0_fewest 8 = .ok (.aload_n 0, 1) := by decide +kernel
theorem dX0_fewest_9 : decode cX0_fewest 9 = .ok (.iload_n 1, 1) := by decide +kernel
theorem dX0_fewest_10 : decode cX0_fewest 10 = .ok (.iload_n 2, 1) := by decide +kernel
theorem dX0_fewest_11 : decode cX0_fewest 11 = .ok (.invokestatic 114, 3) := by decide +kernel
theorem dX0_fewest_14 : decode cX0_fewest 14 = .ok (.ifCond .ne 9, 3) := by decide +kernel
theorem dX0_fewest_17 : decode cX0_fewest 17 = .ok (.iinc 2 1, 3) := by decide +kernel
theorem dX0_fewest_20 : decode cX0_fewest 20 = .ok (.goto (-18), 3) := by decide +kernel
theorem dX0_fewest_23 : decode cX0_fewest 23 = .ok (.iload_n 2, 1) := by decide +kernel
theorem dX0_fewest_24 : decode cX0_fewest 24 = .ok (.ireturn, 1) := by decide +kernel
theorem dX0_first_0 : decode cX0_first 0 = .ok (.iconst 0, 1) := by decide +kernel
theorem dX0_first_1 : decode cX0_first 1 = .ok (.istore_n 3, 1) := by decide +kernel
theorem dX0_first_2 : decode cX0_first 2 = .ok (.iload_n 2, 1) := by decide +kernel
theorem dX0_first_3 : decode cX0_first 3 = .ok (.ifCond .le 45, 3) := by decide +kernel
theorem dX0_first_6 : decode cX0_first 6 = .ok (.iload_n 3, 1) := by decide +kernel
theorem dX0_first_7 : decode cX0_first 7 = .ok (.aload_n 0, 1) := by decide +kernel
theorem dX0_first_8 : decode cX0_first 8 = .ok (.getfield 43, 3) := by decide +kernel
theorem dX0_first_11 : decode cX0_first 11 = .ok (.if_icmp .ge 37, 3) := by decide +kernel
theorem dX0_first_14 : decode cX0_first 14 = .ok (.iload_n 3, 1) := by decide +kernel
theorem dX0_first_15 : decode cX0_first 15 = .ok (.aload_n 0, 1) := by decide +kernel
theorem dX0_first_16 : decode cX0_first 16 = .ok (.getfield 15, 3) := by decide +kernel
theorem dX0_first_19 : decode cX0_first 19 = .ok (.arraylength, 1) := by decide +kernel
theorem dX0_first_20 : decode cX0_first 20 = .ok (.if_icmp .ge 28, 3) := by decide +kernel
theorem dX0_first_23 : decode cX0_first 23 = .ok (.aload_n 0, 1) := by decide +kernel
theorem dX0_first_24 : decode cX0_first 24 = .ok (.iload_n 3, 1) := by decide +kernel
theorem dX0_first_25 : decode cX0_first 25 = .ok (.iload_n 1, 1) := by decide +kernel
theorem dX0_first_26 : decode cX0_first 26 = .ok (.iload_n 2, 1) := by decide +kernel
theorem dX0_first_27 : decode cX0_first 27 = .ok (.iconst 1, 1) := by decide +kernel
theorem dX0_first_28 : decode cX0_first 28 = .ok (.isub, 1) := by decide +kernel
theorem dX0_first_29 : decode cX0_first 29 = .ok (.invokestatic 118, 3) := by decide +kernel
theorem dX0_first_32 : decode cX0_first 32 = .ok (.ifCond .eq 10, 3) := by decide +kernel
theorem dX0_first_35 : decode cX0_first 35 = .ok (.aload_n 0, 1) := by decide +kernel
theorem dX0_first_36 : decode cX0_first 36 = .ok (.getfield 15, 3) := by decide +kernel
theorem dX0_first_39 : decode cX0_first 39 = .ok (.iload_n 3, 1) := by decide +kernel
theorem dX0_first_40 : decode cX0_first 40 = .ok (.iaload, 1) := by decide +kernel
theorem dX0_first_41 : decode cX0_first 41 = .ok (.ireturn, 1) := by decide +kernel
theorem dX0_first_42 : decode cX0_first 42 = .ok (.iinc 3 1, 3) := by decide +kernel
theorem dX0_first_45 : decode cX0_first 45 = .ok (.goto (-43), 3) := by decide +kernel
theorem dX0_first_48 : decode cX0_first 48 = .ok (.iconst (-1), 1) := by decide +kernel
theorem dX0_first_49 : decode cX0_first 49 = .ok (.ireturn, 1) := by decide +kernel
theorem dX0_isEnough_0 : decode cX0_isEnough 0 = .ok (.iload_n 1, 1) := by decide +kernel
theorem dX0_isEnough_1 : decode cX0_isEnough 1 = .ok (.iload_n 1, 1) := by decide +kernel
theorem dX0_isEnough_2 : decode cX0_isEnough 2 = .ok (.iconst 1, 1) := by decide +kernel
theorem dX0_isEnough_3 : decode cX0_isEnough 3 = .ok (.isub, 1) := by decide +kernel
theorem dX0_isEnough_4 : decode cX0_isEnough 4 = .ok (.iand, 1) := by decide +kernel
theorem dX0_isEnough_5 : decode cX0_isEnough 5 = .ok (.ifCond .ne 5, 3) := by decide +kernel
theorem dX0_isEnough_8 : decode cX0_isEnough 8 = .ok (.iconst 1, 1) := by decide +kernel
theorem dX0_isEnough_9 : decode cX0_isEnough 9 = .ok (.ireturn, 1) := by decide +kernel
theorem dX0_isEnough_10 : decode cX0_isEnough 10 = .ok (.iload_n 2, 1) := by decide +kernel
theorem dX0_isEnough_11 : decode cX0_isEnough 11 = .ok (.ifCond .le 16, 3) := by decide +kernel
theorem dX0_isEnough_14 : decode cX0_isEnough 14 = .ok (.iload_n 1, 1) := by decide +kernel
theorem dX0_isEnough_15 : decode cX0_isEnough 15 = .ok (.ifCond .lt 12, 3) := by decide +kernel
theorem dX0_isEnough_18 : decode cX0_isEnough 18 = .ok (.iload_n 1, 1) := by decide +kernel
theorem dX0_isEnough_19 : decode cX0_isEnough 19 = .ok (.aload_n 0, 1) := by decide +kernel
theorem dX0_isEnough_20 : decode cX0_isEnough 20 = .ok (.getfield 25, 3) := by decide +kernel
theorem dX0_isEnough_23 : decode cX0_isEnough 23 = .ok (.arraylength, 1) := by decide +kernel
theorem dX0_isEnough_24 : decode cX0_isEnough 24 = .ok (.if_icmp .lt 5, 3) := by decide +kernel
theorem dX0_isEnough_27 : decode cX0_isEnough 27 = .ok (.iconst 0, 1) := by decide +kernel
theorem dX0_isEnough_28 : decode cX0_isEnough 28 = .ok (.ireturn, 1) := by decide +kernel
theorem dX0_isEnough_29 : decode cX0_isEnough 29 = .ok (.aload_n 0, 1) := by decide +kernel
theorem dX0_isEnough_30 : decode cX0_isEnough 30 = .ok (.getfield 25, 3) := by decide +kernel
theorem dX0_isEnough_33 : decode cX0_isEnough 33 = .ok (.iload_n 1, 1) := by decide +kernel
theorem dX0_isEnough_34 : decode cX0_isEnough 34 = .ok (.iaload, 1) := by decide +kernel
theorem dX0_isEnough_35 : decode cX0_isEnough 35 = .ok (.bipush 15, 2) := by decide +kernel
theorem dX0_isEnough_37 : decode cX0_isEnough 37 = .ok (.iand, 1) := by decide +kernel
theorem dX0_isEnough_38 : decode cX0_isEnough 38 = .ok (.istore_n 3, 1) := by decide +kernel
theorem dX0_isEnough_39 : decode cX0_isEnough 39 = .ok (.aload_n 0, 1) := by decide +kernel
theorem dX0_isEnough_40 : decode cX0_isEnough 40 = .ok (.getfield 25, 3) := by decide +kernel
theorem dX0_isEnough_43 : decode cX0_isEnough 43 = .ok (.iload_n 1, 1) := by decide +kernel
theorem dX0_isEnough_44 : decode cX0_isEnough 44 = .ok (.iaload, 1) := by decide +kernel
theorem dX0_isEnough_45 : decode cX0_isEnough 45 = .ok (.iconst 4, 1) := by decide +kernel
theorem dX0_isEnough_46 : decode cX0_isEnough 46 = .ok (.ishr, 1) := by decide +kernel
theorem dX0_isEnough_47 : decode cX0_isEnough 47 = .ok (.istore 4, 2) := by decide +kernel
theorem dX0_isEnough_49 : decode cX0_isEnough 49 = .ok (.iload_n 2, 1) := by decide +kernel
theorem dX0_isEnough_50 : decode cX0_isEnough 50 = .ok (.iload_n 3, 1) := by decide +kernel
theorem dX0_isEnough_51 : decode cX0_isEnough 51 = .ok (.if_icmp .le 14, 3) := by decide +kernel
theorem dX0_isEnough_54 : decode cX0_isEnough 54 = .ok (.iload 4, 2) := by decide +kernel
theorem dX0_isEnough_56 : decode cX0_isEnough 56 = .ok (.ifCond .eq 20, 3) := by decide +kernel
theorem dX0_isEnough_59 : decode cX0_isEnough 59 = .ok (.iload_n 2, 1) := by decide +kernel
theorem dX0_isEnough_60 : decode cX0_isEnough 60 = .ok (.iload 4, 2) := by decide +kernel
theorem dX0_isEnough_62 : decode cX0_isEnough 62 = .ok (.if_icmp .lt 14, 3) := by decide +kernel
theorem dX0_isEnough_65 : decode cX0_isEnough 65 = .ok (.iload_n 2, 1) := by decide +kernel
theorem dX0_isEnough_66 : decode cX0_isEnough 66 = .ok (.iload_n 3, 1) := by decide +kernel
theorem dX0_isEnough_67 : decode cX0_isEnough 67 = .ok (.if_icmp .le 7, 3) := by decide +kernel
theorem dX0_isEnough_70 : decode cX0_isEnough 70 = .ok (.iconst 1, 1) := by decide +kernel
theorem dX0_isEnough_71 : decode cX0_isEnough 71 = .ok (.goto 4, 3) := by decide +kernel
theorem dX0_isEnough_74 : decode cX0_isEnough 74 = .ok (.iconst 0, 1) := by decide +kernel
theorem dX0_isEnough_75 : decode cX0_isEnough 75 = .ok (.ireturn, 1) := by decide +kernel
theorem dX0_isEnough_76 : decode cX0_isEnough 76 = .ok (.iconst 0, 1) := by decide +kernel
theorem dX0_isEnough_77 : decode cX0_isEnough 77 = .ok (.istore 5, 2) := by decide +kernel
theorem dX0_isEnough_79 : decode cX0_isEnough 79 = .ok (.iconst 0, 1) := by decide +kernel
theorem dX0_isEnough_80 : decode cX0_isEnough 80 = .ok (.istore 6, 2) := by decide +kernel
theorem dX0_isEnough_82 : decode cX0_isEnough 82 = .ok (.iload 5, 2) := by decide +kernel
theorem dX0_isEnough_84 : decode cX0_isEnough 84 = .ok (.ifCond .ne 30, 3) := by decide +kernel
theorem dX0_isEnough_87 : decode cX0_isEnough 87 = .ok (.iload 6, 2) := by decide +kernel
theorem dX0_isEnough_89 : decode cX0_isEnough 89 = .ok (.aload_n 0, 1) := by decide +kernel
theorem dX0_isEnough_90 : decode cX0_isEnough 90 = .ok (.getfield 43, 3) := by decide +kernel
theorem dX0_isEnough_93 : decode cX0_isEnough 93 = .ok (.if_icmp .ge 21, 3) := by decide +kernel
theorem dX0_isEnough_96 : decode cX0_isEnough 96 = .ok (.aload_n 0, 1) := by decide +kernel
theorem dX0_isEnough_97 : decode cX0_isEnough 97 = .ok (.iload 6, 2) := by decide +kernel
theorem dX0_isEnough_99 : decode cX0_isEnough 99 = .ok (.iload_n 1, 1) := by decide +kernel
theorem dX0_isEnough_100 : decode cX0_isEnough 100 = .ok (.iload_n 2, 1) := by decide +kernel
theorem dX0_isEnough_101 : decode cX0_isEnough 101 = .ok (.iconst 1, 1) := by decide +kernel
theorem dX0_isEnough_102 : decode cX0_isEnough 102 = .ok (.isub, 1) := by decide +kernel
theorem dX0_isEnough_103 : decode cX0_isEnough 103 = .ok (.invokestatic 118, 3) := by decide +kernel
theorem dX0_isEnough_106 : decode cX0_isEnough 106 = .ok (.istore 5, 2) := by decide +kernel
theorem dX0_isEnough_108 : decode cX0_isEnough 108 = .ok (.iinc 6 1, 3) := by decide +kernel
theorem dX0_isEnough_111 : decode cX0_isEnough 111 = .ok (.goto (-29), 3) := by decide +kernel
theorem dX0_isEnough_114 : decode cX0_isEnough 114 = .ok (.aload_n 0, 1) := by decide +kernel
theorem dX0_isEnough_115 : decode cX0_isEnough 115 = .ok (.getfield 25, 3) := by decide +kernel
theorem dX0_isEnough_118 : decode cX0_isEnough 118 = .ok (.iload_n 1, 1) := by decide +kernel
theorem dX0_isEnough_119 : decode cX0_isEnough 119 = .ok (.iload 5, 2) := by decide +kernel
theorem dX0_isEnough_121 : decode cX0_isEnough 121 = .ok (.ifCond .eq 11, 3) := by decide +kernel
theorem dX0_isEnough_124 : decode cX0_isEnough 124 = .ok (.iload_n 3, 1) := by decide +kernel
theorem dX0_isEnough_125 : decode cX0_isEnough 125 = .ok (.iload_n 2, 1) := by decide +kernel
theorem dX0_isEnough_126 : decode cX0_isEnough 126 = .ok (.iconst 4, 1) := by decide +kernel
theorem dX0_isEnough_127 : decode cX0_isEnough 127 = .ok (.ishl, 1) := by decide +kernel
theorem dX0_isEnough_128 : decode cX0_isEnough 128 = .ok (.ior, 1) := by decide +kernel
theorem dX0_isEnough_129 : decode cX0_isEnough 129 = .ok (.goto 9, 3) := by decide +kernel
theorem dX0_isEnough_132 : decode cX0_isEnough 132 = .ok (.iload_n 2, 1) := by decide +kernel
theorem dX0_isEnough_133 : decode cX0_isEnough 133 = .ok (.iload 4, 2) := by decide +kernel
theorem dX0_isEnough_135 : decode cX0_isEnough 135 = .ok (.iconst 4, 1) := by decide +kernel
theorem dX0_isEnough_136 : decode cX0_isEnough 136 = .ok (.ishl, 1) := by decide +kernel
theorem dX0_isEnough_137 : decode cX0_isEnough 137 = .ok (.ior, 1) := by decide +kernel
theorem dX0_isEnough_138 : decode cX0_isEnough 138 = .ok (.iastore, 1) := by decide +kernel
theorem dX0_isEnough_139 : decode cX0_isEnough 139 = .ok (.iload 5, 2) := by decide +kernel
theorem dX0_isEnough_141 : decode cX0_isEnough 141 = .ok (.ireturn, 1) := by decide +kernel
theorem dX0_partsEnough_0 : decode cX0_partsEnough 0 = .ok (.iload_n 1, 1) := by decide +kernel
theorem dX0_partsEnough_1 : decode cX0_partsEnough 1 = .ok (.bipush 13, 2) := by decide +kernel
theorem dX0_partsEnough_3 : decode cX0_partsEnough 3 = .ok (.imul, 1) := by decide +kernel
theorem dX0_partsEnough_4 : decode cX0_partsEnough 4 = .ok (.istore 4, 2) := by decide +kernel
theorem dX0_partsEnough_6 : decode cX0_partsEnough 6 = .ok (.iload 4, 2) := by decide +kernel
theorem dX0_partsEnough_8 : decode cX0_partsEnough 8 = .ok (.iload_n 1, 1) := by decide +kernel
theorem dX0_partsEnough_9 : decode cX0_partsEnough 9 = .ok (.iconst 1, 1) := by decide +kernel
theorem dX0_partsEnough_10 : decode cX0_partsEnough 10 = .ok (.iadd, 1) := by decide +kernel
theorem dX0_partsEnough_11 : decode cX0_partsEnough 11 = .ok (.bipush 13, 2) := by decide +kernel
theorem dX0_partsEnough_13 : decode cX0_partsEnough 13 = .ok (.imul, 1) := by decide +kernel
theorem dX0_partsEnough_14 : decode cX0_partsEnough 14 = .ok (.if_icmp .ge 68, 3) := by decide +kernel
theorem dX0_partsEnough_17 : decode cX0_partsEnough 17 = .ok (.iload 4, 2) := by decide +kernel
theorem dX0_partsEnough_19 : decode cX0_partsEnough 19 = .ok (.ifCond .lt 23, 3) := by decide +kernel
theorem dX0_partsEnough_22 : decode cX0_partsEnough 22 = .ok (.iload 4, 2) := by decide +kernel
theorem dX0_partsEnough_24 : decode cX0_partsEnough 24 = .ok (.aload_n 0, 1) := by decide +kernel
theorem dX0_partsEnough_25 : decode cX0_partsEnough 25 = .ok (.getfield 19, 3) := by decide +kernel
theorem dX0_partsEnough_28 : decode cX0_partsEnough 28 = .ok (.arraylength, 1) := by decide +kernel
theorem dX0_partsEnough_29 : decode cX0_partsEnough 29 = .ok (.if_icmp .ge 13, 3) := by decide +kernel
theorem dX0_partsEnough_32 : decode cX0_partsEnough 32 = .ok (.aload_n 0, 1) := by decide +kernel
theorem dX0_partsEnough_33 : decode cX0_partsEnough 33 = .ok (.getfield 19, 3) := by decide +kernel
theorem dX0_partsEnough_36 : decode cX0_partsEnough 36 = .ok (.iload 4, 2) := by decide +kernel
theorem dX0_partsEnough_38 : decode cX0_partsEnough 38 = .ok (.iaload, 1) := by decide +kernel
theorem dX0_partsEnough_39 : decode cX0_partsEnough 39 = .ok (.goto 4, 3) := by decide +kernel
theorem dX0_partsEnough_42 : decode cX0_partsEnough 42 = .ok (.iconst 0, 1) := by decide +kernel
theorem dX0_partsEnough_43 : decode cX0_partsEnough 43 = .ok (.istore 5, 2) := by decide +kernel
theorem dX0_partsEnough_45 : decode cX0_partsEnough 45 = .ok (.iload 5, 2) := by decide +kernel
theorem dX0_partsEnough_47 : decode cX0_partsEnough 47 = .ok (.ifCond .ne 5, 3) := by decide +kernel
theorem dX0_partsEnough_50 : decode cX0_partsEnough 50 = .ok (.iconst 1, 1) := by decide +kernel
theorem dX0_partsEnough_51 : decode cX0_partsEnough 51 = .ok (.ireturn, 1) := by decide +kernel
theorem dX0_partsEnough_52 : decode cX0_partsEnough 52 = .ok (.iload_n 2, 1) := by decide +kernel
theorem dX0_partsEnough_53 : decode cX0_partsEnough 53 = .ok (.iload 5, 2) := by decide +kernel
theorem dX0_partsEnough_55 : decode cX0_partsEnough 55 = .ok (.iand, 1) := by decide +kernel
theorem dX0_partsEnough_56 : decode cX0_partsEnough 56 = .ok (.istore 6, 2) := by decide +kernel
theorem dX0_partsEnough_58 : decode cX0_partsEnough 58 = .ok (.iload 6, 2) := by decide +kernel
theorem dX0_partsEnough_60 : decode cX0_partsEnough 60 = .ok (.iload_n 2, 1) := by decide +kernel
theorem dX0_partsEnough_61 : decode cX0_partsEnough 61 = .ok (.if_icmp .eq 13, 3) := by decide +kernel
theorem dX0_partsEnough_64 : decode cX0_partsEnough 64 = .ok (.aload_n 0, 1) := by decide +kernel
theorem dX0_partsEnough_65 : decode cX0_partsEnough 65 = .ok (.iload 6, 2) := by decide +kernel
theorem dX0_partsEnough_67 : decode cX0_partsEnough 67 = .ok (.iload_n 3, 1) := by decide +kernel
theorem dX0_partsEnough_68 : decode cX0_partsEnough 68 = .ok (.invokestatic 114, 3) := by decide +kernel
theorem dX0_partsEnough_71 : decode cX0_partsEnough 71 = .ok (.ifCond .ne 5, 3) := by decide +kernel
theorem dX0_partsEnough_74 : decode cX0_partsEnough 74 = .ok (.iconst 0, 1) := by decide +kernel
theorem dX0_partsEnough_75 : decode cX0_partsEnough 75 = .ok (.ireturn, 1) := by decide +kernel
theorem dX0_partsEnough_76 : decode cX0_partsEnough 76 = .ok (.iinc 4 1, 3) := by decide +kernel
theorem dX0_partsEnough_79 : decode cX0_partsEnough 79 = .ok (.goto (-73), 3) := by decide +kernel
theorem dX0_partsEnough_82 : decode cX0_partsEnough 82 = .ok (.iconst 1, 1) := by decide +kernel
theorem dX0_partsEnough_83 : decode cX0_partsEnough 83 = .ok (.ireturn, 1) := by decide +kernel
theorem dX0_indispensable_0 : decode cX0_indispensable 0 = .ok (.iconst 0, 1) := by decide +kernel
theorem dX0_indispensable_1 : decode cX0_indispensable 1 = .ok (.istore_n 2, 1) := by decide +kernel
theorem dX0_indispensable_2 : decode cX0_indispensable 2 = .ok (.iconst 1, 1) := by decide +kernel
theorem dX0_indispensable_3 : decode cX0_indispensable 3 = .ok (.istore_n 3, 1) := by decide +kernel
theorem dX0_indispensable_4 : decode cX0_indispensable 4 = .ok (.iload_n 3, 1) := by decide +kernel
theorem dX0_indispensable_5 : decode cX0_indispensable 5 = .ok (.iload_n 1, 1) := by decide +kernel
theorem dX0_indispensable_6 : decode cX0_indispensable 6 = .ok (.if_icmp .gt 34, 3) := by decide +kernel
theorem dX0_indispensable_9 : decode cX0_indispensable 9 = .ok (.iconst 1, 1) := by decide +kernel
theorem dX0_indispensable_10 : decode cX0_indispensable 10 = .ok (.istore 4, 2) := by decide +kernel
theorem dX0_indispensable_12 : decode cX0_indispensable 12 = .ok (.iload 4, 2) := by decide +kernel
theorem dX0_indispensable_14 : decode cX0_indispensable 14 = .ok (.iload_n 3, 1) := by decide +kernel
theorem dX0_indispensable_15 : decode cX0_indispensable 15 = .ok (.if_icmp .ge 19, 3) := by decide +kernel
theorem dX0_indispensable_18 : decode cX0_indispensable 18 = .ok (.iload_n 2, 1) := by decide +kernel
theorem dX0_indispensable_19 : decode cX0_indispensable 19 = .ok (.aload_n 0, 1) := by decide +kernel
theorem dX0_indispensable_20 : decode cX0_indispensable 20 = .ok (.iload_n 3, 1) := by decide +kernel
theorem dX0_indispensable_21 : decode cX0_indispensable 21 = .ok (.iload 4, 2) := by decide +kernel
theorem dX0_indispensable_23 : decode cX0_indispensable 23 = .ok (.invokevirtual 122, 3) := by decide +kernel
theorem dX0_indispensable_26 : decode cX0_indispensable 26 = .ok (.ior, 1) := by decide +kernel
theorem dX0_indispensable_27 : decode cX0_indispensable 27 = .ok (.istore_n 2, 1) := by decide +kernel
theorem dX0_indispensable_28 : decode cX0_indispensable 28 = .ok (.iinc 4 1, 3) := by decide +kernel
theorem dX0_indispensable_31 : decode cX0_indispensable 31 = .ok (.goto (-19), 3) := by decide +kernel
theorem dX0_indispensable_34 : decode cX0_indispensable 34 = .ok (.iinc 3 1, 3) := by decide +kernel
theorem dX0_indispensable_37 : decode cX0_indispensable 37 = .ok (.goto (-33), 3) := by decide +kernel
theorem dX0_indispensable_40 : decode cX0_indispensable 40 = .ok (.iload_n 2, 1) := by decide +kernel
theorem dX0_indispensable_41 : decode cX0_indispensable 41 = .ok (.ireturn, 1) := by decide +kernel
theorem dX0_inAllThatPart_0 : decode cX0_inAllThatPart 0 = .ok (.iconst (-1), 1) := by decide +kernel
theorem dX0_inAllThatPart_1 : decode cX0_inAllThatPart 1 = .ok (.istore_n 3, 1) := by decide +kernel
theorem dX0_inAllThatPart_2 : decode cX0_inAllThatPart 2 = .ok (.iconst 0, 1) := by decide +kernel
theorem dX0_inAllThatPart_3 : decode cX0_inAllThatPart 3 = .ok (.istore 4, 2) := by decide +kernel
theorem dX0_inAllThatPart_5 : decode cX0_inAllThatPart 5 = .ok (.iload 4, 2) := by decide +kernel
theorem dX0_inAllThatPart_7 : decode cX0_inAllThatPart 7 = .ok (.aload_n 0, 1) := by decide +kernel
theorem dX0_inAllThatPart_8 : decode cX0_inAllThatPart 8 = .ok (.getfield 11, 3) := by decide +kernel
theorem dX0_inAllThatPart_11 : decode cX0_inAllThatPart 11 = .ok (.arraylength, 1) := by decide +kernel
theorem dX0_inAllThatPart_12 : decode cX0_inAllThatPart 12 = .ok (.if_icmp .ge 42, 3) := by decide +kernel
theorem dX0_inAllThatPart_15 : decode cX0_inAllThatPart 15 = .ok (.aload_n 0, 1) := by decide +kernel
theorem dX0_inAllThatPart_16 : decode cX0_inAllThatPart 16 = .ok (.getfield 11, 3) := by decide +kernel
theorem dX0_inAllThatPart_19 : decode cX0_inAllThatPart 19 = .ok (.iload 4, 2) := by decide +kernel
theorem dX0_inAllThatPart_21 : decode cX0_inAllThatPart 21 = .ok (.laload, 1) := by decide +kernel
theorem dX0_inAllThatPart_22 : decode cX0_inAllThatPart 22 = .ok (.iload_n 1, 1) := by decide +kernel
theorem dX0_inAllThatPart_23 : decode cX0_inAllThatPart 23 = .ok (.invokestatic 108, 3) := by decide +kernel
theorem dX0_inAllThatPart_26 : decode cX0_inAllThatPart 26 = .ok (.aload_n 0, 1) := by decide +kernel
theorem dX0_inAllThatPart_27 : decode cX0_inAllThatPart 27 = .ok (.getfield 11, 3) := by decide +kernel
theorem dX0_inAllThatPart_30 : decode cX0_inAllThatPart 30 = .ok (.iload 4, 2) := by decide +kernel
theorem dX0_inAllThatPart_32 : decode cX0_inAllThatPart 32 = .ok (.laload, 1) := by decide +kernel
theorem dX0_inAllThatPart_33 : decode cX0_inAllThatPart 33 = .ok (.iload_n 2, 1) := by decide +kernel
theorem dX0_inAllThatPart_34 : decode cX0_inAllThatPart 34 = .ok (.invokestatic 108, 3) := by decide +kernel
theorem dX0_inAllThatPart_37 : decode cX0_inAllThatPart 37 = .ok (.if_icmp .eq 11, 3) := by decide +kernel
theorem dX0_inAllThatPart_40 : decode cX0_inAllThatPart 40 = .ok (.iload_n 3, 1) := by decide +kernel
theorem dX0_inAllThatPart_41 : decode cX0_inAllThatPart 41 = .ok (.iload 4, 2) := by decide +kernel
theorem dX0_inAllThatPart_43 : decode cX0_inAllThatPart 43 = .ok (.invokestatic 62, 3) := by decide +kernel
theorem dX0_inAllThatPart_46 : decode cX0_inAllThatPart 46 = .ok (.iand, 1) := by decide +kernel
theorem dX0_inAllThatPart_47 : decode cX0_inAllThatPart 47 = .ok (.istore_n 3, 1) := by decide +kernel
theorem dX0_inAllThatPart_48 : decode cX0_inAllThatPart 48 = .ok (.iinc 4 1, 3) := by decide +kernel
theorem dX0_inAllThatPart_51 : decode cX0_inAllThatPart 51 = .ok (.goto (-46), 3) := by decide +kernel
theorem dX0_inAllThatPart_54 : decode cX0_inAllThatPart 54 = .ok (.iload_n 3, 1) := by decide +kernel
theorem dX0_inAllThatPart_55 : decode cX0_inAllThatPart 55 = .ok (.iconst (-1), 1) := by decide +kernel
theorem dX0_inAllThatPart_56 : decode cX0_inAllThatPart 56 = .ok (.if_icmp .ne 7, 3) := by decide +kernel
theorem dX0_inAllThatPart_59 : decode cX0_inAllThatPart 59 = .ok (.iconst 0, 1) := by decide +kernel
theorem dX0_inAllThatPart_60 : decode cX0_inAllThatPart 60 = .ok (.goto 4, 3) := by decide +kernel
theorem dX0_inAllThatPart_63 : decode cX0_inAllThatPart 63 = .ok (.iload_n 3, 1) := by decide +kernel
theorem dX0_inAllThatPart_64 : decode cX0_inAllThatPart 64 = .ok (.ireturn, 1) := by decide +kernel
theorem dX1_init_0 : decode cX1_init 0 = .ok (.aload_n 0, 1) := by decide +kernel
theorem dX1_init_1 : decode cX1_init 1 = .ok (.invokespecial 3, 3) := by decide +kernel
theorem dX1_init_4 : decode cX1_init 4 = .ok (.aload_n 0, 1) := by decide +kernel
theorem dX1_init_5 : decode cX1_init 5 = .ok (.bipush 6, 2) := by decide +kernel
theorem dX1_init_7 : decode cX1_init 7 = .ok (.newarray .int, 2) := by decide +kernel
theorem dX1_init_9 : decode cX1_init 9 = .ok (.putfield 9, 3) := by decide +kernel
theorem dX1_init_12 : decode cX1_init 12 = .ok (.aload_n 0, 1) := by decide +kernel
theorem dX1_init_13 : decode cX1_init 13 = .ok (.bipush 6, 2) := by decide +kernel
theorem dX1_init_15 : decode cX1_init 15 = .ok (.newarray .int, 2) := by decide +kernel
theorem dX1_init_17 : decode cX1_init 17 = .ok (.putfield 15, 3) := by decide +kernel
theorem dX1_init_20 : decode cX1_init 20 = .ok (.aload_n 0, 1) := by decide +kernel
theorem dX1_init_21 : decode cX1_init 21 = .ok (.bipush 12, 2) := by decide +kernel
theorem dX1_init_23 : decode cX1_init 23 = .ok (.newarray .int, 2) := by decide +kernel
theorem dX1_init_25 : decode cX1_init 25 = .ok (.putfield 18, 3) := by decide +kernel
theorem dX1_init_28 : decode cX1_init 28 = .ok (.aload_n 0, 1) := by decide +kernel
theorem dX1_init_29 : decode cX1_init 29 = .ok (.bipush 12, 2) := by decide +kernel
theorem dX1_init_31 : decode cX1_init 31 = .ok (.newarray .int, 2) := by decide +kernel
theorem dX1_init_33 : decode cX1_init 33 = .ok (.putfield 21, 3) := by decide +kernel
theorem dX1_init_36 : decode cX1_init 36 = .ok (.aload_n 0, 1) := by decide +kernel
theorem dX1_init_37 : decode cX1_init 37 = .ok (.bipush 12, 2) := by decide +kernel
theorem dX1_init_39 : decode cX1_init 39 = .ok (.newarray .int, 2) := by decide +kernel
theorem dX1_init_41 : decode cX1_init 41 = .ok (.putfield 24, 3) := by decide +kernel
theorem dX1_init_44 : decode cX1_init 44 = .ok (.return_, 1) := by decide +kernel
theorem dX1_learn_0 : decode cX1_learn 0 = .ok (.aload_n 0, 1) := by decide +kernel
theorem dX1_learn_1 : decode cX1_learn 1 = .ok (.aload_n 1, 1) := by decide +kernel
theorem dX1_learn_2 : decode cX1_learn 2 = .ok (.aload_n 2, 1) := by decide +kernel
theorem dX1_learn_3 : decode cX1_learn 3 = .ok (.invokevirtual 27, 3) := by decide +kernel
theorem dX1_learn_6 : decode cX1_learn 6 = .ok (.aload_n 0, 1) := by decide +kernel
theorem dX1_learn_7 : decode cX1_learn 7 = .ok (.aload_n 0, 1) := by decide +kernel
theorem dX1_learn_8 : decode cX1_learn 8 = .ok (.aload_n 1, 1) := by decide +kernel
theorem dX1_learn_9 : decode cX1_learn 9 = .ok (.iconst 1, 1) := by decide +kernel
theorem dX1_learn_10 : decode cX1_learn 10 = .ok (.aload_n 2, 1) := by decide +kernel
theorem dX1_learn_11 : decode cX1_learn 11 = .ok (.getfield 31, 3) := by decide +kernel
theorem dX1_learn_14 : decode cX1_learn 14 = .ok (.ishl, 1) := by decide +kernel
theorem dX1_learn_15 : decode cX1_learn 15 = .ok (.iconst 1, 1) := by decide +kernel
theorem dX1_learn_16 : decode cX1_learn 16 = .ok (.isub, 1) := by decide +kernel
theorem dX1_learn_17 : decode cX1_learn 17 = .ok (.invokevirtual 37, 3) := by decide +kernel
theorem dX1_learn_20 : decode cX1_learn 20 = .ok (.ifCond .ne 7, 3) := by decide +kernel
theorem dX1_learn_23 : decode cX1_learn 23 = .ok (.iconst 1, 1) := by decide +kernel
theorem dX1_learn_24 : decode cX1_learn 24 = .ok (.goto 4, 3) := by decide +kernel
theorem dX1_learn_27 : decode cX1_learn 27 = .ok (.iconst 0, 1) := by decide +kernel
theorem dX1_learn_28 : decode cX1_learn 28 = .ok (.putfield 41, 3) := by decide +kernel
theorem dX1_learn_31 : decode cX1_learn 31 = .ok (.aload_n 0, 1) := by decide +kernel
theorem dX1_learn_32 : decode cX1_learn 32 = .ok (.getfield 41, 3) := by decide +kernel
theorem dX1_learn_35 : decode cX1_learn 35 = .ok (.ifCond .eq 8, 3) := by decide +kernel
theorem dX1_learn_38 : decode cX1_learn 38 = .ok (.aload_n 0, 1) := by decide +kernel
theorem dX1_learn_39 : decode cX1_learn 39 = .ok (.aload_n 1, 1) := by decide +kernel
theorem dX1_learn_40 : decode cX1_learn 40 = .ok (.invokevirtual 45, 3) := by decide +kernel
theorem dX1_learn_43 : decode cX1_learn 43 = .ok (.return_, 1) := by decide +kernel
theorem dX1_load_0 : decode cX1_load 0 = .ok (.iconst 0, 1) := by decide +kernel
theorem dX1_load_1 : decode cX1_load 1 = .ok (.istore_n 3, 1) := by decide +kernel
theorem dX1_load_2 : decode cX1_load 2 = .ok (.iload_n 3, 1) := by decide +kernel
theorem dX1_load_3 : decode cX1_load 3 = .ok (.aload_n 0, 1) := by decide +kernel
theorem dX1_load_4 : decode cX1_load 4 = .ok (.getfield 18, 3) := by decide +kernel
theorem dX1_load_7 : decode cX1_load 7 = .ok (.arraylength, 1) := by decide +kernel
theorem dX1_load_8 : decode cX1_load 8 = .ok (.if_icmp .ge 91, 3) := by decide +kernel
theorem dX1_load_11 : decode cX1_load 11 = .ok (.iload_n 3, 1) := by decide +kernel
theorem dX1_load_12 : decode cX1_load 12 = .ok (.aload_n 0, 1) := by decide +kernel
theorem dX1_load_13 : decode cX1_load 13 = .ok (.getfield 21, 3) := by decide +kernel
theorem dX1_load_16 : decode cX1_load 16 = .ok (.arraylength, 1) := by decide +kernel
theorem dX1_load_17 : decode cX1_load 17 = .ok (.if_icmp .ge 82, 3) := by decide +kernel
theorem dX1_load_20 : decode cX1_load 20 = .ok (.iload_n 3, 1) := by decide +kernel
theorem dX1_load_21 : decode cX1_load 21 = .ok (.aload_n 0, 1) := by decide +kernel
theorem dX1_load_22 : decode cX1_load 22 = .ok (.getfield 24, 3) := by decide +kernel
theorem dX1_load_25 : decode cX1_load 25 = .ok (.arraylength, 1) := by decide +kernel
theorem dX1_load_26 : decode cX1_load 26 = .ok (.if_icmp .ge 73, 3) := by decide +kernel
theorem dX1_load_29 : decode cX1_load 29 = .ok (.aload_n 2, 1) := by decide +kernel
theorem dX1_load_30 : decode cX1_load 30 = .ok (.iload_n 3, 1) := by decide +kernel
theorem dX1_load_31 : decode cX1_load 31 = .ok (.invokevirtual 49, 3) := by decide +kernel
theorem dX1_load_34 : decode cX1_load 34 = .ok (.istore 4, 2) := by decide +kernel
theorem dX1_load_36 : decode cX1_load 36 = .ok (.aload_n 2, 1) := by decide +kernel
theorem dX1_load_37 : decode cX1_load 37 = .ok (.iload_n 3, 1) := by decide +kernel
theorem dX1_load_38 : decode cX1_load 38 = .ok (.invokevirtual 53, 3) := by decide +kernel
theorem dX1_load_41 : decode cX1_load 41 = .ok (.istore 5, 2) := by decide +kernel
theorem dX1_load_43 : decode cX1_load 43 = .ok (.aload_n 2, 1) := by decide +kernel
theorem dX1_load_44 : decode cX1_load 44 = .ok (.iload_n 3, 1) := by decide +kernel
theorem dX1_load_45 : decode cX1_load 45 = .ok (.invokevirtual 56, 3) := by decide +kernel
theorem dX1_load_48 : decode cX1_load 48 = .ok (.istore 6, 2) := by decide +kernel
theorem dX1_load_50 : decode cX1_load 50 = .ok (.aload_n 0, 1) := by decide +kernel
theorem dX1_load_51 : decode cX1_load 51 = .ok (.getfield 18, 3) := by decide +kernel
theorem dX1_load_54 : decode cX1_load 54 = .ok (.iload_n 3, 1) := by decide +kernel
theorem dX1_load_55 : decode cX1_load 55 = .ok (.aload_n 2, 1) := by decide +kernel
theorem dX1_load_56 : decode cX1_load 56 = .ok (.iload_n 3, 1) := by decide +kernel
theorem dX1_load_57 : decode cX1_load 57 = .ok (.invokevirtual 59, 3) := by decide +kernel
theorem dX1_load_60 : decode cX1_load 60 = .ok (.iastore, 1) := by decide +kernel
theorem dX1_load_61 : decode cX1_load 61 = .ok (.aload_n 0, 1) := by decide +kernel
theorem dX1_load_62 : decode cX1_load 62 = .ok (.getfield 21, 3) := by decide +kernel
theorem dX1_load_65 : decode cX1_load 65 = .ok (.iload_n 3, 1) := by decide +kernel
theorem dX1_load_66 : decode cX1_load 66 = .ok (.aload_n 1, 1) := by decide +kernel
theorem dX1_load_67 : decode cX1_load 67 = .ok (.iload 4, 2) := by decide +kernel
theorem dX1_load_69 : decode cX1_load 69 = .ok (.iload 5, 2) := by decide +kernel
theorem dX1_load_71 : decode cX1_load 71 = .ok (.iload 6, 2) := by decide +kernel
theorem dX1_load_73 : decode cX1_load 73 = .ok (.invokevirtual 62, 3) := by decide +kernel
theorem dX1_load_76 : decode cX1_load 76 = .ok (.iastore, 1) := by decide +kernel
theorem dX1_load_77 : decode cX1_load 77 = .ok (.aload_n 0, 1) := by decide +kernel
theorem dX1_load_78 : decode cX1_load 78 = .ok (.getfield 24, 3) := by decide +kernel
theorem dX1_load_81 : decode cX1_load 81 = .ok (.iload_n 3, 1) := by decide +kernel
theorem dX1_load_82 : decode cX1_load 82 = .ok (.aload_n 1, 1) := by decide +kernel
theorem dX1_load_83 : decode cX1_load 83 = .ok (.iload 4, 2) := by decide +kernel
theorem dX1_load_85 : decode cX1_load 85 = .ok (.iload 5, 2) := by decide +kernel
theorem dX1_load_87 : decode cX1_load 87 = .ok (.iload 6, 2) := by decide +kernel
theorem dX1_load_89 : decode cX1_load 89 = .ok (.invokevirtual 68, 3) := by decide +kernel
theorem dX1_load_92 : decode cX1_load 92 = .ok (.iastore, 1) := by decide +kernel
theorem dX1_load_93 : decode cX1_load 93 = .ok (.iinc 3 1, 3) := by decide +kernel
theorem dX1_load_96 : decode cX1_load 96 = .ok (.goto (-94), 3) := by decide +kernel
theorem dX1_load_99 : decode cX1_load 99 = .ok (.return_, 1) := by decide +kernel
theorem dX1_reset_0 : decode cX1_reset 0 = .ok (.iconst 0, 1) := by decide +kernel
theorem dX1_reset_1 : decode cX1_reset 1 = .ok (.istore_n 2, 1) := by decide +kernel
theorem dX1_reset_2 : decode cX1_reset 2 = .ok (.iload_n 2, 1) := by decide +kernel
theorem dX1_reset_3 : decode cX1_reset 3 = .ok (.aload_n 0, 1) := by decide +kernel
theorem dX1_reset_4 : decode cX1_reset 4 = .ok (.getfield 9, 3) := by decide +kernel
theorem dX1_reset_7 : decode cX1_reset 7 = .ok (.arraylength, 1) := by decide +kernel
theorem dX1_reset_8 : decode cX1_reset 8 = .ok (.if_icmp .ge 42, 3) := by decide +kernel
theorem dX1_reset_11 : decode cX1_reset 11 = .ok (.iload_n 2, 1) := by decide +kernel
theorem dX1_reset_12 : decode cX1_reset 12 = .ok (.aload_n 0, 1) := by decide +kernel
theorem dX1_reset_13 : decode cX1_reset 13 = .ok (.getfield 15, 3) := by decide +kernel
theorem dX1_reset_16 : decode cX1_reset 16 = .ok (.arraylength, 1) := by decide +kernel
theorem dX1_reset_17 : decode cX1_reset 17 = .ok (.if_icmp .ge 33, 3) := by decide +kernel
theorem dX1_reset_20 : decode cX1_reset 20 = .ok (.aload_n 0, 1) := by decide +kernel
theorem dX1_reset_21 : decode cX1_reset 21 = .ok (.getfield 9, 3) := by decide +kernel
theorem dX1_reset_24 : decode cX1_reset 24 = .ok (.iload_n 2, 1) := by decide +kernel
theorem dX1_reset_25 : decode cX1_reset 25 = .ok (.aload_n 1, 1) := by decide +kernel
theorem dX1_reset_26 : decode cX1_reset 26 = .ok (.iload_n 2, 1) := by decide +kernel
theorem dX1_reset_27 : decode cX1_reset 27 = .ok (.iconst 0, 1) := by decide +kernel
theorem dX1_reset_28 : decode cX1_reset 28 = .ok (.invokevirtual 71, 3) := by decide +kernel
theorem dX1_reset_31 : decode cX1_reset 31 = .ok (.iastore, 1) := by decide +kernel
theorem dX1_reset_32 : decode cX1_reset 32 = .ok (.aload_n 0, 1) := by decide +kernel
theorem dX1_reset_33 : decode cX1_reset 33 = .ok (.getfield 15, 3) := by decide +kernel
theorem dX1_reset_36 : decode cX1_reset 36 = .ok (.iload_n 2, 1) := by decide +kernel
theorem dX1_reset_37 : decode cX1_reset 37 = .ok (.aload_n 1, 1) := by decide +kernel
theorem dX1_reset_38 : decode cX1_reset 38 = .ok (.iload_n 2, 1) := by decide +kernel
theorem dX1_reset_39 : decode cX1_reset 39 = .ok (.iconst 1, 1) := by decide +kernel
theorem dX1_reset_40 : decode cX1_reset 40 = .ok (.invokevirtual 71, 3) := by decide +kernel
theorem dX1_reset_43 : decode cX1_reset 43 = .ok (.iastore, 1) := by decide +kernel
theorem dX1_reset_44 : decode cX1_reset 44 = .ok (.iinc 2 1, 3) := by decide +kernel
theorem dX1_reset_47 : decode cX1_reset 47 = .ok (.goto (-45), 3) := by decide +kernel
theorem dX1_reset_50 : decode cX1_reset 50 = .ok (.return_, 1) := by decide +kernel
theorem dX1_stands_0 : decode cX1_stands 0 = .ok (.aload_n 0, 1) := by decide +kernel
theorem dX1_stands_1 : decode cX1_stands 1 = .ok (.aload_n 1, 1) := by decide +kernel
theorem dX1_stands_2 : decode cX1_stands 2 = .ok (.invokevirtual 45, 3) := by decide +kernel
theorem dX1_stands_5 : decode cX1_stands 5 = .ok (.iconst 1, 1) := by decide +kernel
theorem dX1_stands_6 : decode cX1_stands 6 = .ok (.istore_n 3, 1) := by decide +kernel
theorem dX1_stands_7 : decode cX1_stands 7 = .ok (.iconst 0, 1) := by decide +kernel
theorem dX1_stands_8 : decode cX1_stands 8 = .ok (.istore 4, 2) := by decide +kernel
theorem dX1_stands_10 : decode cX1_stands 10 = .ok (.iload_n 3, 1) := by decide +kernel
theorem dX1_stands_11 : decode cX1_stands 11 = .ok (.ifCond .eq 83, 3) := by decide +kernel
theorem dX1_stands_14 : decode cX1_stands 14 = .ok (.iload 4, 2) := by decide +kernel
theorem dX1_stands_16 : decode cX1_stands 16 = .ok (.sipush 20000, 3) := by decide +kernel
theorem dX1_stands_19 : decode cX1_stands 19 = .ok (.if_icmp .ge 75, 3) := by decide +kernel
theorem dX1_stands_22 : decode cX1_stands 22 = .ok (.iconst 0, 1) := by decide +kernel
theorem dX1_stands_23 : decode cX1_stands 23 = .ok (.istore_n 3, 1) := by decide +kernel
theorem dX1_stands_24 : decode cX1_stands 24 = .ok (.iconst 0, 1) := by decide +kernel
theorem dX1_stands_25 : decode cX1_stands 25 = .ok (.istore 5, 2) := by decide +kernel
theorem dX1_stands_27 : decode cX1_stands 27 = .ok (.iload 5, 2) := by decide +kernel
theorem dX1_stands_29 : decode cX1_stands 29 = .ok (.aload_n 0, 1) := by decide +kernel
theorem dX1_stands_30 : decode cX1_stands 30 = .ok (.getfield 18, 3) := by decide +kernel
theorem dX1_stands_33 : decode cX1_stands 33 = .ok (.arraylength, 1) := by decide +kernel
theorem dX1_stands_34 : decode cX1_stands 34 = .ok (.if_icmp .ge 54, 3) := by decide +kernel
theorem dX1_stands_37 : decode cX1_stands 37 = .ok (.iload_n 2, 1) := by decide +kernel
theorem dX1_stands_38 : decode cX1_stands 38 = .ok (.iload 5, 2) := by decide +kernel
theorem dX1_stands_40 : decode cX1_stands 40 = .ok (.invokestatic 75, 3) := by decide +kernel
theorem dX1_stands_43 : decode cX1_stands 43 = .ok (.ifCond .eq 12, 3) := by decide +kernel
theorem dX1_stands_46 : decode cX1_stands 46 = .ok (.aload_n 0, 1) := by decide +kernel
theorem dX1_stands_47 : decode cX1_stands 47 = .ok (.iload 5, 2) := by decide +kernel
theorem dX1_stands_49 : decode cX1_stands 49 = .ok (.invokevirtual 79, 3) := by decide +kernel
theorem dX1_stands_52 : decode cX1_stands 52 = .ok (.goto 4, 3) := by decide +kernel
theorem dX1_stands_55 : decode cX1_stands 55 = .ok (.iconst 0, 1) := by decide +kernel
theorem dX1_stands_56 : decode cX1_stands 56 = .ok (.istore 6, 2) := by decide +kernel
theorem dX1_stands_58 : decode cX1_stands 58 = .ok (.iload 6, 2) := by decide +kernel
theorem dX1_stands_60 : decode cX1_stands 60 = .ok (.iconst 2, 1) := by decide +kernel
theorem dX1_stands_61 : decode cX1_stands 61 = .ok (.if_icmp .ne 5, 3) := by decide +kernel
theorem dX1_stands_64 : decode cX1_stands 64 = .ok (.iconst 0, 1) := by decide +kernel
theorem dX1_stands_65 : decode cX1_stands 65 = .ok (.ireturn, 1) := by decide +kernel
theorem dX1_stands_66 : decode cX1_stands 66 = .ok (.iload_n 3, 1) := by decide +kernel
theorem dX1_stands_67 : decode cX1_stands 67 = .ok (.ifCond .ne 9, 3) := by decide +kernel
theorem dX1_stands_70 : decode cX1_stands 70 = .ok (.iload 6, 2) := by decide +kernel
theorem dX1_stands_72 : decode cX1_stands 72 = .ok (.iconst 1, 1) := by decide +kernel
theorem dX1_stands_73 : decode cX1_stands 73 = .ok (.if_icmp .ne 7, 3) := by decide +kernel
theorem dX1_stands_76 : decode cX1_stands 76 = .ok (.iconst 1, 1) := by decide +kernel
theorem dX1_stands_77 : decode cX1_stands 77 = .ok (.goto 4, 3) := by decide +kernel
theorem dX1_stands_80 : decode cX1_stands 80 = .ok (.iconst 0, 1) := by decide +kernel
theorem dX1_stands_81 : decode cX1_stands 81 = .ok (.istore_n 3, 1) := by decide +kernel
theorem dX1_stands_82 : decode cX1_stands 82 = .ok (.iinc 5 1, 3) := by decide +kernel
theorem dX1_stands_85 : decode cX1_stands 85 = .ok (.goto (-58), 3) := by decide +kernel
theorem dX1_stands_88 : decode cX1_stands 88 = .ok (.iinc 4 1, 3) := by decide +kernel
theorem dX1_stands_91 : decode cX1_stands 91 = .ok (.goto (-81), 3) := by decide +kernel
theorem dX1_stands_94 : decode cX1_stands 94 = .ok (.iconst 1, 1) := by decide +kernel
theorem dX1_stands_95 : decode cX1_stands 95 = .ok (.ireturn, 1) := by decide +kernel
theorem dX1_narrow_0 : decode cX1_narrow 0 = .ok (.iload_n 1, 1) := by decide +kernel
theorem dX1_narrow_1 : decode cX1_narrow 1 = .ok (.ifCond .lt 30, 3) := by decide +kernel
theorem dX1_narrow_4 : decode cX1_narrow 4 = .ok (.iload_n 1, 1) := by decide +kernel
theorem dX1_narrow_5 : decode cX1_narrow 5 = .ok (.aload_n 0, 1) := by decide +kernel
theorem dX1_narrow_6 : decode cX1_narrow 6 = .ok (.getfield 18, 3) := by decide +kernel
theorem dX1_narrow_9 : decode cX1_narrow 9 = .ok (.arraylength, 1) := by decide +kernel
theorem dX1_narrow_10 : decode cX1_narrow 10 = .ok (.if_icmp .ge 21, 3) := by decide +kernel
theorem dX1_narrow_13 : decode cX1_narrow 13 = .ok (.iload_n 1, 1) := by decide +kernel
theorem dX1_narrow_14 : decode cX1_narrow 14 = .ok (.aload_n 0, 1) := by decide +kernel
theorem dX1_narrow_15 : decode cX1_narrow 15 = .ok (.getfield 21, 3) := by decide +kernel
theorem dX1_narrow_18 : decode cX1_narrow 18 = .ok (.arraylength, 1) := by decide +kernel
theorem dX1_narrow_19 : decode cX1_narrow 19 = .ok (.if_icmp .ge 12, 3) := by decide +kernel
theorem dX1_narrow_22 : decode cX1_narrow 22 = .ok (.iload_n 1, 1) := by decide +kernel
theorem dX1_narrow_23 : decode cX1_narrow 23 = .ok (.aload_n 0, 1) := by decide +kernel
theorem dX1_narrow_24 : decode cX1_narrow 24 = .ok (.getfield 24, 3) := by decide +kernel
theorem dX1_narrow_27 : decode cX1_narrow 27 = .ok (.arraylength, 1) := by decide +kernel
theorem dX1_narrow_28 : decode cX1_narrow 28 = .ok (.if_icmp .lt 5, 3) := by decide +kernel
theorem dX1_narrow_31 : decode cX1_narrow 31 = .ok (.iconst 0, 1) := by decide +kernel
theorem dX1_narrow_32 : decode cX1_narrow 32 = .ok (.ireturn, 1) := by decide +kernel
theorem dX1_narrow_33 : decode cX1_narrow 33 = .ok (.aload_n 0, 1) := by decide +kernel
theorem dX1_narrow_34 : decode cX1_narrow 34 = .ok (.getfield 18, 3) := by decide +kernel
theorem dX1_narrow_37 : decode cX1_narrow 37 = .ok (.iload_n 1, 1) := by decide +kernel
theorem dX1_narrow_38 : decode cX1_narrow 38 = .ok (.iaload, 1) := by decide +kernel
theorem dX1_narrow_39 : decode cX1_narrow 39 = .ok (.istore_n 2, 1) := by decide +kernel
theorem dX1_narrow_40 : decode cX1_narrow 40 = .ok (.aload_n 0, 1) := by decide +kernel
theorem dX1_narrow_41 : decode cX1_narrow 41 = .ok (.getfield 21, 3) := by decide +kernel
theorem dX1_narrow_44 : decode cX1_narrow 44 = .ok (.iload_n 1, 1) := by decide +kernel
theorem dX1_narrow_45 : decode cX1_narrow 45 = .ok (.iaload, 1) := by decide +kernel
theorem dX1_narrow_46 : decode cX1_narrow 46 = .ok (.iconst (-1), 1) := by decide +kernel
theorem dX1_narrow_47 : decode cX1_narrow 47 = .ok (.if_icmp .eq 16, 3) := by decide +kernel
theorem dX1_narrow_50 : decode cX1_narrow 50 = .ok (.iload_n 2, 1) := by decide +kernel
theorem dX1_narrow_51 : decode cX1_narrow 51 = .ok (.ifCond .ne 14, 3) := by decide +kernel
theorem dX1_narrow_54 : decode cX1_narrow 54 = .ok (.aload_n 0, 1) := by decide +kernel
theorem dX1_narrow_55 : decode cX1_narrow 55 = .ok (.getfield 21, 3) := by decide +kernel
theorem dX1_narrow_58 : decode cX1_narrow 58 = .ok (.iload_n 1, 1) := by decide +kernel
theorem dX1_narrow_59 : decode cX1_narrow 59 = .ok (.iaload, 1) := by decide +kernel
theorem dX1_narrow_60 : decode cX1_narrow 60 = .ok (.ifCond .eq 5, 3) := by decide +kernel
theorem dX1_narrow_63 : decode cX1_narrow 63 = .ok (.iconst 2, 1) := by decide +kernel
theorem dX1_narrow_64 : decode cX1_narrow 64 = .ok (.ireturn, 1) := by decide +kernel
theorem dX1_narrow_65 : decode cX1_narrow 65 = .ok (.aload_n 0, 1) := by decide +kernel
theorem dX1_narrow_66 : decode cX1_narrow 66 = .ok (.getfield 9, 3) := by decide +kernel
theorem dX1_narrow_69 : decode cX1_narrow 69 = .ok (.iload_n 2, 1) := by decide +kernel
theorem dX1_narrow_70 : decode cX1_narrow 70 = .ok (.invokestatic 82, 3) := by decide +kernel
theorem dX1_narrow_73 : decode cX1_narrow 73 = .ok (.istore_n 3, 1) := by decide +kernel
theorem dX1_narrow_74 : decode cX1_narrow 74 = .ok (.aload_n 0, 1) := by decide +kernel
theorem dX1_narrow_75 : decode cX1_narrow 75 = .ok (.getfield 15, 3) := by decide +kernel
theorem dX1_narrow_78 : decode cX1_narrow 78 = .ok (.iload_n 2, 1) := by decide +kernel
theorem dX1_narrow_79 : decode cX1_narrow 79 = .ok (.invokestatic 82, 3) := by decide +kernel
theorem dX1_narrow_82 : decode cX1_narrow 82 = .ok (.istore 4, 2) := by decide +kernel
theorem dX1_narrow_84 : decode cX1_narrow 84 = .ok (.iconst 0, 1) := by decide +kernel
theorem dX1_narrow_85 : decode cX1_narrow 85 = .ok (.istore 5, 2) := by decide +kernel
theorem dX1_narrow_87 : decode cX1_narrow 87 = .ok (.iconst 0, 1) := by decide +kernel
theorem dX1_narrow_88 : decode cX1_narrow 88 = .ok (.istore 6, 2) := by decide +kernel
theorem dX1_narrow_90 : decode cX1_narrow 90 = .ok (.iload 6, 2) := by decide +kernel
theorem dX1_narrow_92 : decode cX1_narrow 92 = .ok (.aload_n 0, 1) := by decide +kernel
theorem dX1_narrow_93 : decode cX1_narrow 93 = .ok (.getfield 9, 3) := by decide +kernel
theorem dX1_narrow_96 : decode cX1_narrow 96 = .ok (.arraylength, 1) := by decide +kernel
theorem dX1_narrow_97 : decode cX1_narrow 97 = .ok (.if_icmp .ge 170, 3) := by decide +kernel
theorem dX1_narrow_100 : decode cX1_narrow 100 = .ok (.iload 6, 2) := by decide +kernel
theorem dX1_narrow_102 : decode cX1_narrow 102 = .ok (.aload_n 0, 1) := by decide +kernel
theorem dX1_narrow_103 : decode cX1_narrow 103 = .ok (.getfield 15, 3) := by decide +kernel
theorem dX1_narrow_106 : decode cX1_narrow 106 = .ok (.arraylength, 1) := by decide +kernel
theorem dX1_narrow_107 : decode cX1_narrow 107 = .ok (.if_icmp .ge 160, 3) := by decide +kernel
theorem dX1_narrow_110 : decode cX1_narrow 110 = .ok (.iload_n 2, 1) := by decide +kernel
theorem dX1_narrow_111 : decode cX1_narrow 111 = .ok (.iload 6, 2) := by decide +kernel
theorem dX1_narrow_113 : decode cX1_narrow 113 = .ok (.invokestatic 75, 3) := by decide +kernel
theorem dX1_narrow_116 : decode cX1_narrow 116 = .ok (.ifCond .ne 6, 3) := by decide +kernel
theorem dX1_narrow_119 : decode cX1_narrow 119 = .ok (.goto 142, 3) := by decide +kernel
theorem dX1_narrow_122 : decode cX1_narrow 122 = .ok (.aload_n 0, 1) := by decide +kernel
theorem dX1_narrow_123 : decode cX1_narrow 123 = .ok (.getfield 9, 3) := by decide +kernel
theorem dX1_narrow_126 : decode cX1_narrow 126 = .ok (.iload 6, 2) := by decide +kernel
theorem dX1_narrow_128 : decode cX1_narrow 128 = .ok (.iaload, 1) := by decide +kernel
theorem dX1_narrow_129 : decode cX1_narrow 129 = .ok (.aload_n 0, 1) := by decide +kernel
theorem dX1_narrow_130 : decode cX1_narrow 130 = .ok (.getfield 21, 3) := by decide +kernel
theorem dX1_narrow_133 : decode cX1_narrow 133 = .ok (.iload_n 1, 1) := by decide +kernel
theorem dX1_narrow_134 : decode cX1_narrow 134 = .ok (.iaload, 1) := by decide +kernel
theorem dX1_narrow_135 : decode cX1_narrow 135 = .ok (.iload 4, 2) := by decide +kernel
theorem dX1_narrow_137 : decode cX1_narrow 137 = .ok (.aload_n 0, 1) := by decide +kernel
theorem dX1_narrow_138 : decode cX1_narrow 138 = .ok (.getfield 15, 3) := by decide +kernel
theorem dX1_narrow_141 : decode cX1_narrow 141 = .ok (.iload 6, 2) := by decide +kernel
theorem dX1_narrow_143 : decode cX1_narrow 143 = .ok (.iaload, 1) := by decide +kernel
theorem dX1_narrow_144 : decode cX1_narrow 144 = .ok (.isub, 1) := by decide +kernel
theorem dX1_narrow_145 : decode cX1_narrow 145 = .ok (.isub, 1) := by decide +kernel
theorem dX1_narrow_146 : decode cX1_narrow 146 = .ok (.invokestatic 86, 3) := by decide +kernel
theorem dX1_narrow_149 : decode cX1_narrow 149 = .ok (.istore 7, 2) := by decide +kernel
theorem dX1_narrow_151 : decode cX1_narrow 151 = .ok (.aload_n 0, 1) := by decide +kernel
theorem dX1_narrow_152 : decode cX1_narrow 152 = .ok (.getfield 15, 3) := by decide +kernel
theorem dX1_narrow_155 : decode cX1_narrow 155 = .ok (.iload 6, 2) := by decide +kernel
theorem dX1_narrow_157 : decode cX1_narrow 157 = .ok (.iaload, 1) := by decide +kernel
theorem dX1_narrow_158 : decode cX1_narrow 158 = .ok (.aload_n 0, 1) := by decide +kernel
theorem dX1_narrow_159 : decode cX1_narrow 159 = .ok (.getfield 24, 3) := by decide +kernel
theorem dX1_narrow_162 : decode cX1_narrow 162 = .ok (.iload_n 1, 1) := by decide +kernel
theorem dX1_narrow_163 : decode cX1_narrow 163 = .ok (.iaload, 1) := by decide +kernel
theorem dX1_narrow_164 : decode cX1_narrow 164 = .ok (.iload_n 3, 1) := by decide +kernel
theorem dX1_narrow_165 : decode cX1_narrow 165 = .ok (.aload_n 0, 1) := by decide +kernel
theorem dX1_narrow_166 : decode cX1_narrow 166 = .ok (.getfield 9, 3) := by decide +kernel
theorem dX1_narrow_169 : decode cX1_narrow 169 = .ok (.iload 6, 2) := by decide +kernel
theorem dX1_narrow_171 : decode cX1_narrow 171 = .ok (.iaload, 1) := by decide +kernel
theorem dX1_narrow_172 : decode cX1_narrow 172 = .ok (.isub, 1) := by decide +kernel
theorem dX1_narrow_173 : decode cX1_narrow 173 = .ok (.isub, 1) := by decide +kernel
theorem dX1_narrow_174 : decode cX1_narrow 174 = .ok (.invokestatic 91, 3) := by decide +kernel
theorem dX1_narrow_177 : decode cX1_narrow 177 = .ok (.istore 8, 2) := by decide +kernel
theorem dX1_narrow_179 : decode cX1_narrow 179 = .ok (.iload 7, 2) := by decide +kernel
theorem dX1_narrow_181 : decode cX1_narrow 181 = .ok (.iload 8, 2) := by decide +kernel
theorem dX1_narrow_183 : decode cX1_narrow 183 = .ok (.if_icmp .le 5, 3) := by decide +kernel
theorem dX1_narrow_186 : decode cX1_narrow 186 = .ok (.iconst 2, 1) := by decide +kernel
theorem dX1_narrow_187 : decode cX1_narrow 187 = .ok (.ireturn, 1) := by decide +kernel
theorem dX1_narrow_188 : decode cX1_narrow 188 = .ok (.iload 7, 2) := by decide +kernel
theorem dX1_narrow_190 : decode cX1_narrow 190 = .ok (.aload_n 0, 1) := by decide +kernel
theorem dX1_narrow_191 : decode cX1_narrow 191 = .ok (.getfield 9, 3) := by decide +kernel
theorem dX1_narrow_194 : decode cX1_narrow 194 = .ok (.iload 6, 2) := by decide +kernel
theorem dX1_narrow_196 : decode cX1_narrow 196 = .ok (.iaload, 1) := by decide +kernel
theorem dX1_narrow_197 : decode cX1_narrow 197 = .ok (.if_icmp .ne 15, 3) := by decide +kernel
theorem dX1_narrow_200 : decode cX1_narrow 200 = .ok (.iload 8, 2) := by decide +kernel
theorem dX1_narrow_202 : decode cX1_narrow 202 = .ok (.aload_n 0, 1) := by decide +kernel
theorem dX1_narrow_203 : decode cX1_narrow 203 = .ok (.getfield 15, 3) := by decide +kernel
theorem dX1_narrow_206 : decode cX1_narrow 206 = .ok (.iload 6, 2) := by decide +kernel
theorem dX1_narrow_208 : decode cX1_narrow 208 = .ok (.iaload, 1) := by decide +kernel
theorem dX1_narrow_209 : decode cX1_narrow 209 = .ok (.if_icmp .eq 52, 3) := by decide +kernel
theorem dX1_narrow_212 : decode cX1_narrow 212 = .ok (.iconst 1, 1) := by decide +kernel
theorem dX1_narrow_213 : decode cX1_narrow 213 = .ok (.istore 5, 2) := by decide +kernel
theorem dX1_narrow_215 : decode cX1_narrow 215 = .ok (.iload_n 3, 1) := by decide +kernel
theorem dX1_narrow_216 : decode cX1_narrow 216 = .ok (.iload 7, 2) := by decide +kernel
theorem dX1_narrow_218 : decode cX1_narrow 218 = .ok (.aload_n 0, 1) := by decide +kernel
theorem dX1_narrow_219 : decode cX1_narrow 219 = .ok (.getfield 9, 3) := by decide +kernel
theorem dX1_narrow_222 : decode cX1_narrow 222 = .ok (.iload 6, 2) := by decide +kernel
theorem dX1_narrow_224 : decode cX1_narrow 224 = .ok (.iaload, 1) := by decide +kernel
theorem dX1_narrow_225 : decode cX1_narrow 225 = .ok (.isub, 1) := by decide +kernel
theorem dX1_narrow_226 : decode cX1_narrow 226 = .ok (.iadd, 1) := by decide +kernel
theorem dX1_narrow_227 : decode cX1_narrow 227 = .ok (.istore_n 3, 1) := by decide +kernel
theorem dX1_narrow_228 : decode cX1_narrow 228 = .ok (.iload 4, 2) := by decide +kernel
theorem dX1_narrow_230 : decode cX1_narrow 230 = .ok (.iload 8, 2) := by decide +kernel
theorem dX1_narrow_232 : decode cX1_narrow 232 = .ok (.aload_n 0, 1) := by decide +kernel
theorem dX1_narrow_233 : decode cX1_narrow 233 = .ok (.getfield 15, 3) := by decide +kernel
theorem dX1_narrow_236 : decode cX1_narrow 236 = .ok (.iload 6, 2) := by decide +kernel
theorem dX1_narrow_238 : decode cX1_narrow 238 = .ok (.iaload, 1) := by decide +kernel
theorem dX1_narrow_239 : decode cX1_narrow 239 = .ok (.isub, 1) := by decide +kernel
theorem dX1_narrow_240 : decode cX1_narrow 240 = .ok (.iadd, 1) := by decide +kernel
theorem dX1_narrow_241 : decode cX1_narrow 241 = .ok (.istore 4, 2) := by decide +kernel
theorem dX1_narrow_243 : decode cX1_narrow 243 = .ok (.aload_n 0, 1) := by decide +kernel
theorem dX1_narrow_244 : decode cX1_narrow 244 = .ok (.getfield 9, 3) := by decide +kernel
theorem dX1_narrow_247 : decode cX1_narrow 247 = .ok (.iload 6, 2) := by decide +kernel
theorem dX1_narrow_249 : decode cX1_narrow 249 = .ok (.iload 7, 2) := by decide +kernel
theorem dX1_narrow_251 : decode cX1_narrow 251 = .ok (.iastore, 1) := by decide +kernel
theorem dX1_narrow_252 : decode cX1_narrow 252 = .ok (.aload_n 0, 1) := by decide +kernel
theorem dX1_narrow_253 : decode cX1_narrow 253 = .ok (.getfield 15, 3) := by decide +kernel
theorem dX1_narrow_256 : decode cX1_narrow 256 = .ok (.iload 6, 2) := by decide +kernel
theorem dX1_narrow_258 : decode cX1_narrow 258 = .ok (.iload 8, 2) := by decide +kernel
theorem dX1_narrow_260 : decode cX1_narrow 260 = .ok (.iastore, 1) := by decide +kernel
theorem dX1_narrow_261 : decode cX1_narrow 261 = .ok (.iinc 6 1, 3) := by decide +kernel
theorem dX1_narrow_264 : decode cX1_narrow 264 = .ok (.goto (-174), 3) := by decide +kernel
theorem dX1_narrow_267 : decode cX1_narrow 267 = .ok (.iload 5, 2) := by decide +kernel
theorem dX1_narrow_269 : decode cX1_narrow 269 = .ok (.ireturn, 1) := by decide +kernel
theorem dX1_lowest_0 : decode cX1_lowest 0 = .ok (.aload_n 0, 1) := by decide +kernel
theorem dX1_lowest_1 : decode cX1_lowest 1 = .ok (.getfield 9, 3) := by decide +kernel
theorem dX1_lowest_4 : decode cX1_lowest 4 = .ok (.iload_n 1, 1) := by decide +kernel
theorem dX1_lowest_5 : decode cX1_lowest 5 = .ok (.invokestatic 82, 3) := by decide +kernel
theorem dX1_lowest_8 : decode cX1_lowest 8 = .ok (.ireturn, 1) := by decide +kernel
theorem dX1_highest_0 : decode cX1_highest 0 = .ok (.aload_n 0, 1) := by decide +kernel
theorem dX1_highest_1 : decode cX1_highest 1 = .ok (.getfield 15, 3) := by decide +kernel
theorem dX1_highest_4 : decode cX1_highest 4 = .ok (.iload_n 1, 1) := by decide +kernel
theorem dX1_highest_5 : decode cX1_highest 5 = .ok (.invokestatic 82, 3) := by decide +kernel
theorem dX1_highest_8 : decode cX1_highest 8 = .ok (.ireturn, 1) := by decide +kernel
theorem dX1_sum_0 : decode cX1_sum 0 = .ok (.iconst 0, 1) := by decide +kernel
theorem dX1_sum_1 : decode cX1_sum 1 = .ok (.istore_n 2, 1) := by decide +kernel
theorem dX1_sum_2 : decode cX1_sum 2 = .ok (.iconst 0, 1) := by decide +kernel
theorem dX1_sum_3 : decode cX1_sum 3 = .ok (.istore_n 3, 1) := by decide +kernel
theorem dX1_sum_4 : decode cX1_sum 4 = .ok (.iload_n 3, 1) := by decide +kernel
theorem dX1_sum_5 : decode cX1_sum 5 = .ok (.aload_n 0, 1) := by decide +kernel
theorem dX1_sum_6 : decode cX1_sum 6 = .ok (.arraylength, 1) := by decide +kernel
theorem dX1_sum_7 : decode cX1_sum 7 = .ok (.if_icmp .ge 21, 3) := by decide +kernel
theorem dX1_sum_10 : decode cX1_sum 10 = .ok (.iload_n 2, 1) := by decide +kernel
theorem dX1_sum_11 : decode cX1_sum 11 = .ok (.iload_n 1, 1) := by decide +kernel
theorem dX1_sum_12 : decode cX1_sum 12 = .ok (.iload_n 3, 1) := by decide +kernel
theorem dX1_sum_13 : decode cX1_sum 13 = .ok (.ishr, 1) := by decide +kernel
theorem dX1_sum_14 : decode cX1_sum 14 = .ok (.iconst 1, 1) := by decide +kernel
theorem dX1_sum_15 : decode cX1_sum 15 = .ok (.iand, 1) := by decide +kernel
theorem dX1_sum_16 : decode cX1_sum 16 = .ok (.aload_n 0, 1) := by decide +kernel
theorem dX1_sum_17 : decode cX1_sum 17 = .ok (.iload_n 3, 1) := by decide +kernel
theorem dX1_sum_18 : decode cX1_sum 18 = .ok (.iaload, 1) := by decide +kernel
theorem dX1_sum_19 : decode cX1_sum 19 = .ok (.imul, 1) := by decide +kernel
theorem dX1_sum_20 : decode cX1_sum 20 = .ok (.iadd, 1) := by decide +kernel
theorem dX1_sum_21 : decode cX1_sum 21 = .ok (.istore_n 2, 1) := by decide +kernel
theorem dX1_sum_22 : decode cX1_sum 22 = .ok (.iinc 3 1, 3) := by decide +kernel
theorem dX1_sum_25 : decode cX1_sum 25 = .ok (.goto (-21), 3) := by decide +kernel
theorem dX1_sum_28 : decode cX1_sum 28 = .ok (.iload_n 2, 1) := by decide +kernel
theorem dX1_sum_29 : decode cX1_sum 29 = .ok (.ireturn, 1) := by decide +kernel
theorem dX1_allow_0 : decode cX1_allow 0 = .ok (.iload_n 3, 1) := by decide +kernel
theorem dX1_allow_1 : decode cX1_allow 1 = .ok (.iconst (-1), 1) := by decide +kernel
theorem dX1_allow_2 : decode cX1_allow 2 = .ok (.if_icmp .eq 25, 3) := by decide +kernel
theorem dX1_allow_5 : decode cX1_allow 5 = .ok (.aload_n 0, 1) := by decide +kernel
theorem dX1_allow_6 : decode cX1_allow 6 = .ok (.iload_n 1, 1) := by decide +kernel
theorem dX1_allow_7 : decode cX1_allow 7 = .ok (.invokevirtual 94, 3) := by decide +kernel
theorem dX1_allow_10 : decode cX1_allow 10 = .ok (.iload_n 3, 1) := by decide +kernel
theorem dX1_allow_11 : decode cX1_allow 11 = .ok (.if_icmp .gt 16, 3) := by decide +kernel
theorem dX1_allow_14 : decode cX1_allow 14 = .ok (.aload_n 0, 1) := by decide +kernel
theorem dX1_allow_15 : decode cX1_allow 15 = .ok (.iload_n 1, 1) := by decide +kernel
theorem dX1_allow_16 : decode cX1_allow 16 = .ok (.invokevirtual 97, 3) := by decide +kernel
theorem dX1_allow_19 : decode cX1_allow 19 = .ok (.iload_n 2, 1) := by decide +kernel
theorem dX1_allow_20 : decode cX1_allow 20 = .ok (.if_icmp .lt 7, 3) := by decide +kernel
theorem dX1_allow_23 : decode cX1_allow 23 = .ok (.iconst 1, 1) := by decide +kernel
theorem dX1_allow_24 : decode cX1_allow 24 = .ok (.goto 4, 3) := by decide +kernel
theorem dX1_allow_27 : decode cX1_allow 27 = .ok (.iconst 0, 1) := by decide +kernel
theorem dX1_allow_28 : decode cX1_allow 28 = .ok (.ireturn, 1) := by decide +kernel
theorem dX2_init_0 : decode cX2_init 0 = .ok (.aload_n 0, 1) := by decide +kernel
theorem dX2_init_1 : decode cX2_init 1 = .ok (.invokespecial 3, 3) := by decide +kernel
theorem dX2_init_4 : decode cX2_init 4 = .ok (.aload_n 0, 1) := by decide +kernel
theorem dX2_init_5 : decode cX2_init 5 = .ok (.new 9, 3) := by decide +kernel
theorem dX2_init_8 : decode cX2_init 8 = .ok (.dup, 1) := by decide +kernel
theorem dX2_init_9 : decode cX2_init 9 = .ok (.invokespecial 11, 3) := by decide +kernel
theorem dX2_init_12 : decode cX2_init 12 = .ok (.putfield 12, 3) := by decide +kernel
theorem dX2_init_15 : decode cX2_init 15 = .ok (.aload_n 0, 1) := by decide +kernel
theorem dX2_init_16 : decode cX2_init 16 = .ok (.sipush 924, 3) := by decide +kernel
theorem dX2_init_19 : decode cX2_init 19 = .ok (.newarray .int, 2) := by decide +kernel
theorem dX2_init_21 : decode cX2_init 21 = .ok (.putfield 18, 3) := by decide +kernel
theorem dX2_init_24 : decode cX2_init 24 = .ok (.return_, 1) := by decide +kernel
theorem dX2_fewest_0 : decode cX2_fewest 0 = .ok (.aload_n 0, 1) := by decide +kernel
theorem dX2_fewest_1 : decode cX2_fewest 1 = .ok (.getfield 22, 3) := by decide +kernel
theorem dX2_fewest_4 : decode cX2_fewest 4 = .ok (.ifCond .eq 8, 3) := by decide +kernel
theorem dX2_fewest_7 : decode cX2_fewest 7 = .ok (.aload_n 0, 1) := by decide +kernel
theorem dX2_fewest_8 : decode cX2_fewest 8 = .ok (.getfield 26, 3) := by decide +kernel
theorem dX2_fewest_11 : decode cX2_fewest 11 = .ok (.ireturn, 1) := by decide +kernel
theorem dX2_fewest_12 : decode cX2_fewest 12 = .ok (.aload_n 0, 1) := by decide +kernel
theorem dX2_fewest_13 : decode cX2_fewest 13 = .ok (.getfield 12, 3) := by decide +kernel
theorem dX2_fewest_16 : decode cX2_fewest 16 = .ok (.aload_n 1, 1) := by decide +kernel
theorem dX2_fewest_17 : decode cX2_fewest 17 = .ok (.aload_n 2, 1) := by decide +kernel
theorem dX2_fewest_18 : decode cX2_fewest 18 = .ok (.invokevirtual 30, 3) := by decide +kernel
theorem dX2_fewest_21 : decode cX2_fewest 21 = .ok (.aload_n 0, 1) := by decide +kernel
theorem dX2_fewest_22 : decode cX2_fewest 22 = .ok (.iconst 0, 1) := by decide +kernel
theorem dX2_fewest_23 : decode cX2_fewest 23 = .ok (.putfield 34, 3) := by decide +kernel
theorem dX2_fewest_26 : decode cX2_fewest 26 = .ok (.aload_n 0, 1) := by decide +kernel
theorem dX2_fewest_27 : decode cX2_fewest 27 = .ok (.iconst 1, 1) := by decide +kernel
theorem dX2_fewest_28 : decode cX2_fewest 28 = .ok (.putfield 22, 3) := by decide +kernel
theorem dX2_fewest_31 : decode cX2_fewest 31 = .ok (.iconst 1, 1) := by decide +kernel
theorem dX2_fewest_32 : decode cX2_fewest 32 = .ok (.aload_n 2, 1) := by decide +kernel
theorem dX2_fewest_33 : decode cX2_fewest 33 = .ok (.getfield 37, 3) := by decide +kernel
theorem dX2_fewest_36 : decode cX2_fewest 36 = .ok (.ishl, 1) := by decide +kernel
theorem dX2_fewest_37 : decode cX2_fewest 37 = .ok (.iconst 1, 1) := by decide +kernel
theorem dX2_fewest_38 : decode cX2_fewest 38 = .ok (.isub, 1) := by decide +kernel
theorem dX2_fewest_39 : decode cX2_fewest 39 = .ok (.istore_n 3, 1) := by decide +kernel
theorem dX2_fewest_40 : decode cX2_fewest 40 = .ok (.aload_n 0, 1) := by decide +kernel
theorem dX2_fewest_41 : decode cX2_fewest 41 = .ok (.iload_n 3, 1) := by decide +kernel
theorem dX2_fewest_42 : decode cX2_fewest 42 = .ok (.putfield 26, 3) := by decide +kernel
theorem dX2_fewest_45 : decode cX2_fewest 45 = .ok (.iconst 0, 1) := by decide +kernel
theorem dX2_fewest_46 : decode cX2_fewest 46 = .ok (.istore 4, 2) := by decide +kernel
theorem dX2_fewest_48 : decode cX2_fewest 48 = .ok (.iload 4, 2) := by decide +kernel
theorem dX2_fewest_50 : decode cX2_fewest 50 = .ok (.aload_n 2, 1) := by decide +kernel
theorem dX2_fewest_51 : decode cX2_fewest 51 = .ok (.getfield 37, 3) := by decide +kernel
theorem dX2_fewest_54 : decode cX2_fewest 54 = .ok (.if_icmp .ge 83, 3) := by decide +kernel
theorem dX2_fewest_57 : decode cX2_fewest 57 = .ok (.aload_n 0, 1) := by decide +kernel
theorem dX2_fewest_58 : decode cX2_fewest 58 = .ok (.getfield 26, 3) := by decide +kernel
theorem dX2_fewest_61 : decode cX2_fewest 61 = .ok (.iload_n 3, 1) := by decide +kernel
theorem dX2_fewest_62 : decode cX2_fewest 62 = .ok (.if_icmp .ne 75, 3) := by decide +kernel
theorem dX2_fewest_65 : decode cX2_fewest 65 = .ok (.iconst 1, 1) := by decide +kernel
theorem dX2_fewest_66 : decode cX2_fewest 66 = .ok (.iload 4, 2) := by decide +kernel
theorem dX2_fewest_68 : decode cX2_fewest 68 = .ok (.ishl, 1) := by decide +kernel
theorem dX2_fewest_69 : decode cX2_fewest 69 = .ok (.iconst 1, 1) := by decide +kernel
theorem dX2_fewest_70 : decode cX2_fewest 70 = .ok (.isub, 1) := by decide +kernel
theorem dX2_fewest_71 : decode cX2_fewest 71 = .ok (.istore 5, 2) := by decide +kernel
theorem dX2_fewest_73 : decode cX2_fewest 73 = .ok (.iconst 0, 1) := by decide +kernel
theorem dX2_fewest_74 : decode cX2_fewest 74 = .ok (.istore 6, 2) := by decide +kernel
theorem dX2_fewest_76 : decode cX2_fewest 76 = .ok (.iload 6, 2) := by decide +kernel
theorem dX2_fewest_78 : decode cX2_fewest 78 = .ok (.iload_n 3, 1) := by decide +kernel
theorem dX2_fewest_79 : decode cX2_fewest 79 = .ok (.if_icmp .gt 52, 3) := by decide +kernel
theorem dX2_fewest_82 : decode cX2_fewest 82 = .ok (.iload 5, 2) := by decide +kernel
theorem dX2_fewest_84 : decode cX2_fewest 84 = .ok (.iload_n 3, 1) := by decide +kernel
theorem dX2_fewest_85 : decode cX2_fewest 85 = .ok (.if_icmp .gt 46, 3) := by decide +kernel
theorem dX2_fewest_88 : decode cX2_fewest 88 = .ok (.aload_n 0, 1) := by decide +kernel
theorem dX2_fewest_89 : decode cX2_fewest 89 = .ok (.getfield 26, 3) := by decide +kernel
theorem dX2_fewest_92 : decode cX2_fewest 92 = .ok (.iload_n 3, 1) := by decide +kernel
theorem dX2_fewest_93 : decode cX2_fewest 93 = .ok (.if_icmp .ne 38, 3) := by decide +kernel
theorem dX2_fewest_96 : decode cX2_fewest 96 = .ok (.aload_n 0, 1) := by decide +kernel
theorem dX2_fewest_97 : decode cX2_fewest 97 = .ok (.aload_n 0, 1) := by decide +kernel
theorem dX2_fewest_98 : decode cX2_fewest 98 = .ok (.aload_n 1, 1) := by decide +kernel
theorem dX2_fewest_99 : decode cX2_fewest 99 = .ok (.iload 5, 2) := by decide +kernel
theorem dX2_fewest_101 : decode cX2_fewest 101 = .ok (.iload_n 3, 1) := by decide +kernel
theorem dX2_fewest_102 : decode cX2_fewest 102 = .ok (.invokevirtual 42, 3) := by decide +kernel
theorem dX2_fewest_105 : decode cX2_fewest 105 = .ok (.ifCond .eq 8, 3) := by decide +kernel
theorem dX2_fewest_108 : decode cX2_fewest 108 = .ok (.iload 5, 2) := by decide +kernel
theorem dX2_fewest_110 : decode cX2_fewest 110 = .ok (.goto 4, 3) := by decide +kernel
theorem dX2_fewest_113 : decode cX2_fewest 113 = .ok (.iload_n 3, 1) := by decide +kernel
theorem dX2_fewest_114 : decode cX2_fewest 114 = .ok (.putfield 26, 3) := by decide +kernel
theorem dX2_fewest_117 : decode cX2_fewest 117 = .ok (.iload 5, 2) := by decide +kernel
theorem dX2_fewest_119 : decode cX2_fewest 119 = .ok (.iload_n 3, 1) := by decide +kernel
theorem dX2_fewest_120 : decode cX2_fewest 120 = .ok (.invokestatic 46, 3) := by decide +kernel
theorem dX2_fewest_123 : decode cX2_fewest 123 = .ok (.istore 5, 2) := by decide +kernel
theorem dX2_fewest_125 : decode cX2_fewest 125 = .ok (.iinc 6 1, 3) := by decide +kernel
theorem dX2_fewest_128 : decode cX2_fewest 128 = .ok (.goto (-52), 3) := by decide +kernel
theorem dX2_fewest_131 : decode cX2_fewest 131 = .ok (.iinc 4 1, 3) := by decide +kernel
theorem dX2_fewest_134 : decode cX2_fewest 134 = .ok (.goto (-86), 3) := by decide +kernel
theorem dX2_fewest_137 : decode cX2_fewest 137 = .ok (.aload_n 0, 1) := by decide +kernel
theorem dX2_fewest_138 : decode cX2_fewest 138 = .ok (.getfield 26, 3) := by decide +kernel
theorem dX2_fewest_141 : decode cX2_fewest 141 = .ok (.ireturn, 1) := by decide +kernel
theorem dX2_isFree_0 : decode cX2_isFree 0 = .ok (.iconst 0, 1) := by decide +kernel
theorem dX2_isFree_1 : decode cX2_isFree 1 = .ok (.istore 4, 2) := by decide +kernel
theorem dX2_isFree_3 : decode cX2_isFree 3 = .ok (.iload 4, 2) := by decide +kernel
theorem dX2_isFree_5 : decode cX2_isFree 5 = .ok (.aload_n 0, 1) := by decide +kernel
theorem dX2_isFree_6 : decode cX2_isFree 6 = .ok (.getfield 34, 3) := by decide +kernel
theorem dX2_isFree_9 : decode cX2_isFree 9 = .ok (.if_icmp .ge 33, 3) := by decide +kernel
theorem dX2_isFree_12 : decode cX2_isFree 12 = .ok (.iload 4, 2) := by decide +kernel
theorem dX2_isFree_14 : decode cX2_isFree 14 = .ok (.aload_n 0, 1) := by decide +kernel
theorem dX2_isFree_15 : decode cX2_isFree 15 = .ok (.getfield 18, 3) := by decide +kernel
theorem dX2_isFree_18 : decode cX2_isFree 18 = .ok (.arraylength, 1) := by decide +kernel
theorem dX2_isFree_19 : decode cX2_isFree 19 = .ok (.if_icmp .ge 23, 3) := by decide +kernel
theorem dX2_isFree_22 : decode cX2_isFree 22 = .ok (.aload_n 0, 1) := by decide +kernel
theorem dX2_isFree_23 : decode cX2_isFree 23 = .ok (.getfield 18, 3) := by decide +kernel
theorem dX2_isFree_26 : decode cX2_isFree 26 = .ok (.iload 4, 2) := by decide +kernel
theorem dX2_isFree_28 : decode cX2_isFree 28 = .ok (.iaload, 1) := by decide +kernel
theorem dX2_isFree_29 : decode cX2_isFree 29 = .ok (.iload_n 2, 1) := by decide +kernel
theorem dX2_isFree_30 : decode cX2_isFree 30 = .ok (.iand, 1) := by decide +kernel
theorem dX2_isFree_31 : decode cX2_isFree 31 = .ok (.ifCond .ne 5, 3) := by decide +kernel
theorem dX2_isFree_34 : decode cX2_isFree 34 = .ok (.iconst 0, 1) := by decide +kernel
theorem dX2_isFree_35 : decode cX2_isFree 35 = .ok (.ireturn, 1) := by decide +kernel
theorem dX2_isFree_36 : decode cX2_isFree 36 = .ok (.iinc 4 1, 3) := by decide +kernel
theorem dX2_isFree_39 : decode cX2_isFree 39 = .ok (.goto (-36), 3) := by decide +kernel
theorem dX2_isFree_42 : decode cX2_isFree 42 = .ok (.aload_n 0, 1) := by decide +kernel
theorem dX2_isFree_43 : decode cX2_isFree 43 = .ok (.getfield 12, 3) := by decide +kernel
theorem dX2_isFree_46 : decode cX2_isFree 46 = .ok (.aload_n 1, 1) := by decide +kernel
theorem dX2_isFree_47 : decode cX2_isFree 47 = .ok (.iload_n 3, 1) := by decide +kernel
theorem dX2_isFree_48 : decode cX2_isFree 48 = .ok (.iload_n 2, 1) := by decide +kernel
theorem dX2_isFree_49 : decode cX2_isFree 49 = .ok (.iconst (-1), 1) := by decide +kernel
theorem dX2_isFree_50 : decode cX2_isFree 50 = .ok (.ixor, 1) := by decide +kernel
theorem dX2_isFree_51 : decode cX2_isFree 51 = .ok (.iand, 1) := by decide +kernel
theorem dX2_isFree_52 : decode cX2_isFree 52 = .ok (.invokevirtual 50, 3) := by decide +kernel
theorem dX2_isFree_55 : decode cX2_isFree 55 = .ok (.ifCond .eq 5, 3) := by decide +kernel
theorem dX2_isFree_58 : decode cX2_isFree 58 = .ok (.iconst 1, 1) := by decide +kernel
theorem dX2_isFree_59 : decode cX2_isFree 59 = .ok (.ireturn, 1) := by decide +kernel
theorem dX2_isFree_60 : decode cX2_isFree 60 = .ok (.aload_n 0, 1) := by decide +kernel
theorem dX2_isFree_61 : decode cX2_isFree 61 = .ok (.getfield 34, 3) := by decide +kernel
theorem dX2_isFree_64 : decode cX2_isFree 64 = .ok (.aload_n 0, 1) := by decide +kernel
theorem dX2_isFree_65 : decode cX2_isFree 65 = .ok (.getfield 18, 3) := by decide +kernel
theorem dX2_isFree_68 : decode cX2_isFree 68 = .ok (.arraylength, 1) := by decide +kernel
theorem dX2_isFree_69 : decode cX2_isFree 69 = .ok (.if_icmp .ge 32, 3) := by decide +kernel
theorem dX2_isFree_72 : decode cX2_isFree 72 = .ok (.aload_n 0, 1) := by decide +kernel
theorem dX2_isFree_73 : decode cX2_isFree 73 = .ok (.getfield 18, 3) := by decide +kernel
theorem dX2_isFree_76 : decode cX2_isFree 76 = .ok (.aload_n 0, 1) := by decide +kernel
theorem dX2_isFree_77 : decode cX2_isFree 77 = .ok (.getfield 34, 3) := by decide +kernel
theorem dX2_isFree_80 : decode cX2_isFree 80 = .ok (.aload_n 0, 1) := by decide +kernel
theorem dX2_isFree_81 : decode cX2_isFree 81 = .ok (.aload_n 1, 1) := by decide +kernel
theorem dX2_isFree_82 : decode cX2_isFree 82 = .ok (.iload_n 3, 1) := by decide +kernel
theorem dX2_isFree_83 : decode cX2_isFree 83 = .ok (.iload_n 2, 1) := by decide +kernel
theorem dX2_isFree_84 : decode cX2_isFree 84 = .ok (.iconst (-1), 1) := by decide +kernel
theorem dX2_isFree_85 : decode cX2_isFree 85 = .ok (.ixor, 1) := by decide +kernel
theorem dX2_isFree_86 : decode cX2_isFree 86 = .ok (.iand, 1) := by decide +kernel
theorem dX2_isFree_87 : decode cX2_isFree 87 = .ok (.invokevirtual 54, 3) := by decide +kernel
theorem dX2_isFree_90 : decode cX2_isFree 90 = .ok (.iastore, 1) := by decide +kernel
theorem dX2_isFree_91 : decode cX2_isFree 91 = .ok (.aload_n 0, 1) := by decide +kernel
theorem dX2_isFree_92 : decode cX2_isFree 92 = .ok (.dup, 1) := by decide +kernel
theorem dX2_isFree_93 : decode cX2_isFree 93 = .ok (.getfield 34, 3) := by decide +kernel
theorem dX2_isFree_96 : decode cX2_isFree 96 = .ok (.iconst 1, 1) := by decide +kernel
theorem dX2_isFree_97 : decode cX2_isFree 97 = .ok (.iadd, 1) := by decide +kernel
theorem dX2_isFree_98 : decode cX2_isFree 98 = .ok (.putfield 34, 3) := by decide +kernel
theorem dX2_isFree_101 : decode cX2_isFree 101 = .ok (.iconst 0, 1) := by decide +kernel
theorem dX2_isFree_102 : decode cX2_isFree 102 = .ok (.ireturn, 1) := by decide +kernel
theorem dX2_coreOf_0 : decode cX2_coreOf 0 = .ok (.iload_n 2, 1) := by decide +kernel
theorem dX2_coreOf_1 : decode cX2_coreOf 1 = .ok (.istore_n 3, 1) := by decide +kernel
theorem dX2_coreOf_2 : decode cX2_coreOf 2 = .ok (.iconst 0, 1) := by decide +kernel
theorem dX2_coreOf_3 : decode cX2_coreOf 3 = .ok (.istore 4, 2) := by decide +kernel
theorem dX2_coreOf_5 : decode cX2_coreOf 5 = .ok (.iload 4, 2) := by decide +kernel
theorem dX2_coreOf_7 : decode cX2_coreOf 7 = .ok (.bipush 12, 2) := by decide +kernel
theorem dX2_coreOf_9 : decode cX2_coreOf 9 = .ok (.if_icmp .ge 46, 3) := by decide +kernel
theorem dX2_coreOf_12 : decode cX2_coreOf 12 = .ok (.iload_n 3, 1) := by decide +kernel
theorem dX2_coreOf_13 : decode cX2_coreOf 13 = .ok (.iload 4, 2) := by decide +kernel
theorem dX2_coreOf_15 : decode cX2_coreOf 15 = .ok (.invokestatic 58, 3) := by decide +kernel
theorem dX2_coreOf_18 : decode cX2_coreOf 18 = .ok (.ifCond .eq 31, 3) := by decide +kernel
theorem dX2_coreOf_21 : decode cX2_coreOf 21 = .ok (.aload_n 0, 1) := by decide +kernel
theorem dX2_coreOf_22 : decode cX2_coreOf 22 = .ok (.getfield 12, 3) := by decide +kernel
theorem dX2_coreOf_25 : decode cX2_coreOf 25 = .ok (.aload_n 1, 1) := by decide +kernel
theorem dX2_coreOf_26 : decode cX2_coreOf 26 = .ok (.iload_n 3, 1) := by decide +kernel
theorem dX2_coreOf_27 : decode cX2_coreOf 27 = .ok (.iconst 1, 1) := by decide +kernel
theorem dX2_coreOf_28 : decode cX2_coreOf 28 = .ok (.iload 4, 2) := by decide +kernel
theorem dX2_coreOf_30 : decode cX2_coreOf 30 = .ok (.ishl, 1) := by decide +kernel
theorem dX2_coreOf_31 : decode cX2_coreOf 31 = .ok (.iconst (-1), 1) := by decide +kernel
theorem dX2_coreOf_32 : decode cX2_coreOf 32 = .ok (.ixor, 1) := by decide +kernel
theorem dX2_coreOf_33 : decode cX2_coreOf 33 = .ok (.iand, 1) := by decide +kernel
theorem dX2_coreOf_34 : decode cX2_coreOf 34 = .ok (.invokevirtual 50, 3) := by decide +kernel
theorem dX2_coreOf_37 : decode cX2_coreOf 37 = .ok (.ifCond .ne 12, 3) := by decide +kernel
theorem dX2_coreOf_40 : decode cX2_coreOf 40 = .ok (.iload_n 3, 1) := by decide +kernel
theorem dX2_coreOf_41 : decode cX2_coreOf 41 = .ok (.iconst 1, 1) := by decide +kernel
theorem dX2_coreOf_42 : decode cX2_coreOf 42 = .ok (.iload 4, 2) := by decide +kernel
theorem dX2_coreOf_44 : decode cX2_coreOf 44 = .ok (.ishl, 1) := by decide +kernel
theorem dX2_coreOf_45 : decode cX2_coreOf 45 = .ok (.iconst (-1), 1) := by decide +kernel
theorem dX2_coreOf_46 : decode cX2_coreOf 46 = .ok (.ixor, 1) := by decide +kernel
theorem dX2_coreOf_47 : decode cX2_coreOf 47 = .ok (.iand, 1) := by decide +kernel
theorem dX2_coreOf_48 : decode cX2_coreOf 48 = .ok (.istore_n 3, 1) := by decide +kernel
theorem dX2_coreOf_49 : decode cX2_coreOf 49 = .ok (.iinc 4 1, 3) := by decide +kernel
theorem dX2_coreOf_52 : decode cX2_coreOf 52 = .ok (.goto (-47), 3) := by decide +kernel
theorem dX2_coreOf_55 : decode cX2_coreOf 55 = .ok (.iload_n 3, 1) := by decide +kernel
theorem dX2_coreOf_56 : decode cX2_coreOf 56 = .ok (.ireturn, 1) := by decide +kernel
theorem dX2_nextOfLikeCount_0 : decode cX2_nextOfLikeCount 0 = .ok (.iload_n 0, 1) := by decide +kernel
theorem dX2_nextOfLikeCount_1 : decode cX2_nextOfLikeCount 1 = .ok (.ifCond .ne 7, 3) := by decide +kernel
theorem dX2_nextOfLikeCount_4 : decode cX2_nextOfLikeCount 4 = .ok (.iload_n 1, 1) := by decide +kernel
theorem dX2_nextOfLikeCount_5 : decode cX2_nextOfLikeCount 5 = .ok (.iconst 1, 1) := by decide +kernel
theorem dX2_nextOfLikeCount_6 : decode cX2_nextOfLikeCount 6 = .ok (.iadd, 1) := by decide +kernel
theorem dX2_nextOfLikeCount_7 : decode cX2_nextOfLikeCount 7 = .ok (.ireturn, 1) := by decide +kernel
theorem dX2_nextOfLikeCount_8 : decode cX2_nextOfLikeCount 8 = .ok (.iload_n 0, 1) := by decide +kernel
theorem dX2_nextOfLikeCount_9 : decode cX2_nextOfLikeCount 9 = .ok (.iload_n 0, 1) := by decide +kernel
theorem dX2_nextOfLikeCount_10 : decode cX2_nextOfLikeCount 10 = .ok (.ineg, 1) := by decide +kernel
theorem dX2_nextOfLikeCount_11 : decode cX2_nextOfLikeCount 11 = .ok (.iand, 1) := by decide +kernel
theorem dX2_nextOfLikeCount_12 : decode cX2_nextOfLikeCount 12 = .ok (.istore_n 2, 1) := by decide +kernel
theorem dX2_nextOfLikeCount_13 : decode cX2_nextOfLikeCount 13 = .ok (.iload_n 0, 1) := by decide +kernel
theorem dX2_nextOfLikeCount_14 : decode cX2_nextOfLikeCount 14 = .ok (.iload_n 2, 1) := by decide +kernel
theorem dX2_nextOfLikeCount_15 : decode cX2_nextOfLikeCount 15 = .ok (.iadd, 1) := by decide +kernel
theorem dX2_nextOfLikeCount_16 : decode cX2_nextOfLikeCount 16 = .ok (.istore_n 3, 1) := by decide +kernel
theorem dX2_nextOfLikeCount_17 : decode cX2_nextOfLikeCount 17 = .ok (.iload_n 3, 1) := by decide +kernel
theorem dX2_nextOfLikeCount_18 : decode cX2_nextOfLikeCount 18 = .ok (.iload_n 3, 1) := by decide +kernel
theorem dX2_nextOfLikeCount_19 : decode cX2_nextOfLikeCount 19 = .ok (.iload_n 0, 1) := by decide +kernel
theorem dX2_nextOfLikeCount_20 : decode cX2_nextOfLikeCount 20 = .ok (.ixor, 1) := by decide +kernel
theorem dX2_nextOfLikeCount_21 : decode cX2_nextOfLikeCount 21 = .ok (.iconst 2, 1) := by decide +kernel
theorem dX2_nextOfLikeCount_22 : decode cX2_nextOfLikeCount 22 = .ok (.iload_n 2, 1) := by decide +kernel
theorem dX2_nextOfLikeCount_23 : decode cX2_nextOfLikeCount 23 = .ok (.invokestatic 62, 3) := by decide +kernel
theorem dX2_nextOfLikeCount_26 : decode cX2_nextOfLikeCount 26 = .ok (.iadd, 1) := by decide +kernel
theorem dX2_nextOfLikeCount_27 : decode cX2_nextOfLikeCount 27 = .ok (.iushr, 1) := by decide +kernel
theorem dX2_nextOfLikeCount_28 : decode cX2_nextOfLikeCount 28 = .ok (.ior, 1) := by decide +kernel
theorem dX2_nextOfLikeCount_29 : decode cX2_nextOfLikeCount 29 = .ok (.ireturn, 1) := by decide +kernel
theorem dX3_init_0 : decode cX3_init 0 = .ok (.aload_n 0, 1) := by decide +kernel
theorem dX3_init_1 : decode cX3_init 1 = .ok (.invokespecial 3, 3) := by decide +kernel
theorem dX3_init_4 : decode cX3_init 4 = .ok (.aload_n 0, 1) := by decide +kernel
theorem dX3_init_5 : decode cX3_init 5 = .ok (.bipush 8, 2) := by decide +kernel
theorem dX3_init_7 : decode cX3_init 7 = .ok (.newarray .int, 2) := by decide +kernel
theorem dX3_init_9 : decode cX3_init 9 = .ok (.putfield 11, 3) := by decide +kernel
theorem dX3_init_12 : decode cX3_init 12 = .ok (.aload_n 0, 1) := by decide +kernel
theorem dX3_init_13 : decode cX3_init 13 = .ok (.bipush 24, 2) := by decide +kernel
theorem dX3_init_15 : decode cX3_init 15 = .ok (.newarray .int, 2) := by decide +kernel
theorem dX3_init_17 : decode cX3_init 17 = .ok (.putfield 15, 3) := by decide +kernel
theorem dX3_init_20 : decode cX3_init 20 = .ok (.aload_n 0, 1) := by decide +kernel
theorem dX3_init_21 : decode cX3_init 21 = .ok (.iconst 5, 1) := by decide +kernel
theorem dX3_init_22 : decode cX3_init 22 = .ok (.putfield 18, 3) := by decide +kernel
theorem dX3_init_25 : decode cX3_init 25 = .ok (.return_, 1) := by decide +kernel
theorem dX3_clear_0 : decode cX3_clear 0 = .ok (.aload_n 0, 1) := by decide +kernel
theorem dX3_clear_1 : decode cX3_clear 1 = .ok (.iconst 0, 1) := by decide +kernel
theorem dX3_clear_2 : decode cX3_clear 2 = .ok (.putfield 22, 3) := by decide +kernel
theorem dX3_clear_5 : decode cX3_clear 5 = .ok (.aload_n 0, 1) := by decide +kernel
theorem dX3_clear_6 : decode cX3_clear 6 = .ok (.iconst 0, 1) := by decide +kernel
theorem dX3_clear_7 : decode cX3_clear 7 = .ok (.putfield 25, 3) := by decide +kernel
theorem dX3_clear_10 : decode cX3_clear 10 = .ok (.aload_n 0, 1) := by decide +kernel
theorem dX3_clear_11 : decode cX3_clear 11 = .ok (.iconst 5, 1) := by decide +kernel
theorem dX3_clear_12 : decode cX3_clear 12 = .ok (.putfield 18, 3) := by decide +kernel
theorem dX3_clear_15 : decode cX3_clear 15 = .ok (.return_, 1) := by decide +kernel
theorem dX3_addBath_0 : decode cX3_addBath 0 = .ok (.aload_n 0, 1) := by decide +kernel
theorem dX3_addBath_1 : decode cX3_addBath 1 = .ok (.getfield 22, 3) := by decide +kernel
theorem dX3_addBath_4 : decode cX3_addBath 4 = .ok (.iconst 2, 1) := by decide +kernel
theorem dX3_addBath_5 : decode cX3_addBath 5 = .ok (.if_icmp .ge 29, 3) := by decide +kernel
theorem dX3_addBath_8 : decode cX3_addBath 8 = .ok (.aload_n 0, 1) := by decide +kernel
theorem dX3_addBath_9 : decode cX3_addBath 9 = .ok (.getfield 11, 3) := by decide +kernel
theorem dX3_addBath_12 : decode cX3_addBath 12 = .ok (.aload_n 0, 1) := by decide +kernel
theorem dX3_addBath_13 : decode cX3_addBath 13 = .ok (.getfield 22, 3) := by decide +kernel
theorem dX3_addBath_16 : decode cX3_addBath 16 = .ok (.iload_n 1, 1) := by decide +kernel
theorem dX3_addBath_17 : decode cX3_addBath 17 = .ok (.iload_n 2, 1) := by decide +kernel
theorem dX3_addBath_18 : decode cX3_addBath 18 = .ok (.iload_n 3, 1) := by decide +kernel
theorem dX3_addBath_19 : decode cX3_addBath 19 = .ok (.iload 4, 2) := by decide +kernel
theorem dX3_addBath_21 : decode cX3_addBath 21 = .ok (.invokestatic 28, 3) := by decide +kernel
theorem dX3_addBath_24 : decode cX3_addBath 24 = .ok (.aload_n 0, 1) := by decide +kernel
theorem dX3_addBath_25 : decode cX3_addBath 25 = .ok (.dup, 1) := by decide +kernel
theorem dX3_addBath_26 : decode cX3_addBath 26 = .ok (.getfield 22, 3) := by decide +kernel
theorem dX3_addBath_29 : decode cX3_addBath 29 = .ok (.iconst 1, 1) := by decide +kernel
theorem dX3_addBath_30 : decode cX3_addBath 30 = .ok (.iadd, 1) := by decide +kernel
theorem dX3_addBath_31 : decode cX3_addBath 31 = .ok (.putfield 22, 3) := by decide +kernel
theorem dX3_addBath_34 : decode cX3_addBath 34 = .ok (.return_, 1) := by decide +kernel
theorem dX3_addBather_0 : decode cX3_addBather 0 = .ok (.aload_n 0, 1) := by decide +kernel
theorem dX3_addBather_1 : decode cX3_addBather 1 = .ok (.getfield 25, 3) := by decide +kernel
theorem dX3_addBather_4 : decode cX3_addBather 4 = .ok (.bipush 6, 2) := by decide +kernel
theorem dX3_addBather_6 : decode cX3_addBather 6 = .ok (.if_icmp .ge 29, 3) := by decide +kernel
theorem dX3_addBather_9 : decode cX3_addBather 9 = .ok (.aload_n 0, 1) := by decide +kernel
theorem dX3_addBather_10 : decode cX3_addBather 10 = .ok (.getfield 15, 3) := by decide +kernel
theorem dX3_addBather_13 : decode cX3_addBather 13 = .ok (.aload_n 0, 1) := by decide +kernel
theorem dX3_addBather_14 : decode cX3_addBather 14 = .ok (.getfield 25, 3) := by decide +kernel
theorem dX3_addBather_17 : decode cX3_addBather 17 = .ok (.iload_n 1, 1) := by decide +kernel
theorem dX3_addBather_18 : decode cX3_addBather 18 = .ok (.iload_n 2, 1) := by decide +kernel
theorem dX3_addBather_19 : decode cX3_addBather 19 = .ok (.iload_n 3, 1) := by decide +kernel
theorem dX3_addBather_20 : decode cX3_addBather 20 = .ok (.iload 4, 2) := by decide +kernel
theorem dX3_addBather_22 : decode cX3_addBather 22 = .ok (.invokestatic 28, 3) := by decide +kernel
theorem dX3_addBather_25 : decode cX3_addBather 25 = .ok (.aload_n 0, 1) := by decide +kernel
theorem dX3_addBather_26 : decode cX3_addBather 26 = .ok (.dup, 1) := by decide +kernel
theorem dX3_addBather_27 : decode cX3_addBather 27 = .ok (.getfield 25, 3) := by decide +kernel
theorem dX3_addBather_30 : decode cX3_addBather 30 = .ok (.iconst 1, 1) := by decide +kernel
theorem dX3_addBather_31 : decode cX3_addBather 31 = .ok (.iadd, 1) := by decide +kernel
theorem dX3_addBather_32 : decode cX3_addBather 32 = .ok (.putfield 25, 3) := by decide +kernel
theorem dX3_addBather_35 : decode cX3_addBather 35 = .ok (.return_, 1) := by decide +kernel
theorem dX3_fill_0 : decode cX3_fill 0 = .ok (.iload_n 1, 1) := by decide +kernel
theorem dX3_fill_1 : decode cX3_fill 1 = .ok (.iconst 4, 1) := by decide +kernel
theorem dX3_fill_2 : decode cX3_fill 2 = .ok (.imul, 1) := by decide +kernel
theorem dX3_fill_3 : decode cX3_fill 3 = .ok (.istore 6, 2) := by decide +kernel
theorem dX3_fill_5 : decode cX3_fill 5 = .ok (.iload 6, 2) := by decide +kernel
theorem dX3_fill_7 : decode cX3_fill 7 = .ok (.ifCond .lt 40, 3) := by decide +kernel
theorem dX3_fill_10 : decode cX3_fill 10 = .ok (.iload 6, 2) := by decide +kernel
theorem dX3_fill_12 : decode cX3_fill 12 = .ok (.iconst 3, 1) := by decide +kernel
theorem dX3_fill_13 : decode cX3_fill 13 = .ok (.iadd, 1) := by decide +kernel
theorem dX3_fill_14 : decode cX3_fill 14 = .ok (.aload_n 0, 1) := by decide +kernel
theorem dX3_fill_15 : decode cX3_fill 15 = .ok (.arraylength, 1) := by decide +kernel
theorem dX3_fill_16 : decode cX3_fill 16 = .ok (.if_icmp .ge 31, 3) := by decide +kernel
theorem dX3_fill_19 : decode cX3_fill 19 = .ok (.aload_n 0, 1) := by decide +kernel
theorem dX3_fill_20 : decode cX3_fill 20 = .ok (.iload 6, 2) := by decide +kernel
theorem dX3_fill_22 : decode cX3_fill 22 = .ok (.iload_n 2, 1) := by decide +kernel
theorem dX3_fill_23 : decode cX3_fill 23 = .ok (.iastore, 1) := by decide +kernel
theorem dX3_fill_24 : decode cX3_fill 24 = .ok (.aload_n 0, 1) := by decide +kernel
theorem dX3_fill_25 : decode cX3_fill 25 = .ok (.iload 6, 2) := by decide +kernel
theorem dX3_fill_27 : decode cX3_fill 27 = .ok (.iconst 1, 1) := by decide +kernel
theorem dX3_fill_28 : decode cX3_fill 28 = .ok (.iadd, 1) := by decide +kernel
theorem dX3_fill_29 : decode cX3_fill 29 = .ok (.iload_n 3, 1) := by decide +kernel
theorem dX3_fill_30 : decode cX3_fill 30 = .ok (.iastore, 1) := by decide +kernel
theorem dX3_fill_31 : decode cX3_fill 31 = .ok (.aload_n 0, 1) := by decide +kernel
theorem dX3_fill_32 : decode cX3_fill 32 = .ok (.iload 6, 2) := by decide +kernel
theorem dX3_fill_34 : decode cX3_fill 34 = .ok (.iconst 2, 1) := by decide +kernel
theorem dX3_fill_35 : decode cX3_fill 35 = .ok (.iadd, 1) := by decide +kernel
theorem dX3_fill_36 : decode cX3_fill 36 = .ok (.iload 4, 2) := by decide +kernel
theorem dX3_fill_38 : decode cX3_fill 38 = .ok (.iastore, 1) := by decide +kernel
theorem dX3_fill_39 : decode cX3_fill 39 = .ok (.aload_n 0, 1) := by decide +kernel
theorem dX3_fill_40 : decode cX3_fill 40 = .ok (.iload 6, 2) := by decide +kernel
theorem dX3_fill_42 : decode cX3_fill 42 = .ok (.iconst 3, 1) := by decide +kernel
theorem dX3_fill_43 : decode cX3_fill 43 = .ok (.iadd, 1) := by decide +kernel
theorem dX3_fill_44 : decode cX3_fill 44 = .ok (.iload 5, 2) := by decide +kernel
theorem dX3_fill_46 : decode cX3_fill 46 = .ok (.iastore, 1) := by decide +kernel
theorem dX3_fill_47 : decode cX3_fill 47 = .ok (.return_, 1) := by decide +kernel
theorem dX3_hasBath_0 : decode cX3_hasBath 0 = .ok (.iload_n 1, 1) := by decide +kernel
theorem dX3_hasBath_1 : decode cX3_hasBath 1 = .ok (.ifCond .lt 15, 3) := by decide +kernel
theorem dX3_hasBath_4 : decode cX3_hasBath 4 = .ok (.iload_n 1, 1) := by decide +kernel
theorem dX3_hasBath_5 : decode cX3_hasBath 5 = .ok (.aload_n 0, 1) := by decide +kernel
theorem dX3_hasBath_6 : decode cX3_hasBath 6 = .ok (.getfield 22, 3) := by decide +kernel
theorem dX3_hasBath_9 : decode cX3_hasBath 9 = .ok (.if_icmp .ge 7, 3) := by decide +kernel
theorem dX3_hasBath_12 : decode cX3_hasBath 12 = .ok (.iconst 1, 1) := by decide +kernel
theorem dX3_hasBath_13 : decode cX3_hasBath 13 = .ok (.goto 4, 3) := by decide +kernel
theorem dX3_hasBath_16 : decode cX3_hasBath 16 = .ok (.iconst 0, 1) := by decide +kernel
theorem dX3_hasBath_17 : decode cX3_hasBath 17 = .ok (.ireturn, 1) := by decide +kernel
theorem dX3_hasBather_0 : decode cX3_hasBather 0 = .ok (.iload_n 1, 1) := by decide +kernel
theorem dX3_hasBather_1 : decode cX3_hasBather 1 = .ok (.ifCond .lt 15, 3) := by decide +kernel
theorem dX3_hasBather_4 : decode cX3_hasBather 4 = .ok (.iload_n 1, 1) := by decide +kernel
theorem dX3_hasBather_5 : decode cX3_hasBather 5 = .ok (.aload_n 0, 1) := by decide +kernel
theorem dX3_hasBather_6 : decode cX3_hasBather 6 = .ok (.getfield 25, 3) := by decide +kernel
theorem dX3_hasBather_9 : decode cX3_hasBather 9 = .ok (.if_icmp .ge 7, 3) := by decide +kernel
theorem dX3_hasBather_12 : decode cX3_hasBather 12 = .ok (.iconst 1, 1) := by decide +kernel
theorem dX3_hasBather_13 : decode cX3_hasBather 13 = .ok (.goto 4, 3) := by decide +kernel
theorem dX3_hasBather_16 : decode cX3_hasBather 16 = .ok (.iconst 0, 1) := by decide +kernel
theorem dX3_hasBather_17 : decode cX3_hasBather 17 = .ok (.ireturn, 1) := by decide +kernel
theorem dX3_hasSet_0 : decode cX3_hasSet 0 = .ok (.iload_n 1, 1) := by decide +kernel
theorem dX3_hasSet_1 : decode cX3_hasSet 1 = .ok (.ifCond .lt 15, 3) := by decide +kernel
theorem dX3_hasSet_4 : decode cX3_hasSet 4 = .ok (.iload_n 1, 1) := by decide +kernel
theorem dX3_hasSet_5 : decode cX3_hasSet 5 = .ok (.aload_n 0, 1) := by decide +kernel
theorem dX3_hasSet_6 : decode cX3_hasSet 6 = .ok (.invokevirtual 32, 3) := by decide +kernel
theorem dX3_hasSet_9 : decode cX3_hasSet 9 = .ok (.if_icmp .ge 7, 3) := by decide +kernel
theorem dX3_hasSet_12 : decode cX3_hasSet 12 = .ok (.iconst 1, 1) := by decide +kernel
theorem dX3_hasSet_13 : decode cX3_hasSet 13 = .ok (.goto 4, 3) := by decide +kernel
theorem dX3_hasSet_16 : decode cX3_hasSet 16 = .ok (.iconst 0, 1) := by decide +kernel
theorem dX3_hasSet_17 : decode cX3_hasSet 17 = .ok (.ireturn, 1) := by decide +kernel
theorem dX3_hasCase_0 : decode cX3_hasCase 0 = .ok (.iload_n 1, 1) := by decide +kernel
theorem dX3_hasCase_1 : decode cX3_hasCase 1 = .ok (.ifCond .eq 24, 3) := by decide +kernel
theorem dX3_hasCase_4 : decode cX3_hasCase 4 = .ok (.aload_n 0, 1) := by decide +kernel
theorem dX3_hasCase_5 : decode cX3_hasCase 5 = .ok (.iload_n 1, 1) := by decide +kernel
theorem dX3_hasCase_6 : decode cX3_hasCase 6 = .ok (.iconst 1, 1) := by decide +kernel
theorem dX3_hasCase_7 : decode cX3_hasCase 7 = .ok (.isub, 1) := by decide +kernel
theorem dX3_hasCase_8 : decode cX3_hasCase 8 = .ok (.invokevirtual 36, 3) := by decide +kernel
theorem dX3_hasCase_11 : decode cX3_hasCase 11 = .ok (.ifCond .ne 14, 3) := by decide +kernel
theorem dX3_hasCase_14 : decode cX3_hasCase 14 = .ok (.aload_n 0, 1) := by decide +kernel
theorem dX3_hasCase_15 : decode cX3_hasCase 15 = .ok (.iload_n 1, 1) := by decide +kernel
theorem dX3_hasCase_16 : decode cX3_hasCase 16 = .ok (.bipush 7, 2) := by decide +kernel
theorem dX3_hasCase_18 : decode cX3_hasCase 18 = .ok (.isub, 1) := by decide +kernel
theorem dX3_hasCase_19 : decode cX3_hasCase 19 = .ok (.invokevirtual 36, 3) := by decide +kernel
theorem dX3_hasCase_22 : decode cX3_hasCase 22 = .ok (.ifCond .eq 7, 3) := by decide +kernel
theorem dX3_hasCase_25 : decode cX3_hasCase 25 = .ok (.iconst 1, 1) := by decide +kernel
theorem dX3_hasCase_26 : decode cX3_hasCase 26 = .ok (.goto 4, 3) := by decide +kernel
theorem dX3_hasCase_29 : decode cX3_hasCase 29 = .ok (.iconst 0, 1) := by decide +kernel
theorem dX3_hasCase_30 : decode cX3_hasCase 30 = .ok (.ireturn, 1) := by decide +kernel
theorem dX3_sets_0 : decode cX3_sets 0 = .ok (.iconst 1, 1) := by decide +kernel
theorem dX3_sets_1 : decode cX3_sets 1 = .ok (.aload_n 0, 1) := by decide +kernel
theorem dX3_sets_2 : decode cX3_sets 2 = .ok (.getfield 25, 3) := by decide +kernel
theorem dX3_sets_5 : decode cX3_sets 5 = .ok (.ishl, 1) := by decide +kernel
theorem dX3_sets_6 : decode cX3_sets 6 = .ok (.ireturn, 1) := by decide +kernel
theorem dX3_ofBath_0 : decode cX3_ofBath 0 = .ok (.iload_n 1, 1) := by decide +kernel
theorem dX3_ofBath_1 : decode cX3_ofBath 1 = .ok (.iconst 4, 1) := by decide +kernel
theorem dX3_ofBath_2 : decode cX3_ofBath 2 = .ok (.imul, 1) := by decide +kernel
theorem dX3_ofBath_3 : decode cX3_ofBath 3 = .ok (.iload_n 2, 1) := by decide +kernel
theorem dX3_ofBath_4 : decode cX3_ofBath 4 = .ok (.iadd, 1) := by decide +kernel
theorem dX3_ofBath_5 : decode cX3_ofBath 5 = .ok (.istore_n 3, 1) := by decide +kernel
theorem dX3_ofBath_6 : decode cX3_ofBath 6 = .ok (.iload_n 3, 1) := by decide +kernel
theorem dX3_ofBath_7 : decode cX3_ofBath 7 = .ok (.ifCond .lt 21, 3) := by decide +kernel
theorem dX3_ofBath_10 : decode cX3_ofBath 10 = .ok (.iload_n 3, 1) := by decide +kernel
theorem dX3_ofBath_11 : decode cX3_ofBath 11 = .ok (.aload_n 0, 1) := by decide +kernel
theorem dX3_ofBath_12 : decode cX3_ofBath 12 = .ok (.getfield 11, 3) := by decide +kernel
theorem dX3_ofBath_15 : decode cX3_ofBath 15 = .ok (.arraylength, 1) := by decide +kernel
theorem dX3_ofBath_16 : decode cX3_ofBath 16 = .ok (.if_icmp .ge 12, 3) := by decide +kernel
theorem dX3_ofBath_19 : decode cX3_ofBath 19 = .ok (.aload_n 0, 1) := by decide +kernel
theorem dX3_ofBath_20 : decode cX3_ofBath 20 = .ok (.getfield 11, 3) := by decide +kernel
theorem dX3_ofBath_23 : decode cX3_ofBath 23 = .ok (.iload_n 3, 1) := by decide +kernel
theorem dX3_ofBath_24 : decode cX3_ofBath 24 = .ok (.iaload, 1) := by decide +kernel
theorem dX3_ofBath_25 : decode cX3_ofBath 25 = .ok (.goto 4, 3) := by decide +kernel
theorem dX3_ofBath_28 : decode cX3_ofBath 28 = .ok (.iconst 0, 1) := by decide +kernel
theorem dX3_ofBath_29 : decode cX3_ofBath 29 = .ok (.ireturn, 1) := by decide +kernel
theorem dX3_ofBather_0 : decode cX3_ofBather 0 = .ok (.iload_n 1, 1) := by decide +kernel
theorem dX3_ofBather_1 : decode cX3_ofBather 1 = .ok (.iconst 4, 1) := by decide +kernel
theorem dX3_ofBather_2 : decode cX3_ofBather 2 = .ok (.imul, 1) := by decide +kernel
theorem dX3_ofBather_3 : decode cX3_ofBather 3 = .ok (.iload_n 2, 1) := by decide +kernel
theorem dX3_ofBather_4 : decode cX3_ofBather 4 = .ok (.iadd, 1) := by decide +kernel
theorem dX3_ofBather_5 : decode cX3_ofBather 5 = .ok (.istore_n 3, 1) := by decide +kernel
theorem dX3_ofBather_6 : decode cX3_ofBather 6 = .ok (.iload_n 3, 1) := by decide +kernel
theorem dX3_ofBather_7 : decode cX3_ofBather 7 = .ok (.ifCond .lt 21, 3) := by decide +kernel
theorem dX3_ofBather_10 : decode cX3_ofBather 10 = .ok (.iload_n 3, 1) := by decide +kernel
theorem dX3_ofBather_11 : decode cX3_ofBather 11 = .ok (.aload_n 0, 1) := by decide +kernel
theorem dX3_ofBather_12 : decode cX3_ofBather 12 = .ok (.getfield 15, 3) := by decide +kernel
theorem dX3_ofBather_15 : decode cX3_ofBather 15 = .ok (.arraylength, 1) := by decide +kernel
theorem dX3_ofBather_16 : decode cX3_ofBather 16 = .ok (.if_icmp .ge 12, 3) := by decide +kernel
theorem dX3_ofBather_19 : decode cX3_ofBather 19 = .ok (.aload_n 0, 1) := by decide +kernel
theorem dX3_ofBather_20 : decode cX3_ofBather 20 = .ok (.getfield 15, 3) := by decide +kernel
theorem dX3_ofBather_23 : decode cX3_ofBather 23 = .ok (.iload_n 3, 1) := by decide +kernel
theorem dX3_ofBather_24 : decode cX3_ofBather 24 = .ok (.iaload, 1) := by decide +kernel
theorem dX3_ofBather_25 : decode cX3_ofBather 25 = .ok (.goto 4, 3) := by decide +kernel
theorem dX3_ofBather_28 : decode cX3_ofBather 28 = .ok (.iconst 0, 1) := by decide +kernel
theorem dX3_ofBather_29 : decode cX3_ofBather 29 = .ok (.ireturn, 1) := by decide +kernel
theorem dX3_measure_0 : decode cX3_measure 0 = .ok (.iconst 1, 1) := by decide +kernel
theorem dX3_measure_1 : decode cX3_measure 1 = .ok (.aload_n 0, 1) := by decide +kernel
theorem dX3_measure_2 : decode cX3_measure 2 = .ok (.iload_n 1, 1) := by decide +kernel
theorem dX3_measure_3 : decode cX3_measure 3 = .ok (.iconst 0, 1) := by decide +kernel
theorem dX3_measure_4 : decode cX3_measure 4 = .ok (.invokevirtual 40, 3) := by decide +kernel
theorem dX3_measure_7 : decode cX3_measure 7 = .ok (.aload_n 0, 1) := by decide +kernel
theorem dX3_measure_8 : decode cX3_measure 8 = .ok (.iload_n 1, 1) := by decide +kernel
theorem dX3_measure_9 : decode cX3_measure 9 = .ok (.iconst 1, 1) := by decide +kernel
theorem dX3_measure_10 : decode cX3_measure 10 = .ok (.invokevirtual 40, 3) := by decide +kernel
theorem dX3_measure_13 : decode cX3_measure 13 = .ok (.imul, 1) := by decide +kernel
theorem dX3_measure_14 : decode cX3_measure 14 = .ok (.invokestatic 44, 3) := by decide +kernel
theorem dX3_measure_17 : decode cX3_measure 17 = .ok (.ireturn, 1) := by decide +kernel
theorem dX3_waterAt_0 : decode cX3_waterAt 0 = .ok (.iconst 0, 1) := by decide +kernel
theorem dX3_waterAt_1 : decode cX3_waterAt 1 = .ok (.aload_n 0, 1) := by decide +kernel
theorem dX3_waterAt_2 : decode cX3_waterAt 2 = .ok (.iload_n 1, 1) := by decide +kernel
theorem dX3_waterAt_3 : decode cX3_waterAt 3 = .ok (.iconst 2, 1) := by decide +kernel
theorem dX3_waterAt_4 : decode cX3_waterAt 4 = .ok (.invokevirtual 40, 3) := by decide +kernel
theorem dX3_waterAt_7 : decode cX3_waterAt 7 = .ok (.aload_n 0, 1) := by decide +kernel
theorem dX3_waterAt_8 : decode cX3_waterAt 8 = .ok (.iload_n 1, 1) := by decide +kernel
theorem dX3_waterAt_9 : decode cX3_waterAt 9 = .ok (.iconst 3, 1) := by decide +kernel
theorem dX3_waterAt_10 : decode cX3_waterAt 10 = .ok (.invokevirtual 40, 3) := by decide +kernel
theorem dX3_waterAt_13 : decode cX3_waterAt 13 = .ok (.iload_n 2, 1) := by decide +kernel
theorem dX3_waterAt_14 : decode cX3_waterAt 14 = .ok (.imul, 1) := by decide +kernel
theorem dX3_waterAt_15 : decode cX3_waterAt 15 = .ok (.isub, 1) := by decide +kernel
theorem dX3_waterAt_16 : decode cX3_waterAt 16 = .ok (.invokestatic 44, 3) := by decide +kernel
theorem dX3_waterAt_19 : decode cX3_waterAt 19 = .ok (.ireturn, 1) := by decide +kernel
theorem dX3_heightOf_0 : decode cX3_heightOf 0 = .ok (.aload_n 0, 1) := by decide +kernel
theorem dX3_heightOf_1 : decode cX3_heightOf 1 = .ok (.iload_n 1, 1) := by decide +kernel
theorem dX3_heightOf_2 : decode cX3_heightOf 2 = .ok (.iload_n 2, 1) := by decide +kernel
theorem dX3_heightOf_3 : decode cX3_heightOf 3 = .ok (.invokevirtual 49, 3) := by decide +kernel
theorem dX3_heightOf_6 : decode cX3_heightOf 6 = .ok (.iload_n 3, 1) := by decide +kernel
theorem dX3_heightOf_7 : decode cX3_heightOf 7 = .ok (.iadd, 1) := by decide +kernel
theorem dX3_heightOf_8 : decode cX3_heightOf 8 = .ok (.aload_n 0, 1) := by decide +kernel
theorem dX3_heightOf_9 : decode cX3_heightOf 9 = .ok (.iload_n 1, 1) := by decide +kernel
theorem dX3_heightOf_10 : decode cX3_heightOf 10 = .ok (.invokevirtual 52, 3) := by decide +kernel
theorem dX3_heightOf_13 : decode cX3_heightOf 13 = .ok (.idiv, 1) := by decide +kernel
theorem dX3_heightOf_14 : decode cX3_heightOf 14 = .ok (.ireturn, 1) := by decide +kernel
theorem dX3_leastOf_0 : decode cX3_leastOf 0 = .ok (.iload_n 3, 1) := by decide +kernel
theorem dX3_leastOf_1 : decode cX3_leastOf 1 = .ok (.aload_n 0, 1) := by decide +kernel
theorem dX3_leastOf_2 : decode cX3_leastOf 2 = .ok (.iload_n 1, 1) := by decide +kernel
theorem dX3_leastOf_3 : decode cX3_leastOf 3 = .ok (.invokevirtual 52, 3) := by decide +kernel
theorem dX3_leastOf_6 : decode cX3_leastOf 6 = .ok (.imul, 1) := by decide +kernel
theorem dX3_leastOf_7 : decode cX3_leastOf 7 = .ok (.aload_n 0, 1) := by decide +kernel
theorem dX3_leastOf_8 : decode cX3_leastOf 8 = .ok (.iload_n 1, 1) := by decide +kernel
theorem dX3_leastOf_9 : decode cX3_leastOf 9 = .ok (.iload_n 2, 1) := by decide +kernel
theorem dX3_leastOf_10 : decode cX3_leastOf 10 = .ok (.invokevirtual 49, 3) := by decide +kernel
theorem dX3_leastOf_13 : decode cX3_leastOf 13 = .ok (.isub, 1) := by decide +kernel
theorem dX3_leastOf_14 : decode cX3_leastOf 14 = .ok (.istore 4, 2) := by decide +kernel
theorem dX3_leastOf_16 : decode cX3_leastOf 16 = .ok (.iload 4, 2) := by decide +kernel
theorem dX3_leastOf_18 : decode cX3_leastOf 18 = .ok (.aload_n 0, 1) := by decide +kernel
theorem dX3_leastOf_19 : decode cX3_leastOf 19 = .ok (.iload_n 1, 1) := by decide +kernel
theorem dX3_leastOf_20 : decode cX3_leastOf 20 = .ok (.invokevirtual 52, 3) := by decide +kernel
theorem dX3_leastOf_23 : decode cX3_leastOf 23 = .ok (.iadd, 1) := by decide +kernel
theorem dX3_leastOf_24 : decode cX3_leastOf 24 = .ok (.ifCond .le 12, 3) := by decide +kernel
theorem dX3_leastOf_27 : decode cX3_leastOf 27 = .ok (.iconst 0, 1) := by decide +kernel
theorem dX3_leastOf_28 : decode cX3_leastOf 28 = .ok (.iload 4, 2) := by decide +kernel
theorem dX3_leastOf_30 : decode cX3_leastOf 30 = .ok (.invokestatic 44, 3) := by decide +kernel
theorem dX3_leastOf_33 : decode cX3_leastOf 33 = .ok (.goto 4, 3) := by decide +kernel
theorem dX3_leastOf_36 : decode cX3_leastOf 36 = .ok (.iconst (-1), 1) := by decide +kernel
theorem dX3_leastOf_37 : decode cX3_leastOf 37 = .ok (.ireturn, 1) := by decide +kernel
theorem dX3_greatestOf_0 : decode cX3_greatestOf 0 = .ok (.iload_n 3, 1) := by decide +kernel
theorem dX3_greatestOf_1 : decode cX3_greatestOf 1 = .ok (.aload_n 0, 1) := by decide +kernel
theorem dX3_greatestOf_2 : decode cX3_greatestOf 2 = .ok (.iload_n 1, 1) := by decide +kernel
theorem dX3_greatestOf_3 : decode cX3_greatestOf 3 = .ok (.invokevirtual 52, 3) := by decide +kernel
theorem dX3_greatestOf_6 : decode cX3_greatestOf 6 = .ok (.imul, 1) := by decide +kernel
theorem dX3_greatestOf_7 : decode cX3_greatestOf 7 = .ok (.aload_n 0, 1) := by decide +kernel
theorem dX3_greatestOf_8 : decode cX3_greatestOf 8 = .ok (.iload_n 1, 1) := by decide +kernel
theorem dX3_greatestOf_9 : decode cX3_greatestOf 9 = .ok (.iload_n 2, 1) := by decide +kernel
theorem dX3_greatestOf_10 : decode cX3_greatestOf 10 = .ok (.invokevirtual 49, 3) := by decide +kernel
theorem dX3_greatestOf_13 : decode cX3_greatestOf 13 = .ok (.isub, 1) := by decide +kernel
theorem dX3_greatestOf_14 : decode cX3_greatestOf 14 = .ok (.istore 4, 2) := by decide +kernel
theorem dX3_greatestOf_16 : decode cX3_greatestOf 16 = .ok (.iconst (-1), 1) := by decide +kernel
theorem dX3_greatestOf_17 : decode cX3_greatestOf 17 = .ok (.iload 4, 2) := by decide +kernel
theorem dX3_greatestOf_19 : decode cX3_greatestOf 19 = .ok (.aload_n 0, 1) := by decide +kernel
theorem dX3_greatestOf_20 : decode cX3_greatestOf 20 = .ok (.iload_n 1, 1) := by decide +kernel
theorem dX3_greatestOf_21 : decode cX3_greatestOf 21 = .ok (.invokevirtual 52, 3) := by decide +kernel
theorem dX3_greatestOf_24 : decode cX3_greatestOf 24 = .ok (.iadd, 1) := by decide +kernel
theorem dX3_greatestOf_25 : decode cX3_greatestOf 25 = .ok (.iconst 1, 1) := by decide +kernel
theorem dX3_greatestOf_26 : decode cX3_greatestOf 26 = .ok (.isub, 1) := by decide +kernel
theorem dX3_greatestOf_27 : decode cX3_greatestOf 27 = .ok (.invokestatic 44, 3) := by decide +kernel
theorem dX3_greatestOf_30 : decode cX3_greatestOf 30 = .ok (.ireturn, 1) := by decide +kernel
theorem dX3_finest_0 : decode cX3_finest 0 = .ok (.aload_n 0, 1) := by decide +kernel
theorem dX3_finest_1 : decode cX3_finest 1 = .ok (.getfield 22, 3) := by decide +kernel
theorem dX3_finest_4 : decode cX3_finest 4 = .ok (.iconst 2, 1) := by decide +kernel
theorem dX3_finest_5 : decode cX3_finest 5 = .ok (.if_icmp .ne 20, 3) := by decide +kernel
theorem dX3_finest_8 : decode cX3_finest 8 = .ok (.aload_n 0, 1) := by decide +kernel
theorem dX3_finest_9 : decode cX3_finest 9 = .ok (.iconst 1, 1) := by decide +kernel
theorem dX3_finest_10 : decode cX3_finest 10 = .ok (.invokevirtual 52, 3) := by decide +kernel
theorem dX3_finest_13 : decode cX3_finest 13 = .ok (.aload_n 0, 1) := by decide +kernel
theorem dX3_finest_14 : decode cX3_finest 14 = .ok (.iconst 0, 1) := by decide +kernel
theorem dX3_finest_15 : decode cX3_finest 15 = .ok (.invokevirtual 52, 3) := by decide +kernel
theorem dX3_finest_18 : decode cX3_finest 18 = .ok (.if_icmp .ge 7, 3) := by decide +kernel
theorem dX3_finest_21 : decode cX3_finest 21 = .ok (.iconst 1, 1) := by decide +kernel
theorem dX3_finest_22 : decode cX3_finest 22 = .ok (.goto 4, 3) := by decide +kernel
theorem dX3_finest_25 : decode cX3_finest 25 = .ok (.iconst 0, 1) := by decide +kernel
theorem dX3_finest_26 : decode cX3_finest 26 = .ok (.ireturn, 1) := by decide +kernel
theorem dX3_inTruth_0 : decode cX3_inTruth 0 = .ok (.aload_n 0, 1) := by decide +kernel
theorem dX3_inTruth_1 : decode cX3_inTruth 1 = .ok (.iload_n 1, 1) := by decide +kernel
theorem dX3_inTruth_2 : decode cX3_inTruth 2 = .ok (.iconst 0, 1) := by decide +kernel
theorem dX3_inTruth_3 : decode cX3_inTruth 3 = .ok (.invokevirtual 56, 3) := by decide +kernel
theorem dX3_inTruth_6 : decode cX3_inTruth 6 = .ok (.ireturn, 1) := by decide +kernel
theorem dX3_inCase_0 : decode cX3_inCase 0 = .ok (.iconst 0, 1) := by decide +kernel
theorem dX3_inCase_1 : decode cX3_inCase 1 = .ok (.istore_n 3, 1) := by decide +kernel
theorem dX3_inCase_2 : decode cX3_inCase 2 = .ok (.iconst 0, 1) := by decide +kernel
theorem dX3_inCase_3 : decode cX3_inCase 3 = .ok (.istore 4, 2) := by decide +kernel
theorem dX3_inCase_5 : decode cX3_inCase 5 = .ok (.iload 4, 2) := by decide +kernel
theorem dX3_inCase_7 : decode cX3_inCase 7 = .ok (.aload_n 0, 1) := by decide +kernel
theorem dX3_inCase_8 : decode cX3_inCase 8 = .ok (.getfield 25, 3) := by decide +kernel
theorem dX3_inCase_11 : decode cX3_inCase 11 = .ok (.if_icmp .ge 54, 3) := by decide +kernel
theorem dX3_inCase_14 : decode cX3_inCase 14 = .ok (.iload_n 1, 1) := by decide +kernel
theorem dX3_inCase_15 : decode cX3_inCase 15 = .ok (.iload 4, 2) := by decide +kernel
theorem dX3_inCase_17 : decode cX3_inCase 17 = .ok (.invokestatic 59, 3) := by decide +kernel
theorem dX3_inCase_20 : decode cX3_inCase 20 = .ok (.ifCond .eq 39, 3) := by decide +kernel
theorem dX3_inCase_23 : decode cX3_inCase 23 = .ok (.iload_n 2, 1) := by decide +kernel
theorem dX3_inCase_24 : decode cX3_inCase 24 = .ok (.bipush 7, 2) := by decide +kernel
theorem dX3_inCase_26 : decode cX3_inCase 26 = .ok (.iload 4, 2) := by decide +kernel
theorem dX3_inCase_28 : decode cX3_inCase 28 = .ok (.iadd, 1) := by decide +kernel
theorem dX3_inCase_29 : decode cX3_inCase 29 = .ok (.if_icmp .eq 30, 3) := by decide +kernel
theorem dX3_inCase_32 : decode cX3_inCase 32 = .ok (.iload_n 3, 1) := by decide +kernel
theorem dX3_inCase_33 : decode cX3_inCase 33 = .ok (.aload_n 0, 1) := by decide +kernel
theorem dX3_inCase_34 : decode cX3_inCase 34 = .ok (.iload 4, 2) := by decide +kernel
theorem dX3_inCase_36 : decode cX3_inCase 36 = .ok (.iconst 2, 1) := by decide +kernel
theorem dX3_inCase_37 : decode cX3_inCase 37 = .ok (.invokevirtual 63, 3) := by decide +kernel
theorem dX3_inCase_40 : decode cX3_inCase 40 = .ok (.iload_n 2, 1) := by decide +kernel
theorem dX3_inCase_41 : decode cX3_inCase 41 = .ok (.iconst 1, 1) := by decide +kernel
theorem dX3_inCase_42 : decode cX3_inCase 42 = .ok (.iload 4, 2) := by decide +kernel
theorem dX3_inCase_44 : decode cX3_inCase 44 = .ok (.iadd, 1) := by decide +kernel
theorem dX3_inCase_45 : decode cX3_inCase 45 = .ok (.if_icmp .ne 10, 3) := by decide +kernel
theorem dX3_inCase_48 : decode cX3_inCase 48 = .ok (.aload_n 0, 1) := by decide +kernel
theorem dX3_inCase_49 : decode cX3_inCase 49 = .ok (.getfield 18, 3) := by decide +kernel
theorem dX3_inCase_52 : decode cX3_inCase 52 = .ok (.goto 4, 3) := by decide +kernel
theorem dX3_inCase_55 : decode cX3_inCase 55 = .ok (.iconst 0, 1) := by decide +kernel
theorem dX3_inCase_56 : decode cX3_inCase 56 = .ok (.iadd, 1) := by decide +kernel
theorem dX3_inCase_57 : decode cX3_inCase 57 = .ok (.iadd, 1) := by decide +kernel
theorem dX3_inCase_58 : decode cX3_inCase 58 = .ok (.istore_n 3, 1) := by decide +kernel
theorem dX3_inCase_59 : decode cX3_inCase 59 = .ok (.iinc 4 1, 3) := by decide +kernel
theorem dX3_inCase_62 : decode cX3_inCase 62 = .ok (.goto (-57), 3) := by decide +kernel
theorem dX3_inCase_65 : decode cX3_inCase 65 = .ok (.iload_n 3, 1) := by decide +kernel
theorem dX3_inCase_66 : decode cX3_inCase 66 = .ok (.ireturn, 1) := by decide +kernel
theorem dX3_oddsOf_0 : decode cX3_oddsOf 0 = .ok (.ldc2_w 66, 3) := by decide +kernel
theorem dX3_oddsOf_3 : decode cX3_oddsOf 3 = .ok (.lstore_n 2, 1) := by decide +kernel
theorem dX3_oddsOf_4 : decode cX3_oddsOf 4 = .ok (.iconst 0, 1) := by decide +kernel
theorem dX3_oddsOf_5 : decode cX3_oddsOf 5 = .ok (.istore 4, 2) := by decide +kernel
theorem dX3_oddsOf_7 : decode cX3_oddsOf 7 = .ok (.iload 4, 2) := by decide +kernel
theorem dX3_oddsOf_9 : decode cX3_oddsOf 9 = .ok (.aload_n 0, 1) := by decide +kernel
theorem dX3_oddsOf_10 : decode cX3_oddsOf 10 = .ok (.getfield 25, 3) := by decide +kernel
theorem dX3_oddsOf_13 : decode cX3_oddsOf 13 = .ok (.if_icmp .ge 45, 3) := by decide +kernel
theorem dX3_oddsOf_16 : decode cX3_oddsOf 16 = .ok (.aload_n 0, 1) := by decide +kernel
theorem dX3_oddsOf_17 : decode cX3_oddsOf 17 = .ok (.iload 4, 2) := by decide +kernel
theorem dX3_oddsOf_19 : decode cX3_oddsOf 19 = .ok (.iconst 3, 1) := by decide +kernel
theorem dX3_oddsOf_20 : decode cX3_oddsOf 20 = .ok (.invokevirtual 63, 3) := by decide +kernel
theorem dX3_oddsOf_23 : decode cX3_oddsOf 23 = .ok (.istore 5, 2) := by decide +kernel
theorem dX3_oddsOf_25 : decode cX3_oddsOf 25 = .ok (.lload_n 2, 1) := by decide +kernel
theorem dX3_oddsOf_26 : decode cX3_oddsOf 26 = .ok (.iload_n 1, 1) := by decide +kernel
theorem dX3_oddsOf_27 : decode cX3_oddsOf 27 = .ok (.iload 4, 2) := by decide +kernel
theorem dX3_oddsOf_29 : decode cX3_oddsOf 29 = .ok (.invokestatic 59, 3) := by decide +kernel
theorem dX3_oddsOf_32 : decode cX3_oddsOf 32 = .ok (.ifCond .eq 8, 3) := by decide +kernel
theorem dX3_oddsOf_35 : decode cX3_oddsOf 35 = .ok (.iload 5, 2) := by decide +kernel
theorem dX3_oddsOf_37 : decode cX3_oddsOf 37 = .ok (.goto 8, 3) := by decide +kernel
theorem dX3_oddsOf_40 : decode cX3_oddsOf 40 = .ok (.bipush 100, 2) := by decide +kernel
theorem dX3_oddsOf_42 : decode cX3_oddsOf 42 = .ok (.iload 5, 2) := by decide +kernel
theorem dX3_oddsOf_44 : decode cX3_oddsOf 44 = .ok (.isub, 1) := by decide +kernel
theorem dX3_oddsOf_45 : decode cX3_oddsOf 45 = .ok (.i2l, 1) := by decide +kernel
theorem dX3_oddsOf_46 : decode cX3_oddsOf 46 = .ok (.lmul, 1) := by decide +kernel
theorem dX3_oddsOf_47 : decode cX3_oddsOf 47 = .ok (.ldc2_w 68, 3) := by decide +kernel
theorem dX3_oddsOf_50 : decode cX3_oddsOf 50 = .ok (.ldiv, 1) := by decide +kernel
theorem dX3_oddsOf_51 : decode cX3_oddsOf 51 = .ok (.lstore_n 2, 1) := by decide +kernel
theorem dX3_oddsOf_52 : decode cX3_oddsOf 52 = .ok (.iinc 4 1, 3) := by decide +kernel
theorem dX3_oddsOf_55 : decode cX3_oddsOf 55 = .ok (.goto (-48), 3) := by decide +kernel
theorem dX3_oddsOf_58 : decode cX3_oddsOf 58 = .ok (.lload_n 2, 1) := by decide +kernel
theorem dX3_oddsOf_59 : decode cX3_oddsOf 59 = .ok (.l2i, 1) := by decide +kernel
theorem dX3_oddsOf_60 : decode cX3_oddsOf 60 = .ok (.ireturn, 1) := by decide +kernel
theorem dX4_init_0 : decode cX4_init 0 = .ok (.aload_n 0, 1) := by decide +kernel
theorem dX4_init_1 : decode cX4_init 1 = .ok (.invokespecial 3, 3) := by decide +kernel
theorem dX4_init_4 : decode cX4_init 4 = .ok (.aload_n 0, 1) := by decide +kernel
theorem dX4_init_5 : decode cX4_init 5 = .ok (.new 9, 3) := by decide +kernel
theorem dX4_init_8 : decode cX4_init 8 = .ok (.dup, 1) := by decide +kernel
theorem dX4_init_9 : decode cX4_init 9 = .ok (.bipush 12, 2) := by decide +kernel
theorem dX4_init_11 : decode cX4_init 11 = .ok (.invokespecial 11, 3) := by decide +kernel
theorem dX4_init_14 : decode cX4_init 14 = .ok (.putfield 14, 3) := by decide +kernel
theorem dX4_init_17 : decode cX4_init 17 = .ok (.return_, 1) := by decide +kernel
theorem dX5_init_0 : decode cX5_init 0 = .ok (.aload_n 0, 1) := by decide +kernel
theorem dX5_init_1 : decode cX5_init 1 = .ok (.invokespecial 3, 3) := by decide +kernel
theorem dX5_init_4 : decode cX5_init 4 = .ok (.aload_n 0, 1) := by decide +kernel
theorem dX5_init_5 : decode cX5_init 5 = .ok (.sipush 400, 3) := by decide +kernel
theorem dX5_init_8 : decode cX5_init 8 = .ok (.newarray .byte, 2) := by decide +kernel
theorem dX5_init_10 : decode cX5_init 10 = .ok (.putfield 9, 3) := by decide +kernel
theorem dX5_init_13 : decode cX5_init 13 = .ok (.aload_n 0, 1) := by decide +kernel
theorem dX5_init_14 : decode cX5_init 14 = .ok (.iconst (-1), 1) := by decide +kernel
theorem dX5_init_15 : decode cX5_init 15 = .ok (.putfield 15, 3) := by decide +kernel
theorem dX5_init_18 : decode cX5_init 18 = .ok (.return_, 1) := by decide +kernel
theorem dX5_take_0 : decode cX5_take 0 = .ok (.iload_n 1, 1) := by decide +kernel
theorem dX5_take_1 : decode cX5_take 1 = .ok (.iconst 1, 1) := by decide +kernel
theorem dX5_take_2 : decode cX5_take 2 = .ok (.if_icmp .lt 23, 3) := by decide +kernel
theorem dX5_take_5 : decode cX5_take 5 = .ok (.iload_n 1, 1) := by decide +kernel
theorem dX5_take_6 : decode cX5_take 6 = .ok (.bipush 8, 2) := by decide +kernel
theorem dX5_take_8 : decode cX5_take 8 = .ok (.if_icmp .gt 17, 3) := by decide +kernel
theorem dX5_take_11 : decode cX5_take 11 = .ok (.aload_n 0, 1) := by decide +kernel
theorem dX5_take_12 : decode cX5_take 12 = .ok (.getfield 19, 3) := by decide +kernel
theorem dX5_take_15 : decode cX5_take 15 = .ok (.iload_n 1, 1) := by decide +kernel
theorem dX5_take_16 : decode cX5_take 16 = .ok (.iadd, 1) := by decide +kernel
theorem dX5_take_17 : decode cX5_take 17 = .ok (.aload_n 0, 1) := by decide +kernel
theorem dX5_take_18 : decode cX5_take 18 = .ok (.getfield 9, 3) := by decide +kernel
theorem dX5_take_21 : decode cX5_take 21 = .ok (.arraylength, 1) := by decide +kernel
theorem dX5_take_22 : decode cX5_take 22 = .ok (.if_icmp .le 5, 3) := by decide +kernel
theorem dX5_take_25 : decode cX5_take 25 = .ok (.iconst 0, 1) := by decide +kernel
theorem dX5_take_26 : decode cX5_take 26 = .ok (.ireturn, 1) := by decide +kernel
theorem dX5_take_27 : decode cX5_take 27 = .ok (.iload_n 1, 1) := by decide +kernel
theorem dX5_take_28 : decode cX5_take 28 = .ok (.iconst 1, 1) := by decide +kernel
theorem dX5_take_29 : decode cX5_take 29 = .ok (.isub, 1) := by decide +kernel
theorem dX5_take_30 : decode cX5_take 30 = .ok (.istore 4, 2) := by decide +kernel
theorem dX5_take_32 : decode cX5_take 32 = .ok (.iload 4, 2) := by decide +kernel
theorem dX5_take_34 : decode cX5_take 34 = .ok (.ifCond .lt 49, 3) := by decide +kernel
theorem dX5_take_37 : decode cX5_take 37 = .ok (.aload_n 0, 1) := by decide +kernel
theorem dX5_take_38 : decode cX5_take 38 = .ok (.getfield 19, 3) := by decide +kernel
theorem dX5_take_41 : decode cX5_take 41 = .ok (.aload_n 0, 1) := by decide +kernel
theorem dX5_take_42 : decode cX5_take 42 = .ok (.getfield 9, 3) := by decide +kernel
theorem dX5_take_45 : decode cX5_take 45 = .ok (.arraylength, 1) := by decide +kernel
theorem dX5_take_46 : decode cX5_take 46 = .ok (.if_icmp .ge 31, 3) := by decide +kernel
theorem dX5_take_49 : decode cX5_take 49 = .ok (.aload_n 0, 1) := by decide +kernel
theorem dX5_take_50 : decode cX5_take 50 = .ok (.getfield 9, 3) := by decide +kernel
theorem dX5_take_53 : decode cX5_take 53 = .ok (.aload_n 0, 1) := by decide +kernel
theorem dX5_take_54 : decode cX5_take 54 = .ok (.getfield 19, 3) := by decide +kernel
theorem dX5_take_57 : decode cX5_take 57 = .ok (.lload_n 2, 1) := by decide +kernel
theorem dX5_take_58 : decode cX5_take 58 = .ok (.bipush 8, 2) := by decide +kernel
theorem dX5_take_60 : decode cX5_take 60 = .ok (.iload 4, 2) := by decide +kernel
theorem dX5_take_62 : decode cX5_take 62 = .ok (.imul, 1) := by decide +kernel
theorem dX5_take_63 : decode cX5_take 63 = .ok (.lushr, 1) := by decide +kernel
theorem dX5_take_64 : decode cX5_take 64 = .ok (.l2i, 1) := by decide +kernel
theorem dX5_take_65 : decode cX5_take 65 = .ok (.i2b, 1) := by decide +kernel
theorem dX5_take_66 : decode cX5_take 66 = .ok (.bastore, 1) := by decide +kernel
theorem dX5_take_67 : decode cX5_take 67 = .ok (.aload_n 0, 1) := by decide +kernel
theorem dX5_take_68 : decode cX5_take 68 = .ok (.dup, 1) := by decide +kernel
theorem dX5_take_69 : decode cX5_take 69 = .ok (.getfield 19, 3) := by decide +kernel
theorem dX5_take_72 : decode cX5_take 72 = .ok (.iconst 1, 1) := by decide +kernel
theorem dX5_take_73 : decode cX5_take 73 = .ok (.iadd, 1) := by decide +kernel
theorem dX5_take_74 : decode cX5_take 74 = .ok (.putfield 19, 3) := by decide +kernel
theorem dX5_take_77 : decode cX5_take 77 = .ok (.iinc 4 (-1), 3) := by decide +kernel
theorem dX5_take_80 : decode cX5_take 80 = .ok (.goto (-48), 3) := by decide +kernel
theorem dX5_take_83 : decode cX5_take 83 = .ok (.iconst 1, 1) := by decide +kernel
theorem dX5_take_84 : decode cX5_take 84 = .ok (.ireturn, 1) := by decide +kernel
theorem dX5_read_0 : decode cX5_read 0 = .ok (.aload_n 1, 1) := by decide +kernel
theorem dX5_read_1 : decode cX5_read 1 = .ok (.invokevirtual 22, 3) := by decide +kernel
theorem dX5_read_4 : decode cX5_read 4 = .ok (.aload_n 0, 1) := by decide +kernel
theorem dX5_read_5 : decode cX5_read 5 = .ok (.iconst 0, 1) := by decide +kernel
theorem dX5_read_6 : decode cX5_read 6 = .ok (.putfield 27, 3) := by decide +kernel
theorem dX5_read_9 : decode cX5_read 9 = .ok (.aload_n 0, 1) := by decide +kernel
theorem dX5_read_10 : decode cX5_read 10 = .ok (.iconst (-1), 1) := by decide +kernel
theorem dX5_read_11 : decode cX5_read 11 = .ok (.putfield 15, 3) := by decide +kernel
theorem dX5_read_14 : decode cX5_read 14 = .ok (.aload_n 0, 1) := by decide +kernel
theorem dX5_read_15 : decode cX5_read 15 = .ok (.iconst 0, 1) := by decide +kernel
theorem dX5_read_16 : decode cX5_read 16 = .ok (.putfield 30, 3) := by decide +kernel
theorem dX5_read_19 : decode cX5_read 19 = .ok (.aload_n 0, 1) := by decide +kernel
theorem dX5_read_20 : decode cX5_read 20 = .ok (.iconst 0, 1) := by decide +kernel
theorem dX5_read_21 : decode cX5_read 21 = .ok (.putfield 33, 3) := by decide +kernel
theorem dX5_read_24 : decode cX5_read 24 = .ok (.aload_n 0, 1) := by decide +kernel
theorem dX5_read_25 : decode cX5_read 25 = .ok (.invokevirtual 37, 3) := by decide +kernel
theorem dX5_read_28 : decode cX5_read 28 = .ok (.iconst 0, 1) := by decide +kernel
theorem dX5_read_29 : decode cX5_read 29 = .ok (.istore_n 2, 1) := by decide +kernel
theorem dX5_read_30 : decode cX5_read 30 = .ok (.iload_n 2, 1) := by decide +kernel
theorem dX5_read_31 : decode cX5_read 31 = .ok (.sipush 400, 3) := by decide +kernel
theorem dX5_read_34 : decode cX5_read 34 = .ok (.if_icmp .ge 36, 3) := by decide +kernel
theorem dX5_read_37 : decode cX5_read 37 = .ok (.aload_n 0, 1) := by decide +kernel
theorem dX5_read_38 : decode cX5_read 38 = .ok (.getfield 30, 3) := by decide +kernel
theorem dX5_read_41 : decode cX5_read 41 = .ok (.aload_n 0, 1) := by decide +kernel
theorem dX5_read_42 : decode cX5_read 42 = .ok (.getfield 19, 3) := by decide +kernel
theorem dX5_read_45 : decode cX5_read 45 = .ok (.if_icmp .ge 25, 3) := by decide +kernel
theorem dX5_read_48 : decode cX5_read 48 = .ok (.aload_n 0, 1) := by decide +kernel
theorem dX5_read_49 : decode cX5_read 49 = .ok (.getfield 27, 3) := by decide +kernel
theorem dX5_read_52 : decode cX5_read 52 = .ok (.ifCond .ne 18, 3) := by decide +kernel
theorem dX5_read_55 : decode cX5_read 55 = .ok (.aload_n 0, 1) := by decide +kernel
theorem dX5_read_56 : decode cX5_read 56 = .ok (.aload_n 1, 1) := by decide +kernel
theorem dX5_read_57 : decode cX5_read 57 = .ok (.invokevirtual 40, 3) := by decide +kernel
theorem dX5_read_60 : decode cX5_read 60 = .ok (.aload_n 0, 1) := by decide +kernel
theorem dX5_read_61 : decode cX5_read 61 = .ok (.invokevirtual 37, 3) := by decide +kernel
theorem dX5_read_64 : decode cX5_read 64 = .ok (.iinc 2 1, 3) := by decide +kernel
theorem dX5_read_67 : decode cX5_read 67 = .ok (.goto (-37), 3) := by decide +kernel
theorem dX5_read_70 : decode cX5_read 70 = .ok (.aload_n 0, 1) := by decide +kernel
theorem dX5_read_71 : decode cX5_read 71 = .ok (.iconst 0, 1) := by decide +kernel
theorem dX5_read_72 : decode cX5_read 72 = .ok (.putfield 19, 3) := by decide +kernel
theorem dX5_read_75 : decode cX5_read 75 = .ok (.return_, 1) := by decide +kernel
theorem dX5_readClause_0 : decode cX5_readClause 0 = .ok (.aload_n 0, 1) := by decide +kernel
theorem dX5_readClause_1 : decode cX5_readClause 1 = .ok (.getfield 30, 3) := by decide +kernel
theorem dX5_readClause_4 : decode cX5_readClause 4 = .ok (.istore_n 2, 1) := by decide +kernel
theorem dX5_readClause_5 : decode cX5_readClause 5 = .ok (.iconst 0, 1) := by decide +kernel
theorem dX5_readClause_6 : decode cX5_readClause 6 = .ok (.istore_n 3, 1) := by decide +kernel
theorem dX5_readClause_7 : decode cX5_readClause 7 = .ok (.iload_n 3, 1) := by decide +kernel
theorem dX5_readClause_8 : decode cX5_readClause 8 = .ok (.sipush 400, 3) := by decide +kernel
theorem dX5_readClause_11 : decode cX5_readClause 11 = .ok (.if_icmp .ge 33, 3) := by decide +kernel
theorem dX5_readClause_14 : decode cX5_readClause 14 = .ok (.aload_n 0, 1) := by decide +kernel
theorem dX5_readClause_15 : decode cX5_readClause 15 = .ok (.aload_n 0, 1) := by decide +kernel
theorem dX5_readClause_16 : decode cX5_readClause 16 = .ok (.getfield 30, 3) := by decide +kernel
theorem dX5_readClause_19 : decode cX5_readClause 19 = .ok (.invokevirtual 44, 3) := by decide +kernel
theorem dX5_readClause_22 : decode cX5_readClause 22 = .ok (.invokestatic 48, 3) := by decide +kernel
theorem dX5_readClause_25 : decode cX5_readClause 25 = .ok (.ifCond .eq 19, 3) := by decide +kernel
theorem dX5_readClause_28 : decode cX5_readClause 28 = .ok (.aload_n 0, 1) := by decide +kernel
theorem dX5_readClause_29 : decode cX5_readClause 29 = .ok (.dup, 1) := by decide +kernel
theorem dX5_readClause_30 : decode cX5_readClause 30 = .ok (.getfield 30, 3) := by decide +kernel
theorem dX5_readClause_33 : decode cX5_readClause 33 = .ok (.iconst 1, 1) := by decide +kernel
theorem dX5_readClause_34 : decode cX5_readClause 34 = .ok (.iadd, 1) := by decide +kernel
theorem dX5_readClause_35 : decode cX5_readClause 35 = .ok (.putfield 30, 3) := by decide +kernel
theorem dX5_readClause_38 : decode cX5_readClause 38 = .ok (.iinc 3 1, 3) := by decide +kernel
theorem dX5_readClause_41 : decode cX5_readClause 41 = .ok (.goto (-34), 3) := by decide +kernel
theorem dX5_readClause_44 : decode cX5_readClause 44 = .ok (.aload_n 0, 1) := by decide +kernel
theorem dX5_readClause_45 : decode cX5_readClause 45 = .ok (.ldc 52, 2) := by decide +kernel
theorem dX5_readClause_47 : decode cX5_readClause 47 = .ok (.iload_n 2, 1) := by decide +kernel
theorem dX5_readClause_48 : decode cX5_readClause 48 = .ok (.invokevirtual 54, 3) := by decide +kernel
theorem dX5_readClause_51 : decode cX5_readClause 51 = .ok (.ifCond .eq 30, 3) := by decide +kernel
theorem dX5_readClause_54 : decode cX5_readClause 54 = .ok (.aload_n 0, 1) := by decide +kernel
theorem dX5_readClause_55 : decode cX5_readClause 55 = .ok (.aload_n 1, 1) := by decide +kernel
theorem dX5_readClause_56 : decode cX5_readClause 56 = .ok (.getfield 58, 3) := by decide +kernel
theorem dX5_readClause_59 : decode cX5_readClause 59 = .ok (.iconst 2, 1) := by decide +kernel
theorem dX5_readClause_60 : decode cX5_readClause 60 = .ok (.if_icmp .lt 7, 3) := by decide +kernel
theorem dX5_readClause_63 : decode cX5_readClause 63 = .ok (.iconst 1, 1) := by decide +kernel
theorem dX5_readClause_64 : decode cX5_readClause 64 = .ok (.goto 4, 3) := by decide +kernel
theorem dX5_readClause_67 : decode cX5_readClause 67 = .ok (.iconst 0, 1) := by decide +kernel
theorem dX5_readClause_68 : decode cX5_readClause 68 = .ok (.iconst 3, 1) := by decide +kernel
theorem dX5_readClause_69 : decode cX5_readClause 69 = .ok (.iload_n 2, 1) := by decide +kernel
theorem dX5_readClause_70 : decode cX5_readClause 70 = .ok (.invokevirtual 61, 3) := by decide +kernel
theorem dX5_readClause_73 : decode cX5_readClause 73 = .ok (.aload_n 0, 1) := by decide +kernel
theorem dX5_readClause_74 : decode cX5_readClause 74 = .ok (.aload_n 1, 1) := by decide +kernel
theorem dX5_readClause_75 : decode cX5_readClause 75 = .ok (.invokevirtual 65, 3) := by decide +kernel
theorem dX5_readClause_78 : decode cX5_readClause 78 = .ok (.goto 76, 3) := by decide +kernel
theorem dX5_readClause_81 : decode cX5_readClause 81 = .ok (.aload_n 0, 1) := by decide +kernel
theorem dX5_readClause_82 : decode cX5_readClause 82 = .ok (.ldc 68, 2) := by decide +kernel
theorem dX5_readClause_84 : decode cX5_readClause 84 = .ok (.iload_n 2, 1) := by decide +kernel
theorem dX5_readClause_85 : decode cX5_readClause 85 = .ok (.invokevirtual 54, 3) := by decide +kernel
theorem dX5_readClause_88 : decode cX5_readClause 88 = .ok (.ifCond .eq 31, 3) := by decide +kernel
theorem dX5_readClause_91 : decode cX5_readClause 91 = .ok (.aload_n 0, 1) := by decide +kernel
theorem dX5_readClause_92 : decode cX5_readClause 92 = .ok (.aload_n 1, 1) := by decide +kernel
theorem dX5_readClause_93 : decode cX5_readClause 93 = .ok (.getfield 70, 3) := by decide +kernel
theorem dX5_readClause_96 : decode cX5_readClause 96 = .ok (.bipush 6, 2) := by decide +kernel
theorem dX5_readClause_98 : decode cX5_readClause 98 = .ok (.if_icmp .lt 7, 3) := by decide +kernel
theorem dX5_readClause_101 : decode cX5_readClause 101 = .ok (.iconst 1, 1) := by decide +kernel
theorem dX5_readClause_102 : decode cX5_readClause 102 = .ok (.goto 4, 3) := by decide +kernel
theorem dX5_readClause_105 : decode cX5_readClause 105 = .ok (.iconst 0, 1) := by decide +kernel
theorem dX5_readClause_106 : decode cX5_readClause 106 = .ok (.iconst 3, 1) := by decide +kernel
theorem dX5_readClause_107 : decode cX5_readClause 107 = .ok (.iload_n 2, 1) := by decide +kernel
theorem dX5_readClause_108 : decode cX5_readClause 108 = .ok (.invokevirtual 61, 3) := by decide +kernel
theorem dX5_readClause_111 : decode cX5_readClause 111 = .ok (.aload_n 0, 1) := by decide +kernel
theorem dX5_readClause_112 : decode cX5_readClause 112 = .ok (.aload_n 1, 1) := by decide +kernel
theorem dX5_readClause_113 : decode cX5_readClause 113 = .ok (.invokevirtual 73, 3) := by decide +kernel
theorem dX5_readClause_116 : decode cX5_readClause 116 = .ok (.goto 38, 3) := by decide +kernel
theorem dX5_readClause_119 : decode cX5_readClause 119 = .ok (.aload_n 0, 1) := by decide +kernel
theorem dX5_readClause_120 : decode cX5_readClause 120 = .ok (.ldc 76, 2) := by decide +kernel
theorem dX5_readClause_122 : decode cX5_readClause 122 = .ok (.iload_n 2, 1) := by decide +kernel
theorem dX5_readClause_123 : decode cX5_readClause 123 = .ok (.invokevirtual 54, 3) := by decide +kernel
theorem dX5_readClause_126 : decode cX5_readClause 126 = .ok (.ifCond .eq 21, 3) := by decide +kernel
theorem dX5_readClause_129 : decode cX5_readClause 129 = .ok (.aload_n 0, 1) := by decide +kernel
theorem dX5_readClause_130 : decode cX5_readClause 130 = .ok (.aload_n 0, 1) := by decide +kernel
theorem dX5_readClause_131 : decode cX5_readClause 131 = .ok (.getfield 33, 3) := by decide +kernel
theorem dX5_readClause_134 : decode cX5_readClause 134 = .ok (.iconst 3, 1) := by decide +kernel
theorem dX5_readClause_135 : decode cX5_readClause 135 = .ok (.iload_n 2, 1) := by decide +kernel
theorem dX5_readClause_136 : decode cX5_readClause 136 = .ok (.invokevirtual 61, 3) := by decide +kernel
theorem dX5_readClause_139 : decode cX5_readClause 139 = .ok (.aload_n 0, 1) := by decide +kernel
theorem dX5_readClause_140 : decode cX5_readClause 140 = .ok (.aload_n 1, 1) := by decide +kernel
theorem dX5_readClause_141 : decode cX5_readClause 141 = .ok (.invokevirtual 78, 3) := by decide +kernel
theorem dX5_readClause_144 : decode cX5_readClause 144 = .ok (.goto 10, 3) := by decide +kernel
theorem dX5_readClause_147 : decode cX5_readClause 147 = .ok (.aload_n 0, 1) := by decide +kernel
theorem dX5_readClause_148 : decode cX5_readClause 148 = .ok (.iconst 1, 1) := by decide +kernel
theorem dX5_readClause_149 : decode cX5_readClause 149 = .ok (.iconst 1, 1) := by decide +kernel
theorem dX5_readClause_150 : decode cX5_readClause 150 = .ok (.iload_n 2, 1) := by decide +kernel
theorem dX5_readClause_151 : decode cX5_readClause 151 = .ok (.invokevirtual 61, 3) := by decide +kernel
theorem dX5_readClause_154 : decode cX5_readClause 154 = .ok (.return_, 1) := by decide +kernel
theorem dX5_readBath_0 : decode cX5_readBath 0 = .ok (.aload_n 0, 1) := by decide +kernel
theorem dX5_readBath_1 : decode cX5_readBath 1 = .ok (.iconst 1, 1) := by decide +kernel
theorem dX5_readBath_2 : decode cX5_readBath 2 = .ok (.bipush 99, 2) := by decide +kernel
theorem dX5_readBath_4 : decode cX5_readBath 4 = .ok (.invokevirtual 81, 3) := by decide +kernel
theorem dX5_readBath_7 : decode cX5_readBath 7 = .ok (.istore_n 2, 1) := by decide +kernel
theorem dX5_readBath_8 : decode cX5_readBath 8 = .ok (.aload_n 0, 1) := by decide +kernel
theorem dX5_readBath_9 : decode cX5_readBath 9 = .ok (.iconst 1, 1) := by decide +kernel
theorem dX5_readBath_10 : decode cX5_readBath 10 = .ok (.bipush 99, 2) := by decide +kernel
theorem dX5_readBath_12 : decode cX5_readBath 12 = .ok (.invokevirtual 81, 3) := by decide +kernel
theorem dX5_readBath_15 : decode cX5_readBath 15 = .ok (.istore_n 3, 1) := by decide +kernel
theorem dX5_readBath_16 : decode cX5_readBath 16 = .ok (.aload_n 0, 1) := by decide +kernel
theorem dX5_readBath_17 : decode cX5_readBath 17 = .ok (.iconst 0, 1) := by decide +kernel
theorem dX5_readBath_18 : decode cX5_readBath 18 = .ok (.sipush 9999, 3) := by decide +kernel
theorem dX5_readBath_21 : decode cX5_readBath 21 = .ok (.invokevirtual 81, 3) := by decide +kernel
theorem dX5_readBath_24 : decode cX5_readBath 24 = .ok (.istore 4, 2) := by decide +kernel
theorem dX5_readBath_26 : decode cX5_readBath 26 = .ok (.aload_n 0, 1) := by decide +kernel
theorem dX5_readBath_27 : decode cX5_readBath 27 = .ok (.iconst 0, 1) := by decide +kernel
theorem dX5_readBath_28 : decode cX5_readBath 28 = .ok (.bipush 99, 2) := by decide +kernel
theorem dX5_readBath_30 : decode cX5_readBath 30 = .ok (.invokevirtual 81, 3) := by decide +kernel
theorem dX5_readBath_33 : decode cX5_readBath 33 = .ok (.istore 5, 2) := by decide +kernel
theorem dX5_readBath_35 : decode cX5_readBath 35 = .ok (.aload_n 0, 1) := by decide +kernel
theorem dX5_readBath_36 : decode cX5_readBath 36 = .ok (.invokevirtual 85, 3) := by decide +kernel
theorem dX5_readBath_39 : decode cX5_readBath 39 = .ok (.aload_n 0, 1) := by decide +kernel
theorem dX5_readBath_40 : decode cX5_readBath 40 = .ok (.getfield 27, 3) := by decide +kernel
theorem dX5_readBath_43 : decode cX5_readBath 43 = .ok (.ifCond .ne 13, 3) := by decide +kernel
theorem dX5_readBath_46 : decode cX5_readBath 46 = .ok (.aload_n 1, 1) := by decide +kernel
theorem dX5_readBath_47 : decode cX5_readBath 47 = .ok (.iload_n 2, 1) := by decide +kernel
theorem dX5_readBath_48 : decode cX5_readBath 48 = .ok (.iload_n 3, 1) := by decide +kernel
theorem dX5_readBath_49 : decode cX5_readBath 49 = .ok (.iload 4, 2) := by decide +kernel
theorem dX5_readBath_51 : decode cX5_readBath 51 = .ok (.iload 5, 2) := by decide +kernel
theorem dX5_readBath_53 : decode cX5_readBath 53 = .ok (.invokevirtual 88, 3) := by decide +kernel
theorem dX5_readBath_56 : decode cX5_readBath 56 = .ok (.return_, 1) := by decide +kernel
theorem dX5_readBather_0 : decode cX5_readBather 0 = .ok (.aload_n 0, 1) := by decide +kernel
theorem dX5_readBather_1 : decode cX5_readBather 1 = .ok (.iconst 1, 1) := by decide +kernel
theorem dX5_readBather_2 : decode cX5_readBather 2 = .ok (.sipush 999, 3) := by decide +kernel
theorem dX5_readBather_5 : decode cX5_readBather 5 = .ok (.invokevirtual 81, 3) := by decide +kernel
theorem dX5_readBather_8 : decode cX5_readBather 8 = .ok (.istore_n 2, 1) := by decide +kernel
theorem dX5_readBather_9 : decode cX5_readBather 9 = .ok (.aload_n 0, 1) := by decide +kernel
theorem dX5_readBather_10 : decode cX5_readBather 10 = .ok (.iconst 1, 1) := by decide +kernel
theorem dX5_readBather_11 : decode cX5_readBather 11 = .ok (.sipush 999, 3) := by decide +kernel
theorem dX5_readBather_14 : decode cX5_readBather 14 = .ok (.invokevirtual 81, 3) := by decide +kernel
theorem dX5_readBather_17 : decode cX5_readBather 17 = .ok (.istore_n 3, 1) := by decide +kernel
theorem dX5_readBather_18 : decode cX5_readBather 18 = .ok (.aload_n 0, 1) := by decide +kernel
theorem dX5_readBather_19 : decode cX5_readBather 19 = .ok (.iload_n 3, 1) := by decide +kernel
theorem dX5_readBather_20 : decode cX5_readBather 20 = .ok (.iload_n 2, 1) := by decide +kernel
theorem dX5_readBather_21 : decode cX5_readBather 21 = .ok (.if_icmp .ge 7, 3) := by decide +kernel
theorem dX5_readBather_24 : decode cX5_readBather 24 = .ok (.iconst 1, 1) := by decide +kernel
theorem dX5_readBather_25 : decode cX5_readBather 25 = .ok (.goto 4, 3) := by decide +kernel
theorem dX5_readBather_28 : decode cX5_readBather 28 = .ok (.iconst 0, 1) := by decide +kernel
theorem dX5_readBather_29 : decode cX5_readBather 29 = .ok (.iconst 4, 1) := by decide +kernel
theorem dX5_readBather_30 : decode cX5_readBather 30 = .ok (.aload_n 0, 1) := by decide +kernel
theorem dX5_readBather_31 : decode cX5_readBather 31 = .ok (.getfield 92, 3) := by decide +kernel
theorem dX5_readBather_34 : decode cX5_readBather 34 = .ok (.invokevirtual 61, 3) := by decide +kernel
theorem dX5_readBather_37 : decode cX5_readBather 37 = .ok (.aload_n 0, 1) := by decide +kernel
theorem dX5_readBather_38 : decode cX5_readBather 38 = .ok (.iconst 1, 1) := by decide +kernel
theorem dX5_readBather_39 : decode cX5_readBather 39 = .ok (.sipush 999, 3) := by decide +kernel
theorem dX5_readBather_42 : decode cX5_readBather 42 = .ok (.invokevirtual 81, 3) := by decide +kernel
theorem dX5_readBather_45 : decode cX5_readBather 45 = .ok (.istore 4, 2) := by decide +kernel
theorem dX5_readBather_47 : decode cX5_readBather 47 = .ok (.aload_n 0, 1) := by decide +kernel
theorem dX5_readBather_48 : decode cX5_readBather 48 = .ok (.iload 4, 2) := by decide +kernel
theorem dX5_readBather_50 : decode cX5_readBather 50 = .ok (.iload_n 2, 1) := by decide +kernel
theorem dX5_readBather_51 : decode cX5_readBather 51 = .ok (.if_icmp .lt 9, 3) := by decide +kernel
theorem dX5_readBather_54 : decode cX5_readBather 54 = .ok (.iload 4, 2) := by decide +kernel
theorem dX5_readBather_56 : decode cX5_readBather 56 = .ok (.iload_n 3, 1) := by decide +kernel
theorem dX5_readBather_57 : decode cX5_readBather 57 = .ok (.if_icmp .le 7, 3) := by decide +kernel
theorem dX5_readBather_60 : decode cX5_readBather 60 = .ok (.iconst 1, 1) := by decide +kernel
theorem dX5_readBather_61 : decode cX5_readBather 61 = .ok (.goto 4, 3) := by decide +kernel
theorem dX5_readBather_64 : decode cX5_readBather 64 = .ok (.iconst 0, 1) := by decide +kernel
theorem dX5_readBather_65 : decode cX5_readBather 65 = .ok (.iconst 4, 1) := by decide +kernel
theorem dX5_readBather_66 : decode cX5_readBather 66 = .ok (.aload_n 0, 1) := by decide +kernel
theorem dX5_readBather_67 : decode cX5_readBather 67 = .ok (.getfield 92, 3) := by decide +kernel
theorem dX5_readBather_70 : decode cX5_readBather 70 = .ok (.invokevirtual 61, 3) := by decide +kernel
theorem dX5_readBather_73 : decode cX5_readBather 73 = .ok (.aload_n 0, 1) := by decide +kernel
theorem dX5_readBather_74 : decode cX5_readBather 74 = .ok (.iconst 0, 1) := by decide +kernel
theorem dX5_readBather_75 : decode cX5_readBather 75 = .ok (.bipush 100, 2) := by decide +kernel
theorem dX5_readBather_77 : decode cX5_readBather 77 = .ok (.invokevirtual 81, 3) := by decide +kernel
theorem dX5_readBather_80 : decode cX5_readBather 80 = .ok (.istore 5, 2) := by decide +kernel
theorem dX5_readBather_82 : decode cX5_readBather 82 = .ok (.aload_n 0, 1) := by decide +kernel
theorem dX5_readBather_83 : decode cX5_readBather 83 = .ok (.invokevirtual 85, 3) := by decide +kernel
theorem dX5_readBather_86 : decode cX5_readBather 86 = .ok (.aload_n 0, 1) := by decide +kernel
theorem dX5_readBather_87 : decode cX5_readBather 87 = .ok (.getfield 27, 3) := by decide +kernel
theorem dX5_readBather_90 : decode cX5_readBather 90 = .ok (.ifCond .ne 13, 3) := by decide +kernel
theorem dX5_readBather_93 : decode cX5_readBather 93 = .ok (.aload_n 1, 1) := by decide +kernel
theorem dX5_readBather_94 : decode cX5_readBather 94 = .ok (.iload_n 2, 1) := by decide +kernel
theorem dX5_readBather_95 : decode cX5_readBather 95 = .ok (.iload_n 3, 1) := by decide +kernel
theorem dX5_readBather_96 : decode cX5_readBather 96 = .ok (.iload 4, 2) := by decide +kernel
theorem dX5_readBather_98 : decode cX5_readBather 98 = .ok (.iload 5, 2) := by decide +kernel
theorem dX5_readBather_100 : decode cX5_readBather 100 = .ok (.invokevirtual 95, 3) := by decide +kernel
theorem dX5_readBather_103 : decode cX5_readBather 103 = .ok (.return_, 1) := by decide +kernel
theorem dX5_readOdd_0 : decode cX5_readOdd 0 = .ok (.aload_n 0, 1) := by decide +kernel
theorem dX5_readOdd_1 : decode cX5_readOdd 1 = .ok (.iconst 1, 1) := by decide +kernel
theorem dX5_readOdd_2 : decode cX5_readOdd 2 = .ok (.sipush 999, 3) := by decide +kernel
theorem dX5_readOdd_5 : decode cX5_readOdd 5 = .ok (.invokevirtual 81, 3) := by decide +kernel
theorem dX5_readOdd_8 : decode cX5_readOdd 8 = .ok (.istore_n 2, 1) := by decide +kernel
theorem dX5_readOdd_9 : decode cX5_readOdd 9 = .ok (.aload_n 0, 1) := by decide +kernel
theorem dX5_readOdd_10 : decode cX5_readOdd 10 = .ok (.invokevirtual 85, 3) := by decide +kernel
theorem dX5_readOdd_13 : decode cX5_readOdd 13 = .ok (.aload_n 0, 1) := by decide +kernel
theorem dX5_readOdd_14 : decode cX5_readOdd 14 = .ok (.getfield 27, 3) := by decide +kernel
theorem dX5_readOdd_17 : decode cX5_readOdd 17 = .ok (.ifCond .ne 13, 3) := by decide +kernel
theorem dX5_readOdd_20 : decode cX5_readOdd 20 = .ok (.aload_n 1, 1) := by decide +kernel
theorem dX5_readOdd_21 : decode cX5_readOdd 21 = .ok (.iload_n 2, 1) := by decide +kernel
theorem dX5_readOdd_22 : decode cX5_readOdd 22 = .ok (.putfield 98, 3) := by decide +kernel
theorem dX5_readOdd_25 : decode cX5_readOdd 25 = .ok (.aload_n 0, 1) := by decide +kernel
theorem dX5_readOdd_26 : decode cX5_readOdd 26 = .ok (.iconst 1, 1) := by decide +kernel
theorem dX5_readOdd_27 : decode cX5_readOdd 27 = .ok (.putfield 33, 3) := by decide +kernel
theorem dX5_readOdd_30 : decode cX5_readOdd 30 = .ok (.return_, 1) := by decide +kernel
theorem dX5_readNumber_0 : decode cX5_readNumber 0 = .ok (.aload_n 0, 1) := by decide +kernel
theorem dX5_readNumber_1 : decode cX5_readNumber 1 = .ok (.getfield 27, 3) := by decide +kernel
theorem dX5_readNumber_4 : decode cX5_readNumber 4 = .ok (.ifCond .eq 5, 3) := by decide +kernel
theorem dX5_readNumber_7 : decode cX5_readNumber 7 = .ok (.iconst (-1), 1) := by decide +kernel
theorem dX5_readNumber_8 : decode cX5_readNumber 8 = .ok (.ireturn, 1) := by decide +kernel
theorem dX5_readNumber_9 : decode cX5_readNumber 9 = .ok (.aload_n 0, 1) := by decide +kernel
theorem dX5_readNumber_10 : decode cX5_readNumber 10 = .ok (.invokevirtual 37, 3) := by decide +kernel
theorem dX5_readNumber_13 : decode cX5_readNumber 13 = .ok (.aload_n 0, 1) := by decide +kernel
theorem dX5_readNumber_14 : decode cX5_readNumber 14 = .ok (.aload_n 0, 1) := by decide +kernel
theorem dX5_readNumber_15 : decode cX5_readNumber 15 = .ok (.getfield 30, 3) := by decide +kernel
theorem dX5_readNumber_18 : decode cX5_readNumber 18 = .ok (.putfield 92, 3) := by decide +kernel
theorem dX5_readNumber_21 : decode cX5_readNumber 21 = .ok (.iconst 0, 1) := by decide +kernel
theorem dX5_readNumber_22 : decode cX5_readNumber 22 = .ok (.istore_n 3, 1) := by decide +kernel
theorem dX5_readNumber_23 : decode cX5_readNumber 23 = .ok (.iconst 0, 1) := by decide +kernel
theorem dX5_readNumber_24 : decode cX5_readNumber 24 = .ok (.istore 4, 2) := by decide +kernel
theorem dX5_readNumber_26 : decode cX5_readNumber 26 = .ok (.iload 4, 2) := by decide +kernel
theorem dX5_readNumber_28 : decode cX5_readNumber 28 = .ok (.sipush 400, 3) := by decide +kernel
theorem dX5_readNumber_31 : decode cX5_readNumber 31 = .ok (.if_icmp .ge 60, 3) := by decide +kernel
theorem dX5_readNumber_34 : decode cX5_readNumber 34 = .ok (.aload_n 0, 1) := by decide +kernel
theorem dX5_readNumber_35 : decode cX5_readNumber 35 = .ok (.aload_n 0, 1) := by decide +kernel
theorem dX5_readNumber_36 : decode cX5_readNumber 36 = .ok (.getfield 30, 3) := by decide +kernel
theorem dX5_readNumber_39 : decode cX5_readNumber 39 = .ok (.invokevirtual 44, 3) := by decide +kernel
theorem dX5_readNumber_42 : decode cX5_readNumber 42 = .ok (.invokestatic 100, 3) := by decide +kernel
theorem dX5_readNumber_45 : decode cX5_readNumber 45 = .ok (.ifCond .eq 46, 3) := by decide +kernel
theorem dX5_readNumber_48 : decode cX5_readNumber 48 = .ok (.iload 4, 2) := by decide +kernel
theorem dX5_readNumber_50 : decode cX5_readNumber 50 = .ok (.iconst 4, 1) := by decide +kernel
theorem dX5_readNumber_51 : decode cX5_readNumber 51 = .ok (.if_icmp .ge 22, 3) := by decide +kernel
theorem dX5_readNumber_54 : decode cX5_readNumber 54 = .ok (.iload_n 3, 1) := by decide +kernel
theorem dX5_readNumber_55 : decode cX5_readNumber 55 = .ok (.bipush 10, 2) := by decide +kernel
theorem dX5_readNumber_57 : decode cX5_readNumber 57 = .ok (.imul, 1) := by decide +kernel
theorem dX5_readNumber_58 : decode cX5_readNumber 58 = .ok (.aload_n 0, 1) := by decide +kernel
theorem dX5_readNumber_59 : decode cX5_readNumber 59 = .ok (.aload_n 0, 1) := by decide +kernel
theorem dX5_readNumber_60 : decode cX5_readNumber 60 = .ok (.getfield 30, 3) := by decide +kernel
theorem dX5_readNumber_63 : decode cX5_readNumber 63 = .ok (.invokevirtual 44, 3) := by decide +kernel
theorem dX5_readNumber_66 : decode cX5_readNumber 66 = .ok (.bipush 48, 2) := by decide +kernel
theorem dX5_readNumber_68 : decode cX5_readNumber 68 = .ok (.isub, 1) := by decide +kernel
theorem dX5_readNumber_69 : decode cX5_readNumber 69 = .ok (.iadd, 1) := by decide +kernel
theorem dX5_readNumber_70 : decode cX5_readNumber 70 = .ok (.goto 4, 3) := by decide +kernel
theorem dX5_readNumber_73 : decode cX5_readNumber 73 = .ok (.iload_n 3, 1) := by decide +kernel
theorem dX5_readNumber_74 : decode cX5_readNumber 74 = .ok (.istore_n 3, 1) := by decide +kernel
theorem dX5_readNumber_75 : decode cX5_readNumber 75 = .ok (.aload_n 0, 1) := by decide +kernel
theorem dX5_readNumber_76 : decode cX5_readNumber 76 = .ok (.dup, 1) := by decide +kernel
theorem dX5_readNumber_77 : decode cX5_readNumber 77 = .ok (.getfield 30, 3) := by decide +kernel
theorem dX5_readNumber_80 : decode cX5_readNumber 80 = .ok (.iconst 1, 1) := by decide +kernel
theorem dX5_readNumber_81 : decode cX5_readNumber 81 = .ok (.iadd, 1) := by decide +kernel
theorem dX5_readNumber_82 : decode cX5_readNumber 82 = .ok (.putfield 30, 3) := by decide +kernel
theorem dX5_readNumber_85 : decode cX5_readNumber 85 = .ok (.iinc 4 1, 3) := by decide +kernel
theorem dX5_readNumber_88 : decode cX5_readNumber 88 = .ok (.goto (-62), 3) := by decide +kernel
theorem dX5_readNumber_91 : decode cX5_readNumber 91 = .ok (.aload_n 0, 1) := by decide +kernel
theorem dX5_readNumber_92 : decode cX5_readNumber 92 = .ok (.aload_n 0, 1) := by decide +kernel
theorem dX5_readNumber_93 : decode cX5_readNumber 93 = .ok (.getfield 30, 3) := by decide +kernel
theorem dX5_readNumber_96 : decode cX5_readNumber 96 = .ok (.aload_n 0, 1) := by decide +kernel
theorem dX5_readNumber_97 : decode cX5_readNumber 97 = .ok (.getfield 92, 3) := by decide +kernel
theorem dX5_readNumber_100 : decode cX5_readNumber 100 = .ok (.if_icmp .ne 7, 3) := by decide +kernel
theorem dX5_readNumber_103 : decode cX5_readNumber 103 = .ok (.iconst 1, 1) := by decide +kernel
theorem dX5_readNumber_104 : decode cX5_readNumber 104 = .ok (.goto 4, 3) := by decide +kernel
theorem dX5_readNumber_107 : decode cX5_readNumber 107 = .ok (.iconst 0, 1) := by decide +kernel
theorem dX5_readNumber_108 : decode cX5_readNumber 108 = .ok (.iconst 1, 1) := by decide +kernel
theorem dX5_readNumber_109 : decode cX5_readNumber 109 = .ok (.aload_n 0, 1) := by decide +kernel
theorem dX5_readNumber_110 : decode cX5_readNumber 110 = .ok (.getfield 30, 3) := by decide +kernel
theorem dX5_readNumber_113 : decode cX5_readNumber 113 = .ok (.invokevirtual 61, 3) := by decide +kernel
theorem dX5_readNumber_116 : decode cX5_readNumber 116 = .ok (.aload_n 0, 1) := by decide +kernel
theorem dX5_readNumber_117 : decode cX5_readNumber 117 = .ok (.aload_n 0, 1) := by decide +kernel
theorem dX5_readNumber_118 : decode cX5_readNumber 118 = .ok (.getfield 30, 3) := by decide +kernel
theorem dX5_readNumber_121 : decode cX5_readNumber 121 = .ok (.aload_n 0, 1) := by decide +kernel
theorem dX5_readNumber_122 : decode cX5_readNumber 122 = .ok (.getfield 92, 3) := by decide +kernel
theorem dX5_readNumber_125 : decode cX5_readNumber 125 = .ok (.isub, 1) := by decide +kernel
theorem dX5_readNumber_126 : decode cX5_readNumber 126 = .ok (.iconst 4, 1) := by decide +kernel
theorem dX5_readNumber_127 : decode cX5_readNumber 127 = .ok (.if_icmp .gt 13, 3) := by decide +kernel
theorem dX5_readNumber_130 : decode cX5_readNumber 130 = .ok (.iload_n 3, 1) := by decide +kernel
theorem dX5_readNumber_131 : decode cX5_readNumber 131 = .ok (.iload_n 1, 1) := by decide +kernel
theorem dX5_readNumber_132 : decode cX5_readNumber 132 = .ok (.if_icmp .lt 8, 3) := by decide +kernel
theorem dX5_readNumber_135 : decode cX5_readNumber 135 = .ok (.iload_n 3, 1) := by decide +kernel
theorem dX5_readNumber_136 : decode cX5_readNumber 136 = .ok (.iload_n 2, 1) := by decide +kernel
theorem dX5_readNumber_137 : decode cX5_readNumber 137 = .ok (.if_icmp .le 7, 3) := by decide +kernel
theorem dX5_readNumber_140 : decode cX5_readNumber 140 = .ok (.iconst 1, 1) := by decide +kernel
theorem dX5_readNumber_141 : decode cX5_readNumber 141 = .ok (.goto 4, 3) := by decide +kernel
theorem dX5_readNumber_144 : decode cX5_readNumber 144 = .ok (.iconst 0, 1) := by decide +kernel
theorem dX5_readNumber_145 : decode cX5_readNumber 145 = .ok (.iconst 2, 1) := by decide +kernel
theorem dX5_readNumber_146 : decode cX5_readNumber 146 = .ok (.aload_n 0, 1) := by decide +kernel
theorem dX5_readNumber_147 : decode cX5_readNumber 147 = .ok (.getfield 92, 3) := by decide +kernel
theorem dX5_readNumber_150 : decode cX5_readNumber 150 = .ok (.invokevirtual 61, 3) := by decide +kernel
theorem dX5_readNumber_153 : decode cX5_readNumber 153 = .ok (.iload_n 3, 1) := by decide +kernel
theorem dX5_readNumber_154 : decode cX5_readNumber 154 = .ok (.ireturn, 1) := by decide +kernel
theorem dX5_readEnd_0 : decode cX5_readEnd 0 = .ok (.aload_n 0, 1) := by decide +kernel
theorem dX5_readEnd_1 : decode cX5_readEnd 1 = .ok (.getfield 27, 3) := by decide +kernel
theorem dX5_readEnd_4 : decode cX5_readEnd 4 = .ok (.ifCond .eq 4, 3) := by decide +kernel
theorem dX5_readEnd_7 : decode cX5_readEnd 7 = .ok (.return_, 1) := by decide +kernel
theorem dX5_readEnd_8 : decode cX5_readEnd 8 = .ok (.aload_n 0, 1) := by decide +kernel
theorem dX5_readEnd_9 : decode cX5_readEnd 9 = .ok (.invokevirtual 37, 3) := by decide +kernel
theorem dX5_readEnd_12 : decode cX5_readEnd 12 = .ok (.aload_n 0, 1) := by decide +kernel
theorem dX5_readEnd_13 : decode cX5_readEnd 13 = .ok (.aload_n 0, 1) := by decide +kernel
theorem dX5_readEnd_14 : decode cX5_readEnd 14 = .ok (.aload_n 0, 1) := by decide +kernel
theorem dX5_readEnd_15 : decode cX5_readEnd 15 = .ok (.getfield 30, 3) := by decide +kernel
theorem dX5_readEnd_18 : decode cX5_readEnd 18 = .ok (.invokevirtual 44, 3) := by decide +kernel
theorem dX5_readEnd_21 : decode cX5_readEnd 21 = .ok (.bipush 59, 2) := by decide +kernel
theorem dX5_readEnd_23 : decode cX5_readEnd 23 = .ok (.if_icmp .eq 7, 3) := by decide +kernel
theorem dX5_readEnd_26 : decode cX5_readEnd 26 = .ok (.iconst 1, 1) := by decide +kernel
theorem dX5_readEnd_27 : decode cX5_readEnd 27 = .ok (.goto 4, 3) := by decide +kernel
theorem dX5_readEnd_30 : decode cX5_readEnd 30 = .ok (.iconst 0, 1) := by decide +kernel
theorem dX5_readEnd_31 : decode cX5_readEnd 31 = .ok (.iconst 1, 1) := by decide +kernel
theorem dX5_readEnd_32 : decode cX5_readEnd 32 = .ok (.aload_n 0, 1) := by decide +kernel
theorem dX5_readEnd_33 : decode cX5_readEnd 33 = .ok (.getfield 30, 3) := by decide +kernel
theorem dX5_readEnd_36 : decode cX5_readEnd 36 = .ok (.invokevirtual 61, 3) := by decide +kernel
theorem dX5_readEnd_39 : decode cX5_readEnd 39 = .ok (.aload_n 0, 1) := by decide +kernel
theorem dX5_readEnd_40 : decode cX5_readEnd 40 = .ok (.dup, 1) := by decide +kernel
theorem dX5_readEnd_41 : decode cX5_readEnd 41 = .ok (.getfield 30, 3) := by decide +kernel
theorem dX5_readEnd_44 : decode cX5_readEnd 44 = .ok (.iconst 1, 1) := by decide +kernel
theorem dX5_readEnd_45 : decode cX5_readEnd 45 = .ok (.iadd, 1) := by decide +kernel
theorem dX5_readEnd_46 : decode cX5_readEnd 46 = .ok (.putfield 30, 3) := by decide +kernel
theorem dX5_readEnd_49 : decode cX5_readEnd 49 = .ok (.return_, 1) := by decide +kernel
theorem dX5_skipBlanks_0 : decode cX5_skipBlanks 0 = .ok (.iconst 0, 1) := by decide +kernel
theorem dX5_skipBlanks_1 : decode cX5_skipBlanks 1 = .ok (.istore_n 1, 1) := by decide +kernel
theorem dX5_skipBlanks_2 : decode cX5_skipBlanks 2 = .ok (.iload_n 1, 1) := by decide +kernel
theorem dX5_skipBlanks_3 : decode cX5_skipBlanks 3 = .ok (.sipush 400, 3) := by decide +kernel
theorem dX5_skipBlanks_6 : decode cX5_skipBlanks 6 = .ok (.if_icmp .ge 32, 3) := by decide +kernel
theorem dX5_skipBlanks_9 : decode cX5_skipBlanks 9 = .ok (.aload_n 0, 1) := by decide +kernel
theorem dX5_skipBlanks_10 : decode cX5_skipBlanks 10 = .ok (.aload_n 0, 1) := by decide +kernel
theorem dX5_skipBlanks_11 : decode cX5_skipBlanks 11 = .ok (.getfield 30, 3) := by decide +kernel
theorem dX5_skipBlanks_14 : decode cX5_skipBlanks 14 = .ok (.invokevirtual 44, 3) := by decide +kernel
theorem dX5_skipBlanks_17 : decode cX5_skipBlanks 17 = .ok (.bipush 32, 2) := by decide +kernel
theorem dX5_skipBlanks_19 : decode cX5_skipBlanks 19 = .ok (.if_icmp .ne 19, 3) := by decide +kernel
theorem dX5_skipBlanks_22 : decode cX5_skipBlanks 22 = .ok (.aload_n 0, 1) := by decide +kernel
theorem dX5_skipBlanks_23 : decode cX5_skipBlanks 23 = .ok (.dup, 1) := by decide +kernel
theorem dX5_skipBlanks_24 : decode cX5_skipBlanks 24 = .ok (.getfield 30, 3) := by decide +kernel
theorem dX5_skipBlanks_27 : decode cX5_skipBlanks 27 = .ok (.iconst 1, 1) := by decide +kernel
theorem dX5_skipBlanks_28 : decode cX5_skipBlanks 28 = .ok (.iadd, 1) := by decide +kernel
theorem dX5_skipBlanks_29 : decode cX5_skipBlanks 29 = .ok (.putfield 30, 3) := by decide +kernel
theorem dX5_skipBlanks_32 : decode cX5_skipBlanks 32 = .ok (.iinc 1 1, 3) := by decide +kernel
theorem dX5_skipBlanks_35 : decode cX5_skipBlanks 35 = .ok (.goto (-33), 3) := by decide +kernel
theorem dX5_skipBlanks_38 : decode cX5_skipBlanks 38 = .ok (.return_, 1) := by decide +kernel
theorem dX5_failIf_0 : decode cX5_failIf 0 = .ok (.iload_n 1, 1) := by decide +kernel
theorem dX5_failIf_1 : decode cX5_failIf 1 = .ok (.ifCond .eq 20, 3) := by decide +kernel
theorem dX5_failIf_4 : decode cX5_failIf 4 = .ok (.aload_n 0, 1) := by decide +kernel
theorem dX5_failIf_5 : decode cX5_failIf 5 = .ok (.getfield 27, 3) := by decide +kernel
theorem dX5_failIf_8 : decode cX5_failIf 8 = .ok (.ifCond .ne 13, 3) := by decide +kernel
theorem dX5_failIf_11 : decode cX5_failIf 11 = .ok (.aload_n 0, 1) := by decide +kernel
theorem dX5_failIf_12 : decode cX5_failIf 12 = .ok (.iload_n 2, 1) := by decide +kernel
theorem dX5_failIf_13 : decode cX5_failIf 13 = .ok (.putfield 27, 3) := by decide +kernel
theorem dX5_failIf_16 : decode cX5_failIf 16 = .ok (.aload_n 0, 1) := by decide +kernel
theorem dX5_failIf_17 : decode cX5_failIf 17 = .ok (.iload_n 3, 1) := by decide +kernel
theorem dX5_failIf_18 : decode cX5_failIf 18 = .ok (.putfield 15, 3) := by decide +kernel
theorem dX5_failIf_21 : decode cX5_failIf 21 = .ok (.return_, 1) := by decide +kernel
theorem dX5_wordIs_0 : decode cX5_wordIs 0 = .ok (.aload_n 0, 1) := by decide +kernel
theorem dX5_wordIs_1 : decode cX5_wordIs 1 = .ok (.getfield 30, 3) := by decide +kernel
theorem dX5_wordIs_4 : decode cX5_wordIs 4 = .ok (.iload_n 2, 1) := by decide +kernel
theorem dX5_wordIs_5 : decode cX5_wordIs 5 = .ok (.isub, 1) := by decide +kernel
theorem dX5_wordIs_6 : decode cX5_wordIs 6 = .ok (.aload_n 1, 1) := by decide +kernel
theorem dX5_wordIs_7 : decode cX5_wordIs 7 = .ok (.invokevirtual 103, 3) := by decide +kernel
theorem dX5_wordIs_10 : decode cX5_wordIs 10 = .ok (.if_icmp .eq 5, 3) := by decide +kernel
theorem dX5_wordIs_13 : decode cX5_wordIs 13 = .ok (.iconst 0, 1) := by decide +kernel
theorem dX5_wordIs_14 : decode cX5_wordIs 14 = .ok (.ireturn, 1) := by decide +kernel
theorem dX5_wordIs_15 : decode cX5_wordIs 15 = .ok (.iconst 0, 1) := by decide +kernel
theorem dX5_wordIs_16 : decode cX5_wordIs 16 = .ok (.istore_n 3, 1) := by decide +kernel
theorem dX5_wordIs_17 : decode cX5_wordIs 17 = .ok (.iload_n 3, 1) := by decide +kernel
theorem dX5_wordIs_18 : decode cX5_wordIs 18 = .ok (.aload_n 1, 1) := by decide +kernel
theorem dX5_wordIs_19 : decode cX5_wordIs 19 = .ok (.invokevirtual 103, 3) := by decide +kernel
theorem dX5_wordIs_22 : decode cX5_wordIs 22 = .ok (.if_icmp .ge 26, 3) := by decide +kernel
theorem dX5_wordIs_25 : decode cX5_wordIs 25 = .ok (.aload_n 0, 1) := by decide +kernel
theorem dX5_wordIs_26 : decode cX5_wordIs 26 = .ok (.iload_n 2, 1) := by decide +kernel
theorem dX5_wordIs_27 : decode cX5_wordIs 27 = .ok (.iload_n 3, 1) := by decide +kernel
theorem dX5_wordIs_28 : decode cX5_wordIs 28 = .ok (.iadd, 1) := by decide +kernel
theorem dX5_wordIs_29 : decode cX5_wordIs 29 = .ok (.invokevirtual 44, 3) := by decide +kernel
theorem dX5_wordIs_32 : decode cX5_wordIs 32 = .ok (.aload_n 1, 1) := by decide +kernel
theorem dX5_wordIs_33 : decode cX5_wordIs 33 = .ok (.iload_n 3, 1) := by decide +kernel
theorem dX5_wordIs_34 : decode cX5_wordIs 34 = .ok (.invokevirtual 108, 3) := by decide +kernel
theorem dX5_wordIs_37 : decode cX5_wordIs 37 = .ok (.if_icmp .eq 5, 3) := by decide +kernel
theorem dX5_wordIs_40 : decode cX5_wordIs 40 = .ok (.iconst 0, 1) := by decide +kernel
theorem dX5_wordIs_41 : decode cX5_wordIs 41 = .ok (.ireturn, 1) := by decide +kernel
theorem dX5_wordIs_42 : decode cX5_wordIs 42 = .ok (.iinc 3 1, 3) := by decide +kernel
theorem dX5_wordIs_45 : decode cX5_wordIs 45 = .ok (.goto (-28), 3) := by decide +kernel
theorem dX5_wordIs_48 : decode cX5_wordIs 48 = .ok (.iconst 1, 1) := by decide +kernel
theorem dX5_wordIs_49 : decode cX5_wordIs 49 = .ok (.ireturn, 1) := by decide +kernel
theorem dX5_signAt_0 : decode cX5_signAt 0 = .ok (.iload_n 1, 1) := by decide +kernel
theorem dX5_signAt_1 : decode cX5_signAt 1 = .ok (.ifCond .lt 33, 3) := by decide +kernel
theorem dX5_signAt_4 : decode cX5_signAt 4 = .ok (.iload_n 1, 1) := by decide +kernel
theorem dX5_signAt_5 : decode cX5_signAt 5 = .ok (.aload_n 0, 1) := by decide +kernel
theorem dX5_signAt_6 : decode cX5_signAt 6 = .ok (.getfield 19, 3) := by decide +kernel
theorem dX5_signAt_9 : decode cX5_signAt 9 = .ok (.if_icmp .ge 25, 3) := by decide +kernel
theorem dX5_signAt_12 : decode cX5_signAt 12 = .ok (.iload_n 1, 1) := by decide +kernel
theorem dX5_signAt_13 : decode cX5_signAt 13 = .ok (.aload_n 0, 1) := by decide +kernel
theorem dX5_signAt_14 : decode cX5_signAt 14 = .ok (.getfield 9, 3) := by decide +kernel
theorem dX5_signAt_17 : decode cX5_signAt 17 = .ok (.arraylength, 1) := by decide +kernel
theorem dX5_signAt_18 : decode cX5_signAt 18 = .ok (.if_icmp .ge 16, 3) := by decide +kernel
theorem dX5_signAt_21 : decode cX5_signAt 21 = .ok (.aload_n 0, 1) := by decide +kernel
theorem dX5_signAt_22 : decode cX5_signAt 22 = .ok (.getfield 9, 3) := by decide +kernel
theorem dX5_signAt_25 : decode cX5_signAt 25 = .ok (.iload_n 1, 1) := by decide +kernel
theorem dX5_signAt_26 : decode cX5_signAt 26 = .ok (.baload, 1) := by decide +kernel
theorem dX5_signAt_27 : decode cX5_signAt 27 = .ok (.sipush 255, 3) := by decide +kernel
theorem dX5_signAt_30 : decode cX5_signAt 30 = .ok (.iand, 1) := by decide +kernel
theorem dX5_signAt_31 : decode cX5_signAt 31 = .ok (.goto 4, 3) := by decide +kernel
theorem dX5_signAt_34 : decode cX5_signAt 34 = .ok (.iconst (-1), 1) := by decide +kernel
theorem dX5_signAt_35 : decode cX5_signAt 35 = .ok (.ireturn, 1) := by decide +kernel
theorem dX5_isLetter_0 : decode cX5_isLetter 0 = .ok (.iload_n 0, 1) := by decide +kernel
theorem dX5_isLetter_1 : decode cX5_isLetter 1 = .ok (.bipush 97, 2) := by decide +kernel
theorem dX5_isLetter_3 : decode cX5_isLetter 3 = .ok (.if_icmp .lt 13, 3) := by decide +kernel
theorem dX5_isLetter_6 : decode cX5_isLetter 6 = .ok (.iload_n 0, 1) := by decide +kernel
theorem dX5_isLetter_7 : decode cX5_isLetter 7 = .ok (.bipush 122, 2) := by decide +kernel
theorem dX5_isLetter_9 : decode cX5_isLetter 9 = .ok (.if_icmp .gt 7, 3) := by decide +kernel
theorem dX5_isLetter_12 : decode cX5_isLetter 12 = .ok (.iconst 1, 1) := by decide +kernel
theorem dX5_isLetter_13 : decode cX5_isLetter 13 = .ok (.goto 4, 3) := by decide +kernel
theorem dX5_isLetter_16 : decode cX5_isLetter 16 = .ok (.iconst 0, 1) := by decide +kernel
theorem dX5_isLetter_17 : decode cX5_isLetter 17 = .ok (.ireturn, 1) := by decide +kernel
theorem dX5_isFigure_0 : decode cX5_isFigure 0 = .ok (.iload_n 0, 1) := by decide +kernel
theorem dX5_isFigure_1 : decode cX5_isFigure 1 = .ok (.bipush 48, 2) := by decide +kernel
theorem dX5_isFigure_3 : decode cX5_isFigure 3 = .ok (.if_icmp .lt 13, 3) := by decide +kernel
theorem dX5_isFigure_6 : decode cX5_isFigure 6 = .ok (.iload_n 0, 1) := by decide +kernel
theorem dX5_isFigure_7 : decode cX5_isFigure 7 = .ok (.bipush 57, 2) := by decide +kernel
theorem dX5_isFigure_9 : decode cX5_isFigure 9 = .ok (.if_icmp .gt 7, 3) := by decide +kernel
theorem dX5_isFigure_12 : decode cX5_isFigure 12 = .ok (.iconst 1, 1) := by decide +kernel
theorem dX5_isFigure_13 : decode cX5_isFigure 13 = .ok (.goto 4, 3) := by decide +kernel
theorem dX5_isFigure_16 : decode cX5_isFigure 16 = .ok (.iconst 0, 1) := by decide +kernel
theorem dX5_isFigure_17 : decode cX5_isFigure 17 = .ok (.ireturn, 1) := by decide +kernel
theorem dX6_init_0 : decode cX6_init 0 = .ok (.aload_n 0, 1) := by decide +kernel
theorem dX6_init_1 : decode cX6_init 1 = .ok (.invokespecial 1, 3) := by decide +kernel
theorem dX6_init_4 : decode cX6_init 4 = .ok (.aload_n 0, 1) := by decide +kernel
theorem dX6_init_5 : decode cX6_init 5 = .ok (.iconst 0, 1) := by decide +kernel
theorem dX6_init_6 : decode cX6_init 6 = .ok (.iload_n 1, 1) := by decide +kernel
theorem dX6_init_7 : decode cX6_init 7 = .ok (.invokestatic 7, 3) := by decide +kernel
theorem dX6_init_10 : decode cX6_init 10 = .ok (.iconst 4, 1) := by decide +kernel
theorem dX6_init_11 : decode cX6_init 11 = .ok (.imul, 1) := by decide +kernel
theorem dX6_init_12 : decode cX6_init 12 = .ok (.newarray .int, 2) := by decide +kernel
theorem dX6_init_14 : decode cX6_init 14 = .ok (.putfield 15, 3) := by decide +kernel
theorem dX6_init_17 : decode cX6_init 17 = .ok (.return_, 1) := by decide +kernel
theorem dX6_hasRoom_0 : decode cX6_hasRoom 0 = .ok (.aload_n 0, 1) := by decide +kernel
theorem dX6_hasRoom_1 : decode cX6_hasRoom 1 = .ok (.getfield 19, 3) := by decide +kernel
theorem dX6_hasRoom_4 : decode cX6_hasRoom 4 = .ok (.iconst 4, 1) := by decide +kernel
theorem dX6_hasRoom_5 : decode cX6_hasRoom 5 = .ok (.imul, 1) := by decide +kernel
theorem dX6_hasRoom_6 : decode cX6_hasRoom 6 = .ok (.aload_n 0, 1) := by decide +kernel
theorem dX6_hasRoom_7 : decode cX6_hasRoom 7 = .ok (.getfield 15, 3) := by decide +kernel
theorem dX6_hasRoom_10 : decode cX6_hasRoom 10 = .ok (.arraylength, 1) := by decide +kernel
theorem dX6_hasRoom_11 : decode cX6_hasRoom 11 = .ok (.if_icmp .ge 7, 3) := by decide +kernel
theorem dX6_hasRoom_14 : decode cX6_hasRoom 14 = .ok (.iconst 1, 1) := by decide +kernel
theorem dX6_hasRoom_15 : decode cX6_hasRoom 15 = .ok (.goto 4, 3) := by decide +kernel
theorem dX6_hasRoom_18 : decode cX6_hasRoom 18 = .ok (.iconst 0, 1) := by decide +kernel
theorem dX6_hasRoom_19 : decode cX6_hasRoom 19 = .ok (.ireturn, 1) := by decide +kernel
theorem dX6_add_0 : decode cX6_add 0 = .ok (.aload_n 0, 1) := by decide +kernel
theorem dX6_add_1 : decode cX6_add 1 = .ok (.getfield 19, 3) := by decide +kernel
theorem dX6_add_4 : decode cX6_add 4 = .ok (.iconst 4, 1) := by decide +kernel
theorem dX6_add_5 : decode cX6_add 5 = .ok (.imul, 1) := by decide +kernel
theorem dX6_add_6 : decode cX6_add 6 = .ok (.istore 5, 2) := by decide +kernel
theorem dX6_add_8 : decode cX6_add 8 = .ok (.iload 5, 2) := by decide +kernel
theorem dX6_add_10 : decode cX6_add 10 = .ok (.ifCond .lt 64, 3) := by decide +kernel
theorem dX6_add_13 : decode cX6_add 13 = .ok (.iload 5, 2) := by decide +kernel
theorem dX6_add_15 : decode cX6_add 15 = .ok (.iconst 3, 1) := by decide +kernel
theorem dX6_add_16 : decode cX6_add 16 = .ok (.iadd, 1) := by decide +kernel
theorem dX6_add_17 : decode cX6_add 17 = .ok (.aload_n 0, 1) := by decide +kernel
theorem dX6_add_18 : decode cX6_add 18 = .ok (.getfield 15, 3) := by decide +kernel
theorem dX6_add_21 : decode cX6_add 21 = .ok (.arraylength, 1) := by decide +kernel
theorem dX6_add_22 : decode cX6_add 22 = .ok (.if_icmp .ge 52, 3) := by decide +kernel
theorem dX6_add_25 : decode cX6_add 25 = .ok (.aload_n 0, 1) := by decide +kernel
theorem dX6_add_26 : decode cX6_add 26 = .ok (.getfield 15, 3) := by decide +kernel
theorem dX6_add_29 : decode cX6_add 29 = .ok (.iload 5, 2) := by decide +kernel
theorem dX6_add_31 : decode cX6_add 31 = .ok (.iload_n 1, 1) := by decide +kernel
theorem dX6_add_32 : decode cX6_add 32 = .ok (.iastore, 1) := by decide +kernel
theorem dX6_add_33 : decode cX6_add 33 = .ok (.aload_n 0, 1) := by decide +kernel
theorem dX6_add_34 : decode cX6_add 34 = .ok (.getfield 15, 3) := by decide +kernel
theorem dX6_add_37 : decode cX6_add 37 = .ok (.iload 5, 2) := by decide +kernel
theorem dX6_add_39 : decode cX6_add 39 = .ok (.iconst 1, 1) := by decide +kernel
theorem dX6_add_40 : decode cX6_add 40 = .ok (.iadd, 1) := by decide +kernel
theorem dX6_add_41 : decode cX6_add 41 = .ok (.iload_n 2, 1) := by decide +kernel
theorem dX6_add_42 : decode cX6_add 42 = .ok (.iastore, 1) := by decide +kernel
theorem dX6_add_43 : decode cX6_add 43 = .ok (.aload_n 0, 1) := by decide +kernel
theorem dX6_add_44 : decode cX6_add 44 = .ok (.getfield 15, 3) := by decide +kernel
theorem dX6_add_47 : decode cX6_add 47 = .ok (.iload 5, 2) := by decide +kernel
theorem dX6_add_49 : decode cX6_add 49 = .ok (.iconst 2, 1) := by decide +kernel
theorem dX6_add_50 : decode cX6_add 50 = .ok (.iadd, 1) := by decide +kernel
theorem dX6_add_51 : decode cX6_add 51 = .ok (.iload_n 3, 1) := by decide +kernel
theorem dX6_add_52 : decode cX6_add 52 = .ok (.iastore, 1) := by decide +kernel
theorem dX6_add_53 : decode cX6_add 53 = .ok (.aload_n 0, 1) := by decide +kernel
theorem dX6_add_54 : decode cX6_add 54 = .ok (.getfield 15, 3) := by decide +kernel
theorem dX6_add_57 : decode cX6_add 57 = .ok (.iload 5, 2) := by decide +kernel
theorem dX6_add_59 : decode cX6_add 59 = .ok (.iconst 3, 1) := by decide +kernel
theorem dX6_add_60 : decode cX6_add 60 = .ok (.iadd, 1) := by decide +kernel
theorem dX6_add_61 : decode cX6_add 61 = .ok (.iload 4, 2) := by decide +kernel
theorem dX6_add_63 : decode cX6_add 63 = .ok (.iastore, 1) := by decide +kernel
theorem dX6_add_64 : decode cX6_add 64 = .ok (.aload_n 0, 1) := by decide +kernel
theorem dX6_add_65 : decode cX6_add 65 = .ok (.dup, 1) := by decide +kernel
theorem dX6_add_66 : decode cX6_add 66 = .ok (.getfield 19, 3) := by decide +kernel
theorem dX6_add_69 : decode cX6_add 69 = .ok (.iconst 1, 1) := by decide +kernel
theorem dX6_add_70 : decode cX6_add 70 = .ok (.iadd, 1) := by decide +kernel
theorem dX6_add_71 : decode cX6_add 71 = .ok (.putfield 19, 3) := by decide +kernel
theorem dX6_add_74 : decode cX6_add 74 = .ok (.return_, 1) := by decide +kernel
theorem dX6_drop_0 : decode cX6_drop 0 = .ok (.iload_n 1, 1) := by decide +kernel
theorem dX6_drop_1 : decode cX6_drop 1 = .ok (.ifCond .lt 11, 3) := by decide +kernel
theorem dX6_drop_4 : decode cX6_drop 4 = .ok (.iload_n 1, 1) := by decide +kernel
theorem dX6_drop_5 : decode cX6_drop 5 = .ok (.aload_n 0, 1) := by decide +kernel
theorem dX6_drop_6 : decode cX6_drop 6 = .ok (.getfield 19, 3) := by decide +kernel
theorem dX6_drop_9 : decode cX6_drop 9 = .ok (.if_icmp .lt 4, 3) := by decide +kernel
theorem dX6_drop_12 : decode cX6_drop 12 = .ok (.return_, 1) := by decide +kernel
theorem dX6_drop_13 : decode cX6_drop 13 = .ok (.iload_n 1, 1) := by decide +kernel
theorem dX6_drop_14 : decode cX6_drop 14 = .ok (.iconst 4, 1) := by decide +kernel
theorem dX6_drop_15 : decode cX6_drop 15 = .ok (.imul, 1) := by decide +kernel
theorem dX6_drop_16 : decode cX6_drop 16 = .ok (.istore_n 2, 1) := by decide +kernel
theorem dX6_drop_17 : decode cX6_drop 17 = .ok (.iload_n 2, 1) := by decide +kernel
theorem dX6_drop_18 : decode cX6_drop 18 = .ok (.iconst 4, 1) := by decide +kernel
theorem dX6_drop_19 : decode cX6_drop 19 = .ok (.iadd, 1) := by decide +kernel
theorem dX6_drop_20 : decode cX6_drop 20 = .ok (.aload_n 0, 1) := by decide +kernel
theorem dX6_drop_21 : decode cX6_drop 21 = .ok (.getfield 15, 3) := by decide +kernel
theorem dX6_drop_24 : decode cX6_drop 24 = .ok (.arraylength, 1) := by decide +kernel
theorem dX6_drop_25 : decode cX6_drop 25 = .ok (.if_icmp .ge 23, 3) := by decide +kernel
theorem dX6_drop_28 : decode cX6_drop 28 = .ok (.aload_n 0, 1) := by decide +kernel
theorem dX6_drop_29 : decode cX6_drop 29 = .ok (.getfield 15, 3) := by decide +kernel
theorem dX6_drop_32 : decode cX6_drop 32 = .ok (.iload_n 2, 1) := by decide +kernel
theorem dX6_drop_33 : decode cX6_drop 33 = .ok (.aload_n 0, 1) := by decide +kernel
theorem dX6_drop_34 : decode cX6_drop 34 = .ok (.getfield 15, 3) := by decide +kernel
theorem dX6_drop_37 : decode cX6_drop 37 = .ok (.iload_n 2, 1) := by decide +kernel
theorem dX6_drop_38 : decode cX6_drop 38 = .ok (.iconst 4, 1) := by decide +kernel
theorem dX6_drop_39 : decode cX6_drop 39 = .ok (.iadd, 1) := by decide +kernel
theorem dX6_drop_40 : decode cX6_drop 40 = .ok (.iaload, 1) := by decide +kernel
theorem dX6_drop_41 : decode cX6_drop 41 = .ok (.iastore, 1) := by decide +kernel
theorem dX6_drop_42 : decode cX6_drop 42 = .ok (.iinc 2 1, 3) := by decide +kernel
theorem dX6_drop_45 : decode cX6_drop 45 = .ok (.goto (-28), 3) := by decide +kernel
theorem dX6_drop_48 : decode cX6_drop 48 = .ok (.aload_n 0, 1) := by decide +kernel
theorem dX6_drop_49 : decode cX6_drop 49 = .ok (.dup, 1) := by decide +kernel
theorem dX6_drop_50 : decode cX6_drop 50 = .ok (.getfield 19, 3) := by decide +kernel
theorem dX6_drop_53 : decode cX6_drop 53 = .ok (.iconst 1, 1) := by decide +kernel
theorem dX6_drop_54 : decode cX6_drop 54 = .ok (.isub, 1) := by decide +kernel
theorem dX6_drop_55 : decode cX6_drop 55 = .ok (.putfield 19, 3) := by decide +kernel
theorem dX6_drop_58 : decode cX6_drop 58 = .ok (.return_, 1) := by decide +kernel
theorem dX6_copy_0 : decode cX6_copy 0 = .ok (.iconst 0, 1) := by decide +kernel
theorem dX6_copy_1 : decode cX6_copy 1 = .ok (.istore_n 2, 1) := by decide +kernel
theorem dX6_copy_2 : decode cX6_copy 2 = .ok (.iload_n 2, 1) := by decide +kernel
theorem dX6_copy_3 : decode cX6_copy 3 = .ok (.aload_n 0, 1) := by decide +kernel
theorem dX6_copy_4 : decode cX6_copy 4 = .ok (.getfield 15, 3) := by decide +kernel
theorem dX6_copy_7 : decode cX6_copy 7 = .ok (.arraylength, 1) := by decide +kernel
theorem dX6_copy_8 : decode cX6_copy 8 = .ok (.if_icmp .ge 30, 3) := by decide +kernel
theorem dX6_copy_11 : decode cX6_copy 11 = .ok (.iload_n 2, 1) := by decide +kernel
theorem dX6_copy_12 : decode cX6_copy 12 = .ok (.aload_n 1, 1) := by decide +kernel
theorem dX6_copy_13 : decode cX6_copy 13 = .ok (.getfield 15, 3) := by decide +kernel
theorem dX6_copy_16 : decode cX6_copy 16 = .ok (.arraylength, 1) := by decide +kernel
theorem dX6_copy_17 : decode cX6_copy 17 = .ok (.if_icmp .ge 21, 3) := by decide +kernel
theorem dX6_copy_20 : decode cX6_copy 20 = .ok (.aload_n 0, 1) := by decide +kernel
theorem dX6_copy_21 : decode cX6_copy 21 = .ok (.getfield 15, 3) := by decide +kernel
theorem dX6_copy_24 : decode cX6_copy 24 = .ok (.iload_n 2, 1) := by decide +kernel
theorem dX6_copy_25 : decode cX6_copy 25 = .ok (.aload_n 1, 1) := by decide +kernel
theorem dX6_copy_26 : decode cX6_copy 26 = .ok (.getfield 15, 3) := by decide +kernel
theorem dX6_copy_29 : decode cX6_copy 29 = .ok (.iload_n 2, 1) := by decide +kernel
theorem dX6_copy_30 : decode cX6_copy 30 = .ok (.iaload, 1) := by decide +kernel
theorem dX6_copy_31 : decode cX6_copy 31 = .ok (.iastore, 1) := by decide +kernel
theorem dX6_copy_32 : decode cX6_copy 32 = .ok (.iinc 2 1, 3) := by decide +kernel
theorem dX6_copy_35 : decode cX6_copy 35 = .ok (.goto (-33), 3) := by decide +kernel
theorem dX6_copy_38 : decode cX6_copy 38 = .ok (.aload_n 0, 1) := by decide +kernel
theorem dX6_copy_39 : decode cX6_copy 39 = .ok (.aload_n 1, 1) := by decide +kernel
theorem dX6_copy_40 : decode cX6_copy 40 = .ok (.getfield 19, 3) := by decide +kernel
theorem dX6_copy_43 : decode cX6_copy 43 = .ok (.putfield 19, 3) := by decide +kernel
theorem dX6_copy_46 : decode cX6_copy 46 = .ok (.return_, 1) := by decide +kernel
theorem dX6_bathAt_0 : decode cX6_bathAt 0 = .ok (.aload_n 0, 1) := by decide +kernel
theorem dX6_bathAt_1 : decode cX6_bathAt 1 = .ok (.iload_n 1, 1) := by decide +kernel
theorem dX6_bathAt_2 : decode cX6_bathAt 2 = .ok (.iconst 0, 1) := by decide +kernel
theorem dX6_bathAt_3 : decode cX6_bathAt 3 = .ok (.invokevirtual 23, 3) := by decide +kernel
theorem dX6_bathAt_6 : decode cX6_bathAt 6 = .ok (.ireturn, 1) := by decide +kernel
theorem dX6_hourAt_0 : decode cX6_hourAt 0 = .ok (.aload_n 0, 1) := by decide +kernel
theorem dX6_hourAt_1 : decode cX6_hourAt 1 = .ok (.iload_n 1, 1) := by decide +kernel
theorem dX6_hourAt_2 : decode cX6_hourAt 2 = .ok (.iconst 1, 1) := by decide +kernel
theorem dX6_hourAt_3 : decode cX6_hourAt 3 = .ok (.invokevirtual 23, 3) := by decide +kernel
theorem dX6_hourAt_6 : decode cX6_hourAt 6 = .ok (.ireturn, 1) := by decide +kernel
theorem dX6_setAt_0 : decode cX6_setAt 0 = .ok (.aload_n 0, 1) := by decide +kernel
theorem dX6_setAt_1 : decode cX6_setAt 1 = .ok (.iload_n 1, 1) := by decide +kernel
theorem dX6_setAt_2 : decode cX6_setAt 2 = .ok (.iconst 2, 1) := by decide +kernel
theorem dX6_setAt_3 : decode cX6_setAt 3 = .ok (.invokevirtual 23, 3) := by decide +kernel
theorem dX6_setAt_6 : decode cX6_setAt 6 = .ok (.ireturn, 1) := by decide +kernel
theorem dX6_heightAt_0 : decode cX6_heightAt 0 = .ok (.aload_n 0, 1) := by decide +kernel
theorem dX6_heightAt_1 : decode cX6_heightAt 1 = .ok (.iload_n 1, 1) := by decide +kernel
theorem dX6_heightAt_2 : decode cX6_heightAt 2 = .ok (.iconst 3, 1) := by decide +kernel
theorem dX6_heightAt_3 : decode cX6_heightAt 3 = .ok (.invokevirtual 23, 3) := by decide +kernel
theorem dX6_heightAt_6 : decode cX6_heightAt 6 = .ok (.ireturn, 1) := by decide +kernel
theorem dX6_cellAt_0 : decode cX6_cellAt 0 = .ok (.iload_n 1, 1) := by decide +kernel
theorem dX6_cellAt_1 : decode cX6_cellAt 1 = .ok (.iconst 4, 1) := by decide +kernel
theorem dX6_cellAt_2 : decode cX6_cellAt 2 = .ok (.imul, 1) := by decide +kernel
theorem dX6_cellAt_3 : decode cX6_cellAt 3 = .ok (.iload_n 2, 1) := by decide +kernel
theorem dX6_cellAt_4 : decode cX6_cellAt 4 = .ok (.iadd, 1) := by decide +kernel
theorem dX6_cellAt_5 : decode cX6_cellAt 5 = .ok (.istore_n 3, 1) := by decide +kernel
theorem dX6_cellAt_6 : decode cX6_cellAt 6 = .ok (.iload_n 1, 1) := by decide +kernel
theorem dX6_cellAt_7 : decode cX6_cellAt 7 = .ok (.ifCond .lt 33, 3) := by decide +kernel
theorem dX6_cellAt_10 : decode cX6_cellAt 10 = .ok (.iload_n 1, 1) := by decide +kernel
theorem dX6_cellAt_11 : decode cX6_cellAt 11 = .ok (.aload_n 0, 1) := by decide +kernel
theorem dX6_cellAt_12 : decode cX6_cellAt 12 = .ok (.getfield 19, 3) := by decide +kernel
theorem dX6_cellAt_15 : decode cX6_cellAt 15 = .ok (.if_icmp .ge 25, 3) := by decide +kernel
theorem dX6_cellAt_18 : decode cX6_cellAt 18 = .ok (.iload_n 3, 1) := by decide +kernel
theorem dX6_cellAt_19 : decode cX6_cellAt 19 = .ok (.ifCond .lt 21, 3) := by decide +kernel
theorem dX6_cellAt_22 : decode cX6_cellAt 22 = .ok (.iload_n 3, 1) := by decide +kernel
theorem dX6_cellAt_23 : decode cX6_cellAt 23 = .ok (.aload_n 0, 1) := by decide +kernel
theorem dX6_cellAt_24 : decode cX6_cellAt 24 = .ok (.getfield 15, 3) := by decide +kernel
theorem dX6_cellAt_27 : decode cX6_cellAt 27 = .ok (.arraylength, 1) := by decide +kernel
theorem dX6_cellAt_28 : decode cX6_cellAt 28 = .ok (.if_icmp .ge 12, 3) := by decide +kernel
theorem dX6_cellAt_31 : decode cX6_cellAt 31 = .ok (.aload_n 0, 1) := by decide +kernel
theorem dX6_cellAt_32 : decode cX6_cellAt 32 = .ok (.getfield 15, 3) := by decide +kernel
theorem dX6_cellAt_35 : decode cX6_cellAt 35 = .ok (.iload_n 3, 1) := by decide +kernel
theorem dX6_cellAt_36 : decode cX6_cellAt 36 = .ok (.iaload, 1) := by decide +kernel
theorem dX6_cellAt_37 : decode cX6_cellAt 37 = .ok (.goto 4, 3) := by decide +kernel
theorem dX6_cellAt_40 : decode cX6_cellAt 40 = .ok (.iconst 0, 1) := by decide +kernel
theorem dX6_cellAt_41 : decode cX6_cellAt 41 = .ok (.ireturn, 1) := by decide +kernel
theorem dX7_init_0 : decode cX7_init 0 = .ok (.aload_n 0, 1) := by decide +kernel
theorem dX7_init_1 : decode cX7_init 1 = .ok (.invokespecial 1, 3) := by decide +kernel
theorem dX7_init_4 : decode cX7_init 4 = .ok (.aload_n 0, 1) := by decide +kernel
theorem dX7_init_5 : decode cX7_init 5 = .ok (.new 7, 3) := by decide +kernel
theorem dX7_init_8 : decode cX7_init 8 = .ok (.dup, 1) := by decide +kernel
theorem dX7_init_9 : decode cX7_init 9 = .ok (.invokespecial 9, 3) := by decide +kernel
theorem dX7_init_12 : decode cX7_init 12 = .ok (.putfield 10, 3) := by decide +kernel
theorem dX7_init_15 : decode cX7_init 15 = .ok (.aload_n 0, 1) := by decide +kernel
theorem dX7_init_16 : decode cX7_init 16 = .ok (.new 16, 3) := by decide +kernel
theorem dX7_init_19 : decode cX7_init 19 = .ok (.dup, 1) := by decide +kernel
theorem dX7_init_20 : decode cX7_init 20 = .ok (.bipush 12, 2) := by decide +kernel
theorem dX7_init_22 : decode cX7_init 22 = .ok (.invokespecial 18, 3) := by decide +kernel
theorem dX7_init_25 : decode cX7_init 25 = .ok (.putfield 21, 3) := by decide +kernel
theorem dX7_init_28 : decode cX7_init 28 = .ok (.aload_n 0, 1) := by decide +kernel
theorem dX7_init_29 : decode cX7_init 29 = .ok (.new 16, 3) := by decide +kernel
theorem dX7_init_32 : decode cX7_init 32 = .ok (.dup, 1) := by decide +kernel
theorem dX7_init_33 : decode cX7_init 33 = .ok (.bipush 30, 2) := by decide +kernel
theorem dX7_init_35 : decode cX7_init 35 = .ok (.invokespecial 18, 3) := by decide +kernel
theorem dX7_init_38 : decode cX7_init 38 = .ok (.putfield 25, 3) := by decide +kernel
theorem dX7_init_41 : decode cX7_init 41 = .ok (.aload_n 0, 1) := by decide +kernel
theorem dX7_init_42 : decode cX7_init 42 = .ok (.new 28, 3) := by decide +kernel
theorem dX7_init_45 : decode cX7_init 45 = .ok (.dup, 1) := by decide +kernel
theorem dX7_init_46 : decode cX7_init 46 = .ok (.invokespecial 30, 3) := by decide +kernel
theorem dX7_init_49 : decode cX7_init 49 = .ok (.putfield 31, 3) := by decide +kernel
theorem dX7_init_52 : decode cX7_init 52 = .ok (.aload_n 0, 1) := by decide +kernel
theorem dX7_init_53 : decode cX7_init 53 = .ok (.new 28, 3) := by decide +kernel
theorem dX7_init_56 : decode cX7_init 56 = .ok (.dup, 1) := by decide +kernel
theorem dX7_init_57 : decode cX7_init 57 = .ok (.invokespecial 30, 3) := by decide +kernel
theorem dX7_init_60 : decode cX7_init 60 = .ok (.putfield 35, 3) := by decide +kernel
theorem dX7_init_63 : decode cX7_init 63 = .ok (.aload_n 0, 1) := by decide +kernel
theorem dX7_init_64 : decode cX7_init 64 = .ok (.new 38, 3) := by decide +kernel
theorem dX7_init_67 : decode cX7_init 67 = .ok (.dup, 1) := by decide +kernel
theorem dX7_init_68 : decode cX7_init 68 = .ok (.invokespecial 40, 3) := by decide +kernel
theorem dX7_init_71 : decode cX7_init 71 = .ok (.putfield 41, 3) := by decide +kernel
theorem dX7_init_74 : decode cX7_init 74 = .ok (.aload_n 0, 1) := by decide +kernel
theorem dX7_init_75 : decode cX7_init 75 = .ok (.new 45, 3) := by decide +kernel
theorem dX7_init_78 : decode cX7_init 78 = .ok (.dup, 1) := by decide +kernel
theorem dX7_init_79 : decode cX7_init 79 = .ok (.invokespecial 47, 3) := by decide +kernel
theorem dX7_init_82 : decode cX7_init 82 = .ok (.putfield 48, 3) := by decide +kernel
theorem dX7_init_85 : decode cX7_init 85 = .ok (.aload_n 0, 1) := by decide +kernel
theorem dX7_init_86 : decode cX7_init 86 = .ok (.new 52, 3) := by decide +kernel
theorem dX7_init_89 : decode cX7_init 89 = .ok (.dup, 1) := by decide +kernel
theorem dX7_init_90 : decode cX7_init 90 = .ok (.invokespecial 54, 3) := by decide +kernel
theorem dX7_init_93 : decode cX7_init 93 = .ok (.putfield 55, 3) := by decide +kernel
theorem dX7_init_96 : decode cX7_init 96 = .ok (.aload_n 0, 1) := by decide +kernel
theorem dX7_init_97 : decode cX7_init 97 = .ok (.new 59, 3) := by decide +kernel
theorem dX7_init_100 : decode cX7_init 100 = .ok (.dup, 1) := by decide +kernel
theorem dX7_init_101 : decode cX7_init 101 = .ok (.invokespecial 61, 3) := by decide +kernel
theorem dX7_init_104 : decode cX7_init 104 = .ok (.putfield 62, 3) := by decide +kernel
theorem dX7_init_107 : decode cX7_init 107 = .ok (.aload_n 0, 1) := by decide +kernel
theorem dX7_init_108 : decode cX7_init 108 = .ok (.new 59, 3) := by decide +kernel
theorem dX7_init_111 : decode cX7_init 111 = .ok (.dup, 1) := by decide +kernel
theorem dX7_init_112 : decode cX7_init 112 = .ok (.invokespecial 61, 3) := by decide +kernel
theorem dX7_init_115 : decode cX7_init 115 = .ok (.putfield 66, 3) := by decide +kernel
theorem dX7_init_118 : decode cX7_init 118 = .ok (.return_, 1) := by decide +kernel
theorem dX7_feed_0 : decode cX7_feed 0 = .ok (.iload_n 1, 1) := by decide +kernel
theorem dX7_feed_1 : decode cX7_feed 1 = .ok (.iconst 1, 1) := by decide +kernel
theorem dX7_feed_2 : decode cX7_feed 2 = .ok (.if_icmp .lt 9, 3) := by decide +kernel
theorem dX7_feed_5 : decode cX7_feed 5 = .ok (.iload_n 1, 1) := by decide +kernel
theorem dX7_feed_6 : decode cX7_feed 6 = .ok (.bipush 8, 2) := by decide +kernel
theorem dX7_feed_8 : decode cX7_feed 8 = .ok (.if_icmp .le 6, 3) := by decide +kernel
theorem dX7_feed_11 : decode cX7_feed 11 = .ok (.ldc 69, 2) := by decide +kernel
theorem dX7_feed_13 : decode cX7_feed 13 = .ok (.ireturn, 1) := by decide +kernel
theorem dX7_feed_14 : decode cX7_feed 14 = .ok (.aload_n 0, 1) := by decide +kernel
theorem dX7_feed_15 : decode cX7_feed 15 = .ok (.getfield 10, 3) := by decide +kernel
theorem dX7_feed_18 : decode cX7_feed 18 = .ok (.iload_n 1, 1) := by decide +kernel
theorem dX7_feed_19 : decode cX7_feed 19 = .ok (.lload_n 2, 1) := by decide +kernel
theorem dX7_feed_20 : decode cX7_feed 20 = .ok (.invokevirtual 70, 3) := by decide +kernel
theorem dX7_feed_23 : decode cX7_feed 23 = .ok (.ifCond .eq 13, 3) := by decide +kernel
theorem dX7_feed_26 : decode cX7_feed 26 = .ok (.aload_n 0, 1) := by decide +kernel
theorem dX7_feed_27 : decode cX7_feed 27 = .ok (.getfield 10, 3) := by decide +kernel
theorem dX7_feed_30 : decode cX7_feed 30 = .ok (.getfield 74, 3) := by decide +kernel
theorem dX7_feed_33 : decode cX7_feed 33 = .ok (.goto 5, 3) := by decide +kernel
theorem dX7_feed_36 : decode cX7_feed 36 = .ok (.ldc 78, 2) := by decide +kernel
theorem dX7_feed_38 : decode cX7_feed 38 = .ok (.ireturn, 1) := by decide +kernel
theorem dX7_house_0 : decode cX7_house 0 = .ok (.aload_n 0, 1) := by decide +kernel
theorem dX7_house_1 : decode cX7_house 1 = .ok (.getfield 10, 3) := by decide +kernel
theorem dX7_house_4 : decode cX7_house 4 = .ok (.aload_n 0, 1) := by decide +kernel
theorem dX7_house_5 : decode cX7_house 5 = .ok (.getfield 66, 3) := by decide +kernel
theorem dX7_house_8 : decode cX7_house 8 = .ok (.invokevirtual 79, 3) := by decide +kernel
theorem dX7_house_11 : decode cX7_house 11 = .ok (.aload_n 0, 1) := by decide +kernel
theorem dX7_house_12 : decode cX7_house 12 = .ok (.getfield 10, 3) := by decide +kernel
theorem dX7_house_15 : decode cX7_house 15 = .ok (.getfield 83, 3) := by decide +kernel
theorem dX7_house_18 : decode cX7_house 18 = .ok (.ifCond .eq 14, 3) := by decide +kernel
theorem dX7_house_21 : decode cX7_house 21 = .ok (.bipush (-10), 2) := by decide +kernel
theorem dX7_house_23 : decode cX7_house 23 = .ok (.aload_n 0, 1) := by decide +kernel
theorem dX7_house_24 : decode cX7_house 24 = .ok (.getfield 10, 3) := by decide +kernel
theorem dX7_house_27 : decode cX7_house 27 = .ok (.getfield 83, 3) := by decide +kernel
theorem dX7_house_30 : decode cX7_house 30 = .ok (.isub, 1) := by decide +kernel
theorem dX7_house_31 : decode cX7_house 31 = .ok (.ireturn, 1) := by decide +kernel
theorem dX7_house_32 : decode cX7_house 32 = .ok (.aload_n 0, 1) := by decide +kernel
theorem dX7_house_33 : decode cX7_house 33 = .ok (.getfield 62, 3) := by decide +kernel
theorem dX7_house_36 : decode cX7_house 36 = .ok (.astore_n 1, 1) := by decide +kernel
theorem dX7_house_37 : decode cX7_house 37 = .ok (.aload_n 0, 1) := by decide +kernel
theorem dX7_house_38 : decode cX7_house 38 = .ok (.aload_n 0, 1) := by decide +kernel
theorem dX7_house_39 : decode cX7_house 39 = .ok (.getfield 66, 3) := by decide +kernel
theorem dX7_house_42 : decode cX7_house 42 = .ok (.putfield 62, 3) := by decide +kernel
theorem dX7_house_45 : decode cX7_house 45 = .ok (.aload_n 0, 1) := by decide +kernel
theorem dX7_house_46 : decode cX7_house 46 = .ok (.aload_n 1, 1) := by decide +kernel
theorem dX7_house_47 : decode cX7_house 47 = .ok (.putfield 66, 3) := by decide +kernel
theorem dX7_house_50 : decode cX7_house 50 = .ok (.aload_n 0, 1) := by decide +kernel
theorem dX7_house_51 : decode cX7_house 51 = .ok (.getfield 21, 3) := by decide +kernel
theorem dX7_house_54 : decode cX7_house 54 = .ok (.iconst 0, 1) := by decide +kernel
theorem dX7_house_55 : decode cX7_house 55 = .ok (.putfield 86, 3) := by decide +kernel
theorem dX7_house_58 : decode cX7_house 58 = .ok (.aload_n 0, 1) := by decide +kernel
theorem dX7_house_59 : decode cX7_house 59 = .ok (.getfield 25, 3) := by decide +kernel
theorem dX7_house_62 : decode cX7_house 62 = .ok (.iconst 0, 1) := by decide +kernel
theorem dX7_house_63 : decode cX7_house 63 = .ok (.putfield 86, 3) := by decide +kernel
theorem dX7_house_66 : decode cX7_house 66 = .ok (.aload_n 0, 1) := by decide +kernel
theorem dX7_house_67 : decode cX7_house 67 = .ok (.getfield 31, 3) := by decide +kernel
theorem dX7_house_70 : decode cX7_house 70 = .ok (.iconst 0, 1) := by decide +kernel
theorem dX7_house_71 : decode cX7_house 71 = .ok (.putfield 89, 3) := by decide +kernel
theorem dX7_house_74 : decode cX7_house 74 = .ok (.aload_n 0, 1) := by decide +kernel
theorem dX7_house_75 : decode cX7_house 75 = .ok (.getfield 35, 3) := by decide +kernel
theorem dX7_house_78 : decode cX7_house 78 = .ok (.iconst 0, 1) := by decide +kernel
theorem dX7_house_79 : decode cX7_house 79 = .ok (.putfield 89, 3) := by decide +kernel
theorem dX7_house_82 : decode cX7_house 82 = .ok (.aload_n 0, 1) := by decide +kernel
theorem dX7_house_83 : decode cX7_house 83 = .ok (.getfield 55, 3) := by decide +kernel
theorem dX7_house_86 : decode cX7_house 86 = .ok (.iconst 0, 1) := by decide +kernel
theorem dX7_house_87 : decode cX7_house 87 = .ok (.putfield 93, 3) := by decide +kernel
theorem dX7_house_90 : decode cX7_house 90 = .ok (.aload_n 0, 1) := by decide +kernel
theorem dX7_house_91 : decode cX7_house 91 = .ok (.invokevirtual 96, 3) := by decide +kernel
theorem dX7_house_94 : decode cX7_house 94 = .ok (.aload_n 0, 1) := by decide +kernel
theorem dX7_house_95 : decode cX7_house 95 = .ok (.getfield 62, 3) := by decide +kernel
theorem dX7_house_98 : decode cX7_house 98 = .ok (.getfield 99, 3) := by decide +kernel
theorem dX7_house_101 : decode cX7_house 101 = .ok (.ireturn, 1) := by decide +kernel
theorem dX7_fault_0 : decode cX7_fault 0 = .ok (.aload_n 0, 1) := by decide +kernel
theorem dX7_fault_1 : decode cX7_fault 1 = .ok (.getfield 10, 3) := by decide +kernel
theorem dX7_fault_4 : decode cX7_fault 4 = .ok (.getfield 102, 3) := by decide +kernel
theorem dX7_fault_7 : decode cX7_fault 7 = .ok (.ireturn, 1) := by decide +kernel
theorem dX7_told_0 : decode cX7_told 0 = .ok (.iload_n 1, 1) := by decide +kernel
theorem dX7_told_1 : decode cX7_told 1 = .ok (.tableswitch 107 0 6 #[43, 51, 59, 67, 75, 83, 91], 43) := by decide +kernel
theorem dX7_told_44 : decode cX7_told 44 = .ok (.aload_n 0, 1) := by decide +kernel
theorem dX7_told_45 : decode cX7_told 45 = .ok (.getfield 62, 3) := by decide +kernel
theorem dX7_told_48 : decode cX7_told 48 = .ok (.getfield 105, 3) := by decide +kernel
theorem dX7_told_51 : decode cX7_told 51 = .ok (.ireturn, 1) := by decide +kernel
theorem dX7_told_52 : decode cX7_told 52 = .ok (.aload_n 0, 1) := by decide +kernel
theorem dX7_told_53 : decode cX7_told 53 = .ok (.getfield 62, 3) := by decide +kernel
theorem dX7_told_56 : decode cX7_told 56 = .ok (.getfield 99, 3) := by decide +kernel
theorem dX7_told_59 : decode cX7_told 59 = .ok (.ireturn, 1) := by decide +kernel
theorem dX7_told_60 : decode cX7_told 60 = .ok (.aload_n 0, 1) := by decide +kernel
theorem dX7_told_61 : decode cX7_told 61 = .ok (.getfield 62, 3) := by decide +kernel
theorem dX7_told_64 : decode cX7_told 64 = .ok (.getfield 108, 3) := by decide +kernel
theorem dX7_told_67 : decode cX7_told 67 = .ok (.ireturn, 1) := by decide +kernel
theorem dX7_told_68 : decode cX7_told 68 = .ok (.aload_n 0, 1) := by decide +kernel
theorem dX7_told_69 : decode cX7_told 69 = .ok (.getfield 21, 3) := by decide +kernel
theorem dX7_told_72 : decode cX7_told 72 = .ok (.getfield 86, 3) := by decide +kernel
theorem dX7_told_75 : decode cX7_told 75 = .ok (.ireturn, 1) := by decide +kernel
theorem dX7_told_76 : decode cX7_told 76 = .ok (.aload_n 0, 1) := by decide +kernel
theorem dX7_told_77 : decode cX7_told 77 = .ok (.getfield 25, 3) := by decide +kernel
theorem dX7_told_80 : decode cX7_told 80 = .ok (.getfield 86, 3) := by decide +kernel
theorem dX7_told_83 : decode cX7_told 83 = .ok (.ireturn, 1) := by decide +kernel
theorem dX7_told_84 : decode cX7_told 84 = .ok (.aload_n 0, 1) := by decide +kernel
theorem dX7_told_85 : decode cX7_told 85 = .ok (.getfield 10, 3) := by decide +kernel
theorem dX7_told_88 : decode cX7_told 88 = .ok (.getfield 74, 3) := by decide +kernel
theorem dX7_told_91 : decode cX7_told 91 = .ok (.ireturn, 1) := by decide +kernel
theorem dX7_told_92 : decode cX7_told 92 = .ok (.aload_n 0, 1) := by decide +kernel
theorem dX7_told_93 : decode cX7_told 93 = .ok (.getfield 41, 3) := by decide +kernel
theorem dX7_told_96 : decode cX7_told 96 = .ok (.getfield 111, 3) := by decide +kernel
theorem dX7_told_99 : decode cX7_told 99 = .ok (.ifCond .eq 7, 3) := by decide +kernel
theorem dX7_told_102 : decode cX7_told 102 = .ok (.iconst 1, 1) := by decide +kernel
theorem dX7_told_103 : decode cX7_told 103 = .ok (.goto 4, 3) := by decide +kernel
theorem dX7_told_106 : decode cX7_told 106 = .ok (.iconst 0, 1) := by decide +kernel
theorem dX7_told_107 : decode cX7_told 107 = .ok (.ireturn, 1) := by decide +kernel
theorem dX7_told_108 : decode cX7_told 108 = .ok (.ldc 69, 2) := by decide +kernel
theorem dX7_told_110 : decode cX7_told 110 = .ok (.ireturn, 1) := by decide +kernel
theorem dX7_bath_0 : decode cX7_bath 0 = .ok (.aload_n 0, 1) := by decide +kernel
theorem dX7_bath_1 : decode cX7_bath 1 = .ok (.getfield 62, 3) := by decide +kernel
theorem dX7_bath_4 : decode cX7_bath 4 = .ok (.iload_n 1, 1) := by decide +kernel
theorem dX7_bath_5 : decode cX7_bath 5 = .ok (.invokevirtual 114, 3) := by decide +kernel
theorem dX7_bath_8 : decode cX7_bath 8 = .ok (.ifCond .ne 6, 3) := by decide +kernel
theorem dX7_bath_11 : decode cX7_bath 11 = .ok (.ldc 118, 2) := by decide +kernel
theorem dX7_bath_13 : decode cX7_bath 13 = .ok (.ireturn, 1) := by decide +kernel
theorem dX7_bath_14 : decode cX7_bath 14 = .ok (.iload_n 2, 1) := by decide +kernel
theorem dX7_bath_15 : decode cX7_bath 15 = .ok (.ifCond .lt 8, 3) := by decide +kernel
theorem dX7_bath_18 : decode cX7_bath 18 = .ok (.iload_n 2, 1) := by decide +kernel
theorem dX7_bath_19 : decode cX7_bath 19 = .ok (.iconst 3, 1) := by decide +kernel
theorem dX7_bath_20 : decode cX7_bath 20 = .ok (.if_icmp .le 8, 3) := by decide +kernel
theorem dX7_bath_23 : decode cX7_bath 23 = .ok (.ldc 69, 2) := by decide +kernel
theorem dX7_bath_25 : decode cX7_bath 25 = .ok (.goto 12, 3) := by decide +kernel
theorem dX7_bath_28 : decode cX7_bath 28 = .ok (.aload_n 0, 1) := by decide +kernel
theorem dX7_bath_29 : decode cX7_bath 29 = .ok (.getfield 62, 3) := by decide +kernel
theorem dX7_bath_32 : decode cX7_bath 32 = .ok (.iload_n 1, 1) := by decide +kernel
theorem dX7_bath_33 : decode cX7_bath 33 = .ok (.iload_n 2, 1) := by decide +kernel
theorem dX7_bath_34 : decode cX7_bath 34 = .ok (.invokevirtual 119, 3) := by decide +kernel
theorem dX7_bath_37 : decode cX7_bath 37 = .ok (.ireturn, 1) := by decide +kernel
theorem dX7_bather_0 : decode cX7_bather 0 = .ok (.aload_n 0, 1) := by decide +kernel
theorem dX7_bather_1 : decode cX7_bather 1 = .ok (.getfield 62, 3) := by decide +kernel
theorem dX7_bather_4 : decode cX7_bather 4 = .ok (.iload_n 1, 1) := by decide +kernel
theorem dX7_bather_5 : decode cX7_bather 5 = .ok (.invokevirtual 123, 3) := by decide +kernel
theorem dX7_bather_8 : decode cX7_bather 8 = .ok (.ifCond .ne 6, 3) := by decide +kernel
theorem dX7_bather_11 : decode cX7_bather 11 = .ok (.ldc 118, 2) := by decide +kernel
theorem dX7_bather_13 : decode cX7_bather 13 = .ok (.ireturn, 1) := by decide +kernel
theorem dX7_bather_14 : decode cX7_bather 14 = .ok (.iload_n 2, 1) := by decide +kernel
theorem dX7_bather_15 : decode cX7_bather 15 = .ok (.iconst 4, 1) := by decide +kernel
theorem dX7_bather_16 : decode cX7_bather 16 = .ok (.if_icmp .ne 14, 3) := by decide +kernel
theorem dX7_bather_19 : decode cX7_bather 19 = .ok (.aload_n 0, 1) := by decide +kernel
theorem dX7_bather_20 : decode cX7_bather 20 = .ok (.getfield 41, 3) := by decide +kernel
theorem dX7_bather_23 : decode cX7_bather 23 = .ok (.iconst 1, 1) := by decide +kernel
theorem dX7_bather_24 : decode cX7_bather 24 = .ok (.iload_n 1, 1) := by decide +kernel
theorem dX7_bather_25 : decode cX7_bather 25 = .ok (.ishl, 1) := by decide +kernel
theorem dX7_bather_26 : decode cX7_bather 26 = .ok (.invokevirtual 126, 3) := by decide +kernel
theorem dX7_bather_29 : decode cX7_bather 29 = .ok (.ireturn, 1) := by decide +kernel
theorem dX7_bather_30 : decode cX7_bather 30 = .ok (.iload_n 2, 1) := by decide +kernel
theorem dX7_bather_31 : decode cX7_bather 31 = .ok (.iconst 5, 1) := by decide +kernel
theorem dX7_bather_32 : decode cX7_bather 32 = .ok (.if_icmp .ne 14, 3) := by decide +kernel
theorem dX7_bather_35 : decode cX7_bather 35 = .ok (.aload_n 0, 1) := by decide +kernel
theorem dX7_bather_36 : decode cX7_bather 36 = .ok (.getfield 41, 3) := by decide +kernel
theorem dX7_bather_39 : decode cX7_bather 39 = .ok (.iconst 1, 1) := by decide +kernel
theorem dX7_bather_40 : decode cX7_bather 40 = .ok (.iload_n 1, 1) := by decide +kernel
theorem dX7_bather_41 : decode cX7_bather 41 = .ok (.ishl, 1) := by decide +kernel
theorem dX7_bather_42 : decode cX7_bather 42 = .ok (.invokevirtual 130, 3) := by decide +kernel
theorem dX7_bather_45 : decode cX7_bather 45 = .ok (.ireturn, 1) := by decide +kernel
theorem dX7_bather_46 : decode cX7_bather 46 = .ok (.iload_n 2, 1) := by decide +kernel
theorem dX7_bather_47 : decode cX7_bather 47 = .ok (.ifCond .lt 8, 3) := by decide +kernel
theorem dX7_bather_50 : decode cX7_bather 50 = .ok (.iload_n 2, 1) := by decide +kernel
theorem dX7_bather_51 : decode cX7_bather 51 = .ok (.iconst 3, 1) := by decide +kernel
theorem dX7_bather_52 : decode cX7_bather 52 = .ok (.if_icmp .le 8, 3) := by decide +kernel
theorem dX7_bather_55 : decode cX7_bather 55 = .ok (.ldc 69, 2) := by decide +kernel
theorem dX7_bather_57 : decode cX7_bather 57 = .ok (.goto 12, 3) := by decide +kernel
theorem dX7_bather_60 : decode cX7_bather 60 = .ok (.aload_n 0, 1) := by decide +kernel
theorem dX7_bather_61 : decode cX7_bather 61 = .ok (.getfield 62, 3) := by decide +kernel
theorem dX7_bather_64 : decode cX7_bather 64 = .ok (.iload_n 1, 1) := by decide +kernel
theorem dX7_bather_65 : decode cX7_bather 65 = .ok (.iload_n 2, 1) := by decide +kernel
theorem dX7_bather_66 : decode cX7_bather 66 = .ok (.invokevirtual 133, 3) := by decide +kernel
theorem dX7_bather_69 : decode cX7_bather 69 = .ok (.ireturn, 1) := by decide +kernel
theorem dX7_height_0 : decode cX7_height 0 = .ok (.aload_n 0, 1) := by decide +kernel
theorem dX7_height_1 : decode cX7_height 1 = .ok (.getfield 62, 3) := by decide +kernel
theorem dX7_height_4 : decode cX7_height 4 = .ok (.iload_n 1, 1) := by decide +kernel
theorem dX7_height_5 : decode cX7_height 5 = .ok (.invokevirtual 114, 3) := by decide +kernel
theorem dX7_height_8 : decode cX7_height 8 = .ok (.ifCond .eq 14, 3) := by decide +kernel
theorem dX7_height_11 : decode cX7_height 11 = .ok (.aload_n 0, 1) := by decide +kernel
theorem dX7_height_12 : decode cX7_height 12 = .ok (.getfield 62, 3) := by decide +kernel
theorem dX7_height_15 : decode cX7_height 15 = .ok (.iload_n 3, 1) := by decide +kernel
theorem dX7_height_16 : decode cX7_height 16 = .ok (.invokevirtual 136, 3) := by decide +kernel
theorem dX7_height_19 : decode cX7_height 19 = .ok (.ifCond .ne 6, 3) := by decide +kernel
theorem dX7_height_22 : decode cX7_height 22 = .ok (.ldc 118, 2) := by decide +kernel
theorem dX7_height_24 : decode cX7_height 24 = .ok (.ireturn, 1) := by decide +kernel
theorem dX7_height_25 : decode cX7_height 25 = .ok (.iload_n 2, 1) := by decide +kernel
theorem dX7_height_26 : decode cX7_height 26 = .ok (.invokestatic 139, 3) := by decide +kernel
theorem dX7_height_29 : decode cX7_height 29 = .ok (.ifCond .eq 23, 3) := by decide +kernel
theorem dX7_height_32 : decode cX7_height 32 = .ok (.aload_n 0, 1) := by decide +kernel
theorem dX7_height_33 : decode cX7_height 33 = .ok (.getfield 62, 3) := by decide +kernel
theorem dX7_height_36 : decode cX7_height 36 = .ok (.iload_n 1, 1) := by decide +kernel
theorem dX7_height_37 : decode cX7_height 37 = .ok (.iload_n 2, 1) := by decide +kernel
theorem dX7_height_38 : decode cX7_height 38 = .ok (.aload_n 0, 1) := by decide +kernel
theorem dX7_height_39 : decode cX7_height 39 = .ok (.getfield 62, 3) := by decide +kernel
theorem dX7_height_42 : decode cX7_height 42 = .ok (.iload_n 3, 1) := by decide +kernel
theorem dX7_height_43 : decode cX7_height 43 = .ok (.invokevirtual 142, 3) := by decide +kernel
theorem dX7_height_46 : decode cX7_height 46 = .ok (.invokevirtual 145, 3) := by decide +kernel
theorem dX7_height_49 : decode cX7_height 49 = .ok (.goto 5, 3) := by decide +kernel
theorem dX7_height_52 : decode cX7_height 52 = .ok (.ldc 69, 2) := by decide +kernel
theorem dX7_height_54 : decode cX7_height 54 = .ok (.ireturn, 1) := by decide +kernel
theorem dX7_span_0 : decode cX7_span 0 = .ok (.aload_n 0, 1) := by decide +kernel
theorem dX7_span_1 : decode cX7_span 1 = .ok (.getfield 62, 3) := by decide +kernel
theorem dX7_span_4 : decode cX7_span 4 = .ok (.iload_n 1, 1) := by decide +kernel
theorem dX7_span_5 : decode cX7_span 5 = .ok (.invokevirtual 114, 3) := by decide +kernel
theorem dX7_span_8 : decode cX7_span 8 = .ok (.ifCond .ne 6, 3) := by decide +kernel
theorem dX7_span_11 : decode cX7_span 11 = .ok (.ldc 118, 2) := by decide +kernel
theorem dX7_span_13 : decode cX7_span 13 = .ok (.ireturn, 1) := by decide +kernel
theorem dX7_span_14 : decode cX7_span 14 = .ok (.iload_n 2, 1) := by decide +kernel
theorem dX7_span_15 : decode cX7_span 15 = .ok (.invokestatic 139, 3) := by decide +kernel
theorem dX7_span_18 : decode cX7_span 18 = .ok (.ifCond .eq 21, 3) := by decide +kernel
theorem dX7_span_21 : decode cX7_span 21 = .ok (.iload_n 3, 1) := by decide +kernel
theorem dX7_span_22 : decode cX7_span 22 = .ok (.invokestatic 149, 3) := by decide +kernel
theorem dX7_span_25 : decode cX7_span 25 = .ok (.ifCond .eq 14, 3) := by decide +kernel
theorem dX7_span_28 : decode cX7_span 28 = .ok (.iload 4, 2) := by decide +kernel
theorem dX7_span_30 : decode cX7_span 30 = .ok (.ifCond .lt 9, 3) := by decide +kernel
theorem dX7_span_33 : decode cX7_span 33 = .ok (.iload 4, 2) := by decide +kernel
theorem dX7_span_35 : decode cX7_span 35 = .ok (.iconst 1, 1) := by decide +kernel
theorem dX7_span_36 : decode cX7_span 36 = .ok (.if_icmp .le 6, 3) := by decide +kernel
theorem dX7_span_39 : decode cX7_span 39 = .ok (.ldc 69, 2) := by decide +kernel
theorem dX7_span_41 : decode cX7_span 41 = .ok (.ireturn, 1) := by decide +kernel
theorem dX7_span_42 : decode cX7_span 42 = .ok (.iload 4, 2) := by decide +kernel
theorem dX7_span_44 : decode cX7_span 44 = .ok (.ifCond .ne 16, 3) := by decide +kernel
theorem dX7_span_47 : decode cX7_span 47 = .ok (.aload_n 0, 1) := by decide +kernel
theorem dX7_span_48 : decode cX7_span 48 = .ok (.getfield 62, 3) := by decide +kernel
theorem dX7_span_51 : decode cX7_span 51 = .ok (.iload_n 1, 1) := by decide +kernel
theorem dX7_span_52 : decode cX7_span 52 = .ok (.iload_n 2, 1) := by decide +kernel
theorem dX7_span_53 : decode cX7_span 53 = .ok (.iload_n 3, 1) := by decide +kernel
theorem dX7_span_54 : decode cX7_span 54 = .ok (.invokevirtual 152, 3) := by decide +kernel
theorem dX7_span_57 : decode cX7_span 57 = .ok (.goto 13, 3) := by decide +kernel
theorem dX7_span_60 : decode cX7_span 60 = .ok (.aload_n 0, 1) := by decide +kernel
theorem dX7_span_61 : decode cX7_span 61 = .ok (.getfield 62, 3) := by decide +kernel
theorem dX7_span_64 : decode cX7_span 64 = .ok (.iload_n 1, 1) := by decide +kernel
theorem dX7_span_65 : decode cX7_span 65 = .ok (.iload_n 2, 1) := by decide +kernel
theorem dX7_span_66 : decode cX7_span 66 = .ok (.iload_n 3, 1) := by decide +kernel
theorem dX7_span_67 : decode cX7_span 67 = .ok (.invokevirtual 155, 3) := by decide +kernel
theorem dX7_span_70 : decode cX7_span 70 = .ok (.ireturn, 1) := by decide +kernel
theorem dX7_morning_0 : decode cX7_morning 0 = .ok (.aload_n 0, 1) := by decide +kernel
theorem dX7_morning_1 : decode cX7_morning 1 = .ok (.iload_n 1, 1) := by decide +kernel
theorem dX7_morning_2 : decode cX7_morning 2 = .ok (.iload_n 2, 1) := by decide +kernel
theorem dX7_morning_3 : decode cX7_morning 3 = .ok (.iload_n 3, 1) := by decide +kernel
theorem dX7_morning_4 : decode cX7_morning 4 = .ok (.iload 4, 2) := by decide +kernel
theorem dX7_morning_6 : decode cX7_morning 6 = .ok (.aload_n 0, 1) := by decide +kernel
theorem dX7_morning_7 : decode cX7_morning 7 = .ok (.getfield 21, 3) := by decide +kernel
theorem dX7_morning_10 : decode cX7_morning 10 = .ok (.invokevirtual 158, 3) := by decide +kernel
theorem dX7_morning_13 : decode cX7_morning 13 = .ok (.istore 5, 2) := by decide +kernel
theorem dX7_morning_15 : decode cX7_morning 15 = .ok (.iload 5, 2) := by decide +kernel
theorem dX7_morning_17 : decode cX7_morning 17 = .ok (.ifCond .eq 6, 3) := by decide +kernel
theorem dX7_morning_20 : decode cX7_morning 20 = .ok (.iload 5, 2) := by decide +kernel
theorem dX7_morning_22 : decode cX7_morning 22 = .ok (.ireturn, 1) := by decide +kernel
theorem dX7_morning_23 : decode cX7_morning 23 = .ok (.aload_n 0, 1) := by decide +kernel
theorem dX7_morning_24 : decode cX7_morning 24 = .ok (.getfield 21, 3) := by decide +kernel
theorem dX7_morning_27 : decode cX7_morning 27 = .ok (.iload_n 1, 1) := by decide +kernel
theorem dX7_morning_28 : decode cX7_morning 28 = .ok (.iload_n 2, 1) := by decide +kernel
theorem dX7_morning_29 : decode cX7_morning 29 = .ok (.iload_n 3, 1) := by decide +kernel
theorem dX7_morning_30 : decode cX7_morning 30 = .ok (.iload 4, 2) := by decide +kernel
theorem dX7_morning_32 : decode cX7_morning 32 = .ok (.invokevirtual 162, 3) := by decide +kernel
theorem dX7_morning_35 : decode cX7_morning 35 = .ok (.aload_n 0, 1) := by decide +kernel
theorem dX7_morning_36 : decode cX7_morning 36 = .ok (.invokevirtual 96, 3) := by decide +kernel
theorem dX7_morning_39 : decode cX7_morning 39 = .ok (.aload_n 0, 1) := by decide +kernel
theorem dX7_morning_40 : decode cX7_morning 40 = .ok (.getfield 21, 3) := by decide +kernel
theorem dX7_morning_43 : decode cX7_morning 43 = .ok (.getfield 86, 3) := by decide +kernel
theorem dX7_morning_46 : decode cX7_morning 46 = .ok (.ireturn, 1) := by decide +kernel
theorem dX7_strike_0 : decode cX7_strike 0 = .ok (.iload_n 1, 1) := by decide +kernel
theorem dX7_strike_1 : decode cX7_strike 1 = .ok (.ifCond .lt 14, 3) := by decide +kernel
theorem dX7_strike_4 : decode cX7_strike 4 = .ok (.iload_n 1, 1) := by decide +kernel
theorem dX7_strike_5 : decode cX7_strike 5 = .ok (.aload_n 0, 1) := by decide +kernel
theorem dX7_strike_6 : decode cX7_strike 6 = .ok (.getfield 21, 3) := by decide +kernel
theorem dX7_strike_9 : decode cX7_strike 9 = .ok (.getfield 86, 3) := by decide +kernel
theorem dX7_strike_12 : decode cX7_strike 12 = .ok (.if_icmp .lt 6, 3) := by decide +kernel
theorem dX7_strike_15 : decode cX7_strike 15 = .ok (.ldc 118, 2) := by decide +kernel
theorem dX7_strike_17 : decode cX7_strike 17 = .ok (.ireturn, 1) := by decide +kernel
theorem dX7_strike_18 : decode cX7_strike 18 = .ok (.aload_n 0, 1) := by decide +kernel
theorem dX7_strike_19 : decode cX7_strike 19 = .ok (.getfield 21, 3) := by decide +kernel
theorem dX7_strike_22 : decode cX7_strike 22 = .ok (.iload_n 1, 1) := by decide +kernel
theorem dX7_strike_23 : decode cX7_strike 23 = .ok (.invokevirtual 166, 3) := by decide +kernel
theorem dX7_strike_26 : decode cX7_strike 26 = .ok (.aload_n 0, 1) := by decide +kernel
theorem dX7_strike_27 : decode cX7_strike 27 = .ok (.invokevirtual 96, 3) := by decide +kernel
theorem dX7_strike_30 : decode cX7_strike 30 = .ok (.aload_n 0, 1) := by decide +kernel
theorem dX7_strike_31 : decode cX7_strike 31 = .ok (.getfield 21, 3) := by decide +kernel
theorem dX7_strike_34 : decode cX7_strike 34 = .ok (.getfield 86, 3) := by decide +kernel
theorem dX7_strike_37 : decode cX7_strike 37 = .ok (.ireturn, 1) := by decide +kernel
theorem dX7_wrong_0 : decode cX7_wrong 0 = .ok (.aload_n 0, 1) := by decide +kernel
theorem dX7_wrong_1 : decode cX7_wrong 1 = .ok (.getfield 41, 3) := by decide +kernel
theorem dX7_wrong_4 : decode cX7_wrong 4 = .ok (.getfield 111, 3) := by decide +kernel
theorem dX7_wrong_7 : decode cX7_wrong 7 = .ok (.ifCond .eq 21, 3) := by decide +kernel
theorem dX7_wrong_10 : decode cX7_wrong 10 = .ok (.aload_n 0, 1) := by decide +kernel
theorem dX7_wrong_11 : decode cX7_wrong 11 = .ok (.getfield 48, 3) := by decide +kernel
theorem dX7_wrong_14 : decode cX7_wrong 14 = .ok (.aload_n 0, 1) := by decide +kernel
theorem dX7_wrong_15 : decode cX7_wrong 15 = .ok (.getfield 62, 3) := by decide +kernel
theorem dX7_wrong_18 : decode cX7_wrong 18 = .ok (.aload_n 0, 1) := by decide +kernel
theorem dX7_wrong_19 : decode cX7_wrong 19 = .ok (.getfield 21, 3) := by decide +kernel
theorem dX7_wrong_22 : decode cX7_wrong 22 = .ok (.invokevirtual 169, 3) := by decide +kernel
theorem dX7_wrong_25 : decode cX7_wrong 25 = .ok (.goto 4, 3) := by decide +kernel
theorem dX7_wrong_28 : decode cX7_wrong 28 = .ok (.iconst 0, 1) := by decide +kernel
theorem dX7_wrong_29 : decode cX7_wrong 29 = .ok (.ireturn, 1) := by decide +kernel
theorem dX7_canBe_0 : decode cX7_canBe 0 = .ok (.aload_n 0, 1) := by decide +kernel
theorem dX7_canBe_1 : decode cX7_canBe 1 = .ok (.getfield 62, 3) := by decide +kernel
theorem dX7_canBe_4 : decode cX7_canBe 4 = .ok (.iload_n 1, 1) := by decide +kernel
theorem dX7_canBe_5 : decode cX7_canBe 5 = .ok (.invokevirtual 114, 3) := by decide +kernel
theorem dX7_canBe_8 : decode cX7_canBe 8 = .ok (.ifCond .ne 6, 3) := by decide +kernel
theorem dX7_canBe_11 : decode cX7_canBe 11 = .ok (.ldc 118, 2) := by decide +kernel
theorem dX7_canBe_13 : decode cX7_canBe 13 = .ok (.ireturn, 1) := by decide +kernel
theorem dX7_canBe_14 : decode cX7_canBe 14 = .ok (.iload_n 2, 1) := by decide +kernel
theorem dX7_canBe_15 : decode cX7_canBe 15 = .ok (.invokestatic 139, 3) := by decide +kernel
theorem dX7_canBe_18 : decode cX7_canBe 18 = .ok (.ifCond .eq 10, 3) := by decide +kernel
theorem dX7_canBe_21 : decode cX7_canBe 21 = .ok (.iload_n 3, 1) := by decide +kernel
theorem dX7_canBe_22 : decode cX7_canBe 22 = .ok (.invokestatic 149, 3) := by decide +kernel
theorem dX7_canBe_25 : decode cX7_canBe 25 = .ok (.ifCond .ne 6, 3) := by decide +kernel
theorem dX7_canBe_28 : decode cX7_canBe 28 = .ok (.ldc 69, 2) := by decide +kernel
theorem dX7_canBe_30 : decode cX7_canBe 30 = .ok (.ireturn, 1) := by decide +kernel
theorem dX7_canBe_31 : decode cX7_canBe 31 = .ok (.aload_n 0, 1) := by decide +kernel
theorem dX7_canBe_32 : decode cX7_canBe 32 = .ok (.getfield 62, 3) := by decide +kernel
theorem dX7_canBe_35 : decode cX7_canBe 35 = .ok (.iload_n 1, 1) := by decide +kernel
theorem dX7_canBe_36 : decode cX7_canBe 36 = .ok (.iload_n 2, 1) := by decide +kernel
theorem dX7_canBe_37 : decode cX7_canBe 37 = .ok (.iload_n 3, 1) := by decide +kernel
theorem dX7_canBe_38 : decode cX7_canBe 38 = .ok (.invokevirtual 152, 3) := by decide +kernel
theorem dX7_canBe_41 : decode cX7_canBe 41 = .ok (.istore 5, 2) := by decide +kernel
theorem dX7_canBe_43 : decode cX7_canBe 43 = .ok (.aload_n 0, 1) := by decide +kernel
theorem dX7_canBe_44 : decode cX7_canBe 44 = .ok (.getfield 62, 3) := by decide +kernel
theorem dX7_canBe_47 : decode cX7_canBe 47 = .ok (.iload_n 1, 1) := by decide +kernel
theorem dX7_canBe_48 : decode cX7_canBe 48 = .ok (.iload_n 2, 1) := by decide +kernel
theorem dX7_canBe_49 : decode cX7_canBe 49 = .ok (.iload_n 3, 1) := by decide +kernel
theorem dX7_canBe_50 : decode cX7_canBe 50 = .ok (.invokevirtual 155, 3) := by decide +kernel
theorem dX7_canBe_53 : decode cX7_canBe 53 = .ok (.istore 6, 2) := by decide +kernel
theorem dX7_canBe_55 : decode cX7_canBe 55 = .ok (.iconst 0, 1) := by decide +kernel
theorem dX7_canBe_56 : decode cX7_canBe 56 = .ok (.istore 7, 2) := by decide +kernel
theorem dX7_canBe_58 : decode cX7_canBe 58 = .ok (.iconst 0, 1) := by decide +kernel
theorem dX7_canBe_59 : decode cX7_canBe 59 = .ok (.istore 8, 2) := by decide +kernel
theorem dX7_canBe_61 : decode cX7_canBe 61 = .ok (.iload 8, 2) := by decide +kernel
theorem dX7_canBe_63 : decode cX7_canBe 63 = .ok (.aload_n 0, 1) := by decide +kernel
theorem dX7_canBe_64 : decode cX7_canBe 64 = .ok (.getfield 62, 3) := by decide +kernel
theorem dX7_canBe_67 : decode cX7_canBe 67 = .ok (.invokevirtual 173, 3) := by decide +kernel
theorem dX7_canBe_70 : decode cX7_canBe 70 = .ok (.if_icmp .ge 38, 3) := by decide +kernel
theorem dX7_canBe_73 : decode cX7_canBe 73 = .ok (.aload_n 0, 1) := by decide +kernel
theorem dX7_canBe_74 : decode cX7_canBe 74 = .ok (.getfield 41, 3) := by decide +kernel
theorem dX7_canBe_77 : decode cX7_canBe 77 = .ok (.iload 8, 2) := by decide +kernel
theorem dX7_canBe_79 : decode cX7_canBe 79 = .ok (.iload 5, 2) := by decide +kernel
theorem dX7_canBe_81 : decode cX7_canBe 81 = .ok (.iload 6, 2) := by decide +kernel
theorem dX7_canBe_83 : decode cX7_canBe 83 = .ok (.invokevirtual 177, 3) := by decide +kernel
theorem dX7_canBe_86 : decode cX7_canBe 86 = .ok (.ifCond .eq 16, 3) := by decide +kernel
theorem dX7_canBe_89 : decode cX7_canBe 89 = .ok (.iload 7, 2) := by decide +kernel
theorem dX7_canBe_91 : decode cX7_canBe 91 = .ok (.iload 4, 2) := by decide +kernel
theorem dX7_canBe_93 : decode cX7_canBe 93 = .ok (.if_icmp .ne 6, 3) := by decide +kernel
theorem dX7_canBe_96 : decode cX7_canBe 96 = .ok (.iload 8, 2) := by decide +kernel
theorem dX7_canBe_98 : decode cX7_canBe 98 = .ok (.ireturn, 1) := by decide +kernel
theorem dX7_canBe_99 : decode cX7_canBe 99 = .ok (.iinc 7 1, 3) := by decide +kernel
theorem dX7_canBe_102 : decode cX7_canBe 102 = .ok (.iinc 8 1, 3) := by decide +kernel
theorem dX7_canBe_105 : decode cX7_canBe 105 = .ok (.goto (-44), 3) := by decide +kernel
theorem dX7_canBe_108 : decode cX7_canBe 108 = .ok (.iload 4, 2) := by decide +kernel
theorem dX7_canBe_110 : decode cX7_canBe 110 = .ok (.iconst (-1), 1) := by decide +kernel
theorem dX7_canBe_111 : decode cX7_canBe 111 = .ok (.if_icmp .ne 8, 3) := by decide +kernel
theorem dX7_canBe_114 : decode cX7_canBe 114 = .ok (.iload 7, 2) := by decide +kernel
theorem dX7_canBe_116 : decode cX7_canBe 116 = .ok (.goto 4, 3) := by decide +kernel
theorem dX7_canBe_119 : decode cX7_canBe 119 = .ok (.iconst (-1), 1) := by decide +kernel
theorem dX7_canBe_120 : decode cX7_canBe 120 = .ok (.ireturn, 1) := by decide +kernel
theorem dX7_likely_0 : decode cX7_likely 0 = .ok (.aload_n 0, 1) := by decide +kernel
theorem dX7_likely_1 : decode cX7_likely 1 = .ok (.getfield 62, 3) := by decide +kernel
theorem dX7_likely_4 : decode cX7_likely 4 = .ok (.iload_n 1, 1) := by decide +kernel
theorem dX7_likely_5 : decode cX7_likely 5 = .ok (.invokevirtual 114, 3) := by decide +kernel
theorem dX7_likely_8 : decode cX7_likely 8 = .ok (.ifCond .eq 15, 3) := by decide +kernel
theorem dX7_likely_11 : decode cX7_likely 11 = .ok (.aload_n 0, 1) := by decide +kernel
theorem dX7_likely_12 : decode cX7_likely 12 = .ok (.getfield 62, 3) := by decide +kernel
theorem dX7_likely_15 : decode cX7_likely 15 = .ok (.iload 4, 2) := by decide +kernel
theorem dX7_likely_17 : decode cX7_likely 17 = .ok (.invokevirtual 123, 3) := by decide +kernel
theorem dX7_likely_20 : decode cX7_likely 20 = .ok (.ifCond .ne 6, 3) := by decide +kernel
theorem dX7_likely_23 : decode cX7_likely 23 = .ok (.ldc 118, 2) := by decide +kernel
theorem dX7_likely_25 : decode cX7_likely 25 = .ok (.ireturn, 1) := by decide +kernel
theorem dX7_likely_26 : decode cX7_likely 26 = .ok (.iload_n 2, 1) := by decide +kernel
theorem dX7_likely_27 : decode cX7_likely 27 = .ok (.invokestatic 139, 3) := by decide +kernel
theorem dX7_likely_30 : decode cX7_likely 30 = .ok (.ifCond .eq 10, 3) := by decide +kernel
theorem dX7_likely_33 : decode cX7_likely 33 = .ok (.iload_n 3, 1) := by decide +kernel
theorem dX7_likely_34 : decode cX7_likely 34 = .ok (.invokestatic 149, 3) := by decide +kernel
theorem dX7_likely_37 : decode cX7_likely 37 = .ok (.ifCond .ne 6, 3) := by decide +kernel
theorem dX7_likely_40 : decode cX7_likely 40 = .ok (.ldc 69, 2) := by decide +kernel
theorem dX7_likely_42 : decode cX7_likely 42 = .ok (.ireturn, 1) := by decide +kernel
theorem dX7_likely_43 : decode cX7_likely 43 = .ok (.aload_n 0, 1) := by decide +kernel
theorem dX7_likely_44 : decode cX7_likely 44 = .ok (.getfield 62, 3) := by decide +kernel
theorem dX7_likely_47 : decode cX7_likely 47 = .ok (.iload_n 1, 1) := by decide +kernel
theorem dX7_likely_48 : decode cX7_likely 48 = .ok (.iload_n 2, 1) := by decide +kernel
theorem dX7_likely_49 : decode cX7_likely 49 = .ok (.iload_n 3, 1) := by decide +kernel
theorem dX7_likely_50 : decode cX7_likely 50 = .ok (.invokevirtual 152, 3) := by decide +kernel
theorem dX7_likely_53 : decode cX7_likely 53 = .ok (.istore 5, 2) := by decide +kernel
theorem dX7_likely_55 : decode cX7_likely 55 = .ok (.aload_n 0, 1) := by decide +kernel
theorem dX7_likely_56 : decode cX7_likely 56 = .ok (.getfield 62, 3) := by decide +kernel
theorem dX7_likely_59 : decode cX7_likely 59 = .ok (.iload_n 1, 1) := by decide +kernel
theorem dX7_likely_60 : decode cX7_likely 60 = .ok (.iload_n 2, 1) := by decide +kernel
theorem dX7_likely_61 : decode cX7_likely 61 = .ok (.iload_n 3, 1) := by decide +kernel
theorem dX7_likely_62 : decode cX7_likely 62 = .ok (.invokevirtual 155, 3) := by decide +kernel
theorem dX7_likely_65 : decode cX7_likely 65 = .ok (.istore 6, 2) := by decide +kernel
theorem dX7_likely_67 : decode cX7_likely 67 = .ok (.lconst 0, 1) := by decide +kernel
theorem dX7_likely_68 : decode cX7_likely 68 = .ok (.lstore 7, 2) := by decide +kernel
theorem dX7_likely_70 : decode cX7_likely 70 = .ok (.lconst 0, 1) := by decide +kernel
theorem dX7_likely_71 : decode cX7_likely 71 = .ok (.lstore 9, 2) := by decide +kernel
theorem dX7_likely_73 : decode cX7_likely 73 = .ok (.iconst 0, 1) := by decide +kernel
theorem dX7_likely_74 : decode cX7_likely 74 = .ok (.istore 11, 2) := by decide +kernel
theorem dX7_likely_76 : decode cX7_likely 76 = .ok (.iload 11, 2) := by decide +kernel
theorem dX7_likely_78 : decode cX7_likely 78 = .ok (.aload_n 0, 1) := by decide +kernel
theorem dX7_likely_79 : decode cX7_likely 79 = .ok (.getfield 62, 3) := by decide +kernel
theorem dX7_likely_82 : decode cX7_likely 82 = .ok (.invokevirtual 173, 3) := by decide +kernel
theorem dX7_likely_85 : decode cX7_likely 85 = .ok (.if_icmp .ge 66, 3) := by decide +kernel
theorem dX7_likely_88 : decode cX7_likely 88 = .ok (.aload_n 0, 1) := by decide +kernel
theorem dX7_likely_89 : decode cX7_likely 89 = .ok (.getfield 41, 3) := by decide +kernel
theorem dX7_likely_92 : decode cX7_likely 92 = .ok (.iload 11, 2) := by decide +kernel
theorem dX7_likely_94 : decode cX7_likely 94 = .ok (.iload 5, 2) := by decide +kernel
theorem dX7_likely_96 : decode cX7_likely 96 = .ok (.iload 6, 2) := by decide +kernel
theorem dX7_likely_98 : decode cX7_likely 98 = .ok (.invokevirtual 177, 3) := by decide +kernel
theorem dX7_likely_101 : decode cX7_likely 101 = .ok (.ifCond .eq 44, 3) := by decide +kernel
theorem dX7_likely_104 : decode cX7_likely 104 = .ok (.aload_n 0, 1) := by decide +kernel
theorem dX7_likely_105 : decode cX7_likely 105 = .ok (.getfield 62, 3) := by decide +kernel
theorem dX7_likely_108 : decode cX7_likely 108 = .ok (.iload 11, 2) := by decide +kernel
theorem dX7_likely_110 : decode cX7_likely 110 = .ok (.invokevirtual 181, 3) := by decide +kernel
theorem dX7_likely_113 : decode cX7_likely 113 = .ok (.istore 12, 2) := by decide +kernel
theorem dX7_likely_115 : decode cX7_likely 115 = .ok (.lload 7, 2) := by decide +kernel
theorem dX7_likely_117 : decode cX7_likely 117 = .ok (.iload 12, 2) := by decide +kernel
theorem dX7_likely_119 : decode cX7_likely 119 = .ok (.i2l, 1) := by decide +kernel
theorem dX7_likely_120 : decode cX7_likely 120 = .ok (.ladd, 1) := by decide +kernel
theorem dX7_likely_121 : decode cX7_likely 121 = .ok (.lstore 7, 2) := by decide +kernel
theorem dX7_likely_123 : decode cX7_likely 123 = .ok (.lload 9, 2) := by decide +kernel
theorem dX7_likely_125 : decode cX7_likely 125 = .ok (.iload 11, 2) := by decide +kernel
theorem dX7_likely_127 : decode cX7_likely 127 = .ok (.iload 4, 2) := by decide +kernel
theorem dX7_likely_129 : decode cX7_likely 129 = .ok (.invokestatic 184, 3) := by decide +kernel
theorem dX7_likely_132 : decode cX7_likely 132 = .ok (.ifCond .eq 9, 3) := by decide +kernel
theorem dX7_likely_135 : decode cX7_likely 135 = .ok (.iload 12, 2) := by decide +kernel
theorem dX7_likely_137 : decode cX7_likely 137 = .ok (.i2l, 1) := by decide +kernel
theorem dX7_likely_138 : decode cX7_likely 138 = .ok (.goto 4, 3) := by decide +kernel
theorem dX7_likely_141 : decode cX7_likely 141 = .ok (.lconst 0, 1) := by decide +kernel
theorem dX7_likely_142 : decode cX7_likely 142 = .ok (.ladd, 1) := by decide +kernel
theorem dX7_likely_143 : decode cX7_likely 143 = .ok (.lstore 9, 2) := by decide +kernel
theorem dX7_likely_145 : decode cX7_likely 145 = .ok (.iinc 11 1, 3) := by decide +kernel
theorem dX7_likely_148 : decode cX7_likely 148 = .ok (.goto (-72), 3) := by decide +kernel
theorem dX7_likely_151 : decode cX7_likely 151 = .ok (.lload 7, 2) := by decide +kernel
theorem dX7_likely_153 : decode cX7_likely 153 = .ok (.lconst 0, 1) := by decide +kernel
theorem dX7_likely_154 : decode cX7_likely 154 = .ok (.lcmp, 1) := by decide +kernel
theorem dX7_likely_155 : decode cX7_likely 155 = .ok (.ifCond .le 16, 3) := by decide +kernel
theorem dX7_likely_158 : decode cX7_likely 158 = .ok (.lload 9, 2) := by decide +kernel
theorem dX7_likely_160 : decode cX7_likely 160 = .ok (.ldc2_w 188, 3) := by decide +kernel
theorem dX7_likely_163 : decode cX7_likely 163 = .ok (.lmul, 1) := by decide +kernel
theorem dX7_likely_164 : decode cX7_likely 164 = .ok (.lload 7, 2) := by decide +kernel
theorem dX7_likely_166 : decode cX7_likely 166 = .ok (.ldiv, 1) := by decide +kernel
theorem dX7_likely_167 : decode cX7_likely 167 = .ok (.l2i, 1) := by decide +kernel
theorem dX7_likely_168 : decode cX7_likely 168 = .ok (.goto 4, 3) := by decide +kernel
theorem dX7_likely_171 : decode cX7_likely 171 = .ok (.iconst 0, 1) := by decide +kernel
theorem dX7_likely_172 : decode cX7_likely 172 = .ok (.ireturn, 1) := by decide +kernel
theorem dX7_odds_0 : decode cX7_odds 0 = .ok (.aload_n 0, 1) := by decide +kernel
theorem dX7_odds_1 : decode cX7_odds 1 = .ok (.getfield 62, 3) := by decide +kernel
theorem dX7_odds_4 : decode cX7_odds 4 = .ok (.iload_n 1, 1) := by decide +kernel
theorem dX7_odds_5 : decode cX7_odds 5 = .ok (.invokevirtual 136, 3) := by decide +kernel
theorem dX7_odds_8 : decode cX7_odds 8 = .ok (.ifCond .eq 14, 3) := by decide +kernel
theorem dX7_odds_11 : decode cX7_odds 11 = .ok (.aload_n 0, 1) := by decide +kernel
theorem dX7_odds_12 : decode cX7_odds 12 = .ok (.getfield 62, 3) := by decide +kernel
theorem dX7_odds_15 : decode cX7_odds 15 = .ok (.iload_n 1, 1) := by decide +kernel
theorem dX7_odds_16 : decode cX7_odds 16 = .ok (.invokevirtual 181, 3) := by decide +kernel
theorem dX7_odds_19 : decode cX7_odds 19 = .ok (.goto 5, 3) := by decide +kernel
theorem dX7_odds_22 : decode cX7_odds 22 = .ok (.ldc 118, 2) := by decide +kernel
theorem dX7_odds_24 : decode cX7_odds 24 = .ok (.ireturn, 1) := by decide +kernel
theorem dX7_tells_0 : decode cX7_tells 0 = .ok (.aload_n 0, 1) := by decide +kernel
theorem dX7_tells_1 : decode cX7_tells 1 = .ok (.getfield 62, 3) := by decide +kernel
theorem dX7_tells_4 : decode cX7_tells 4 = .ok (.iload_n 1, 1) := by decide +kernel
theorem dX7_tells_5 : decode cX7_tells 5 = .ok (.invokevirtual 114, 3) := by decide +kernel
theorem dX7_tells_8 : decode cX7_tells 8 = .ok (.ifCond .eq 29, 3) := by decide +kernel
theorem dX7_tells_11 : decode cX7_tells 11 = .ok (.aload_n 0, 1) := by decide +kernel
theorem dX7_tells_12 : decode cX7_tells 12 = .ok (.getfield 62, 3) := by decide +kernel
theorem dX7_tells_15 : decode cX7_tells 15 = .ok (.iload_n 2, 1) := by decide +kernel
theorem dX7_tells_16 : decode cX7_tells 16 = .ok (.invokevirtual 136, 3) := by decide +kernel
theorem dX7_tells_19 : decode cX7_tells 19 = .ok (.ifCond .eq 18, 3) := by decide +kernel
theorem dX7_tells_22 : decode cX7_tells 22 = .ok (.iload_n 2, 1) := by decide +kernel
theorem dX7_tells_23 : decode cX7_tells 23 = .ok (.ifCond .eq 14, 3) := by decide +kernel
theorem dX7_tells_26 : decode cX7_tells 26 = .ok (.aload_n 0, 1) := by decide +kernel
theorem dX7_tells_27 : decode cX7_tells 27 = .ok (.getfield 62, 3) := by decide +kernel
theorem dX7_tells_30 : decode cX7_tells 30 = .ok (.iload_n 3, 1) := by decide +kernel
theorem dX7_tells_31 : decode cX7_tells 31 = .ok (.invokevirtual 190, 3) := by decide +kernel
theorem dX7_tells_34 : decode cX7_tells 34 = .ok (.ifCond .ne 6, 3) := by decide +kernel
theorem dX7_tells_37 : decode cX7_tells 37 = .ok (.ldc 118, 2) := by decide +kernel
theorem dX7_tells_39 : decode cX7_tells 39 = .ok (.ireturn, 1) := by decide +kernel
theorem dX7_tells_40 : decode cX7_tells 40 = .ok (.aload_n 0, 1) := by decide +kernel
theorem dX7_tells_41 : decode cX7_tells 41 = .ok (.getfield 62, 3) := by decide +kernel
theorem dX7_tells_44 : decode cX7_tells 44 = .ok (.iload_n 1, 1) := by decide +kernel
theorem dX7_tells_45 : decode cX7_tells 45 = .ok (.iconst 0, 1) := by decide +kernel
theorem dX7_tells_46 : decode cX7_tells 46 = .ok (.aload_n 0, 1) := by decide +kernel
theorem dX7_tells_47 : decode cX7_tells 47 = .ok (.getfield 62, 3) := by decide +kernel
theorem dX7_tells_50 : decode cX7_tells 50 = .ok (.iload_n 2, 1) := by decide +kernel
theorem dX7_tells_51 : decode cX7_tells 51 = .ok (.iload_n 3, 1) := by decide +kernel
theorem dX7_tells_52 : decode cX7_tells 52 = .ok (.invokevirtual 193, 3) := by decide +kernel
theorem dX7_tells_55 : decode cX7_tells 55 = .ok (.invokevirtual 145, 3) := by decide +kernel
theorem dX7_tells_58 : decode cX7_tells 58 = .ok (.ireturn, 1) := by decide +kernel
theorem dX7_alike_0 : decode cX7_alike 0 = .ok (.aload_n 0, 1) := by decide +kernel
theorem dX7_alike_1 : decode cX7_alike 1 = .ok (.getfield 62, 3) := by decide +kernel
theorem dX7_alike_4 : decode cX7_alike 4 = .ok (.iload_n 1, 1) := by decide +kernel
theorem dX7_alike_5 : decode cX7_alike 5 = .ok (.invokevirtual 190, 3) := by decide +kernel
theorem dX7_alike_8 : decode cX7_alike 8 = .ok (.ifCond .ne 6, 3) := by decide +kernel
theorem dX7_alike_11 : decode cX7_alike 11 = .ok (.ldc 118, 2) := by decide +kernel
theorem dX7_alike_13 : decode cX7_alike 13 = .ok (.ireturn, 1) := by decide +kernel
theorem dX7_alike_14 : decode cX7_alike 14 = .ok (.aload_n 0, 1) := by decide +kernel
theorem dX7_alike_15 : decode cX7_alike 15 = .ok (.getfield 55, 3) := by decide +kernel
theorem dX7_alike_18 : decode cX7_alike 18 = .ok (.aload_n 0, 1) := by decide +kernel
theorem dX7_alike_19 : decode cX7_alike 19 = .ok (.getfield 62, 3) := by decide +kernel
theorem dX7_alike_22 : decode cX7_alike 22 = .ok (.invokevirtual 196, 3) := by decide +kernel
theorem dX7_alike_25 : decode cX7_alike 25 = .ok (.aload_n 0, 1) := by decide +kernel
theorem dX7_alike_26 : decode cX7_alike 26 = .ok (.getfield 55, 3) := by decide +kernel
theorem dX7_alike_29 : decode cX7_alike 29 = .ok (.iload_n 1, 1) := by decide +kernel
theorem dX7_alike_30 : decode cX7_alike 30 = .ok (.invokevirtual 199, 3) := by decide +kernel
theorem dX7_alike_33 : decode cX7_alike 33 = .ok (.ireturn, 1) := by decide +kernel
theorem dX7_needed_0 : decode cX7_needed 0 = .ok (.aload_n 0, 1) := by decide +kernel
theorem dX7_needed_1 : decode cX7_needed 1 = .ok (.getfield 55, 3) := by decide +kernel
theorem dX7_needed_4 : decode cX7_needed 4 = .ok (.aload_n 0, 1) := by decide +kernel
theorem dX7_needed_5 : decode cX7_needed 5 = .ok (.getfield 62, 3) := by decide +kernel
theorem dX7_needed_8 : decode cX7_needed 8 = .ok (.invokevirtual 196, 3) := by decide +kernel
theorem dX7_needed_11 : decode cX7_needed 11 = .ok (.iload_n 1, 1) := by decide +kernel
theorem dX7_needed_12 : decode cX7_needed 12 = .ok (.aload_n 0, 1) := by decide +kernel
theorem dX7_needed_13 : decode cX7_needed 13 = .ok (.getfield 55, 3) := by decide +kernel
theorem dX7_needed_16 : decode cX7_needed 16 = .ok (.getfield 202, 3) := by decide +kernel
theorem dX7_needed_19 : decode cX7_needed 19 = .ok (.iconst (-1), 1) := by decide +kernel
theorem dX7_needed_20 : decode cX7_needed 20 = .ok (.ixor, 1) := by decide +kernel
theorem dX7_needed_21 : decode cX7_needed 21 = .ok (.iand, 1) := by decide +kernel
theorem dX7_needed_22 : decode cX7_needed 22 = .ok (.ifCond .eq 6, 3) := by decide +kernel
theorem dX7_needed_25 : decode cX7_needed 25 = .ok (.ldc 118, 2) := by decide +kernel
theorem dX7_needed_27 : decode cX7_needed 27 = .ok (.ireturn, 1) := by decide +kernel
theorem dX7_needed_28 : decode cX7_needed 28 = .ok (.iload_n 2, 1) := by decide +kernel
theorem dX7_needed_29 : decode cX7_needed 29 = .ok (.ifCond .lt 8, 3) := by decide +kernel
theorem dX7_needed_32 : decode cX7_needed 32 = .ok (.iload_n 2, 1) := by decide +kernel
theorem dX7_needed_33 : decode cX7_needed 33 = .ok (.iconst 2, 1) := by decide +kernel
theorem dX7_needed_34 : decode cX7_needed 34 = .ok (.if_icmp .le 6, 3) := by decide +kernel
theorem dX7_needed_37 : decode cX7_needed 37 = .ok (.ldc 69, 2) := by decide +kernel
theorem dX7_needed_39 : decode cX7_needed 39 = .ok (.ireturn, 1) := by decide +kernel
theorem dX7_needed_40 : decode cX7_needed 40 = .ok (.aload_n 0, 1) := by decide +kernel
theorem dX7_needed_41 : decode cX7_needed 41 = .ok (.getfield 55, 3) := by decide +kernel
theorem dX7_needed_44 : decode cX7_needed 44 = .ok (.iload_n 1, 1) := by decide +kernel
theorem dX7_needed_45 : decode cX7_needed 45 = .ok (.invokevirtual 205, 3) := by decide +kernel
theorem dX7_needed_48 : decode cX7_needed 48 = .ok (.istore_n 3, 1) := by decide +kernel
theorem dX7_needed_49 : decode cX7_needed 49 = .ok (.aload_n 0, 1) := by decide +kernel
theorem dX7_needed_50 : decode cX7_needed 50 = .ok (.getfield 55, 3) := by decide +kernel
theorem dX7_needed_53 : decode cX7_needed 53 = .ok (.iload_n 3, 1) := by decide +kernel
theorem dX7_needed_54 : decode cX7_needed 54 = .ok (.invokevirtual 208, 3) := by decide +kernel
theorem dX7_needed_57 : decode cX7_needed 57 = .ok (.istore 4, 2) := by decide +kernel
theorem dX7_needed_59 : decode cX7_needed 59 = .ok (.iload_n 2, 1) := by decide +kernel
theorem dX7_needed_60 : decode cX7_needed 60 = .ok (.ifCond .ne 6, 3) := by decide +kernel
theorem dX7_needed_63 : decode cX7_needed 63 = .ok (.iload 4, 2) := by decide +kernel
theorem dX7_needed_65 : decode cX7_needed 65 = .ok (.ireturn, 1) := by decide +kernel
theorem dX7_needed_66 : decode cX7_needed 66 = .ok (.aload_n 0, 1) := by decide +kernel
theorem dX7_needed_67 : decode cX7_needed 67 = .ok (.getfield 55, 3) := by decide +kernel
theorem dX7_needed_70 : decode cX7_needed 70 = .ok (.iload_n 3, 1) := by decide +kernel
theorem dX7_needed_71 : decode cX7_needed 71 = .ok (.iload 4, 2) := by decide +kernel
theorem dX7_needed_73 : decode cX7_needed 73 = .ok (.invokevirtual 210, 3) := by decide +kernel
theorem dX7_needed_76 : decode cX7_needed 76 = .ok (.istore 5, 2) := by decide +kernel
theorem dX7_needed_78 : decode cX7_needed 78 = .ok (.iload 5, 2) := by decide +kernel
theorem dX7_needed_80 : decode cX7_needed 80 = .ok (.iconst (-1), 1) := by decide +kernel
theorem dX7_needed_81 : decode cX7_needed 81 = .ok (.if_icmp .ne 5, 3) := by decide +kernel
theorem dX7_needed_84 : decode cX7_needed 84 = .ok (.iconst (-1), 1) := by decide +kernel
theorem dX7_needed_85 : decode cX7_needed 85 = .ok (.ireturn, 1) := by decide +kernel
theorem dX7_needed_86 : decode cX7_needed 86 = .ok (.iload_n 2, 1) := by decide +kernel
theorem dX7_needed_87 : decode cX7_needed 87 = .ok (.iconst 1, 1) := by decide +kernel
theorem dX7_needed_88 : decode cX7_needed 88 = .ok (.if_icmp .ne 11, 3) := by decide +kernel
theorem dX7_needed_91 : decode cX7_needed 91 = .ok (.iload 5, 2) := by decide +kernel
theorem dX7_needed_93 : decode cX7_needed 93 = .ok (.invokestatic 213, 3) := by decide +kernel
theorem dX7_needed_96 : decode cX7_needed 96 = .ok (.goto 8, 3) := by decide +kernel
theorem dX7_needed_99 : decode cX7_needed 99 = .ok (.iload 5, 2) := by decide +kernel
theorem dX7_needed_101 : decode cX7_needed 101 = .ok (.invokestatic 216, 3) := by decide +kernel
theorem dX7_needed_104 : decode cX7_needed 104 = .ok (.ireturn, 1) := by decide +kernel
theorem dX7_away_0 : decode cX7_away 0 = .ok (.aload_n 0, 1) := by decide +kernel
theorem dX7_away_1 : decode cX7_away 1 = .ok (.getfield 55, 3) := by decide +kernel
theorem dX7_away_4 : decode cX7_away 4 = .ok (.aload_n 0, 1) := by decide +kernel
theorem dX7_away_5 : decode cX7_away 5 = .ok (.getfield 62, 3) := by decide +kernel
theorem dX7_away_8 : decode cX7_away 8 = .ok (.invokevirtual 196, 3) := by decide +kernel
theorem dX7_away_11 : decode cX7_away 11 = .ok (.aload_n 0, 1) := by decide +kernel
theorem dX7_away_12 : decode cX7_away 12 = .ok (.getfield 55, 3) := by decide +kernel
theorem dX7_away_15 : decode cX7_away 15 = .ok (.aload_n 0, 1) := by decide +kernel
theorem dX7_away_16 : decode cX7_away 16 = .ok (.getfield 62, 3) := by decide +kernel
theorem dX7_away_19 : decode cX7_away 19 = .ok (.getfield 99, 3) := by decide +kernel
theorem dX7_away_22 : decode cX7_away 22 = .ok (.invokevirtual 219, 3) := by decide +kernel
theorem dX7_away_25 : decode cX7_away 25 = .ok (.istore_n 1, 1) := by decide +kernel
theorem dX7_away_26 : decode cX7_away 26 = .ok (.iload_n 1, 1) := by decide +kernel
theorem dX7_away_27 : decode cX7_away 27 = .ok (.ifCond .ne 7, 3) := by decide +kernel
theorem dX7_away_30 : decode cX7_away 30 = .ok (.iconst (-1), 1) := by decide +kernel
theorem dX7_away_31 : decode cX7_away 31 = .ok (.goto 7, 3) := by decide +kernel
theorem dX7_away_34 : decode cX7_away 34 = .ok (.iload_n 1, 1) := by decide +kernel
theorem dX7_away_35 : decode cX7_away 35 = .ok (.invokestatic 222, 3) := by decide +kernel
theorem dX7_away_38 : decode cX7_away 38 = .ok (.ireturn, 1) := by decide +kernel
theorem dX7_called_0 : decode cX7_called 0 = .ok (.iload_n 1, 1) := by decide +kernel
theorem dX7_called_1 : decode cX7_called 1 = .ok (.ifCond .lt 19, 3) := by decide +kernel
theorem dX7_called_4 : decode cX7_called 4 = .ok (.iload_n 1, 1) := by decide +kernel
theorem dX7_called_5 : decode cX7_called 5 = .ok (.sipush 999, 3) := by decide +kernel
theorem dX7_called_8 : decode cX7_called 8 = .ok (.if_icmp .gt 12, 3) := by decide +kernel
theorem dX7_called_11 : decode cX7_called 11 = .ok (.iload_n 2, 1) := by decide +kernel
theorem dX7_called_12 : decode cX7_called 12 = .ok (.ifCond .lt 8, 3) := by decide +kernel
theorem dX7_called_15 : decode cX7_called 15 = .ok (.iload_n 2, 1) := by decide +kernel
theorem dX7_called_16 : decode cX7_called 16 = .ok (.iconst 1, 1) := by decide +kernel
theorem dX7_called_17 : decode cX7_called 17 = .ok (.if_icmp .le 6, 3) := by decide +kernel
theorem dX7_called_20 : decode cX7_called 20 = .ok (.ldc 69, 2) := by decide +kernel
theorem dX7_called_22 : decode cX7_called 22 = .ok (.ireturn, 1) := by decide +kernel
theorem dX7_called_23 : decode cX7_called 23 = .ok (.aload_n 0, 1) := by decide +kernel
theorem dX7_called_24 : decode cX7_called 24 = .ok (.getfield 62, 3) := by decide +kernel
theorem dX7_called_27 : decode cX7_called 27 = .ok (.getfield 105, 3) := by decide +kernel
theorem dX7_called_30 : decode cX7_called 30 = .ok (.ifCond .ne 6, 3) := by decide +kernel
theorem dX7_called_33 : decode cX7_called 33 = .ok (.ldc 227, 2) := by decide +kernel
theorem dX7_called_35 : decode cX7_called 35 = .ok (.ireturn, 1) := by decide +kernel
theorem dX7_called_36 : decode cX7_called 36 = .ok (.aload_n 0, 1) := by decide +kernel
theorem dX7_called_37 : decode cX7_called 37 = .ok (.getfield 62, 3) := by decide +kernel
theorem dX7_called_40 : decode cX7_called 40 = .ok (.invokevirtual 228, 3) := by decide +kernel
theorem dX7_called_43 : decode cX7_called 43 = .ok (.istore_n 3, 1) := by decide +kernel
theorem dX7_called_44 : decode cX7_called 44 = .ok (.iconst 0, 1) := by decide +kernel
theorem dX7_called_45 : decode cX7_called 45 = .ok (.istore 4, 2) := by decide +kernel
theorem dX7_called_47 : decode cX7_called 47 = .ok (.iconst 0, 1) := by decide +kernel
theorem dX7_called_48 : decode cX7_called 48 = .ok (.istore 5, 2) := by decide +kernel
theorem dX7_called_50 : decode cX7_called 50 = .ok (.iconst 0, 1) := by decide +kernel
theorem dX7_called_51 : decode cX7_called 51 = .ok (.istore 6, 2) := by decide +kernel
theorem dX7_called_53 : decode cX7_called 53 = .ok (.iload 6, 2) := by decide +kernel
theorem dX7_called_55 : decode cX7_called 55 = .ok (.aload_n 0, 1) := by decide +kernel
theorem dX7_called_56 : decode cX7_called 56 = .ok (.getfield 62, 3) := by decide +kernel
theorem dX7_called_59 : decode cX7_called 59 = .ok (.getfield 99, 3) := by decide +kernel
theorem dX7_called_62 : decode cX7_called 62 = .ok (.if_icmp .ge 117, 3) := by decide +kernel
theorem dX7_called_65 : decode cX7_called 65 = .ok (.aload_n 0, 1) := by decide +kernel
theorem dX7_called_66 : decode cX7_called 66 = .ok (.getfield 41, 3) := by decide +kernel
theorem dX7_called_69 : decode cX7_called 69 = .ok (.iconst 1, 1) := by decide +kernel
theorem dX7_called_70 : decode cX7_called 70 = .ok (.iload 6, 2) := by decide +kernel
theorem dX7_called_72 : decode cX7_called 72 = .ok (.ishl, 1) := by decide +kernel
theorem dX7_called_73 : decode cX7_called 73 = .ok (.invokevirtual 126, 3) := by decide +kernel
theorem dX7_called_76 : decode cX7_called 76 = .ok (.istore 7, 2) := by decide +kernel
theorem dX7_called_78 : decode cX7_called 78 = .ok (.aload_n 0, 1) := by decide +kernel
theorem dX7_called_79 : decode cX7_called 79 = .ok (.getfield 41, 3) := by decide +kernel
theorem dX7_called_82 : decode cX7_called 82 = .ok (.iconst 1, 1) := by decide +kernel
theorem dX7_called_83 : decode cX7_called 83 = .ok (.iload 6, 2) := by decide +kernel
theorem dX7_called_85 : decode cX7_called 85 = .ok (.ishl, 1) := by decide +kernel
theorem dX7_called_86 : decode cX7_called 86 = .ok (.invokevirtual 130, 3) := by decide +kernel
theorem dX7_called_89 : decode cX7_called 89 = .ok (.istore 8, 2) := by decide +kernel
theorem dX7_called_91 : decode cX7_called 91 = .ok (.iload 8, 2) := by decide +kernel
theorem dX7_called_93 : decode cX7_called 93 = .ok (.iload 7, 2) := by decide +kernel
theorem dX7_called_95 : decode cX7_called 95 = .ok (.isub, 1) := by decide +kernel
theorem dX7_called_96 : decode cX7_called 96 = .ok (.iload_n 1, 1) := by decide +kernel
theorem dX7_called_97 : decode cX7_called 97 = .ok (.if_icmp .le 64, 3) := by decide +kernel
theorem dX7_called_100 : decode cX7_called 100 = .ok (.iinc 4 1, 3) := by decide +kernel
theorem dX7_called_103 : decode cX7_called 103 = .ok (.aload_n 0, 1) := by decide +kernel
theorem dX7_called_104 : decode cX7_called 104 = .ok (.getfield 62, 3) := by decide +kernel
theorem dX7_called_107 : decode cX7_called 107 = .ok (.iload_n 3, 1) := by decide +kernel
theorem dX7_called_108 : decode cX7_called 108 = .ok (.iconst 0, 1) := by decide +kernel
theorem dX7_called_109 : decode cX7_called 109 = .ok (.aload_n 0, 1) := by decide +kernel
theorem dX7_called_110 : decode cX7_called 110 = .ok (.getfield 62, 3) := by decide +kernel
theorem dX7_called_113 : decode cX7_called 113 = .ok (.iconst 1, 1) := by decide +kernel
theorem dX7_called_114 : decode cX7_called 114 = .ok (.iload 6, 2) := by decide +kernel
theorem dX7_called_116 : decode cX7_called 116 = .ok (.ishl, 1) := by decide +kernel
theorem dX7_called_117 : decode cX7_called 117 = .ok (.invokevirtual 142, 3) := by decide +kernel
theorem dX7_called_120 : decode cX7_called 120 = .ok (.invokevirtual 145, 3) := by decide +kernel
theorem dX7_called_123 : decode cX7_called 123 = .ok (.istore 9, 2) := by decide +kernel
theorem dX7_called_125 : decode cX7_called 125 = .ok (.iload 7, 2) := by decide +kernel
theorem dX7_called_127 : decode cX7_called 127 = .ok (.aload_n 0, 1) := by decide +kernel
theorem dX7_called_128 : decode cX7_called 128 = .ok (.getfield 62, 3) := by decide +kernel
theorem dX7_called_131 : decode cX7_called 131 = .ok (.iload_n 3, 1) := by decide +kernel
theorem dX7_called_132 : decode cX7_called 132 = .ok (.iconst 0, 1) := by decide +kernel
theorem dX7_called_133 : decode cX7_called 133 = .ok (.iload 9, 2) := by decide +kernel
theorem dX7_called_135 : decode cX7_called 135 = .ok (.invokevirtual 152, 3) := by decide +kernel
theorem dX7_called_138 : decode cX7_called 138 = .ok (.invokestatic 231, 3) := by decide +kernel
theorem dX7_called_141 : decode cX7_called 141 = .ok (.istore 7, 2) := by decide +kernel
theorem dX7_called_143 : decode cX7_called 143 = .ok (.iload 8, 2) := by decide +kernel
theorem dX7_called_145 : decode cX7_called 145 = .ok (.aload_n 0, 1) := by decide +kernel
theorem dX7_called_146 : decode cX7_called 146 = .ok (.getfield 62, 3) := by decide +kernel
theorem dX7_called_149 : decode cX7_called 149 = .ok (.iload_n 3, 1) := by decide +kernel
theorem dX7_called_150 : decode cX7_called 150 = .ok (.iconst 0, 1) := by decide +kernel
theorem dX7_called_151 : decode cX7_called 151 = .ok (.iload 9, 2) := by decide +kernel
theorem dX7_called_153 : decode cX7_called 153 = .ok (.invokevirtual 155, 3) := by decide +kernel
theorem dX7_called_156 : decode cX7_called 156 = .ok (.invokestatic 236, 3) := by decide +kernel
theorem dX7_called_159 : decode cX7_called 159 = .ok (.istore 8, 2) := by decide +kernel
theorem dX7_called_161 : decode cX7_called 161 = .ok (.iload 5, 2) := by decide +kernel
theorem dX7_called_163 : decode cX7_called 163 = .ok (.iload 8, 2) := by decide +kernel
theorem dX7_called_165 : decode cX7_called 165 = .ok (.iload 7, 2) := by decide +kernel
theorem dX7_called_167 : decode cX7_called 167 = .ok (.isub, 1) := by decide +kernel
theorem dX7_called_168 : decode cX7_called 168 = .ok (.invokestatic 231, 3) := by decide +kernel
theorem dX7_called_171 : decode cX7_called 171 = .ok (.istore 5, 2) := by decide +kernel
theorem dX7_called_173 : decode cX7_called 173 = .ok (.iinc 6 1, 3) := by decide +kernel
theorem dX7_called_176 : decode cX7_called 176 = .ok (.goto (-123), 3) := by decide +kernel
theorem dX7_called_179 : decode cX7_called 179 = .ok (.iload_n 2, 1) := by decide +kernel
theorem dX7_called_180 : decode cX7_called 180 = .ok (.ifCond .ne 8, 3) := by decide +kernel
theorem dX7_called_183 : decode cX7_called 183 = .ok (.iload 4, 2) := by decide +kernel
theorem dX7_called_185 : decode cX7_called 185 = .ok (.goto 5, 3) := by decide +kernel
theorem dX7_called_188 : decode cX7_called 188 = .ok (.iload 5, 2) := by decide +kernel
theorem dX7_called_190 : decode cX7_called 190 = .ok (.ireturn, 1) := by decide +kernel
theorem dX7_write_0 : decode cX7_write 0 = .ok (.aload_n 0, 1) := by decide +kernel
theorem dX7_write_1 : decode cX7_write 1 = .ok (.iload_n 1, 1) := by decide +kernel
theorem dX7_write_2 : decode cX7_write 2 = .ok (.iload_n 2, 1) := by decide +kernel
theorem dX7_write_3 : decode cX7_write 3 = .ok (.iload_n 3, 1) := by decide +kernel
theorem dX7_write_4 : decode cX7_write 4 = .ok (.iload 4, 2) := by decide +kernel
theorem dX7_write_6 : decode cX7_write 6 = .ok (.aload_n 0, 1) := by decide +kernel
theorem dX7_write_7 : decode cX7_write 7 = .ok (.getfield 25, 3) := by decide +kernel
theorem dX7_write_10 : decode cX7_write 10 = .ok (.invokevirtual 158, 3) := by decide +kernel
theorem dX7_write_13 : decode cX7_write 13 = .ok (.istore 5, 2) := by decide +kernel
theorem dX7_write_15 : decode cX7_write 15 = .ok (.iload 5, 2) := by decide +kernel
theorem dX7_write_17 : decode cX7_write 17 = .ok (.ifCond .eq 6, 3) := by decide +kernel
theorem dX7_write_20 : decode cX7_write 20 = .ok (.iload 5, 2) := by decide +kernel
theorem dX7_write_22 : decode cX7_write 22 = .ok (.ireturn, 1) := by decide +kernel
theorem dX7_write_23 : decode cX7_write 23 = .ok (.aload_n 0, 1) := by decide +kernel
theorem dX7_write_24 : decode cX7_write 24 = .ok (.getfield 25, 3) := by decide +kernel
theorem dX7_write_27 : decode cX7_write 27 = .ok (.iload_n 1, 1) := by decide +kernel
theorem dX7_write_28 : decode cX7_write 28 = .ok (.iload_n 2, 1) := by decide +kernel
theorem dX7_write_29 : decode cX7_write 29 = .ok (.iload_n 3, 1) := by decide +kernel
theorem dX7_write_30 : decode cX7_write 30 = .ok (.iload 4, 2) := by decide +kernel
theorem dX7_write_32 : decode cX7_write 32 = .ok (.invokevirtual 162, 3) := by decide +kernel
theorem dX7_write_35 : decode cX7_write 35 = .ok (.aload_n 0, 1) := by decide +kernel
theorem dX7_write_36 : decode cX7_write 36 = .ok (.getfield 25, 3) := by decide +kernel
theorem dX7_write_39 : decode cX7_write 39 = .ok (.getfield 86, 3) := by decide +kernel
theorem dX7_write_42 : decode cX7_write 42 = .ok (.ireturn, 1) := by decide +kernel
theorem dX7_tear_0 : decode cX7_tear 0 = .ok (.aload_n 0, 1) := by decide +kernel
theorem dX7_tear_1 : decode cX7_tear 1 = .ok (.getfield 25, 3) := by decide +kernel
theorem dX7_tear_4 : decode cX7_tear 4 = .ok (.getfield 86, 3) := by decide +kernel
theorem dX7_tear_7 : decode cX7_tear 7 = .ok (.istore_n 1, 1) := by decide +kernel
theorem dX7_tear_8 : decode cX7_tear 8 = .ok (.aload_n 0, 1) := by decide +kernel
theorem dX7_tear_9 : decode cX7_tear 9 = .ok (.getfield 25, 3) := by decide +kernel
theorem dX7_tear_12 : decode cX7_tear 12 = .ok (.iconst 0, 1) := by decide +kernel
theorem dX7_tear_13 : decode cX7_tear 13 = .ok (.putfield 86, 3) := by decide +kernel
theorem dX7_tear_16 : decode cX7_tear 16 = .ok (.iload_n 1, 1) := by decide +kernel
theorem dX7_tear_17 : decode cX7_tear 17 = .ok (.ireturn, 1) := by decide +kernel
theorem dX7_judge_0 : decode cX7_judge 0 = .ok (.iconst 0, 1) := by decide +kernel
theorem dX7_judge_1 : decode cX7_judge 1 = .ok (.istore_n 1, 1) := by decide +kernel
theorem dX7_judge_2 : decode cX7_judge 2 = .ok (.iload_n 1, 1) := by decide +kernel
theorem dX7_judge_3 : decode cX7_judge 3 = .ok (.aload_n 0, 1) := by decide +kernel
theorem dX7_judge_4 : decode cX7_judge 4 = .ok (.getfield 25, 3) := by decide +kernel
theorem dX7_judge_7 : decode cX7_judge 7 = .ok (.getfield 86, 3) := by decide +kernel
theorem dX7_judge_10 : decode cX7_judge 10 = .ok (.if_icmp .ge 62, 3) := by decide +kernel
theorem dX7_judge_13 : decode cX7_judge 13 = .ok (.aload_n 0, 1) := by decide +kernel
theorem dX7_judge_14 : decode cX7_judge 14 = .ok (.getfield 62, 3) := by decide +kernel
theorem dX7_judge_17 : decode cX7_judge 17 = .ok (.aload_n 0, 1) := by decide +kernel
theorem dX7_judge_18 : decode cX7_judge 18 = .ok (.getfield 25, 3) := by decide +kernel
theorem dX7_judge_21 : decode cX7_judge 21 = .ok (.iload_n 1, 1) := by decide +kernel
theorem dX7_judge_22 : decode cX7_judge 22 = .ok (.invokevirtual 239, 3) := by decide +kernel
theorem dX7_judge_25 : decode cX7_judge 25 = .ok (.invokevirtual 142, 3) := by decide +kernel
theorem dX7_judge_28 : decode cX7_judge 28 = .ok (.istore_n 2, 1) := by decide +kernel
theorem dX7_judge_29 : decode cX7_judge 29 = .ok (.aload_n 0, 1) := by decide +kernel
theorem dX7_judge_30 : decode cX7_judge 30 = .ok (.getfield 25, 3) := by decide +kernel
theorem dX7_judge_33 : decode cX7_judge 33 = .ok (.iload_n 1, 1) := by decide +kernel
theorem dX7_judge_34 : decode cX7_judge 34 = .ok (.invokevirtual 242, 3) := by decide +kernel
theorem dX7_judge_37 : decode cX7_judge 37 = .ok (.aload_n 0, 1) := by decide +kernel
theorem dX7_judge_38 : decode cX7_judge 38 = .ok (.getfield 62, 3) := by decide +kernel
theorem dX7_judge_41 : decode cX7_judge 41 = .ok (.aload_n 0, 1) := by decide +kernel
theorem dX7_judge_42 : decode cX7_judge 42 = .ok (.getfield 25, 3) := by decide +kernel
theorem dX7_judge_45 : decode cX7_judge 45 = .ok (.iload_n 1, 1) := by decide +kernel
theorem dX7_judge_46 : decode cX7_judge 46 = .ok (.invokevirtual 245, 3) := by decide +kernel
theorem dX7_judge_49 : decode cX7_judge 49 = .ok (.aload_n 0, 1) := by decide +kernel
theorem dX7_judge_50 : decode cX7_judge 50 = .ok (.getfield 25, 3) := by decide +kernel
theorem dX7_judge_53 : decode cX7_judge 53 = .ok (.iload_n 1, 1) := by decide +kernel
theorem dX7_judge_54 : decode cX7_judge 54 = .ok (.invokevirtual 248, 3) := by decide +kernel
theorem dX7_judge_57 : decode cX7_judge 57 = .ok (.iload_n 2, 1) := by decide +kernel
theorem dX7_judge_58 : decode cX7_judge 58 = .ok (.invokevirtual 145, 3) := by decide +kernel
theorem dX7_judge_61 : decode cX7_judge 61 = .ok (.if_icmp .eq 5, 3) := by decide +kernel
theorem dX7_judge_64 : decode cX7_judge 64 = .ok (.iload_n 1, 1) := by decide +kernel
theorem dX7_judge_65 : decode cX7_judge 65 = .ok (.ireturn, 1) := by decide +kernel
theorem dX7_judge_66 : decode cX7_judge 66 = .ok (.iinc 1 1, 3) := by decide +kernel
theorem dX7_judge_69 : decode cX7_judge 69 = .ok (.goto (-67), 3) := by decide +kernel
theorem dX7_judge_72 : decode cX7_judge 72 = .ok (.iconst (-1), 1) := by decide +kernel
theorem dX7_judge_73 : decode cX7_judge 73 = .ok (.ireturn, 1) := by decide +kernel
theorem dX7_drift_0 : decode cX7_drift 0 = .ok (.aload_n 0, 1) := by decide +kernel
theorem dX7_drift_1 : decode cX7_drift 1 = .ok (.getfield 62, 3) := by decide +kernel
theorem dX7_drift_4 : decode cX7_drift 4 = .ok (.iload_n 1, 1) := by decide +kernel
theorem dX7_drift_5 : decode cX7_drift 5 = .ok (.invokevirtual 114, 3) := by decide +kernel
theorem dX7_drift_8 : decode cX7_drift 8 = .ok (.ifCond .ne 6, 3) := by decide +kernel
theorem dX7_drift_11 : decode cX7_drift 11 = .ok (.ldc 118, 2) := by decide +kernel
theorem dX7_drift_13 : decode cX7_drift 13 = .ok (.ireturn, 1) := by decide +kernel
theorem dX7_drift_14 : decode cX7_drift 14 = .ok (.iload_n 2, 1) := by decide +kernel
theorem dX7_drift_15 : decode cX7_drift 15 = .ok (.iconst 1, 1) := by decide +kernel
theorem dX7_drift_16 : decode cX7_drift 16 = .ok (.if_icmp .lt 9, 3) := by decide +kernel
theorem dX7_drift_19 : decode cX7_drift 19 = .ok (.iload_n 2, 1) := by decide +kernel
theorem dX7_drift_20 : decode cX7_drift 20 = .ok (.bipush 30, 2) := by decide +kernel
theorem dX7_drift_22 : decode cX7_drift 22 = .ok (.if_icmp .le 6, 3) := by decide +kernel
theorem dX7_drift_25 : decode cX7_drift 25 = .ok (.ldc 69, 2) := by decide +kernel
theorem dX7_drift_27 : decode cX7_drift 27 = .ok (.ireturn, 1) := by decide +kernel
theorem dX7_drift_28 : decode cX7_drift 28 = .ok (.iconst 0, 1) := by decide +kernel
theorem dX7_drift_29 : decode cX7_drift 29 = .ok (.istore_n 3, 1) := by decide +kernel
theorem dX7_drift_30 : decode cX7_drift 30 = .ok (.iload_n 3, 1) := by decide +kernel
theorem dX7_drift_31 : decode cX7_drift 31 = .ok (.iload_n 2, 1) := by decide +kernel
theorem dX7_drift_32 : decode cX7_drift 32 = .ok (.if_icmp .ge 53, 3) := by decide +kernel
theorem dX7_drift_35 : decode cX7_drift 35 = .ok (.aload_n 0, 1) := by decide +kernel
theorem dX7_drift_36 : decode cX7_drift 36 = .ok (.invokevirtual 251, 3) := by decide +kernel
theorem dX7_drift_39 : decode cX7_drift 39 = .ok (.istore 4, 2) := by decide +kernel
theorem dX7_drift_41 : decode cX7_drift 41 = .ok (.aload_n 0, 1) := by decide +kernel
theorem dX7_drift_42 : decode cX7_drift 42 = .ok (.iconst 4, 1) := by decide +kernel
theorem dX7_drift_43 : decode cX7_drift 43 = .ok (.invokevirtual 254, 3) := by decide +kernel
theorem dX7_drift_46 : decode cX7_drift 46 = .ok (.istore 5, 2) := by decide +kernel
theorem dX7_drift_48 : decode cX7_drift 48 = .ok (.aload_n 0, 1) := by decide +kernel
theorem dX7_drift_49 : decode cX7_drift 49 = .ok (.getfield 21, 3) := by decide +kernel
theorem dX7_drift_52 : decode cX7_drift 52 = .ok (.iload_n 1, 1) := by decide +kernel
theorem dX7_drift_53 : decode cX7_drift 53 = .ok (.iload 5, 2) := by decide +kernel
theorem dX7_drift_55 : decode cX7_drift 55 = .ok (.iload 4, 2) := by decide +kernel
theorem dX7_drift_57 : decode cX7_drift 57 = .ok (.aload_n 0, 1) := by decide +kernel
theorem dX7_drift_58 : decode cX7_drift 58 = .ok (.getfield 62, 3) := by decide +kernel
theorem dX7_drift_61 : decode cX7_drift 61 = .ok (.iload_n 1, 1) := by decide +kernel
theorem dX7_drift_62 : decode cX7_drift 62 = .ok (.iload 5, 2) := by decide +kernel
theorem dX7_drift_64 : decode cX7_drift 64 = .ok (.aload_n 0, 1) := by decide +kernel
theorem dX7_drift_65 : decode cX7_drift 65 = .ok (.getfield 62, 3) := by decide +kernel
theorem dX7_drift_68 : decode cX7_drift 68 = .ok (.iload 4, 2) := by decide +kernel
theorem dX7_drift_70 : decode cX7_drift 70 = .ok (.invokevirtual 142, 3) := by decide +kernel
theorem dX7_drift_73 : decode cX7_drift 73 = .ok (.invokevirtual 145, 3) := by decide +kernel
theorem dX7_drift_76 : decode cX7_drift 76 = .ok (.invokevirtual 162, 3) := by decide +kernel
theorem dX7_drift_79 : decode cX7_drift 79 = .ok (.iinc 3 1, 3) := by decide +kernel
theorem dX7_drift_82 : decode cX7_drift 82 = .ok (.goto (-52), 3) := by decide +kernel
theorem dX7_drift_85 : decode cX7_drift 85 = .ok (.aload_n 0, 1) := by decide +kernel
theorem dX7_drift_86 : decode cX7_drift 86 = .ok (.invokevirtual 96, 3) := by decide +kernel
theorem dX7_drift_89 : decode cX7_drift 89 = .ok (.aload_n 0, 1) := by decide +kernel
theorem dX7_drift_90 : decode cX7_drift 90 = .ok (.getfield 21, 3) := by decide +kernel
theorem dX7_drift_93 : decode cX7_drift 93 = .ok (.getfield 86, 3) := by decide +kernel
theorem dX7_drift_96 : decode cX7_drift 96 = .ok (.ireturn, 1) := by decide +kernel
theorem dX7_forget_0 : decode cX7_forget 0 = .ok (.aload_n 0, 1) := by decide +kernel
theorem dX7_forget_1 : decode cX7_forget 1 = .ok (.getfield 21, 3) := by decide +kernel
theorem dX7_forget_4 : decode cX7_forget 4 = .ok (.getfield 86, 3) := by decide +kernel
theorem dX7_forget_7 : decode cX7_forget 7 = .ok (.istore_n 1, 1) := by decide +kernel
theorem dX7_forget_8 : decode cX7_forget 8 = .ok (.aload_n 0, 1) := by decide +kernel
theorem dX7_forget_9 : decode cX7_forget 9 = .ok (.getfield 21, 3) := by decide +kernel
theorem dX7_forget_12 : decode cX7_forget 12 = .ok (.iconst 0, 1) := by decide +kernel
theorem dX7_forget_13 : decode cX7_forget 13 = .ok (.putfield 86, 3) := by decide +kernel
theorem dX7_forget_16 : decode cX7_forget 16 = .ok (.aload_n 0, 1) := by decide +kernel
theorem dX7_forget_17 : decode cX7_forget 17 = .ok (.invokevirtual 96, 3) := by decide +kernel
theorem dX7_forget_20 : decode cX7_forget 20 = .ok (.iload_n 1, 1) := by decide +kernel
theorem dX7_forget_21 : decode cX7_forget 21 = .ok (.ireturn, 1) := by decide +kernel
theorem dX7_seed_0 : decode cX7_seed 0 = .ok (.iload_n 1, 1) := by decide +kernel
theorem dX7_seed_1 : decode cX7_seed 1 = .ok (.ifCond .ge 6, 3) := by decide +kernel
theorem dX7_seed_4 : decode cX7_seed 4 = .ok (.ldc 69, 2) := by decide +kernel
theorem dX7_seed_6 : decode cX7_seed 6 = .ok (.ireturn, 1) := by decide +kernel
theorem dX7_seed_7 : decode cX7_seed 7 = .ok (.aload_n 0, 1) := by decide +kernel
theorem dX7_seed_8 : decode cX7_seed 8 = .ok (.getfield 257, 3) := by decide +kernel
theorem dX7_seed_11 : decode cX7_seed 11 = .ok (.istore_n 2, 1) := by decide +kernel
theorem dX7_seed_12 : decode cX7_seed 12 = .ok (.aload_n 0, 1) := by decide +kernel
theorem dX7_seed_13 : decode cX7_seed 13 = .ok (.iload_n 1, 1) := by decide +kernel
theorem dX7_seed_14 : decode cX7_seed 14 = .ok (.putfield 257, 3) := by decide +kernel
theorem dX7_seed_17 : decode cX7_seed 17 = .ok (.iload_n 2, 1) := by decide +kernel
theorem dX7_seed_18 : decode cX7_seed 18 = .ok (.ireturn, 1) := by decide +kernel
theorem dX7_keep_0 : decode cX7_keep 0 = .ok (.aload_n 0, 1) := by decide +kernel
theorem dX7_keep_1 : decode cX7_keep 1 = .ok (.iload_n 1, 1) := by decide +kernel
theorem dX7_keep_2 : decode cX7_keep 2 = .ok (.invokevirtual 260, 3) := by decide +kernel
theorem dX7_keep_5 : decode cX7_keep 5 = .ok (.astore_n 2, 1) := by decide +kernel
theorem dX7_keep_6 : decode cX7_keep 6 = .ok (.aload_n 2, 1) := by decide +kernel
theorem dX7_keep_7 : decode cX7_keep 7 = .ok (.ifnonnull 6, 3) := by decide +kernel
theorem dX7_keep_10 : decode cX7_keep 10 = .ok (.ldc 118, 2) := by decide +kernel
theorem dX7_keep_12 : decode cX7_keep 12 = .ok (.ireturn, 1) := by decide +kernel
theorem dX7_keep_13 : decode cX7_keep 13 = .ok (.aload_n 2, 1) := by decide +kernel
theorem dX7_keep_14 : decode cX7_keep 14 = .ok (.getfield 264, 3) := by decide +kernel
theorem dX7_keep_17 : decode cX7_keep 17 = .ok (.aload_n 0, 1) := by decide +kernel
theorem dX7_keep_18 : decode cX7_keep 18 = .ok (.getfield 21, 3) := by decide +kernel
theorem dX7_keep_21 : decode cX7_keep 21 = .ok (.invokevirtual 265, 3) := by decide +kernel
theorem dX7_keep_24 : decode cX7_keep 24 = .ok (.aload_n 2, 1) := by decide +kernel
theorem dX7_keep_25 : decode cX7_keep 25 = .ok (.aload_n 0, 1) := by decide +kernel
theorem dX7_keep_26 : decode cX7_keep 26 = .ok (.getfield 257, 3) := by decide +kernel
theorem dX7_keep_29 : decode cX7_keep 29 = .ok (.putfield 269, 3) := by decide +kernel
theorem dX7_keep_32 : decode cX7_keep 32 = .ok (.aload_n 2, 1) := by decide +kernel
theorem dX7_keep_33 : decode cX7_keep 33 = .ok (.iconst 1, 1) := by decide +kernel
theorem dX7_keep_34 : decode cX7_keep 34 = .ok (.putfield 89, 3) := by decide +kernel
theorem dX7_keep_37 : decode cX7_keep 37 = .ok (.iconst 1, 1) := by decide +kernel
theorem dX7_keep_38 : decode cX7_keep 38 = .ok (.ireturn, 1) := by decide +kernel
theorem dX7_goBack_0 : decode cX7_goBack 0 = .ok (.aload_n 0, 1) := by decide +kernel
theorem dX7_goBack_1 : decode cX7_goBack 1 = .ok (.iload_n 1, 1) := by decide +kernel
theorem dX7_goBack_2 : decode cX7_goBack 2 = .ok (.invokevirtual 260, 3) := by decide +kernel
theorem dX7_goBack_5 : decode cX7_goBack 5 = .ok (.astore_n 2, 1) := by decide +kernel
theorem dX7_goBack_6 : decode cX7_goBack 6 = .ok (.aload_n 2, 1) := by decide +kernel
theorem dX7_goBack_7 : decode cX7_goBack 7 = .ok (.ifnonnull 6, 3) := by decide +kernel
theorem dX7_goBack_10 : decode cX7_goBack 10 = .ok (.ldc 118, 2) := by decide +kernel
theorem dX7_goBack_12 : decode cX7_goBack 12 = .ok (.ireturn, 1) := by decide +kernel
theorem dX7_goBack_13 : decode cX7_goBack 13 = .ok (.aload_n 2, 1) := by decide +kernel
theorem dX7_goBack_14 : decode cX7_goBack 14 = .ok (.getfield 89, 3) := by decide +kernel
theorem dX7_goBack_17 : decode cX7_goBack 17 = .ok (.ifCond .ne 6, 3) := by decide +kernel
theorem dX7_goBack_20 : decode cX7_goBack 20 = .ok (.ldc 227, 2) := by decide +kernel
theorem dX7_goBack_22 : decode cX7_goBack 22 = .ok (.ireturn, 1) := by decide +kernel
theorem dX7_goBack_23 : decode cX7_goBack 23 = .ok (.aload_n 0, 1) := by decide +kernel
theorem dX7_goBack_24 : decode cX7_goBack 24 = .ok (.getfield 21, 3) := by decide +kernel
theorem dX7_goBack_27 : decode cX7_goBack 27 = .ok (.aload_n 2, 1) := by decide +kernel
theorem dX7_goBack_28 : decode cX7_goBack 28 = .ok (.getfield 264, 3) := by decide +kernel
theorem dX7_goBack_31 : decode cX7_goBack 31 = .ok (.invokevirtual 265, 3) := by decide +kernel
theorem dX7_goBack_34 : decode cX7_goBack 34 = .ok (.aload_n 0, 1) := by decide +kernel
theorem dX7_goBack_35 : decode cX7_goBack 35 = .ok (.aload_n 2, 1) := by decide +kernel
theorem dX7_goBack_36 : decode cX7_goBack 36 = .ok (.getfield 269, 3) := by decide +kernel
theorem dX7_goBack_39 : decode cX7_goBack 39 = .ok (.putfield 257, 3) := by decide +kernel
theorem dX7_goBack_42 : decode cX7_goBack 42 = .ok (.aload_n 0, 1) := by decide +kernel
theorem dX7_goBack_43 : decode cX7_goBack 43 = .ok (.invokevirtual 96, 3) := by decide +kernel
theorem dX7_goBack_46 : decode cX7_goBack 46 = .ok (.iconst 1, 1) := by decide +kernel
theorem dX7_goBack_47 : decode cX7_goBack 47 = .ok (.ireturn, 1) := by decide +kernel
theorem dX7_learn_0 : decode cX7_learn 0 = .ok (.aload_n 0, 1) := by decide +kernel
theorem dX7_learn_1 : decode cX7_learn 1 = .ok (.getfield 41, 3) := by decide +kernel
theorem dX7_learn_4 : decode cX7_learn 4 = .ok (.aload_n 0, 1) := by decide +kernel
theorem dX7_learn_5 : decode cX7_learn 5 = .ok (.getfield 62, 3) := by decide +kernel
theorem dX7_learn_8 : decode cX7_learn 8 = .ok (.aload_n 0, 1) := by decide +kernel
theorem dX7_learn_9 : decode cX7_learn 9 = .ok (.getfield 21, 3) := by decide +kernel
theorem dX7_learn_12 : decode cX7_learn 12 = .ok (.invokevirtual 270, 3) := by decide +kernel
theorem dX7_learn_15 : decode cX7_learn 15 = .ok (.aload_n 0, 1) := by decide +kernel
theorem dX7_learn_16 : decode cX7_learn 16 = .ok (.getfield 48, 3) := by decide +kernel
theorem dX7_learn_19 : decode cX7_learn 19 = .ok (.iconst 0, 1) := by decide +kernel
theorem dX7_learn_20 : decode cX7_learn 20 = .ok (.putfield 273, 3) := by decide +kernel
theorem dX7_learn_23 : decode cX7_learn 23 = .ok (.return_, 1) := by decide +kernel
theorem dX7_refusalOfRow_0 : decode cX7_refusalOfRow 0 = .ok (.aload_n 0, 1) := by decide +kernel
theorem dX7_refusalOfRow_1 : decode cX7_refusalOfRow 1 = .ok (.getfield 62, 3) := by decide +kernel
theorem dX7_refusalOfRow_4 : decode cX7_refusalOfRow 4 = .ok (.iload_n 1, 1) := by decide +kernel
theorem dX7_refusalOfRow_5 : decode cX7_refusalOfRow 5 = .ok (.invokevirtual 114, 3) := by decide +kernel
theorem dX7_refusalOfRow_8 : decode cX7_refusalOfRow 8 = .ok (.ifCond .eq 14, 3) := by decide +kernel
theorem dX7_refusalOfRow_11 : decode cX7_refusalOfRow 11 = .ok (.aload_n 0, 1) := by decide +kernel
theorem dX7_refusalOfRow_12 : decode cX7_refusalOfRow 12 = .ok (.getfield 62, 3) := by decide +kernel
theorem dX7_refusalOfRow_15 : decode cX7_refusalOfRow 15 = .ok (.iload_n 3, 1) := by decide +kernel
theorem dX7_refusalOfRow_16 : decode cX7_refusalOfRow 16 = .ok (.invokevirtual 136, 3) := by decide +kernel
theorem dX7_refusalOfRow_19 : decode cX7_refusalOfRow 19 = .ok (.ifCond .ne 6, 3) := by decide +kernel
theorem dX7_refusalOfRow_22 : decode cX7_refusalOfRow 22 = .ok (.ldc 118, 2) := by decide +kernel
theorem dX7_refusalOfRow_24 : decode cX7_refusalOfRow 24 = .ok (.ireturn, 1) := by decide +kernel
theorem dX7_refusalOfRow_25 : decode cX7_refusalOfRow 25 = .ok (.iload_n 2, 1) := by decide +kernel
theorem dX7_refusalOfRow_26 : decode cX7_refusalOfRow 26 = .ok (.invokestatic 139, 3) := by decide +kernel
theorem dX7_refusalOfRow_29 : decode cX7_refusalOfRow 29 = .ok (.ifCond .eq 11, 3) := by decide +kernel
theorem dX7_refusalOfRow_32 : decode cX7_refusalOfRow 32 = .ok (.iload 4, 2) := by decide +kernel
theorem dX7_refusalOfRow_34 : decode cX7_refusalOfRow 34 = .ok (.invokestatic 149, 3) := by decide +kernel
theorem dX7_refusalOfRow_37 : decode cX7_refusalOfRow 37 = .ok (.ifCond .ne 6, 3) := by decide +kernel
theorem dX7_refusalOfRow_40 : decode cX7_refusalOfRow 40 = .ok (.ldc 69, 2) := by decide +kernel
theorem dX7_refusalOfRow_42 : decode cX7_refusalOfRow 42 = .ok (.ireturn, 1) := by decide +kernel
theorem dX7_refusalOfRow_43 : decode cX7_refusalOfRow 43 = .ok (.aload 5, 2) := by decide +kernel
theorem dX7_refusalOfRow_45 : decode cX7_refusalOfRow 45 = .ok (.invokevirtual 276, 3) := by decide +kernel
theorem dX7_refusalOfRow_48 : decode cX7_refusalOfRow 48 = .ok (.ifCond .eq 7, 3) := by decide +kernel
theorem dX7_refusalOfRow_51 : decode cX7_refusalOfRow 51 = .ok (.iconst 0, 1) := by decide +kernel
theorem dX7_refusalOfRow_52 : decode cX7_refusalOfRow 52 = .ok (.goto 5, 3) := by decide +kernel
theorem dX7_refusalOfRow_55 : decode cX7_refusalOfRow 55 = .ok (.ldc 78, 2) := by decide +kernel
theorem dX7_refusalOfRow_57 : decode cX7_refusalOfRow 57 = .ok (.ireturn, 1) := by decide +kernel
theorem dX7_imageAt_0 : decode cX7_imageAt 0 = .ok (.iload_n 1, 1) := by decide +kernel
theorem dX7_imageAt_1 : decode cX7_imageAt 1 = .ok (.ifCond .ne 8, 3) := by decide +kernel
theorem dX7_imageAt_4 : decode cX7_imageAt 4 = .ok (.aload_n 0, 1) := by decide +kernel
theorem dX7_imageAt_5 : decode cX7_imageAt 5 = .ok (.getfield 31, 3) := by decide +kernel
theorem dX7_imageAt_8 : decode cX7_imageAt 8 = .ok (.areturn, 1) := by decide +kernel
theorem dX7_imageAt_9 : decode cX7_imageAt 9 = .ok (.iload_n 1, 1) := by decide +kernel
theorem dX7_imageAt_10 : decode cX7_imageAt 10 = .ok (.iconst 1, 1) := by decide +kernel
theorem dX7_imageAt_11 : decode cX7_imageAt 11 = .ok (.if_icmp .ne 10, 3) := by decide +kernel
theorem dX7_imageAt_14 : decode cX7_imageAt 14 = .ok (.aload_n 0, 1) := by decide +kernel
theorem dX7_imageAt_15 : decode cX7_imageAt 15 = .ok (.getfield 35, 3) := by decide +kernel
theorem dX7_imageAt_18 : decode cX7_imageAt 18 = .ok (.goto 4, 3) := by decide +kernel
theorem dX7_imageAt_21 : decode cX7_imageAt 21 = .ok (.aconst_null, 1) := by decide +kernel
theorem dX7_imageAt_22 : decode cX7_imageAt 22 = .ok (.areturn, 1) := by decide +kernel
theorem dX7_drawSet_0 : decode cX7_drawSet 0 = .ok (.iconst 0, 1) := by decide +kernel
theorem dX7_drawSet_1 : decode cX7_drawSet 1 = .ok (.istore_n 1, 1) := by decide +kernel
theorem dX7_drawSet_2 : decode cX7_drawSet 2 = .ok (.iconst 0, 1) := by decide +kernel
theorem dX7_drawSet_3 : decode cX7_drawSet 3 = .ok (.istore_n 2, 1) := by decide +kernel
theorem dX7_drawSet_4 : decode cX7_drawSet 4 = .ok (.iload_n 2, 1) := by decide +kernel
theorem dX7_drawSet_5 : decode cX7_drawSet 5 = .ok (.aload_n 0, 1) := by decide +kernel
theorem dX7_drawSet_6 : decode cX7_drawSet 6 = .ok (.getfield 62, 3) := by decide +kernel
theorem dX7_drawSet_9 : decode cX7_drawSet 9 = .ok (.getfield 99, 3) := by decide +kernel
theorem dX7_drawSet_12 : decode cX7_drawSet 12 = .ok (.if_icmp .ge 33, 3) := by decide +kernel
theorem dX7_drawSet_15 : decode cX7_drawSet 15 = .ok (.aload_n 0, 1) := by decide +kernel
theorem dX7_drawSet_16 : decode cX7_drawSet 16 = .ok (.bipush 100, 2) := by decide +kernel
theorem dX7_drawSet_18 : decode cX7_drawSet 18 = .ok (.invokevirtual 254, 3) := by decide +kernel
theorem dX7_drawSet_21 : decode cX7_drawSet 21 = .ok (.aload_n 0, 1) := by decide +kernel
theorem dX7_drawSet_22 : decode cX7_drawSet 22 = .ok (.getfield 62, 3) := by decide +kernel
theorem dX7_drawSet_25 : decode cX7_drawSet 25 = .ok (.iload_n 2, 1) := by decide +kernel
theorem dX7_drawSet_26 : decode cX7_drawSet 26 = .ok (.iconst 3, 1) := by decide +kernel
theorem dX7_drawSet_27 : decode cX7_drawSet 27 = .ok (.invokevirtual 133, 3) := by decide +kernel
theorem dX7_drawSet_30 : decode cX7_drawSet 30 = .ok (.if_icmp .ge 9, 3) := by decide +kernel
theorem dX7_drawSet_33 : decode cX7_drawSet 33 = .ok (.iload_n 1, 1) := by decide +kernel
theorem dX7_drawSet_34 : decode cX7_drawSet 34 = .ok (.iconst 1, 1) := by decide +kernel
theorem dX7_drawSet_35 : decode cX7_drawSet 35 = .ok (.iload_n 2, 1) := by decide +kernel
theorem dX7_drawSet_36 : decode cX7_drawSet 36 = .ok (.ishl, 1) := by decide +kernel
theorem dX7_drawSet_37 : decode cX7_drawSet 37 = .ok (.ior, 1) := by decide +kernel
theorem dX7_drawSet_38 : decode cX7_drawSet 38 = .ok (.istore_n 1, 1) := by decide +kernel
theorem dX7_drawSet_39 : decode cX7_drawSet 39 = .ok (.iinc 2 1, 3) := by decide +kernel
theorem dX7_drawSet_42 : decode cX7_drawSet 42 = .ok (.goto (-38), 3) := by decide +kernel
theorem dX7_drawSet_45 : decode cX7_drawSet 45 = .ok (.iload_n 1, 1) := by decide +kernel
theorem dX7_drawSet_46 : decode cX7_drawSet 46 = .ok (.ireturn, 1) := by decide +kernel
theorem dX7_draw_0 : decode cX7_draw 0 = .ok (.aload_n 0, 1) := by decide +kernel
theorem dX7_draw_1 : decode cX7_draw 1 = .ok (.aload_n 0, 1) := by decide +kernel
theorem dX7_draw_2 : decode cX7_draw 2 = .ok (.getfield 257, 3) := by decide +kernel
theorem dX7_draw_5 : decode cX7_draw 5 = .ok (.i2l, 1) := by decide +kernel
theorem dX7_draw_6 : decode cX7_draw 6 = .ok (.ldc2_w 280, 3) := by decide +kernel
theorem dX7_draw_9 : decode cX7_draw 9 = .ok (.lmul, 1) := by decide +kernel
theorem dX7_draw_10 : decode cX7_draw 10 = .ok (.ldc2_w 282, 3) := by decide +kernel
theorem dX7_draw_13 : decode cX7_draw 13 = .ok (.ladd, 1) := by decide +kernel
theorem dX7_draw_14 : decode cX7_draw 14 = .ok (.ldc2_w 284, 3) := by decide +kernel
theorem dX7_draw_17 : decode cX7_draw 17 = .ok (.land, 1) := by decide +kernel
theorem dX7_draw_18 : decode cX7_draw 18 = .ok (.l2i, 1) := by decide +kernel
theorem dX7_draw_19 : decode cX7_draw 19 = .ok (.putfield 257, 3) := by decide +kernel
theorem dX7_draw_22 : decode cX7_draw 22 = .ok (.iload_n 1, 1) := by decide +kernel
theorem dX7_draw_23 : decode cX7_draw 23 = .ok (.ifCond .le 16, 3) := by decide +kernel
theorem dX7_draw_26 : decode cX7_draw 26 = .ok (.aload_n 0, 1) := by decide +kernel
theorem dX7_draw_27 : decode cX7_draw 27 = .ok (.getfield 257, 3) := by decide +kernel
theorem dX7_draw_30 : decode cX7_draw 30 = .ok (.ldc_w 286, 3) := by decide +kernel
theorem dX7_draw_33 : decode cX7_draw 33 = .ok (.idiv, 1) := by decide +kernel
theorem dX7_draw_34 : decode cX7_draw 34 = .ok (.iload_n 1, 1) := by decide +kernel
theorem dX7_draw_35 : decode cX7_draw 35 = .ok (.irem, 1) := by decide +kernel
theorem dX7_draw_36 : decode cX7_draw 36 = .ok (.goto 4, 3) := by decide +kernel
theorem dX7_draw_39 : decode cX7_draw 39 = .ok (.iconst 0, 1) := by decide +kernel
theorem dX7_draw_40 : decode cX7_draw 40 = .ok (.ireturn, 1) := by decide +kernel
theorem dX7_isHour_0 : decode cX7_isHour 0 = .ok (.iload_n 0, 1) := by decide +kernel
theorem dX7_isHour_1 : decode cX7_isHour 1 = .ok (.ifCond .lt 13, 3) := by decide +kernel
theorem dX7_isHour_4 : decode cX7_isHour 4 = .ok (.iload_n 0, 1) := by decide +kernel
theorem dX7_isHour_5 : decode cX7_isHour 5 = .ok (.bipush 100, 2) := by decide +kernel
theorem dX7_isHour_7 : decode cX7_isHour 7 = .ok (.if_icmp .ge 7, 3) := by decide +kernel
theorem dX7_isHour_10 : decode cX7_isHour 10 = .ok (.iconst 1, 1) := by decide +kernel
theorem dX7_isHour_11 : decode cX7_isHour 11 = .ok (.goto 4, 3) := by decide +kernel
theorem dX7_isHour_14 : decode cX7_isHour 14 = .ok (.iconst 0, 1) := by decide +kernel
theorem dX7_isHour_15 : decode cX7_isHour 15 = .ok (.ireturn, 1) := by decide +kernel
theorem dX7_isHeight_0 : decode cX7_isHeight 0 = .ok (.iload_n 0, 1) := by decide +kernel
theorem dX7_isHeight_1 : decode cX7_isHeight 1 = .ok (.ifCond .lt 14, 3) := by decide +kernel
theorem dX7_isHeight_4 : decode cX7_isHeight 4 = .ok (.iload_n 0, 1) := by decide +kernel
theorem dX7_isHeight_5 : decode cX7_isHeight 5 = .ok (.ldc_w 287, 3) := by decide +kernel
theorem dX7_isHeight_8 : decode cX7_isHeight 8 = .ok (.if_icmp .ge 7, 3) := by decide +kernel
theorem dX7_isHeight_11 : decode cX7_isHeight 11 = .ok (.iconst 1, 1) := by decide +kernel
theorem dX7_isHeight_12 : decode cX7_isHeight 12 = .ok (.goto 4, 3) := by decide +kernel
theorem dX7_isHeight_15 : decode cX7_isHeight 15 = .ok (.iconst 0, 1) := by decide +kernel
theorem dX7_isHeight_16 : decode cX7_isHeight 16 = .ok (.ireturn, 1) := by decide +kernel
theorem dX7_has_0 : decode cX7_has 0 = .ok (.iload_n 0, 1) := by decide +kernel
theorem dX7_has_1 : decode cX7_has 1 = .ok (.iload_n 1, 1) := by decide +kernel
theorem dX7_has_2 : decode cX7_has 2 = .ok (.ishr, 1) := by decide +kernel
theorem dX7_has_3 : decode cX7_has 3 = .ok (.iconst 1, 1) := by decide +kernel
theorem dX7_has_4 : decode cX7_has 4 = .ok (.iand, 1) := by decide +kernel
theorem dX7_has_5 : decode cX7_has 5 = .ok (.ifCond .eq 7, 3) := by decide +kernel
theorem dX7_has_8 : decode cX7_has 8 = .ok (.iconst 1, 1) := by decide +kernel
theorem dX7_has_9 : decode cX7_has 9 = .ok (.goto 4, 3) := by decide +kernel
theorem dX7_has_12 : decode cX7_has 12 = .ok (.iconst 0, 1) := by decide +kernel
theorem dX7_has_13 : decode cX7_has 13 = .ok (.ireturn, 1) := by decide +kernel
theorem dX8_init_0 : decode cX8_init 0 = .ok (.aload_n 0, 1) := by decide +kernel
theorem dX8_init_1 : decode cX8_init 1 = .ok (.invokespecial 1, 3) := by decide +kernel
theorem dX8_init_4 : decode cX8_init 4 = .ok (.aload_n 0, 1) := by decide +kernel
theorem dX8_init_5 : decode cX8_init 5 = .ok (.bipush 8, 2) := by decide +kernel
theorem dX8_init_7 : decode cX8_init 7 = .ok (.newarray .int, 2) := by decide +kernel
theorem dX8_init_9 : decode cX8_init 9 = .ok (.putfield 7, 3) := by decide +kernel
theorem dX8_init_12 : decode cX8_init 12 = .ok (.aload_n 0, 1) := by decide +kernel
theorem dX8_init_13 : decode cX8_init 13 = .ok (.bipush 24, 2) := by decide +kernel
theorem dX8_init_15 : decode cX8_init 15 = .ok (.newarray .int, 2) := by decide +kernel
theorem dX8_init_17 : decode cX8_init 17 = .ok (.putfield 13, 3) := by decide +kernel
theorem dX8_init_20 : decode cX8_init 20 = .ok (.aload_n 0, 1) := by decide +kernel
theorem dX8_init_21 : decode cX8_init 21 = .ok (.iconst 5, 1) := by decide +kernel
theorem dX8_init_22 : decode cX8_init 22 = .ok (.putfield 16, 3) := by decide +kernel
theorem dX8_init_25 : decode cX8_init 25 = .ok (.aload_n 0, 1) := by decide +kernel
theorem dX8_init_26 : decode cX8_init 26 = .ok (.bipush 48, 2) := by decide +kernel
theorem dX8_init_28 : decode cX8_init 28 = .ok (.newarray .int, 2) := by decide +kernel
theorem dX8_init_30 : decode cX8_init 30 = .ok (.putfield 20, 3) := by decide +kernel
theorem dX8_init_33 : decode cX8_init 33 = .ok (.aload_n 0, 1) := by decide +kernel
theorem dX8_init_34 : decode cX8_init 34 = .ok (.sipush 400, 3) := by decide +kernel
theorem dX8_init_37 : decode cX8_init 37 = .ok (.newarray .int, 2) := by decide +kernel
theorem dX8_init_39 : decode cX8_init 39 = .ok (.putfield 23, 3) := by decide +kernel
theorem dX8_init_42 : decode cX8_init 42 = .ok (.aload_n 0, 1) := by decide +kernel
theorem dX8_init_43 : decode cX8_init 43 = .ok (.iconst (-1), 1) := by decide +kernel
theorem dX8_init_44 : decode cX8_init 44 = .ok (.putfield 26, 3) := by decide +kernel
theorem dX8_init_47 : decode cX8_init 47 = .ok (.aload_n 0, 1) := by decide +kernel
theorem dX8_init_48 : decode cX8_init 48 = .ok (.bipush 8, 2) := by decide +kernel
theorem dX8_init_50 : decode cX8_init 50 = .ok (.newarray .int, 2) := by decide +kernel
theorem dX8_init_52 : decode cX8_init 52 = .ok (.putfield 29, 3) := by decide +kernel
theorem dX8_init_55 : decode cX8_init 55 = .ok (.aload_n 0, 1) := by decide +kernel
theorem dX8_init_56 : decode cX8_init 56 = .ok (.bipush 24, 2) := by decide +kernel
theorem dX8_init_58 : decode cX8_init 58 = .ok (.newarray .int, 2) := by decide +kernel
theorem dX8_init_60 : decode cX8_init 60 = .ok (.putfield 32, 3) := by decide +kernel
theorem dX8_init_63 : decode cX8_init 63 = .ok (.aload_n 0, 1) := by decide +kernel
theorem dX8_init_64 : decode cX8_init 64 = .ok (.bipush 6, 2) := by decide +kernel
theorem dX8_init_66 : decode cX8_init 66 = .ok (.newarray .int, 2) := by decide +kernel
theorem dX8_init_68 : decode cX8_init 68 = .ok (.putfield 35, 3) := by decide +kernel
theorem dX8_init_71 : decode cX8_init 71 = .ok (.aload_n 0, 1) := by decide +kernel
theorem dX8_init_72 : decode cX8_init 72 = .ok (.bipush 6, 2) := by decide +kernel
theorem dX8_init_74 : decode cX8_init 74 = .ok (.newarray .int, 2) := by decide +kernel
theorem dX8_init_76 : decode cX8_init 76 = .ok (.putfield 38, 3) := by decide +kernel
theorem dX8_init_79 : decode cX8_init 79 = .ok (.aload_n 0, 1) := by decide +kernel
theorem dX8_init_80 : decode cX8_init 80 = .ok (.sipush 8192, 3) := by decide +kernel
theorem dX8_init_83 : decode cX8_init 83 = .ok (.newarray .int, 2) := by decide +kernel
theorem dX8_init_85 : decode cX8_init 85 = .ok (.putfield 41, 3) := by decide +kernel
theorem dX8_init_88 : decode cX8_init 88 = .ok (.aload_n 0, 1) := by decide +kernel
theorem dX8_init_89 : decode cX8_init 89 = .ok (.bipush 13, 2) := by decide +kernel
theorem dX8_init_91 : decode cX8_init 91 = .ok (.newarray .int, 2) := by decide +kernel
theorem dX8_init_93 : decode cX8_init 93 = .ok (.putfield 44, 3) := by decide +kernel
theorem dX8_init_96 : decode cX8_init 96 = .ok (.aload_n 0, 1) := by decide +kernel
theorem dX8_init_97 : decode cX8_init 97 = .ok (.sipush 1638, 3) := by decide +kernel
theorem dX8_init_100 : decode cX8_init 100 = .ok (.newarray .int, 2) := by decide +kernel
theorem dX8_init_102 : decode cX8_init 102 = .ok (.putfield 47, 3) := by decide +kernel
theorem dX8_init_105 : decode cX8_init 105 = .ok (.aload_n 0, 1) := by decide +kernel
theorem dX8_init_106 : decode cX8_init 106 = .ok (.bipush 120, 2) := by decide +kernel
theorem dX8_init_108 : decode cX8_init 108 = .ok (.newarray .int, 2) := by decide +kernel
theorem dX8_init_110 : decode cX8_init 110 = .ok (.putfield 50, 3) := by decide +kernel
theorem dX8_init_113 : decode cX8_init 113 = .ok (.aload_n 0, 1) := by decide +kernel
theorem dX8_init_114 : decode cX8_init 114 = .ok (.bipush 100, 2) := by decide +kernel
theorem dX8_init_116 : decode cX8_init 116 = .ok (.newarray .int, 2) := by decide +kernel
theorem dX8_init_118 : decode cX8_init 118 = .ok (.putfield 53, 3) := by decide +kernel
theorem dX8_init_121 : decode cX8_init 121 = .ok (.aload_n 0, 1) := by decide +kernel
theorem dX8_init_122 : decode cX8_init 122 = .ok (.iconst 2, 1) := by decide +kernel
theorem dX8_init_123 : decode cX8_init 123 = .ok (.newarray .boolean, 2) := by decide +kernel
theorem dX8_init_125 : decode cX8_init 125 = .ok (.putfield 56, 3) := by decide +kernel
theorem dX8_init_128 : decode cX8_init 128 = .ok (.aload_n 0, 1) := by decide +kernel
theorem dX8_init_129 : decode cX8_init 129 = .ok (.iconst 0, 1) := by decide +kernel
theorem dX8_init_130 : decode cX8_init 130 = .ok (.putfield 60, 3) := by decide +kernel
theorem dX8_init_133 : decode cX8_init 133 = .ok (.return_, 1) := by decide +kernel
theorem dX8_in_0 : decode cX8_in 0 = .ok (.lload_n 0, 1) := by decide +kernel
theorem dX8_in_1 : decode cX8_in 1 = .ok (.lload_n 2, 1) := by decide +kernel
theorem dX8_in_2 : decode cX8_in 2 = .ok (.lcmp, 1) := by decide +kernel
theorem dX8_in_3 : decode cX8_in 3 = .ok (.ifCond .lt 14, 3) := by decide +kernel
theorem dX8_in_6 : decode cX8_in 6 = .ok (.lload_n 0, 1) := by decide +kernel
theorem dX8_in_7 : decode cX8_in 7 = .ok (.lload 4, 2) := by decide +kernel
theorem dX8_in_9 : decode cX8_in 9 = .ok (.lcmp, 1) := by decide +kernel
theorem dX8_in_10 : decode cX8_in 10 = .ok (.ifCond .gt 7, 3) := by decide +kernel
theorem dX8_in_13 : decode cX8_in 13 = .ok (.iconst 1, 1) := by decide +kernel
theorem dX8_in_14 : decode cX8_in 14 = .ok (.goto 4, 3) := by decide +kernel
theorem dX8_in_17 : decode cX8_in 17 = .ok (.iconst 0, 1) := by decide +kernel
theorem dX8_in_18 : decode cX8_in 18 = .ok (.ireturn, 1) := by decide +kernel
theorem dX8_has_0 : decode cX8_has 0 = .ok (.iload_n 0, 1) := by decide +kernel
theorem dX8_has_1 : decode cX8_has 1 = .ok (.iload_n 1, 1) := by decide +kernel
theorem dX8_has_2 : decode cX8_has 2 = .ok (.ishr, 1) := by decide +kernel
theorem dX8_has_3 : decode cX8_has 3 = .ok (.iconst 1, 1) := by decide +kernel
theorem dX8_has_4 : decode cX8_has 4 = .ok (.iand, 1) := by decide +kernel
theorem dX8_has_5 : decode cX8_has 5 = .ok (.iconst 1, 1) := by decide +kernel
theorem dX8_has_6 : decode cX8_has 6 = .ok (.if_icmp .ne 7, 3) := by decide +kernel
theorem dX8_has_9 : decode cX8_has 9 = .ok (.iconst 1, 1) := by decide +kernel
theorem dX8_has_10 : decode cX8_has 10 = .ok (.goto 4, 3) := by decide +kernel
theorem dX8_has_13 : decode cX8_has 13 = .ok (.iconst 0, 1) := by decide +kernel
theorem dX8_has_14 : decode cX8_has 14 = .ok (.ireturn, 1) := by decide +kernel
theorem dX8_bits_0 : decode cX8_bits 0 = .ok (.iconst 0, 1) := by decide +kernel
theorem dX8_bits_1 : decode cX8_bits 1 = .ok (.istore_n 1, 1) := by decide +kernel
theorem dX8_bits_2 : decode cX8_bits 2 = .ok (.iconst 0, 1) := by decide +kernel
theorem dX8_bits_3 : decode cX8_bits 3 = .ok (.istore_n 2, 1) := by decide +kernel
theorem dX8_bits_4 : decode cX8_bits 4 = .ok (.iload_n 2, 1) := by decide +kernel
theorem dX8_bits_5 : decode cX8_bits 5 = .ok (.bipush 13, 2) := by decide +kernel
theorem dX8_bits_7 : decode cX8_bits 7 = .ok (.if_icmp .ge 17, 3) := by decide +kernel
theorem dX8_bits_10 : decode cX8_bits 10 = .ok (.iload_n 1, 1) := by decide +kernel
theorem dX8_bits_11 : decode cX8_bits 11 = .ok (.iload_n 0, 1) := by decide +kernel
theorem dX8_bits_12 : decode cX8_bits 12 = .ok (.iload_n 2, 1) := by decide +kernel
theorem dX8_bits_13 : decode cX8_bits 13 = .ok (.ishr, 1) := by decide +kernel
theorem dX8_bits_14 : decode cX8_bits 14 = .ok (.iconst 1, 1) := by decide +kernel
theorem dX8_bits_15 : decode cX8_bits 15 = .ok (.iand, 1) := by decide +kernel
theorem dX8_bits_16 : decode cX8_bits 16 = .ok (.iadd, 1) := by decide +kernel
theorem dX8_bits_17 : decode cX8_bits 17 = .ok (.istore_n 1, 1) := by decide +kernel
theorem dX8_bits_18 : decode cX8_bits 18 = .ok (.iinc 2 1, 3) := by decide +kernel
theorem dX8_bits_21 : decode cX8_bits 21 = .ok (.goto (-17), 3) := by decide +kernel
theorem dX8_bits_24 : decode cX8_bits 24 = .ok (.iload_n 1, 1) := by decide +kernel
theorem dX8_bits_25 : decode cX8_bits 25 = .ok (.ireturn, 1) := by decide +kernel
theorem dX8_isBath_0 : decode cX8_isBath 0 = .ok (.iload_n 1, 1) := by decide +kernel
theorem dX8_isBath_1 : decode cX8_isBath 1 = .ok (.i2l, 1) := by decide +kernel
theorem dX8_isBath_2 : decode cX8_isBath 2 = .ok (.lconst 0, 1) := by decide +kernel
theorem dX8_isBath_3 : decode cX8_isBath 3 = .ok (.aload_n 0, 1) := by decide +kernel
theorem dX8_isBath_4 : decode cX8_isBath 4 = .ok (.getfield 60, 3) := by decide +kernel
theorem dX8_isBath_7 : decode cX8_isBath 7 = .ok (.iconst 1, 1) := by decide +kernel
theorem dX8_isBath_8 : decode cX8_isBath 8 = .ok (.isub, 1) := by decide +kernel
theorem dX8_isBath_9 : decode cX8_isBath 9 = .ok (.i2l, 1) := by decide +kernel
theorem dX8_isBath_10 : decode cX8_isBath 10 = .ok (.invokestatic 63, 3) := by decide +kernel
theorem dX8_isBath_13 : decode cX8_isBath 13 = .ok (.ireturn, 1) := by decide +kernel
theorem dX8_isBather_0 : decode cX8_isBather 0 = .ok (.iload_n 1, 1) := by decide +kernel
theorem dX8_isBather_1 : decode cX8_isBather 1 = .ok (.i2l, 1) := by decide +kernel
theorem dX8_isBather_2 : decode cX8_isBather 2 = .ok (.lconst 0, 1) := by decide +kernel
theorem dX8_isBather_3 : decode cX8_isBather 3 = .ok (.aload_n 0, 1) := by decide +kernel
theorem dX8_isBather_4 : decode cX8_isBather 4 = .ok (.getfield 67, 3) := by decide +kernel
theorem dX8_isBather_7 : decode cX8_isBather 7 = .ok (.iconst 1, 1) := by decide +kernel
theorem dX8_isBather_8 : decode cX8_isBather 8 = .ok (.isub, 1) := by decide +kernel
theorem dX8_isBather_9 : decode cX8_isBather 9 = .ok (.i2l, 1) := by decide +kernel
theorem dX8_isBather_10 : decode cX8_isBather 10 = .ok (.invokestatic 63, 3) := by decide +kernel
theorem dX8_isBather_13 : decode cX8_isBather 13 = .ok (.ireturn, 1) := by decide +kernel
theorem dX8_isSet_0 : decode cX8_isSet 0 = .ok (.iload_n 1, 1) := by decide +kernel
theorem dX8_isSet_1 : decode cX8_isSet 1 = .ok (.i2l, 1) := by decide +kernel
theorem dX8_isSet_2 : decode cX8_isSet 2 = .ok (.lconst 0, 1) := by decide +kernel
theorem dX8_isSet_3 : decode cX8_isSet 3 = .ok (.iconst 1, 1) := by decide +kernel
theorem dX8_isSet_4 : decode cX8_isSet 4 = .ok (.aload_n 0, 1) := by decide +kernel
theorem dX8_isSet_5 : decode cX8_isSet 5 = .ok (.getfield 67, 3) := by decide +kernel
theorem dX8_isSet_8 : decode cX8_isSet 8 = .ok (.ishl, 1) := by decide +kernel
theorem dX8_isSet_9 : decode cX8_isSet 9 = .ok (.iconst 1, 1) := by decide +kernel
theorem dX8_isSet_10 : decode cX8_isSet 10 = .ok (.isub, 1) := by decide +kernel
theorem dX8_isSet_11 : decode cX8_isSet 11 = .ok (.i2l, 1) := by decide +kernel
theorem dX8_isSet_12 : decode cX8_isSet 12 = .ok (.invokestatic 63, 3) := by decide +kernel
theorem dX8_isSet_15 : decode cX8_isSet 15 = .ok (.ireturn, 1) := by decide +kernel
theorem dX8_isHour_0 : decode cX8_isHour 0 = .ok (.iload_n 0, 1) := by decide +kernel
theorem dX8_isHour_1 : decode cX8_isHour 1 = .ok (.i2l, 1) := by decide +kernel
theorem dX8_isHour_2 : decode cX8_isHour 2 = .ok (.lconst 0, 1) := by decide +kernel
theorem dX8_isHour_3 : decode cX8_isHour 3 = .ok (.ldc2_w 70, 3) := by decide +kernel
theorem dX8_isHour_6 : decode cX8_isHour 6 = .ok (.invokestatic 63, 3) := by decide +kernel
theorem dX8_isHour_9 : decode cX8_isHour 9 = .ok (.ireturn, 1) := by decide +kernel
theorem dX8_isHeight_0 : decode cX8_isHeight 0 = .ok (.iload_n 0, 1) := by decide +kernel
theorem dX8_isHeight_1 : decode cX8_isHeight 1 = .ok (.i2l, 1) := by decide +kernel
theorem dX8_isHeight_2 : decode cX8_isHeight 2 = .ok (.lconst 0, 1) := by decide +kernel
theorem dX8_isHeight_3 : decode cX8_isHeight 3 = .ok (.ldc2_w 72, 3) := by decide +kernel
theorem dX8_isHeight_6 : decode cX8_isHeight 6 = .ok (.invokestatic 63, 3) := by decide +kernel
theorem dX8_isHeight_9 : decode cX8_isHeight 9 = .ok (.ireturn, 1) := by decide +kernel
theorem dX8_feed_0 : decode cX8_feed 0 = .ok (.iload_n 1, 1) := by decide +kernel
theorem dX8_feed_1 : decode cX8_feed 1 = .ok (.i2l, 1) := by decide +kernel
theorem dX8_feed_2 : decode cX8_feed 2 = .ok (.lconst 1, 1) := by decide +kernel
theorem dX8_feed_3 : decode cX8_feed 3 = .ok (.ldc2_w 74, 3) := by decide +kernel
theorem dX8_feed_6 : decode cX8_feed 6 = .ok (.invokestatic 63, 3) := by decide +kernel
theorem dX8_feed_9 : decode cX8_feed 9 = .ok (.ifCond .ne 6, 3) := by decide +kernel
theorem dX8_feed_12 : decode cX8_feed 12 = .ok (.ldc 76, 2) := by decide +kernel
theorem dX8_feed_14 : decode cX8_feed 14 = .ok (.ireturn, 1) := by decide +kernel
theorem dX8_feed_15 : decode cX8_feed 15 = .ok (.aload_n 0, 1) := by decide +kernel
theorem dX8_feed_16 : decode cX8_feed 16 = .ok (.getfield 77, 3) := by decide +kernel
theorem dX8_feed_19 : decode cX8_feed 19 = .ok (.iload_n 1, 1) := by decide +kernel
theorem dX8_feed_20 : decode cX8_feed 20 = .ok (.iadd, 1) := by decide +kernel
theorem dX8_feed_21 : decode cX8_feed 21 = .ok (.sipush 400, 3) := by decide +kernel
theorem dX8_feed_24 : decode cX8_feed 24 = .ok (.if_icmp .le 6, 3) := by decide +kernel
theorem dX8_feed_27 : decode cX8_feed 27 = .ok (.ldc 80, 2) := by decide +kernel
theorem dX8_feed_29 : decode cX8_feed 29 = .ok (.ireturn, 1) := by decide +kernel
theorem dX8_feed_30 : decode cX8_feed 30 = .ok (.iload_n 1, 1) := by decide +kernel
theorem dX8_feed_31 : decode cX8_feed 31 = .ok (.iconst 1, 1) := by decide +kernel
theorem dX8_feed_32 : decode cX8_feed 32 = .ok (.isub, 1) := by decide +kernel
theorem dX8_feed_33 : decode cX8_feed 33 = .ok (.istore 4, 2) := by decide +kernel
theorem dX8_feed_35 : decode cX8_feed 35 = .ok (.iload 4, 2) := by decide +kernel
theorem dX8_feed_37 : decode cX8_feed 37 = .ok (.ifCond .lt 40, 3) := by decide +kernel
theorem dX8_feed_40 : decode cX8_feed 40 = .ok (.aload_n 0, 1) := by decide +kernel
theorem dX8_feed_41 : decode cX8_feed 41 = .ok (.getfield 23, 3) := by decide +kernel
theorem dX8_feed_44 : decode cX8_feed 44 = .ok (.aload_n 0, 1) := by decide +kernel
theorem dX8_feed_45 : decode cX8_feed 45 = .ok (.getfield 77, 3) := by decide +kernel
theorem dX8_feed_48 : decode cX8_feed 48 = .ok (.lload_n 2, 1) := by decide +kernel
theorem dX8_feed_49 : decode cX8_feed 49 = .ok (.bipush 8, 2) := by decide +kernel
theorem dX8_feed_51 : decode cX8_feed 51 = .ok (.iload 4, 2) := by decide +kernel
theorem dX8_feed_53 : decode cX8_feed 53 = .ok (.imul, 1) := by decide +kernel
theorem dX8_feed_54 : decode cX8_feed 54 = .ok (.lshr, 1) := by decide +kernel
theorem dX8_feed_55 : decode cX8_feed 55 = .ok (.ldc2_w 81, 3) := by decide +kernel
theorem dX8_feed_58 : decode cX8_feed 58 = .ok (.land, 1) := by decide +kernel
theorem dX8_feed_59 : decode cX8_feed 59 = .ok (.l2i, 1) := by decide +kernel
theorem dX8_feed_60 : decode cX8_feed 60 = .ok (.iastore, 1) := by decide +kernel
theorem dX8_feed_61 : decode cX8_feed 61 = .ok (.aload_n 0, 1) := by decide +kernel
theorem dX8_feed_62 : decode cX8_feed 62 = .ok (.dup, 1) := by decide +kernel
theorem dX8_feed_63 : decode cX8_feed 63 = .ok (.getfield 77, 3) := by decide +kernel
theorem dX8_feed_66 : decode cX8_feed 66 = .ok (.iconst 1, 1) := by decide +kernel
theorem dX8_feed_67 : decode cX8_feed 67 = .ok (.iadd, 1) := by decide +kernel
theorem dX8_feed_68 : decode cX8_feed 68 = .ok (.putfield 77, 3) := by decide +kernel
theorem dX8_feed_71 : decode cX8_feed 71 = .ok (.iinc 4 (-1), 3) := by decide +kernel
theorem dX8_feed_74 : decode cX8_feed 74 = .ok (.goto (-39), 3) := by decide +kernel
theorem dX8_feed_77 : decode cX8_feed 77 = .ok (.aload_n 0, 1) := by decide +kernel
theorem dX8_feed_78 : decode cX8_feed 78 = .ok (.getfield 77, 3) := by decide +kernel
theorem dX8_feed_81 : decode cX8_feed 81 = .ok (.ireturn, 1) := by decide +kernel
theorem dX8_here_0 : decode cX8_here 0 = .ok (.aload_n 0, 1) := by decide +kernel
theorem dX8_here_1 : decode cX8_here 1 = .ok (.getfield 83, 3) := by decide +kernel
theorem dX8_here_4 : decode cX8_here 4 = .ok (.aload_n 0, 1) := by decide +kernel
theorem dX8_here_5 : decode cX8_here 5 = .ok (.getfield 77, 3) := by decide +kernel
theorem dX8_here_8 : decode cX8_here 8 = .ok (.if_icmp .ge 30, 3) := by decide +kernel
theorem dX8_here_11 : decode cX8_here 11 = .ok (.aload_n 0, 1) := by decide +kernel
theorem dX8_here_12 : decode cX8_here 12 = .ok (.getfield 23, 3) := by decide +kernel
theorem dX8_here_15 : decode cX8_here 15 = .ok (.aload_n 0, 1) := by decide +kernel
theorem dX8_here_16 : decode cX8_here 16 = .ok (.getfield 83, 3) := by decide +kernel
theorem dX8_here_19 : decode cX8_here 19 = .ok (.iaload, 1) := by decide +kernel
theorem dX8_here_20 : decode cX8_here 20 = .ok (.bipush 32, 2) := by decide +kernel
theorem dX8_here_22 : decode cX8_here 22 = .ok (.if_icmp .ne 16, 3) := by decide +kernel
theorem dX8_here_25 : decode cX8_here 25 = .ok (.aload_n 0, 1) := by decide +kernel
theorem dX8_here_26 : decode cX8_here 26 = .ok (.dup, 1) := by decide +kernel
theorem dX8_here_27 : decode cX8_here 27 = .ok (.getfield 83, 3) := by decide +kernel
theorem dX8_here_30 : decode cX8_here 30 = .ok (.iconst 1, 1) := by decide +kernel
theorem dX8_here_31 : decode cX8_here 31 = .ok (.iadd, 1) := by decide +kernel
theorem dX8_here_32 : decode cX8_here 32 = .ok (.putfield 83, 3) := by decide +kernel
theorem dX8_here_35 : decode cX8_here 35 = .ok (.goto (-35), 3) := by decide +kernel
theorem dX8_here_38 : decode cX8_here 38 = .ok (.aload_n 0, 1) := by decide +kernel
theorem dX8_here_39 : decode cX8_here 39 = .ok (.getfield 83, 3) := by decide +kernel
theorem dX8_here_42 : decode cX8_here 42 = .ok (.aload_n 0, 1) := by decide +kernel
theorem dX8_here_43 : decode cX8_here 43 = .ok (.getfield 77, 3) := by decide +kernel
theorem dX8_here_46 : decode cX8_here 46 = .ok (.if_icmp .ge 15, 3) := by decide +kernel
theorem dX8_here_49 : decode cX8_here 49 = .ok (.aload_n 0, 1) := by decide +kernel
theorem dX8_here_50 : decode cX8_here 50 = .ok (.getfield 23, 3) := by decide +kernel
theorem dX8_here_53 : decode cX8_here 53 = .ok (.aload_n 0, 1) := by decide +kernel
theorem dX8_here_54 : decode cX8_here 54 = .ok (.getfield 83, 3) := by decide +kernel
theorem dX8_here_57 : decode cX8_here 57 = .ok (.iaload, 1) := by decide +kernel
theorem dX8_here_58 : decode cX8_here 58 = .ok (.goto 4, 3) := by decide +kernel
theorem dX8_here_61 : decode cX8_here 61 = .ok (.iconst (-1), 1) := by decide +kernel
theorem dX8_here_62 : decode cX8_here 62 = .ok (.ireturn, 1) := by decide +kernel
theorem dX8_fails_0 : decode cX8_fails 0 = .ok (.aload_n 0, 1) := by decide +kernel
theorem dX8_fails_1 : decode cX8_fails 1 = .ok (.iload_n 2, 1) := by decide +kernel
theorem dX8_fails_2 : decode cX8_fails 2 = .ok (.putfield 26, 3) := by decide +kernel
theorem dX8_fails_5 : decode cX8_fails 5 = .ok (.iload_n 1, 1) := by decide +kernel
theorem dX8_fails_6 : decode cX8_fails 6 = .ok (.ireturn, 1) := by decide +kernel
theorem dX8_readWord_0 : decode cX8_readWord 0 = .ok (.aload_n 0, 1) := by decide +kernel
theorem dX8_readWord_1 : decode cX8_readWord 1 = .ok (.invokevirtual 86, 3) := by decide +kernel
theorem dX8_readWord_4 : decode cX8_readWord 4 = .ok (.istore_n 1, 1) := by decide +kernel
theorem dX8_readWord_5 : decode cX8_readWord 5 = .ok (.aload_n 0, 1) := by decide +kernel
theorem dX8_readWord_6 : decode cX8_readWord 6 = .ok (.lconst 0, 1) := by decide +kernel
theorem dX8_readWord_7 : decode cX8_readWord 7 = .ok (.putfield 90, 3) := by decide +kernel
theorem dX8_readWord_10 : decode cX8_readWord 10 = .ok (.aload_n 0, 1) := by decide +kernel
theorem dX8_readWord_11 : decode cX8_readWord 11 = .ok (.aload_n 0, 1) := by decide +kernel
theorem dX8_readWord_12 : decode cX8_readWord 12 = .ok (.getfield 83, 3) := by decide +kernel
theorem dX8_readWord_15 : decode cX8_readWord 15 = .ok (.putfield 94, 3) := by decide +kernel
theorem dX8_readWord_18 : decode cX8_readWord 18 = .ok (.aload_n 0, 1) := by decide +kernel
theorem dX8_readWord_19 : decode cX8_readWord 19 = .ok (.getfield 94, 3) := by decide +kernel
theorem dX8_readWord_22 : decode cX8_readWord 22 = .ok (.aload_n 0, 1) := by decide +kernel
theorem dX8_readWord_23 : decode cX8_readWord 23 = .ok (.getfield 77, 3) := by decide +kernel
theorem dX8_readWord_26 : decode cX8_readWord 26 = .ok (.if_icmp .ge 82, 3) := by decide +kernel
theorem dX8_readWord_29 : decode cX8_readWord 29 = .ok (.aload_n 0, 1) := by decide +kernel
theorem dX8_readWord_30 : decode cX8_readWord 30 = .ok (.getfield 23, 3) := by decide +kernel
theorem dX8_readWord_33 : decode cX8_readWord 33 = .ok (.aload_n 0, 1) := by decide +kernel
theorem dX8_readWord_34 : decode cX8_readWord 34 = .ok (.getfield 94, 3) := by decide +kernel
theorem dX8_readWord_37 : decode cX8_readWord 37 = .ok (.iaload, 1) := by decide +kernel
theorem dX8_readWord_38 : decode cX8_readWord 38 = .ok (.i2l, 1) := by decide +kernel
theorem dX8_readWord_39 : decode cX8_readWord 39 = .ok (.ldc2_w 97, 3) := by decide +kernel
theorem dX8_readWord_42 : decode cX8_readWord 42 = .ok (.ldc2_w 99, 3) := by decide +kernel
theorem dX8_readWord_45 : decode cX8_readWord 45 = .ok (.invokestatic 63, 3) := by decide +kernel
theorem dX8_readWord_48 : decode cX8_readWord 48 = .ok (.ifCond .eq 60, 3) := by decide +kernel
theorem dX8_readWord_51 : decode cX8_readWord 51 = .ok (.aload_n 0, 1) := by decide +kernel
theorem dX8_readWord_52 : decode cX8_readWord 52 = .ok (.aload_n 0, 1) := by decide +kernel
theorem dX8_readWord_53 : decode cX8_readWord 53 = .ok (.getfield 90, 3) := by decide +kernel
theorem dX8_readWord_56 : decode cX8_readWord 56 = .ok (.ldc2_w 101, 3) := by decide +kernel
theorem dX8_readWord_59 : decode cX8_readWord 59 = .ok (.lcmp, 1) := by decide +kernel
theorem dX8_readWord_60 : decode cX8_readWord 60 = .ok (.ifCond .le 9, 3) := by decide +kernel
theorem dX8_readWord_63 : decode cX8_readWord 63 = .ok (.ldc2_w 103, 3) := by decide +kernel
theorem dX8_readWord_66 : decode cX8_readWord 66 = .ok (.goto 26, 3) := by decide +kernel
theorem dX8_readWord_69 : decode cX8_readWord 69 = .ok (.ldc2_w 105, 3) := by decide +kernel
theorem dX8_readWord_72 : decode cX8_readWord 72 = .ok (.aload_n 0, 1) := by decide +kernel
theorem dX8_readWord_73 : decode cX8_readWord 73 = .ok (.getfield 90, 3) := by decide +kernel
theorem dX8_readWord_76 : decode cX8_readWord 76 = .ok (.lmul, 1) := by decide +kernel
theorem dX8_readWord_77 : decode cX8_readWord 77 = .ok (.aload_n 0, 1) := by decide +kernel
theorem dX8_readWord_78 : decode cX8_readWord 78 = .ok (.getfield 23, 3) := by decide +kernel
theorem dX8_readWord_81 : decode cX8_readWord 81 = .ok (.aload_n 0, 1) := by decide +kernel
theorem dX8_readWord_82 : decode cX8_readWord 82 = .ok (.getfield 94, 3) := by decide +kernel
theorem dX8_readWord_85 : decode cX8_readWord 85 = .ok (.iaload, 1) := by decide +kernel
theorem dX8_readWord_86 : decode cX8_readWord 86 = .ok (.i2l, 1) := by decide +kernel
theorem dX8_readWord_87 : decode cX8_readWord 87 = .ok (.ladd, 1) := by decide +kernel
theorem dX8_readWord_88 : decode cX8_readWord 88 = .ok (.ldc2_w 107, 3) := by decide +kernel
theorem dX8_readWord_91 : decode cX8_readWord 91 = .ok (.lsub, 1) := by decide +kernel
theorem dX8_readWord_92 : decode cX8_readWord 92 = .ok (.putfield 90, 3) := by decide +kernel
theorem dX8_readWord_95 : decode cX8_readWord 95 = .ok (.aload_n 0, 1) := by decide +kernel
theorem dX8_readWord_96 : decode cX8_readWord 96 = .ok (.dup, 1) := by decide +kernel
theorem dX8_readWord_97 : decode cX8_readWord 97 = .ok (.getfield 94, 3) := by decide +kernel
theorem dX8_readWord_100 : decode cX8_readWord 100 = .ok (.iconst 1, 1) := by decide +kernel
theorem dX8_readWord_101 : decode cX8_readWord 101 = .ok (.iadd, 1) := by decide +kernel
theorem dX8_readWord_102 : decode cX8_readWord 102 = .ok (.putfield 94, 3) := by decide +kernel
theorem dX8_readWord_105 : decode cX8_readWord 105 = .ok (.goto (-87), 3) := by decide +kernel
theorem dX8_readWord_108 : decode cX8_readWord 108 = .ok (.return_, 1) := by decide +kernel
theorem dX8_code_0 : decode cX8_code 0 = .ok (.ldc2_w 105, 3) := by decide +kernel
theorem dX8_code_3 : decode cX8_code 3 = .ok (.ldc2_w 105, 3) := by decide +kernel
theorem dX8_code_6 : decode cX8_code 6 = .ok (.iload_n 0, 1) := by decide +kernel
theorem dX8_code_7 : decode cX8_code 7 = .ok (.i2l, 1) := by decide +kernel
theorem dX8_code_8 : decode cX8_code 8 = .ok (.ldc2_w 107, 3) := by decide +kernel
theorem dX8_code_11 : decode cX8_code 11 = .ok (.lsub, 1) := by decide +kernel
theorem dX8_code_12 : decode cX8_code 12 = .ok (.lmul, 1) := by decide +kernel
theorem dX8_code_13 : decode cX8_code 13 = .ok (.iload_n 1, 1) := by decide +kernel
theorem dX8_code_14 : decode cX8_code 14 = .ok (.i2l, 1) := by decide +kernel
theorem dX8_code_15 : decode cX8_code 15 = .ok (.ladd, 1) := by decide +kernel
theorem dX8_code_16 : decode cX8_code 16 = .ok (.ldc2_w 107, 3) := by decide +kernel
theorem dX8_code_19 : decode cX8_code 19 = .ok (.lsub, 1) := by decide +kernel
theorem dX8_code_20 : decode cX8_code 20 = .ok (.lmul, 1) := by decide +kernel
theorem dX8_code_21 : decode cX8_code 21 = .ok (.iload_n 2, 1) := by decide +kernel
theorem dX8_code_22 : decode cX8_code 22 = .ok (.i2l, 1) := by decide +kernel
theorem dX8_code_23 : decode cX8_code 23 = .ok (.ladd, 1) := by decide +kernel
theorem dX8_code_24 : decode cX8_code 24 = .ok (.ldc2_w 107, 3) := by decide +kernel
theorem dX8_code_27 : decode cX8_code 27 = .ok (.lsub, 1) := by decide +kernel
theorem dX8_code_28 : decode cX8_code 28 = .ok (.lreturn, 1) := by decide +kernel
theorem dX8_longer_0 : decode cX8_longer 0 = .ok (.iload_n 3, 1) := by decide +kernel
theorem dX8_longer_1 : decode cX8_longer 1 = .ok (.ifCond .ne 18, 3) := by decide +kernel
theorem dX8_longer_4 : decode cX8_longer 4 = .ok (.ldc2_w 105, 3) := by decide +kernel
theorem dX8_longer_7 : decode cX8_longer 7 = .ok (.lload_n 0, 1) := by decide +kernel
theorem dX8_longer_8 : decode cX8_longer 8 = .ok (.lmul, 1) := by decide +kernel
theorem dX8_longer_9 : decode cX8_longer 9 = .ok (.iload_n 2, 1) := by decide +kernel
theorem dX8_longer_10 : decode cX8_longer 10 = .ok (.i2l, 1) := by decide +kernel
theorem dX8_longer_11 : decode cX8_longer 11 = .ok (.ladd, 1) := by decide +kernel
theorem dX8_longer_12 : decode cX8_longer 12 = .ok (.ldc2_w 107, 3) := by decide +kernel
theorem dX8_longer_15 : decode cX8_longer 15 = .ok (.lsub, 1) := by decide +kernel
theorem dX8_longer_16 : decode cX8_longer 16 = .ok (.goto 26, 3) := by decide +kernel
theorem dX8_longer_19 : decode cX8_longer 19 = .ok (.ldc2_w 105, 3) := by decide +kernel
theorem dX8_longer_22 : decode cX8_longer 22 = .ok (.ldc2_w 105, 3) := by decide +kernel
theorem dX8_longer_25 : decode cX8_longer 25 = .ok (.lload_n 0, 1) := by decide +kernel
theorem dX8_longer_26 : decode cX8_longer 26 = .ok (.lmul, 1) := by decide +kernel
theorem dX8_longer_27 : decode cX8_longer 27 = .ok (.iload_n 2, 1) := by decide +kernel
theorem dX8_longer_28 : decode cX8_longer 28 = .ok (.i2l, 1) := by decide +kernel
theorem dX8_longer_29 : decode cX8_longer 29 = .ok (.ladd, 1) := by decide +kernel
theorem dX8_longer_30 : decode cX8_longer 30 = .ok (.ldc2_w 107, 3) := by decide +kernel
theorem dX8_longer_33 : decode cX8_longer 33 = .ok (.lsub, 1) := by decide +kernel
theorem dX8_longer_34 : decode cX8_longer 34 = .ok (.lmul, 1) := by decide +kernel
theorem dX8_longer_35 : decode cX8_longer 35 = .ok (.iload_n 3, 1) := by decide +kernel
theorem dX8_longer_36 : decode cX8_longer 36 = .ok (.i2l, 1) := by decide +kernel
theorem dX8_longer_37 : decode cX8_longer 37 = .ok (.ladd, 1) := by decide +kernel
theorem dX8_longer_38 : decode cX8_longer 38 = .ok (.ldc2_w 107, 3) := by decide +kernel
theorem dX8_longer_41 : decode cX8_longer 41 = .ok (.lsub, 1) := by decide +kernel
theorem dX8_longer_42 : decode cX8_longer 42 = .ok (.lreturn, 1) := by decide +kernel
theorem dX8_takeNumber_0 : decode cX8_takeNumber 0 = .ok (.aload_n 0, 1) := by decide +kernel
theorem dX8_takeNumber_1 : decode cX8_takeNumber 1 = .ok (.invokevirtual 86, 3) := by decide +kernel
theorem dX8_takeNumber_4 : decode cX8_takeNumber 4 = .ok (.istore_n 3, 1) := by decide +kernel
theorem dX8_takeNumber_5 : decode cX8_takeNumber 5 = .ok (.iload_n 3, 1) := by decide +kernel
theorem dX8_takeNumber_6 : decode cX8_takeNumber 6 = .ok (.i2l, 1) := by decide +kernel
theorem dX8_takeNumber_7 : decode cX8_takeNumber 7 = .ok (.ldc2_w 109, 3) := by decide +kernel
theorem dX8_takeNumber_10 : decode cX8_takeNumber 10 = .ok (.ldc2_w 111, 3) := by decide +kernel
theorem dX8_takeNumber_13 : decode cX8_takeNumber 13 = .ok (.invokestatic 63, 3) := by decide +kernel
theorem dX8_takeNumber_16 : decode cX8_takeNumber 16 = .ok (.ifCond .ne 13, 3) := by decide +kernel
theorem dX8_takeNumber_19 : decode cX8_takeNumber 19 = .ok (.aload_n 0, 1) := by decide +kernel
theorem dX8_takeNumber_20 : decode cX8_takeNumber 20 = .ok (.iconst 1, 1) := by decide +kernel
theorem dX8_takeNumber_21 : decode cX8_takeNumber 21 = .ok (.aload_n 0, 1) := by decide +kernel
theorem dX8_takeNumber_22 : decode cX8_takeNumber 22 = .ok (.getfield 83, 3) := by decide +kernel
theorem dX8_takeNumber_25 : decode cX8_takeNumber 25 = .ok (.invokevirtual 113, 3) := by decide +kernel
theorem dX8_takeNumber_28 : decode cX8_takeNumber 28 = .ok (.ireturn, 1) := by decide +kernel
theorem dX8_takeNumber_29 : decode cX8_takeNumber 29 = .ok (.aload_n 0, 1) := by decide +kernel
theorem dX8_takeNumber_30 : decode cX8_takeNumber 30 = .ok (.aload_n 0, 1) := by decide +kernel
theorem dX8_takeNumber_31 : decode cX8_takeNumber 31 = .ok (.getfield 83, 3) := by decide +kernel
theorem dX8_takeNumber_34 : decode cX8_takeNumber 34 = .ok (.putfield 117, 3) := by decide +kernel
theorem dX8_takeNumber_37 : decode cX8_takeNumber 37 = .ok (.aload_n 0, 1) := by decide +kernel
theorem dX8_takeNumber_38 : decode cX8_takeNumber 38 = .ok (.iconst 0, 1) := by decide +kernel
theorem dX8_takeNumber_39 : decode cX8_takeNumber 39 = .ok (.putfield 120, 3) := by decide +kernel
theorem dX8_takeNumber_42 : decode cX8_takeNumber 42 = .ok (.aload_n 0, 1) := by decide +kernel
theorem dX8_takeNumber_43 : decode cX8_takeNumber 43 = .ok (.getfield 83, 3) := by decide +kernel
theorem dX8_takeNumber_46 : decode cX8_takeNumber 46 = .ok (.aload_n 0, 1) := by decide +kernel
theorem dX8_takeNumber_47 : decode cX8_takeNumber 47 = .ok (.getfield 77, 3) := by decide +kernel
theorem dX8_takeNumber_50 : decode cX8_takeNumber 50 = .ok (.if_icmp .ge 78, 3) := by decide +kernel
theorem dX8_takeNumber_53 : decode cX8_takeNumber 53 = .ok (.aload_n 0, 1) := by decide +kernel
theorem dX8_takeNumber_54 : decode cX8_takeNumber 54 = .ok (.getfield 23, 3) := by decide +kernel
theorem dX8_takeNumber_57 : decode cX8_takeNumber 57 = .ok (.aload_n 0, 1) := by decide +kernel
theorem dX8_takeNumber_58 : decode cX8_takeNumber 58 = .ok (.getfield 83, 3) := by decide +kernel
theorem dX8_takeNumber_61 : decode cX8_takeNumber 61 = .ok (.iaload, 1) := by decide +kernel
theorem dX8_takeNumber_62 : decode cX8_takeNumber 62 = .ok (.i2l, 1) := by decide +kernel
theorem dX8_takeNumber_63 : decode cX8_takeNumber 63 = .ok (.ldc2_w 109, 3) := by decide +kernel
theorem dX8_takeNumber_66 : decode cX8_takeNumber 66 = .ok (.ldc2_w 111, 3) := by decide +kernel
theorem dX8_takeNumber_69 : decode cX8_takeNumber 69 = .ok (.invokestatic 63, 3) := by decide +kernel
theorem dX8_takeNumber_72 : decode cX8_takeNumber 72 = .ok (.ifCond .eq 56, 3) := by decide +kernel
theorem dX8_takeNumber_75 : decode cX8_takeNumber 75 = .ok (.aload_n 0, 1) := by decide +kernel
theorem dX8_takeNumber_76 : decode cX8_takeNumber 76 = .ok (.aload_n 0, 1) := by decide +kernel
theorem dX8_takeNumber_77 : decode cX8_takeNumber 77 = .ok (.getfield 120, 3) := by decide +kernel
theorem dX8_takeNumber_80 : decode cX8_takeNumber 80 = .ok (.ldc 123, 2) := by decide +kernel
theorem dX8_takeNumber_82 : decode cX8_takeNumber 82 = .ok (.if_icmp .le 10, 3) := by decide +kernel
theorem dX8_takeNumber_85 : decode cX8_takeNumber 85 = .ok (.aload_n 0, 1) := by decide +kernel
theorem dX8_takeNumber_86 : decode cX8_takeNumber 86 = .ok (.getfield 120, 3) := by decide +kernel
theorem dX8_takeNumber_89 : decode cX8_takeNumber 89 = .ok (.goto 23, 3) := by decide +kernel
theorem dX8_takeNumber_92 : decode cX8_takeNumber 92 = .ok (.bipush 10, 2) := by decide +kernel
theorem dX8_takeNumber_94 : decode cX8_takeNumber 94 = .ok (.aload_n 0, 1) := by decide +kernel
theorem dX8_takeNumber_95 : decode cX8_takeNumber 95 = .ok (.getfield 120, 3) := by decide +kernel
theorem dX8_takeNumber_98 : decode cX8_takeNumber 98 = .ok (.imul, 1) := by decide +kernel
theorem dX8_takeNumber_99 : decode cX8_takeNumber 99 = .ok (.aload_n 0, 1) := by decide +kernel
theorem dX8_takeNumber_100 : decode cX8_takeNumber 100 = .ok (.getfield 23, 3) := by decide +kernel
theorem dX8_takeNumber_103 : decode cX8_takeNumber 103 = .ok (.aload_n 0, 1) := by decide +kernel
theorem dX8_takeNumber_104 : decode cX8_takeNumber 104 = .ok (.getfield 83, 3) := by decide +kernel
theorem dX8_takeNumber_107 : decode cX8_takeNumber 107 = .ok (.iaload, 1) := by decide +kernel
theorem dX8_takeNumber_108 : decode cX8_takeNumber 108 = .ok (.iadd, 1) := by decide +kernel
theorem dX8_takeNumber_109 : decode cX8_takeNumber 109 = .ok (.bipush 48, 2) := by decide +kernel
theorem dX8_takeNumber_111 : decode cX8_takeNumber 111 = .ok (.isub, 1) := by decide +kernel
theorem dX8_takeNumber_112 : decode cX8_takeNumber 112 = .ok (.putfield 120, 3) := by decide +kernel
theorem dX8_takeNumber_115 : decode cX8_takeNumber 115 = .ok (.aload_n 0, 1) := by decide +kernel
theorem dX8_takeNumber_116 : decode cX8_takeNumber 116 = .ok (.dup, 1) := by decide +kernel
theorem dX8_takeNumber_117 : decode cX8_takeNumber 117 = .ok (.getfield 83, 3) := by decide +kernel
theorem dX8_takeNumber_120 : decode cX8_takeNumber 120 = .ok (.iconst 1, 1) := by decide +kernel
theorem dX8_takeNumber_121 : decode cX8_takeNumber 121 = .ok (.iadd, 1) := by decide +kernel
theorem dX8_takeNumber_122 : decode cX8_takeNumber 122 = .ok (.putfield 83, 3) := by decide +kernel
theorem dX8_takeNumber_125 : decode cX8_takeNumber 125 = .ok (.goto (-83), 3) := by decide +kernel
theorem dX8_takeNumber_128 : decode cX8_takeNumber 128 = .ok (.aload_n 0, 1) := by decide +kernel
theorem dX8_takeNumber_129 : decode cX8_takeNumber 129 = .ok (.getfield 83, 3) := by decide +kernel
theorem dX8_takeNumber_132 : decode cX8_takeNumber 132 = .ok (.aload_n 0, 1) := by decide +kernel
theorem dX8_takeNumber_133 : decode cX8_takeNumber 133 = .ok (.getfield 117, 3) := by decide +kernel
theorem dX8_takeNumber_136 : decode cX8_takeNumber 136 = .ok (.isub, 1) := by decide +kernel
theorem dX8_takeNumber_137 : decode cX8_takeNumber 137 = .ok (.iconst 4, 1) := by decide +kernel
theorem dX8_takeNumber_138 : decode cX8_takeNumber 138 = .ok (.if_icmp .gt 18, 3) := by decide +kernel
theorem dX8_takeNumber_141 : decode cX8_takeNumber 141 = .ok (.aload_n 0, 1) := by decide +kernel
theorem dX8_takeNumber_142 : decode cX8_takeNumber 142 = .ok (.getfield 120, 3) := by decide +kernel
theorem dX8_takeNumber_145 : decode cX8_takeNumber 145 = .ok (.i2l, 1) := by decide +kernel
theorem dX8_takeNumber_146 : decode cX8_takeNumber 146 = .ok (.iload_n 1, 1) := by decide +kernel
theorem dX8_takeNumber_147 : decode cX8_takeNumber 147 = .ok (.i2l, 1) := by decide +kernel
theorem dX8_takeNumber_148 : decode cX8_takeNumber 148 = .ok (.iload_n 2, 1) := by decide +kernel
theorem dX8_takeNumber_149 : decode cX8_takeNumber 149 = .ok (.i2l, 1) := by decide +kernel
theorem dX8_takeNumber_150 : decode cX8_takeNumber 150 = .ok (.invokestatic 63, 3) := by decide +kernel
theorem dX8_takeNumber_153 : decode cX8_takeNumber 153 = .ok (.ifCond .ne 15, 3) := by decide +kernel
theorem dX8_takeNumber_156 : decode cX8_takeNumber 156 = .ok (.aload_n 0, 1) := by decide +kernel
theorem dX8_takeNumber_157 : decode cX8_takeNumber 157 = .ok (.iconst 2, 1) := by decide +kernel
theorem dX8_takeNumber_158 : decode cX8_takeNumber 158 = .ok (.aload_n 0, 1) := by decide +kernel
theorem dX8_takeNumber_159 : decode cX8_takeNumber 159 = .ok (.getfield 117, 3) := by decide +kernel
theorem dX8_takeNumber_162 : decode cX8_takeNumber 162 = .ok (.invokevirtual 113, 3) := by decide +kernel
theorem dX8_takeNumber_165 : decode cX8_takeNumber 165 = .ok (.goto 4, 3) := by decide +kernel
theorem dX8_takeNumber_168 : decode cX8_takeNumber 168 = .ok (.iconst 0, 1) := by decide +kernel
theorem dX8_takeNumber_169 : decode cX8_takeNumber 169 = .ok (.ireturn, 1) := by decide +kernel
theorem dX8_into_0 : decode cX8_into 0 = .ok (.aload_n 0, 1) := by decide +kernel
theorem dX8_into_1 : decode cX8_into 1 = .ok (.iload_n 3, 1) := by decide +kernel
theorem dX8_into_2 : decode cX8_into 2 = .ok (.iload 4, 2) := by decide +kernel
theorem dX8_into_4 : decode cX8_into 4 = .ok (.invokevirtual 124, 3) := by decide +kernel
theorem dX8_into_7 : decode cX8_into 7 = .ok (.istore 5, 2) := by decide +kernel
theorem dX8_into_9 : decode cX8_into 9 = .ok (.aload_n 1, 1) := by decide +kernel
theorem dX8_into_10 : decode cX8_into 10 = .ok (.iload_n 2, 1) := by decide +kernel
theorem dX8_into_11 : decode cX8_into 11 = .ok (.aload_n 0, 1) := by decide +kernel
theorem dX8_into_12 : decode cX8_into 12 = .ok (.getfield 120, 3) := by decide +kernel
theorem dX8_into_15 : decode cX8_into 15 = .ok (.iastore, 1) := by decide +kernel
theorem dX8_into_16 : decode cX8_into 16 = .ok (.iload 5, 2) := by decide +kernel
theorem dX8_into_18 : decode cX8_into 18 = .ok (.ireturn, 1) := by decide +kernel
theorem dX8_takeBath_0 : decode cX8_takeBath 0 = .ok (.iconst 4, 1) := by decide +kernel
theorem dX8_takeBath_1 : decode cX8_takeBath 1 = .ok (.aload_n 0, 1) := by decide +kernel
theorem dX8_takeBath_2 : decode cX8_takeBath 2 = .ok (.getfield 127, 3) := by decide +kernel
theorem dX8_takeBath_5 : decode cX8_takeBath 5 = .ok (.imul, 1) := by decide +kernel
theorem dX8_takeBath_6 : decode cX8_takeBath 6 = .ok (.istore_n 1, 1) := by decide +kernel
theorem dX8_takeBath_7 : decode cX8_takeBath 7 = .ok (.aload_n 0, 1) := by decide +kernel
theorem dX8_takeBath_8 : decode cX8_takeBath 8 = .ok (.dup, 1) := by decide +kernel
theorem dX8_takeBath_9 : decode cX8_takeBath 9 = .ok (.getfield 127, 3) := by decide +kernel
theorem dX8_takeBath_12 : decode cX8_takeBath 12 = .ok (.iconst 1, 1) := by decide +kernel
theorem dX8_takeBath_13 : decode cX8_takeBath 13 = .ok (.iadd, 1) := by decide +kernel
theorem dX8_takeBath_14 : decode cX8_takeBath 14 = .ok (.putfield 127, 3) := by decide +kernel
theorem dX8_takeBath_17 : decode cX8_takeBath 17 = .ok (.aload_n 0, 1) := by decide +kernel
theorem dX8_takeBath_18 : decode cX8_takeBath 18 = .ok (.aload_n 0, 1) := by decide +kernel
theorem dX8_takeBath_19 : decode cX8_takeBath 19 = .ok (.getfield 29, 3) := by decide +kernel
theorem dX8_takeBath_22 : decode cX8_takeBath 22 = .ok (.iload_n 1, 1) := by decide +kernel
theorem dX8_takeBath_23 : decode cX8_takeBath 23 = .ok (.iconst 1, 1) := by decide +kernel
theorem dX8_takeBath_24 : decode cX8_takeBath 24 = .ok (.bipush 99, 2) := by decide +kernel
theorem dX8_takeBath_26 : decode cX8_takeBath 26 = .ok (.invokevirtual 130, 3) := by decide +kernel
theorem dX8_takeBath_29 : decode cX8_takeBath 29 = .ok (.istore_n 2, 1) := by decide +kernel
theorem dX8_takeBath_30 : decode cX8_takeBath 30 = .ok (.iload_n 2, 1) := by decide +kernel
theorem dX8_takeBath_31 : decode cX8_takeBath 31 = .ok (.ifCond .le 7, 3) := by decide +kernel
theorem dX8_takeBath_34 : decode cX8_takeBath 34 = .ok (.iload_n 2, 1) := by decide +kernel
theorem dX8_takeBath_35 : decode cX8_takeBath 35 = .ok (.goto 17, 3) := by decide +kernel
theorem dX8_takeBath_38 : decode cX8_takeBath 38 = .ok (.aload_n 0, 1) := by decide +kernel
theorem dX8_takeBath_39 : decode cX8_takeBath 39 = .ok (.aload_n 0, 1) := by decide +kernel
theorem dX8_takeBath_40 : decode cX8_takeBath 40 = .ok (.getfield 29, 3) := by decide +kernel
theorem dX8_takeBath_43 : decode cX8_takeBath 43 = .ok (.iload_n 1, 1) := by decide +kernel
theorem dX8_takeBath_44 : decode cX8_takeBath 44 = .ok (.iconst 1, 1) := by decide +kernel
theorem dX8_takeBath_45 : decode cX8_takeBath 45 = .ok (.iadd, 1) := by decide +kernel
theorem dX8_takeBath_46 : decode cX8_takeBath 46 = .ok (.iconst 1, 1) := by decide +kernel
theorem dX8_takeBath_47 : decode cX8_takeBath 47 = .ok (.bipush 99, 2) := by decide +kernel
theorem dX8_takeBath_49 : decode cX8_takeBath 49 = .ok (.invokevirtual 130, 3) := by decide +kernel
theorem dX8_takeBath_52 : decode cX8_takeBath 52 = .ok (.istore_n 2, 1) := by decide +kernel
theorem dX8_takeBath_53 : decode cX8_takeBath 53 = .ok (.iload_n 2, 1) := by decide +kernel
theorem dX8_takeBath_54 : decode cX8_takeBath 54 = .ok (.ifCond .le 7, 3) := by decide +kernel
theorem dX8_takeBath_57 : decode cX8_takeBath 57 = .ok (.iload_n 2, 1) := by decide +kernel
theorem dX8_takeBath_58 : decode cX8_takeBath 58 = .ok (.goto 18, 3) := by decide +kernel
theorem dX8_takeBath_61 : decode cX8_takeBath 61 = .ok (.aload_n 0, 1) := by decide +kernel
theorem dX8_takeBath_62 : decode cX8_takeBath 62 = .ok (.aload_n 0, 1) := by decide +kernel
theorem dX8_takeBath_63 : decode cX8_takeBath 63 = .ok (.getfield 29, 3) := by decide +kernel
theorem dX8_takeBath_66 : decode cX8_takeBath 66 = .ok (.iload_n 1, 1) := by decide +kernel
theorem dX8_takeBath_67 : decode cX8_takeBath 67 = .ok (.iconst 2, 1) := by decide +kernel
theorem dX8_takeBath_68 : decode cX8_takeBath 68 = .ok (.iadd, 1) := by decide +kernel
theorem dX8_takeBath_69 : decode cX8_takeBath 69 = .ok (.iconst 0, 1) := by decide +kernel
theorem dX8_takeBath_70 : decode cX8_takeBath 70 = .ok (.sipush 9999, 3) := by decide +kernel
theorem dX8_takeBath_73 : decode cX8_takeBath 73 = .ok (.invokevirtual 130, 3) := by decide +kernel
theorem dX8_takeBath_76 : decode cX8_takeBath 76 = .ok (.istore_n 2, 1) := by decide +kernel
theorem dX8_takeBath_77 : decode cX8_takeBath 77 = .ok (.iload_n 2, 1) := by decide +kernel
theorem dX8_takeBath_78 : decode cX8_takeBath 78 = .ok (.ifCond .le 7, 3) := by decide +kernel
theorem dX8_takeBath_81 : decode cX8_takeBath 81 = .ok (.iload_n 2, 1) := by decide +kernel
theorem dX8_takeBath_82 : decode cX8_takeBath 82 = .ok (.goto 17, 3) := by decide +kernel
theorem dX8_takeBath_85 : decode cX8_takeBath 85 = .ok (.aload_n 0, 1) := by decide +kernel
theorem dX8_takeBath_86 : decode cX8_takeBath 86 = .ok (.aload_n 0, 1) := by decide +kernel
theorem dX8_takeBath_87 : decode cX8_takeBath 87 = .ok (.getfield 29, 3) := by decide +kernel
theorem dX8_takeBath_90 : decode cX8_takeBath 90 = .ok (.iload_n 1, 1) := by decide +kernel
theorem dX8_takeBath_91 : decode cX8_takeBath 91 = .ok (.iconst 3, 1) := by decide +kernel
theorem dX8_takeBath_92 : decode cX8_takeBath 92 = .ok (.iadd, 1) := by decide +kernel
theorem dX8_takeBath_93 : decode cX8_takeBath 93 = .ok (.iconst 0, 1) := by decide +kernel
theorem dX8_takeBath_94 : decode cX8_takeBath 94 = .ok (.bipush 99, 2) := by decide +kernel
theorem dX8_takeBath_96 : decode cX8_takeBath 96 = .ok (.invokevirtual 130, 3) := by decide +kernel
theorem dX8_takeBath_99 : decode cX8_takeBath 99 = .ok (.ireturn, 1) := by decide +kernel
theorem dX8_takeBather_0 : decode cX8_takeBather 0 = .ok (.iconst 4, 1) := by decide +kernel
theorem dX8_takeBather_1 : decode cX8_takeBather 1 = .ok (.aload_n 0, 1) := by decide +kernel
theorem dX8_takeBather_2 : decode cX8_takeBather 2 = .ok (.getfield 134, 3) := by decide +kernel
theorem dX8_takeBather_5 : decode cX8_takeBather 5 = .ok (.imul, 1) := by decide +kernel
theorem dX8_takeBather_6 : decode cX8_takeBather 6 = .ok (.istore_n 1, 1) := by decide +kernel
theorem dX8_takeBather_7 : decode cX8_takeBather 7 = .ok (.aload_n 0, 1) := by decide +kernel
theorem dX8_takeBather_8 : decode cX8_takeBather 8 = .ok (.dup, 1) := by decide +kernel
theorem dX8_takeBather_9 : decode cX8_takeBather 9 = .ok (.getfield 134, 3) := by decide +kernel
theorem dX8_takeBather_12 : decode cX8_takeBather 12 = .ok (.iconst 1, 1) := by decide +kernel
theorem dX8_takeBather_13 : decode cX8_takeBather 13 = .ok (.iadd, 1) := by decide +kernel
theorem dX8_takeBather_14 : decode cX8_takeBather 14 = .ok (.putfield 134, 3) := by decide +kernel
theorem dX8_takeBather_17 : decode cX8_takeBather 17 = .ok (.aload_n 0, 1) := by decide +kernel
theorem dX8_takeBather_18 : decode cX8_takeBather 18 = .ok (.aload_n 0, 1) := by decide +kernel
theorem dX8_takeBather_19 : decode cX8_takeBather 19 = .ok (.getfield 32, 3) := by decide +kernel
theorem dX8_takeBather_22 : decode cX8_takeBather 22 = .ok (.iload_n 1, 1) := by decide +kernel
theorem dX8_takeBather_23 : decode cX8_takeBather 23 = .ok (.iconst 1, 1) := by decide +kernel
theorem dX8_takeBather_24 : decode cX8_takeBather 24 = .ok (.sipush 999, 3) := by decide +kernel
theorem dX8_takeBather_27 : decode cX8_takeBather 27 = .ok (.invokevirtual 130, 3) := by decide +kernel
theorem dX8_takeBather_30 : decode cX8_takeBather 30 = .ok (.istore_n 2, 1) := by decide +kernel
theorem dX8_takeBather_31 : decode cX8_takeBather 31 = .ok (.iload_n 2, 1) := by decide +kernel
theorem dX8_takeBather_32 : decode cX8_takeBather 32 = .ok (.ifCond .le 7, 3) := by decide +kernel
theorem dX8_takeBather_35 : decode cX8_takeBather 35 = .ok (.iload_n 2, 1) := by decide +kernel
theorem dX8_takeBather_36 : decode cX8_takeBather 36 = .ok (.goto 18, 3) := by decide +kernel
theorem dX8_takeBather_39 : decode cX8_takeBather 39 = .ok (.aload_n 0, 1) := by decide +kernel
theorem dX8_takeBather_40 : decode cX8_takeBather 40 = .ok (.aload_n 0, 1) := by decide +kernel
theorem dX8_takeBather_41 : decode cX8_takeBather 41 = .ok (.getfield 32, 3) := by decide +kernel
theorem dX8_takeBather_44 : decode cX8_takeBather 44 = .ok (.iload_n 1, 1) := by decide +kernel
theorem dX8_takeBather_45 : decode cX8_takeBather 45 = .ok (.iconst 1, 1) := by decide +kernel
theorem dX8_takeBather_46 : decode cX8_takeBather 46 = .ok (.iadd, 1) := by decide +kernel
theorem dX8_takeBather_47 : decode cX8_takeBather 47 = .ok (.iconst 1, 1) := by decide +kernel
theorem dX8_takeBather_48 : decode cX8_takeBather 48 = .ok (.sipush 999, 3) := by decide +kernel
theorem dX8_takeBather_51 : decode cX8_takeBather 51 = .ok (.invokevirtual 130, 3) := by decide +kernel
theorem dX8_takeBather_54 : decode cX8_takeBather 54 = .ok (.istore_n 2, 1) := by decide +kernel
theorem dX8_takeBather_55 : decode cX8_takeBather 55 = .ok (.iload_n 2, 1) := by decide +kernel
theorem dX8_takeBather_56 : decode cX8_takeBather 56 = .ok (.ifCond .ne 28, 3) := by decide +kernel
theorem dX8_takeBather_59 : decode cX8_takeBather 59 = .ok (.aload_n 0, 1) := by decide +kernel
theorem dX8_takeBather_60 : decode cX8_takeBather 60 = .ok (.getfield 120, 3) := by decide +kernel
theorem dX8_takeBather_63 : decode cX8_takeBather 63 = .ok (.aload_n 0, 1) := by decide +kernel
theorem dX8_takeBather_64 : decode cX8_takeBather 64 = .ok (.getfield 32, 3) := by decide +kernel
theorem dX8_takeBather_67 : decode cX8_takeBather 67 = .ok (.iload_n 1, 1) := by decide +kernel
theorem dX8_takeBather_68 : decode cX8_takeBather 68 = .ok (.iaload, 1) := by decide +kernel
theorem dX8_takeBather_69 : decode cX8_takeBather 69 = .ok (.if_icmp .ge 15, 3) := by decide +kernel
theorem dX8_takeBather_72 : decode cX8_takeBather 72 = .ok (.aload_n 0, 1) := by decide +kernel
theorem dX8_takeBather_73 : decode cX8_takeBather 73 = .ok (.iconst 4, 1) := by decide +kernel
theorem dX8_takeBather_74 : decode cX8_takeBather 74 = .ok (.aload_n 0, 1) := by decide +kernel
theorem dX8_takeBather_75 : decode cX8_takeBather 75 = .ok (.getfield 117, 3) := by decide +kernel
theorem dX8_takeBather_78 : decode cX8_takeBather 78 = .ok (.invokevirtual 113, 3) := by decide +kernel
theorem dX8_takeBather_81 : decode cX8_takeBather 81 = .ok (.goto 4, 3) := by decide +kernel
theorem dX8_takeBather_84 : decode cX8_takeBather 84 = .ok (.iload_n 2, 1) := by decide +kernel
theorem dX8_takeBather_85 : decode cX8_takeBather 85 = .ok (.istore_n 2, 1) := by decide +kernel
theorem dX8_takeBather_86 : decode cX8_takeBather 86 = .ok (.iload_n 2, 1) := by decide +kernel
theorem dX8_takeBather_87 : decode cX8_takeBather 87 = .ok (.ifCond .le 7, 3) := by decide +kernel
theorem dX8_takeBather_90 : decode cX8_takeBather 90 = .ok (.iload_n 2, 1) := by decide +kernel
theorem dX8_takeBather_91 : decode cX8_takeBather 91 = .ok (.goto 18, 3) := by decide +kernel
theorem dX8_takeBather_94 : decode cX8_takeBather 94 = .ok (.aload_n 0, 1) := by decide +kernel
theorem dX8_takeBather_95 : decode cX8_takeBather 95 = .ok (.aload_n 0, 1) := by decide +kernel
theorem dX8_takeBather_96 : decode cX8_takeBather 96 = .ok (.getfield 32, 3) := by decide +kernel
theorem dX8_takeBather_99 : decode cX8_takeBather 99 = .ok (.iload_n 1, 1) := by decide +kernel
theorem dX8_takeBather_100 : decode cX8_takeBather 100 = .ok (.iconst 2, 1) := by decide +kernel
theorem dX8_takeBather_101 : decode cX8_takeBather 101 = .ok (.iadd, 1) := by decide +kernel
theorem dX8_takeBather_102 : decode cX8_takeBather 102 = .ok (.iconst 1, 1) := by decide +kernel
theorem dX8_takeBather_103 : decode cX8_takeBather 103 = .ok (.sipush 999, 3) := by decide +kernel
theorem dX8_takeBather_106 : decode cX8_takeBather 106 = .ok (.invokevirtual 130, 3) := by decide +kernel
theorem dX8_takeBather_109 : decode cX8_takeBather 109 = .ok (.istore_n 2, 1) := by decide +kernel
theorem dX8_takeBather_110 : decode cX8_takeBather 110 = .ok (.iload_n 2, 1) := by decide +kernel
theorem dX8_takeBather_111 : decode cX8_takeBather 111 = .ok (.ifCond .ne 42, 3) := by decide +kernel
theorem dX8_takeBather_114 : decode cX8_takeBather 114 = .ok (.aload_n 0, 1) := by decide +kernel
theorem dX8_takeBather_115 : decode cX8_takeBather 115 = .ok (.getfield 120, 3) := by decide +kernel
theorem dX8_takeBather_118 : decode cX8_takeBather 118 = .ok (.i2l, 1) := by decide +kernel
theorem dX8_takeBather_119 : decode cX8_takeBather 119 = .ok (.aload_n 0, 1) := by decide +kernel
theorem dX8_takeBather_120 : decode cX8_takeBather 120 = .ok (.getfield 32, 3) := by decide +kernel
theorem dX8_takeBather_123 : decode cX8_takeBather 123 = .ok (.iload_n 1, 1) := by decide +kernel
theorem dX8_takeBather_124 : decode cX8_takeBather 124 = .ok (.iaload, 1) := by decide +kernel
theorem dX8_takeBather_125 : decode cX8_takeBather 125 = .ok (.i2l, 1) := by decide +kernel
theorem dX8_takeBather_126 : decode cX8_takeBather 126 = .ok (.aload_n 0, 1) := by decide +kernel
theorem dX8_takeBather_127 : decode cX8_takeBather 127 = .ok (.getfield 32, 3) := by decide +kernel
theorem dX8_takeBather_130 : decode cX8_takeBather 130 = .ok (.iload_n 1, 1) := by decide +kernel
theorem dX8_takeBather_131 : decode cX8_takeBather 131 = .ok (.iconst 1, 1) := by decide +kernel
theorem dX8_takeBather_132 : decode cX8_takeBather 132 = .ok (.iadd, 1) := by decide +kernel
theorem dX8_takeBather_133 : decode cX8_takeBather 133 = .ok (.iaload, 1) := by decide +kernel
theorem dX8_takeBather_134 : decode cX8_takeBather 134 = .ok (.i2l, 1) := by decide +kernel
theorem dX8_takeBather_135 : decode cX8_takeBather 135 = .ok (.invokestatic 63, 3) := by decide +kernel
theorem dX8_takeBather_138 : decode cX8_takeBather 138 = .ok (.ifCond .ne 15, 3) := by decide +kernel
theorem dX8_takeBather_141 : decode cX8_takeBather 141 = .ok (.aload_n 0, 1) := by decide +kernel
theorem dX8_takeBather_142 : decode cX8_takeBather 142 = .ok (.iconst 4, 1) := by decide +kernel
theorem dX8_takeBather_143 : decode cX8_takeBather 143 = .ok (.aload_n 0, 1) := by decide +kernel
theorem dX8_takeBather_144 : decode cX8_takeBather 144 = .ok (.getfield 117, 3) := by decide +kernel
theorem dX8_takeBather_147 : decode cX8_takeBather 147 = .ok (.invokevirtual 113, 3) := by decide +kernel
theorem dX8_takeBather_150 : decode cX8_takeBather 150 = .ok (.goto 4, 3) := by decide +kernel
theorem dX8_takeBather_153 : decode cX8_takeBather 153 = .ok (.iload_n 2, 1) := by decide +kernel
theorem dX8_takeBather_154 : decode cX8_takeBather 154 = .ok (.istore_n 2, 1) := by decide +kernel
theorem dX8_takeBather_155 : decode cX8_takeBather 155 = .ok (.iload_n 2, 1) := by decide +kernel
theorem dX8_takeBather_156 : decode cX8_takeBather 156 = .ok (.ifCond .le 7, 3) := by decide +kernel
theorem dX8_takeBather_159 : decode cX8_takeBather 159 = .ok (.iload_n 2, 1) := by decide +kernel
theorem dX8_takeBather_160 : decode cX8_takeBather 160 = .ok (.goto 17, 3) := by decide +kernel
theorem dX8_takeBather_163 : decode cX8_takeBather 163 = .ok (.aload_n 0, 1) := by decide +kernel
theorem dX8_takeBather_164 : decode cX8_takeBather 164 = .ok (.aload_n 0, 1) := by decide +kernel
theorem dX8_takeBather_165 : decode cX8_takeBather 165 = .ok (.getfield 32, 3) := by decide +kernel
theorem dX8_takeBather_168 : decode cX8_takeBather 168 = .ok (.iload_n 1, 1) := by decide +kernel
theorem dX8_takeBather_169 : decode cX8_takeBather 169 = .ok (.iconst 3, 1) := by decide +kernel
theorem dX8_takeBather_170 : decode cX8_takeBather 170 = .ok (.iadd, 1) := by decide +kernel
theorem dX8_takeBather_171 : decode cX8_takeBather 171 = .ok (.iconst 0, 1) := by decide +kernel
theorem dX8_takeBather_172 : decode cX8_takeBather 172 = .ok (.bipush 100, 2) := by decide +kernel
theorem dX8_takeBather_174 : decode cX8_takeBather 174 = .ok (.invokevirtual 130, 3) := by decide +kernel
theorem dX8_takeBather_177 : decode cX8_takeBather 177 = .ok (.ireturn, 1) := by decide +kernel
theorem dX8_takeClause_0 : decode cX8_takeClause 0 = .ok (.aload_n 0, 1) := by decide +kernel
theorem dX8_takeClause_1 : decode cX8_takeClause 1 = .ok (.invokevirtual 137, 3) := by decide +kernel
theorem dX8_takeClause_4 : decode cX8_takeClause 4 = .ok (.aload_n 0, 1) := by decide +kernel
theorem dX8_takeClause_5 : decode cX8_takeClause 5 = .ok (.getfield 90, 3) := by decide +kernel
theorem dX8_takeClause_8 : decode cX8_takeClause 8 = .ok (.bipush 98, 2) := by decide +kernel
theorem dX8_takeClause_10 : decode cX8_takeClause 10 = .ok (.bipush 97, 2) := by decide +kernel
theorem dX8_takeClause_12 : decode cX8_takeClause 12 = .ok (.bipush 116, 2) := by decide +kernel
theorem dX8_takeClause_14 : decode cX8_takeClause 14 = .ok (.invokestatic 140, 3) := by decide +kernel
theorem dX8_takeClause_17 : decode cX8_takeClause 17 = .ok (.bipush 104, 2) := by decide +kernel
theorem dX8_takeClause_19 : decode cX8_takeClause 19 = .ok (.iconst 0, 1) := by decide +kernel
theorem dX8_takeClause_20 : decode cX8_takeClause 20 = .ok (.invokestatic 144, 3) := by decide +kernel
theorem dX8_takeClause_23 : decode cX8_takeClause 23 = .ok (.lcmp, 1) := by decide +kernel
theorem dX8_takeClause_24 : decode cX8_takeClause 24 = .ok (.ifCond .ne 7, 3) := by decide +kernel
theorem dX8_takeClause_27 : decode cX8_takeClause 27 = .ok (.iconst 0, 1) := by decide +kernel
theorem dX8_takeClause_28 : decode cX8_takeClause 28 = .ok (.goto 59, 3) := by decide +kernel
theorem dX8_takeClause_31 : decode cX8_takeClause 31 = .ok (.aload_n 0, 1) := by decide +kernel
theorem dX8_takeClause_32 : decode cX8_takeClause 32 = .ok (.getfield 90, 3) := by decide +kernel
theorem dX8_takeClause_35 : decode cX8_takeClause 35 = .ok (.bipush 98, 2) := by decide +kernel
theorem dX8_takeClause_37 : decode cX8_takeClause 37 = .ok (.bipush 97, 2) := by decide +kernel
theorem dX8_takeClause_39 : decode cX8_takeClause 39 = .ok (.bipush 116, 2) := by decide +kernel
theorem dX8_takeClause_41 : decode cX8_takeClause 41 = .ok (.invokestatic 140, 3) := by decide +kernel
theorem dX8_takeClause_44 : decode cX8_takeClause 44 = .ok (.bipush 104, 2) := by decide +kernel
theorem dX8_takeClause_46 : decode cX8_takeClause 46 = .ok (.bipush 101, 2) := by decide +kernel
theorem dX8_takeClause_48 : decode cX8_takeClause 48 = .ok (.invokestatic 144, 3) := by decide +kernel
theorem dX8_takeClause_51 : decode cX8_takeClause 51 = .ok (.bipush 114, 2) := by decide +kernel
theorem dX8_takeClause_53 : decode cX8_takeClause 53 = .ok (.iconst 0, 1) := by decide +kernel
theorem dX8_takeClause_54 : decode cX8_takeClause 54 = .ok (.invokestatic 144, 3) := by decide +kernel
theorem dX8_takeClause_57 : decode cX8_takeClause 57 = .ok (.lcmp, 1) := by decide +kernel
theorem dX8_takeClause_58 : decode cX8_takeClause 58 = .ok (.ifCond .ne 7, 3) := by decide +kernel
theorem dX8_takeClause_61 : decode cX8_takeClause 61 = .ok (.iconst 1, 1) := by decide +kernel
theorem dX8_takeClause_62 : decode cX8_takeClause 62 = .ok (.goto 25, 3) := by decide +kernel
theorem dX8_takeClause_65 : decode cX8_takeClause 65 = .ok (.aload_n 0, 1) := by decide +kernel
theorem dX8_takeClause_66 : decode cX8_takeClause 66 = .ok (.getfield 90, 3) := by decide +kernel
theorem dX8_takeClause_69 : decode cX8_takeClause 69 = .ok (.bipush 111, 2) := by decide +kernel
theorem dX8_takeClause_71 : decode cX8_takeClause 71 = .ok (.bipush 100, 2) := by decide +kernel
theorem dX8_takeClause_73 : decode cX8_takeClause 73 = .ok (.bipush 100, 2) := by decide +kernel
theorem dX8_takeClause_75 : decode cX8_takeClause 75 = .ok (.invokestatic 140, 3) := by decide +kernel
theorem dX8_takeClause_78 : decode cX8_takeClause 78 = .ok (.lcmp, 1) := by decide +kernel
theorem dX8_takeClause_79 : decode cX8_takeClause 79 = .ok (.ifCond .ne 7, 3) := by decide +kernel
theorem dX8_takeClause_82 : decode cX8_takeClause 82 = .ok (.iconst 2, 1) := by decide +kernel
theorem dX8_takeClause_83 : decode cX8_takeClause 83 = .ok (.goto 4, 3) := by decide +kernel
theorem dX8_takeClause_86 : decode cX8_takeClause 86 = .ok (.iconst (-1), 1) := by decide +kernel
theorem dX8_takeClause_87 : decode cX8_takeClause 87 = .ok (.istore_n 1, 1) := by decide +kernel
theorem dX8_takeClause_88 : decode cX8_takeClause 88 = .ok (.iload_n 1, 1) := by decide +kernel
theorem dX8_takeClause_89 : decode cX8_takeClause 89 = .ok (.ifCond .ge 13, 3) := by decide +kernel
theorem dX8_takeClause_92 : decode cX8_takeClause 92 = .ok (.aload_n 0, 1) := by decide +kernel
theorem dX8_takeClause_93 : decode cX8_takeClause 93 = .ok (.iconst 1, 1) := by decide +kernel
theorem dX8_takeClause_94 : decode cX8_takeClause 94 = .ok (.aload_n 0, 1) := by decide +kernel
theorem dX8_takeClause_95 : decode cX8_takeClause 95 = .ok (.getfield 83, 3) := by decide +kernel
theorem dX8_takeClause_98 : decode cX8_takeClause 98 = .ok (.invokevirtual 113, 3) := by decide +kernel
theorem dX8_takeClause_101 : decode cX8_takeClause 101 = .ok (.ireturn, 1) := by decide +kernel
theorem dX8_takeClause_102 : decode cX8_takeClause 102 = .ok (.iload_n 1, 1) := by decide +kernel
theorem dX8_takeClause_103 : decode cX8_takeClause 103 = .ok (.ifCond .ne 14, 3) := by decide +kernel
theorem dX8_takeClause_106 : decode cX8_takeClause 106 = .ok (.aload_n 0, 1) := by decide +kernel
theorem dX8_takeClause_107 : decode cX8_takeClause 107 = .ok (.getfield 127, 3) := by decide +kernel
theorem dX8_takeClause_110 : decode cX8_takeClause 110 = .ok (.iconst 2, 1) := by decide +kernel
theorem dX8_takeClause_111 : decode cX8_takeClause 111 = .ok (.if_icmp .ne 40, 3) := by decide +kernel
theorem dX8_takeClause_114 : decode cX8_takeClause 114 = .ok (.goto 27, 3) := by decide +kernel
theorem dX8_takeClause_117 : decode cX8_takeClause 117 = .ok (.iload_n 1, 1) := by decide +kernel
theorem dX8_takeClause_118 : decode cX8_takeClause 118 = .ok (.iconst 1, 1) := by decide +kernel
theorem dX8_takeClause_119 : decode cX8_takeClause 119 = .ok (.if_icmp .ne 15, 3) := by decide +kernel
theorem dX8_takeClause_122 : decode cX8_takeClause 122 = .ok (.aload_n 0, 1) := by decide +kernel
theorem dX8_takeClause_123 : decode cX8_takeClause 123 = .ok (.getfield 134, 3) := by decide +kernel
theorem dX8_takeClause_126 : decode cX8_takeClause 126 = .ok (.bipush 6, 2) := by decide +kernel
theorem dX8_takeClause_128 : decode cX8_takeClause 128 = .ok (.if_icmp .ne 23, 3) := by decide +kernel
theorem dX8_takeClause_131 : decode cX8_takeClause 131 = .ok (.goto 10, 3) := by decide +kernel
theorem dX8_takeClause_134 : decode cX8_takeClause 134 = .ok (.aload_n 0, 1) := by decide +kernel
theorem dX8_takeClause_135 : decode cX8_takeClause 135 = .ok (.getfield 148, 3) := by decide +kernel
theorem dX8_takeClause_138 : decode cX8_takeClause 138 = .ok (.ifCond .le 13, 3) := by decide +kernel
theorem dX8_takeClause_141 : decode cX8_takeClause 141 = .ok (.aload_n 0, 1) := by decide +kernel
theorem dX8_takeClause_142 : decode cX8_takeClause 142 = .ok (.iconst 3, 1) := by decide +kernel
theorem dX8_takeClause_143 : decode cX8_takeClause 143 = .ok (.aload_n 0, 1) := by decide +kernel
theorem dX8_takeClause_144 : decode cX8_takeClause 144 = .ok (.getfield 83, 3) := by decide +kernel
theorem dX8_takeClause_147 : decode cX8_takeClause 147 = .ok (.invokevirtual 113, 3) := by decide +kernel
theorem dX8_takeClause_150 : decode cX8_takeClause 150 = .ok (.ireturn, 1) := by decide +kernel
theorem dX8_takeClause_151 : decode cX8_takeClause 151 = .ok (.aload_n 0, 1) := by decide +kernel
theorem dX8_takeClause_152 : decode cX8_takeClause 152 = .ok (.aload_n 0, 1) := by decide +kernel
theorem dX8_takeClause_153 : decode cX8_takeClause 153 = .ok (.getfield 94, 3) := by decide +kernel
theorem dX8_takeClause_156 : decode cX8_takeClause 156 = .ok (.putfield 83, 3) := by decide +kernel
theorem dX8_takeClause_159 : decode cX8_takeClause 159 = .ok (.iconst 0, 1) := by decide +kernel
theorem dX8_takeClause_160 : decode cX8_takeClause 160 = .ok (.istore_n 2, 1) := by decide +kernel
theorem dX8_takeClause_161 : decode cX8_takeClause 161 = .ok (.iload_n 1, 1) := by decide +kernel
theorem dX8_takeClause_162 : decode cX8_takeClause 162 = .ok (.iconst 2, 1) := by decide +kernel
theorem dX8_takeClause_163 : decode cX8_takeClause 163 = .ok (.if_icmp .ne 23, 3) := by decide +kernel
theorem dX8_takeClause_166 : decode cX8_takeClause 166 = .ok (.aload_n 0, 1) := by decide +kernel
theorem dX8_takeClause_167 : decode cX8_takeClause 167 = .ok (.iconst 1, 1) := by decide +kernel
theorem dX8_takeClause_168 : decode cX8_takeClause 168 = .ok (.sipush 999, 3) := by decide +kernel
theorem dX8_takeClause_171 : decode cX8_takeClause 171 = .ok (.invokevirtual 124, 3) := by decide +kernel
theorem dX8_takeClause_174 : decode cX8_takeClause 174 = .ok (.istore_n 2, 1) := by decide +kernel
theorem dX8_takeClause_175 : decode cX8_takeClause 175 = .ok (.aload_n 0, 1) := by decide +kernel
theorem dX8_takeClause_176 : decode cX8_takeClause 176 = .ok (.aload_n 0, 1) := by decide +kernel
theorem dX8_takeClause_177 : decode cX8_takeClause 177 = .ok (.getfield 120, 3) := by decide +kernel
theorem dX8_takeClause_180 : decode cX8_takeClause 180 = .ok (.putfield 148, 3) := by decide +kernel
theorem dX8_takeClause_183 : decode cX8_takeClause 183 = .ok (.goto 19, 3) := by decide +kernel
theorem dX8_takeClause_186 : decode cX8_takeClause 186 = .ok (.iload_n 1, 1) := by decide +kernel
theorem dX8_takeClause_187 : decode cX8_takeClause 187 = .ok (.ifCond .ne 10, 3) := by decide +kernel
theorem dX8_takeClause_190 : decode cX8_takeClause 190 = .ok (.aload_n 0, 1) := by decide +kernel
theorem dX8_takeClause_191 : decode cX8_takeClause 191 = .ok (.invokevirtual 151, 3) := by decide +kernel
theorem dX8_takeClause_194 : decode cX8_takeClause 194 = .ok (.goto 7, 3) := by decide +kernel
theorem dX8_takeClause_197 : decode cX8_takeClause 197 = .ok (.aload_n 0, 1) := by decide +kernel
theorem dX8_takeClause_198 : decode cX8_takeClause 198 = .ok (.invokevirtual 154, 3) := by decide +kernel
theorem dX8_takeClause_201 : decode cX8_takeClause 201 = .ok (.istore_n 2, 1) := by decide +kernel
theorem dX8_takeClause_202 : decode cX8_takeClause 202 = .ok (.iload_n 2, 1) := by decide +kernel
theorem dX8_takeClause_203 : decode cX8_takeClause 203 = .ok (.ifCond .ne 22, 3) := by decide +kernel
theorem dX8_takeClause_206 : decode cX8_takeClause 206 = .ok (.aload_n 0, 1) := by decide +kernel
theorem dX8_takeClause_207 : decode cX8_takeClause 207 = .ok (.invokevirtual 86, 3) := by decide +kernel
theorem dX8_takeClause_210 : decode cX8_takeClause 210 = .ok (.bipush 59, 2) := by decide +kernel
theorem dX8_takeClause_212 : decode cX8_takeClause 212 = .ok (.if_icmp .eq 13, 3) := by decide +kernel
theorem dX8_takeClause_215 : decode cX8_takeClause 215 = .ok (.aload_n 0, 1) := by decide +kernel
theorem dX8_takeClause_216 : decode cX8_takeClause 216 = .ok (.iconst 1, 1) := by decide +kernel
theorem dX8_takeClause_217 : decode cX8_takeClause 217 = .ok (.aload_n 0, 1) := by decide +kernel
theorem dX8_takeClause_218 : decode cX8_takeClause 218 = .ok (.getfield 83, 3) := by decide +kernel
theorem dX8_takeClause_221 : decode cX8_takeClause 221 = .ok (.invokevirtual 113, 3) := by decide +kernel
theorem dX8_takeClause_224 : decode cX8_takeClause 224 = .ok (.ireturn, 1) := by decide +kernel
theorem dX8_takeClause_225 : decode cX8_takeClause 225 = .ok (.aload_n 0, 1) := by decide +kernel
theorem dX8_takeClause_226 : decode cX8_takeClause 226 = .ok (.dup, 1) := by decide +kernel
theorem dX8_takeClause_227 : decode cX8_takeClause 227 = .ok (.getfield 83, 3) := by decide +kernel
theorem dX8_takeClause_230 : decode cX8_takeClause 230 = .ok (.iconst 1, 1) := by decide +kernel
theorem dX8_takeClause_231 : decode cX8_takeClause 231 = .ok (.iadd, 1) := by decide +kernel
theorem dX8_takeClause_232 : decode cX8_takeClause 232 = .ok (.putfield 83, 3) := by decide +kernel
theorem dX8_takeClause_235 : decode cX8_takeClause 235 = .ok (.iload_n 2, 1) := by decide +kernel
theorem dX8_takeClause_236 : decode cX8_takeClause 236 = .ok (.ireturn, 1) := by decide +kernel
theorem dX8_house_0 : decode cX8_house 0 = .ok (.aload_n 0, 1) := by decide +kernel
theorem dX8_house_1 : decode cX8_house 1 = .ok (.iconst (-1), 1) := by decide +kernel
theorem dX8_house_2 : decode cX8_house 2 = .ok (.putfield 26, 3) := by decide +kernel
theorem dX8_house_5 : decode cX8_house 5 = .ok (.aload_n 0, 1) := by decide +kernel
theorem dX8_house_6 : decode cX8_house 6 = .ok (.iconst 0, 1) := by decide +kernel
theorem dX8_house_7 : decode cX8_house 7 = .ok (.putfield 83, 3) := by decide +kernel
theorem dX8_house_10 : decode cX8_house 10 = .ok (.aload_n 0, 1) := by decide +kernel
theorem dX8_house_11 : decode cX8_house 11 = .ok (.iconst 0, 1) := by decide +kernel
theorem dX8_house_12 : decode cX8_house 12 = .ok (.putfield 127, 3) := by decide +kernel
theorem dX8_house_15 : decode cX8_house 15 = .ok (.aload_n 0, 1) := by decide +kernel
theorem dX8_house_16 : decode cX8_house 16 = .ok (.iconst 0, 1) := by decide +kernel
theorem dX8_house_17 : decode cX8_house 17 = .ok (.putfield 134, 3) := by decide +kernel
theorem dX8_house_20 : decode cX8_house 20 = .ok (.aload_n 0, 1) := by decide +kernel
theorem dX8_house_21 : decode cX8_house 21 = .ok (.iconst 0, 1) := by decide +kernel
theorem dX8_house_22 : decode cX8_house 22 = .ok (.putfield 148, 3) := by decide +kernel
theorem dX8_house_25 : decode cX8_house 25 = .ok (.iconst 0, 1) := by decide +kernel
theorem dX8_house_26 : decode cX8_house 26 = .ok (.istore_n 1, 1) := by decide +kernel
theorem dX8_house_27 : decode cX8_house 27 = .ok (.iload_n 1, 1) := by decide +kernel
theorem dX8_house_28 : decode cX8_house 28 = .ok (.ifCond .ne 18, 3) := by decide +kernel
theorem dX8_house_31 : decode cX8_house 31 = .ok (.aload_n 0, 1) := by decide +kernel
theorem dX8_house_32 : decode cX8_house 32 = .ok (.invokevirtual 86, 3) := by decide +kernel
theorem dX8_house_35 : decode cX8_house 35 = .ok (.ifCond .lt 11, 3) := by decide +kernel
theorem dX8_house_38 : decode cX8_house 38 = .ok (.aload_n 0, 1) := by decide +kernel
theorem dX8_house_39 : decode cX8_house 39 = .ok (.invokevirtual 157, 3) := by decide +kernel
theorem dX8_house_42 : decode cX8_house 42 = .ok (.istore_n 1, 1) := by decide +kernel
theorem dX8_house_43 : decode cX8_house 43 = .ok (.goto (-16), 3) := by decide +kernel
theorem dX8_house_46 : decode cX8_house 46 = .ok (.aload_n 0, 1) := by decide +kernel
theorem dX8_house_47 : decode cX8_house 47 = .ok (.iconst 0, 1) := by decide +kernel
theorem dX8_house_48 : decode cX8_house 48 = .ok (.putfield 77, 3) := by decide +kernel
theorem dX8_house_51 : decode cX8_house 51 = .ok (.iload_n 1, 1) := by decide +kernel
theorem dX8_house_52 : decode cX8_house 52 = .ok (.ifCond .le 8, 3) := by decide +kernel
theorem dX8_house_55 : decode cX8_house 55 = .ok (.bipush (-10), 2) := by decide +kernel
theorem dX8_house_57 : decode cX8_house 57 = .ok (.iload_n 1, 1) := by decide +kernel
theorem dX8_house_58 : decode cX8_house 58 = .ok (.isub, 1) := by decide +kernel
theorem dX8_house_59 : decode cX8_house 59 = .ok (.ireturn, 1) := by decide +kernel
theorem dX8_house_60 : decode cX8_house 60 = .ok (.aload_n 0, 1) := by decide +kernel
theorem dX8_house_61 : decode cX8_house 61 = .ok (.aload_n 0, 1) := by decide +kernel
theorem dX8_house_62 : decode cX8_house 62 = .ok (.getfield 127, 3) := by decide +kernel
theorem dX8_house_65 : decode cX8_house 65 = .ok (.putfield 60, 3) := by decide +kernel
theorem dX8_house_68 : decode cX8_house 68 = .ok (.aload_n 0, 1) := by decide +kernel
theorem dX8_house_69 : decode cX8_house 69 = .ok (.aload_n 0, 1) := by decide +kernel
theorem dX8_house_70 : decode cX8_house 70 = .ok (.getfield 134, 3) := by decide +kernel
theorem dX8_house_73 : decode cX8_house 73 = .ok (.putfield 67, 3) := by decide +kernel
theorem dX8_house_76 : decode cX8_house 76 = .ok (.aload_n 0, 1) := by decide +kernel
theorem dX8_house_77 : decode cX8_house 77 = .ok (.aload_n 0, 1) := by decide +kernel
theorem dX8_house_78 : decode cX8_house 78 = .ok (.getfield 148, 3) := by decide +kernel
theorem dX8_house_81 : decode cX8_house 81 = .ok (.ifCond .le 10, 3) := by decide +kernel
theorem dX8_house_84 : decode cX8_house 84 = .ok (.aload_n 0, 1) := by decide +kernel
theorem dX8_house_85 : decode cX8_house 85 = .ok (.getfield 148, 3) := by decide +kernel
theorem dX8_house_88 : decode cX8_house 88 = .ok (.goto 4, 3) := by decide +kernel
theorem dX8_house_91 : decode cX8_house 91 = .ok (.iconst 5, 1) := by decide +kernel
theorem dX8_house_92 : decode cX8_house 92 = .ok (.putfield 16, 3) := by decide +kernel
theorem dX8_house_95 : decode cX8_house 95 = .ok (.iconst 0, 1) := by decide +kernel
theorem dX8_house_96 : decode cX8_house 96 = .ok (.istore_n 2, 1) := by decide +kernel
theorem dX8_house_97 : decode cX8_house 97 = .ok (.iload_n 2, 1) := by decide +kernel
theorem dX8_house_98 : decode cX8_house 98 = .ok (.bipush 8, 2) := by decide +kernel
theorem dX8_house_100 : decode cX8_house 100 = .ok (.if_icmp .ge 21, 3) := by decide +kernel
theorem dX8_house_103 : decode cX8_house 103 = .ok (.aload_n 0, 1) := by decide +kernel
theorem dX8_house_104 : decode cX8_house 104 = .ok (.getfield 7, 3) := by decide +kernel
theorem dX8_house_107 : decode cX8_house 107 = .ok (.iload_n 2, 1) := by decide +kernel
theorem dX8_house_108 : decode cX8_house 108 = .ok (.aload_n 0, 1) := by decide +kernel
theorem dX8_house_109 : decode cX8_house 109 = .ok (.getfield 29, 3) := by decide +kernel
theorem dX8_house_112 : decode cX8_house 112 = .ok (.iload_n 2, 1) := by decide +kernel
theorem dX8_house_113 : decode cX8_house 113 = .ok (.iaload, 1) := by decide +kernel
theorem dX8_house_114 : decode cX8_house 114 = .ok (.iastore, 1) := by decide +kernel
theorem dX8_house_115 : decode cX8_house 115 = .ok (.iinc 2 1, 3) := by decide +kernel
theorem dX8_house_118 : decode cX8_house 118 = .ok (.goto (-21), 3) := by decide +kernel
theorem dX8_house_121 : decode cX8_house 121 = .ok (.iconst 0, 1) := by decide +kernel
theorem dX8_house_122 : decode cX8_house 122 = .ok (.istore_n 2, 1) := by decide +kernel
theorem dX8_house_123 : decode cX8_house 123 = .ok (.iload_n 2, 1) := by decide +kernel
theorem dX8_house_124 : decode cX8_house 124 = .ok (.bipush 24, 2) := by decide +kernel
theorem dX8_house_126 : decode cX8_house 126 = .ok (.if_icmp .ge 21, 3) := by decide +kernel
theorem dX8_house_129 : decode cX8_house 129 = .ok (.aload_n 0, 1) := by decide +kernel
theorem dX8_house_130 : decode cX8_house 130 = .ok (.getfield 13, 3) := by decide +kernel
theorem dX8_house_133 : decode cX8_house 133 = .ok (.iload_n 2, 1) := by decide +kernel
theorem dX8_house_134 : decode cX8_house 134 = .ok (.aload_n 0, 1) := by decide +kernel
theorem dX8_house_135 : decode cX8_house 135 = .ok (.getfield 32, 3) := by decide +kernel
theorem dX8_house_138 : decode cX8_house 138 = .ok (.iload_n 2, 1) := by decide +kernel
theorem dX8_house_139 : decode cX8_house 139 = .ok (.iaload, 1) := by decide +kernel
theorem dX8_house_140 : decode cX8_house 140 = .ok (.iastore, 1) := by decide +kernel
theorem dX8_house_141 : decode cX8_house 141 = .ok (.iinc 2 1, 3) := by decide +kernel
theorem dX8_house_144 : decode cX8_house 144 = .ok (.goto (-21), 3) := by decide +kernel
theorem dX8_house_147 : decode cX8_house 147 = .ok (.aload_n 0, 1) := by decide +kernel
theorem dX8_house_148 : decode cX8_house 148 = .ok (.iconst 0, 1) := by decide +kernel
theorem dX8_house_149 : decode cX8_house 149 = .ok (.putfield 160, 3) := by decide +kernel
theorem dX8_house_152 : decode cX8_house 152 = .ok (.aload_n 0, 1) := by decide +kernel
theorem dX8_house_153 : decode cX8_house 153 = .ok (.iconst 0, 1) := by decide +kernel
theorem dX8_house_154 : decode cX8_house 154 = .ok (.putfield 163, 3) := by decide +kernel
theorem dX8_house_157 : decode cX8_house 157 = .ok (.aload_n 0, 1) := by decide +kernel
theorem dX8_house_158 : decode cX8_house 158 = .ok (.getfield 56, 3) := by decide +kernel
theorem dX8_house_161 : decode cX8_house 161 = .ok (.iconst 0, 1) := by decide +kernel
theorem dX8_house_162 : decode cX8_house 162 = .ok (.iconst 0, 1) := by decide +kernel
theorem dX8_house_163 : decode cX8_house 163 = .ok (.bastore, 1) := by decide +kernel
theorem dX8_house_164 : decode cX8_house 164 = .ok (.aload_n 0, 1) := by decide +kernel
theorem dX8_house_165 : decode cX8_house 165 = .ok (.getfield 56, 3) := by decide +kernel
theorem dX8_house_168 : decode cX8_house 168 = .ok (.iconst 1, 1) := by decide +kernel
theorem dX8_house_169 : decode cX8_house 169 = .ok (.iconst 0, 1) := by decide +kernel
theorem dX8_house_170 : decode cX8_house 170 = .ok (.bastore, 1) := by decide +kernel
theorem dX8_house_171 : decode cX8_house 171 = .ok (.aload_n 0, 1) := by decide +kernel
theorem dX8_house_172 : decode cX8_house 172 = .ok (.getfield 67, 3) := by decide +kernel
theorem dX8_house_175 : decode cX8_house 175 = .ok (.ireturn, 1) := by decide +kernel
theorem dX8_fault_0 : decode cX8_fault 0 = .ok (.aload_n 0, 1) := by decide +kernel
theorem dX8_fault_1 : decode cX8_fault 1 = .ok (.getfield 26, 3) := by decide +kernel
theorem dX8_fault_4 : decode cX8_fault 4 = .ok (.ireturn, 1) := by decide +kernel
theorem dX8_told_0 : decode cX8_told 0 = .ok (.iload_n 1, 1) := by decide +kernel
theorem dX8_told_1 : decode cX8_told 1 = .ok (.tableswitch 87 0 6 #[43, 48, 53, 58, 63, 68, 73], 43) := by decide +kernel
theorem dX8_told_44 : decode cX8_told 44 = .ok (.aload_n 0, 1) := by decide +kernel
theorem dX8_told_45 : decode cX8_told 45 = .ok (.getfield 60, 3) := by decide +kernel
theorem dX8_told_48 : decode cX8_told 48 = .ok (.ireturn, 1) := by decide +kernel
theorem dX8_told_49 : decode cX8_told 49 = .ok (.aload_n 0, 1) := by decide +kernel
theorem dX8_told_50 : decode cX8_told 50 = .ok (.getfield 67, 3) := by decide +kernel
theorem dX8_told_53 : decode cX8_told 53 = .ok (.ireturn, 1) := by decide +kernel
theorem dX8_told_54 : decode cX8_told 54 = .ok (.aload_n 0, 1) := by decide +kernel
theorem dX8_told_55 : decode cX8_told 55 = .ok (.getfield 16, 3) := by decide +kernel
theorem dX8_told_58 : decode cX8_told 58 = .ok (.ireturn, 1) := by decide +kernel
theorem dX8_told_59 : decode cX8_told 59 = .ok (.aload_n 0, 1) := by decide +kernel
theorem dX8_told_60 : decode cX8_told 60 = .ok (.getfield 160, 3) := by decide +kernel
theorem dX8_told_63 : decode cX8_told 63 = .ok (.ireturn, 1) := by decide +kernel
theorem dX8_told_64 : decode cX8_told 64 = .ok (.aload_n 0, 1) := by decide +kernel
theorem dX8_told_65 : decode cX8_told 65 = .ok (.getfield 163, 3) := by decide +kernel
theorem dX8_told_68 : decode cX8_told 68 = .ok (.ireturn, 1) := by decide +kernel
theorem dX8_told_69 : decode cX8_told 69 = .ok (.aload_n 0, 1) := by decide +kernel
theorem dX8_told_70 : decode cX8_told 70 = .ok (.getfield 77, 3) := by decide +kernel
theorem dX8_told_73 : decode cX8_told 73 = .ok (.ireturn, 1) := by decide +kernel
theorem dX8_told_74 : decode cX8_told 74 = .ok (.aload_n 0, 1) := by decide +kernel
theorem dX8_told_75 : decode cX8_told 75 = .ok (.iconst 0, 1) := by decide +kernel
theorem dX8_told_76 : decode cX8_told 76 = .ok (.invokevirtual 166, 3) := by decide +kernel
theorem dX8_told_79 : decode cX8_told 79 = .ok (.ifCond .eq 7, 3) := by decide +kernel
theorem dX8_told_82 : decode cX8_told 82 = .ok (.iconst 1, 1) := by decide +kernel
theorem dX8_told_83 : decode cX8_told 83 = .ok (.goto 4, 3) := by decide +kernel
theorem dX8_told_86 : decode cX8_told 86 = .ok (.iconst 0, 1) := by decide +kernel
theorem dX8_told_87 : decode cX8_told 87 = .ok (.ireturn, 1) := by decide +kernel
theorem dX8_told_88 : decode cX8_told 88 = .ok (.ldc 76, 2) := by decide +kernel
theorem dX8_told_90 : decode cX8_told 90 = .ok (.ireturn, 1) := by decide +kernel
theorem dX8_bath_0 : decode cX8_bath 0 = .ok (.aload_n 0, 1) := by decide +kernel
theorem dX8_bath_1 : decode cX8_bath 1 = .ok (.iload_n 1, 1) := by decide +kernel
theorem dX8_bath_2 : decode cX8_bath 2 = .ok (.invokevirtual 170, 3) := by decide +kernel
theorem dX8_bath_5 : decode cX8_bath 5 = .ok (.ifCond .ne 6, 3) := by decide +kernel
theorem dX8_bath_8 : decode cX8_bath 8 = .ok (.ldc 173, 2) := by decide +kernel
theorem dX8_bath_10 : decode cX8_bath 10 = .ok (.ireturn, 1) := by decide +kernel
theorem dX8_bath_11 : decode cX8_bath 11 = .ok (.iload_n 2, 1) := by decide +kernel
theorem dX8_bath_12 : decode cX8_bath 12 = .ok (.i2l, 1) := by decide +kernel
theorem dX8_bath_13 : decode cX8_bath 13 = .ok (.lconst 0, 1) := by decide +kernel
theorem dX8_bath_14 : decode cX8_bath 14 = .ok (.ldc2_w 174, 3) := by decide +kernel
theorem dX8_bath_17 : decode cX8_bath 17 = .ok (.invokestatic 63, 3) := by decide +kernel
theorem dX8_bath_20 : decode cX8_bath 20 = .ok (.ifCond .eq 16, 3) := by decide +kernel
theorem dX8_bath_23 : decode cX8_bath 23 = .ok (.aload_n 0, 1) := by decide +kernel
theorem dX8_bath_24 : decode cX8_bath 24 = .ok (.getfield 7, 3) := by decide +kernel
theorem dX8_bath_27 : decode cX8_bath 27 = .ok (.iconst 4, 1) := by decide +kernel
theorem dX8_bath_28 : decode cX8_bath 28 = .ok (.iload_n 1, 1) := by decide +kernel
theorem dX8_bath_29 : decode cX8_bath 29 = .ok (.imul, 1) := by decide +kernel
theorem dX8_bath_30 : decode cX8_bath 30 = .ok (.iload_n 2, 1) := by decide +kernel
theorem dX8_bath_31 : decode cX8_bath 31 = .ok (.iadd, 1) := by decide +kernel
theorem dX8_bath_32 : decode cX8_bath 32 = .ok (.iaload, 1) := by decide +kernel
theorem dX8_bath_33 : decode cX8_bath 33 = .ok (.goto 5, 3) := by decide +kernel
theorem dX8_bath_36 : decode cX8_bath 36 = .ok (.ldc 76, 2) := by decide +kernel
theorem dX8_bath_38 : decode cX8_bath 38 = .ok (.ireturn, 1) := by decide +kernel
theorem dX8_bather_0 : decode cX8_bather 0 = .ok (.aload_n 0, 1) := by decide +kernel
theorem dX8_bather_1 : decode cX8_bather 1 = .ok (.iload_n 1, 1) := by decide +kernel
theorem dX8_bather_2 : decode cX8_bather 2 = .ok (.invokevirtual 176, 3) := by decide +kernel
theorem dX8_bather_5 : decode cX8_bather 5 = .ok (.ifCond .ne 6, 3) := by decide +kernel
theorem dX8_bather_8 : decode cX8_bather 8 = .ok (.ldc 173, 2) := by decide +kernel
theorem dX8_bather_10 : decode cX8_bather 10 = .ok (.ireturn, 1) := by decide +kernel
theorem dX8_bather_11 : decode cX8_bather 11 = .ok (.iload_n 2, 1) := by decide +kernel
theorem dX8_bather_12 : decode cX8_bather 12 = .ok (.i2l, 1) := by decide +kernel
theorem dX8_bather_13 : decode cX8_bather 13 = .ok (.lconst 0, 1) := by decide +kernel
theorem dX8_bather_14 : decode cX8_bather 14 = .ok (.ldc2_w 179, 3) := by decide +kernel
theorem dX8_bather_17 : decode cX8_bather 17 = .ok (.invokestatic 63, 3) := by decide +kernel
theorem dX8_bather_20 : decode cX8_bather 20 = .ok (.ifCond .ne 6, 3) := by decide +kernel
theorem dX8_bather_23 : decode cX8_bather 23 = .ok (.ldc 76, 2) := by decide +kernel
theorem dX8_bather_25 : decode cX8_bather 25 = .ok (.ireturn, 1) := by decide +kernel
theorem dX8_bather_26 : decode cX8_bather 26 = .ok (.iload_n 2, 1) := by decide +kernel
theorem dX8_bather_27 : decode cX8_bather 27 = .ok (.iconst 4, 1) := by decide +kernel
theorem dX8_bather_28 : decode cX8_bather 28 = .ok (.if_icmp .ge 14, 3) := by decide +kernel
theorem dX8_bather_31 : decode cX8_bather 31 = .ok (.aload_n 0, 1) := by decide +kernel
theorem dX8_bather_32 : decode cX8_bather 32 = .ok (.getfield 13, 3) := by decide +kernel
theorem dX8_bather_35 : decode cX8_bather 35 = .ok (.iconst 4, 1) := by decide +kernel
theorem dX8_bather_36 : decode cX8_bather 36 = .ok (.iload_n 1, 1) := by decide +kernel
theorem dX8_bather_37 : decode cX8_bather 37 = .ok (.imul, 1) := by decide +kernel
theorem dX8_bather_38 : decode cX8_bather 38 = .ok (.iload_n 2, 1) := by decide +kernel
theorem dX8_bather_39 : decode cX8_bather 39 = .ok (.iadd, 1) := by decide +kernel
theorem dX8_bather_40 : decode cX8_bather 40 = .ok (.iaload, 1) := by decide +kernel
theorem dX8_bather_41 : decode cX8_bather 41 = .ok (.ireturn, 1) := by decide +kernel
theorem dX8_bather_42 : decode cX8_bather 42 = .ok (.aload_n 0, 1) := by decide +kernel
theorem dX8_bather_43 : decode cX8_bather 43 = .ok (.invokevirtual 181, 3) := by decide +kernel
theorem dX8_bather_46 : decode cX8_bather 46 = .ok (.iload_n 2, 1) := by decide +kernel
theorem dX8_bather_47 : decode cX8_bather 47 = .ok (.iconst 4, 1) := by decide +kernel
theorem dX8_bather_48 : decode cX8_bather 48 = .ok (.if_icmp .ne 12, 3) := by decide +kernel
theorem dX8_bather_51 : decode cX8_bather 51 = .ok (.aload_n 0, 1) := by decide +kernel
theorem dX8_bather_52 : decode cX8_bather 52 = .ok (.getfield 35, 3) := by decide +kernel
theorem dX8_bather_55 : decode cX8_bather 55 = .ok (.iload_n 1, 1) := by decide +kernel
theorem dX8_bather_56 : decode cX8_bather 56 = .ok (.iaload, 1) := by decide +kernel
theorem dX8_bather_57 : decode cX8_bather 57 = .ok (.goto 9, 3) := by decide +kernel
theorem dX8_bather_60 : decode cX8_bather 60 = .ok (.aload_n 0, 1) := by decide +kernel
theorem dX8_bather_61 : decode cX8_bather 61 = .ok (.getfield 38, 3) := by decide +kernel
theorem dX8_bather_64 : decode cX8_bather 64 = .ok (.iload_n 1, 1) := by decide +kernel
theorem dX8_bather_65 : decode cX8_bather 65 = .ok (.iaload, 1) := by decide +kernel
theorem dX8_bather_66 : decode cX8_bather 66 = .ok (.ireturn, 1) := by decide +kernel
theorem dX8_fingerOf_0 : decode cX8_fingerOf 0 = .ok (.aload_n 0, 1) := by decide +kernel
theorem dX8_fingerOf_1 : decode cX8_fingerOf 1 = .ok (.getfield 7, 3) := by decide +kernel
theorem dX8_fingerOf_4 : decode cX8_fingerOf 4 = .ok (.iconst 4, 1) := by decide +kernel
theorem dX8_fingerOf_5 : decode cX8_fingerOf 5 = .ok (.iload_n 1, 1) := by decide +kernel
theorem dX8_fingerOf_6 : decode cX8_fingerOf 6 = .ok (.imul, 1) := by decide +kernel
theorem dX8_fingerOf_7 : decode cX8_fingerOf 7 = .ok (.iaload, 1) := by decide +kernel
theorem dX8_fingerOf_8 : decode cX8_fingerOf 8 = .ok (.aload_n 0, 1) := by decide +kernel
theorem dX8_fingerOf_9 : decode cX8_fingerOf 9 = .ok (.getfield 7, 3) := by decide +kernel
theorem dX8_fingerOf_12 : decode cX8_fingerOf 12 = .ok (.iconst 4, 1) := by decide +kernel
theorem dX8_fingerOf_13 : decode cX8_fingerOf 13 = .ok (.iload_n 1, 1) := by decide +kernel
theorem dX8_fingerOf_14 : decode cX8_fingerOf 14 = .ok (.imul, 1) := by decide +kernel
theorem dX8_fingerOf_15 : decode cX8_fingerOf 15 = .ok (.iconst 1, 1) := by decide +kernel
theorem dX8_fingerOf_16 : decode cX8_fingerOf 16 = .ok (.iadd, 1) := by decide +kernel
theorem dX8_fingerOf_17 : decode cX8_fingerOf 17 = .ok (.iaload, 1) := by decide +kernel
theorem dX8_fingerOf_18 : decode cX8_fingerOf 18 = .ok (.imul, 1) := by decide +kernel
theorem dX8_fingerOf_19 : decode cX8_fingerOf 19 = .ok (.ireturn, 1) := by decide +kernel
theorem dX8_waterAt_0 : decode cX8_waterAt 0 = .ok (.aload_n 0, 1) := by decide +kernel
theorem dX8_waterAt_1 : decode cX8_waterAt 1 = .ok (.getfield 7, 3) := by decide +kernel
theorem dX8_waterAt_4 : decode cX8_waterAt 4 = .ok (.iconst 4, 1) := by decide +kernel
theorem dX8_waterAt_5 : decode cX8_waterAt 5 = .ok (.iload_n 1, 1) := by decide +kernel
theorem dX8_waterAt_6 : decode cX8_waterAt 6 = .ok (.imul, 1) := by decide +kernel
theorem dX8_waterAt_7 : decode cX8_waterAt 7 = .ok (.iconst 2, 1) := by decide +kernel
theorem dX8_waterAt_8 : decode cX8_waterAt 8 = .ok (.iadd, 1) := by decide +kernel
theorem dX8_waterAt_9 : decode cX8_waterAt 9 = .ok (.iaload, 1) := by decide +kernel
theorem dX8_waterAt_10 : decode cX8_waterAt 10 = .ok (.aload_n 0, 1) := by decide +kernel
theorem dX8_waterAt_11 : decode cX8_waterAt 11 = .ok (.getfield 7, 3) := by decide +kernel
theorem dX8_waterAt_14 : decode cX8_waterAt 14 = .ok (.iconst 4, 1) := by decide +kernel
theorem dX8_waterAt_15 : decode cX8_waterAt 15 = .ok (.iload_n 1, 1) := by decide +kernel
theorem dX8_waterAt_16 : decode cX8_waterAt 16 = .ok (.imul, 1) := by decide +kernel
theorem dX8_waterAt_17 : decode cX8_waterAt 17 = .ok (.iconst 3, 1) := by decide +kernel
theorem dX8_waterAt_18 : decode cX8_waterAt 18 = .ok (.iadd, 1) := by decide +kernel
theorem dX8_waterAt_19 : decode cX8_waterAt 19 = .ok (.iaload, 1) := by decide +kernel
theorem dX8_waterAt_20 : decode cX8_waterAt 20 = .ok (.iload_n 2, 1) := by decide +kernel
theorem dX8_waterAt_21 : decode cX8_waterAt 21 = .ok (.imul, 1) := by decide +kernel
theorem dX8_waterAt_22 : decode cX8_waterAt 22 = .ok (.isub, 1) := by decide +kernel
theorem dX8_waterAt_23 : decode cX8_waterAt 23 = .ok (.istore_n 3, 1) := by decide +kernel
theorem dX8_waterAt_24 : decode cX8_waterAt 24 = .ok (.iload_n 3, 1) := by decide +kernel
theorem dX8_waterAt_25 : decode cX8_waterAt 25 = .ok (.ifCond .ge 7, 3) := by decide +kernel
theorem dX8_waterAt_28 : decode cX8_waterAt 28 = .ok (.iconst 0, 1) := by decide +kernel
theorem dX8_waterAt_29 : decode cX8_waterAt 29 = .ok (.goto 4, 3) := by decide +kernel
theorem dX8_waterAt_32 : decode cX8_waterAt 32 = .ok (.iload_n 3, 1) := by decide +kernel
theorem dX8_waterAt_33 : decode cX8_waterAt 33 = .ok (.ireturn, 1) := by decide +kernel
theorem dX8_heightOf_0 : decode cX8_heightOf 0 = .ok (.aload_n 0, 1) := by decide +kernel
theorem dX8_heightOf_1 : decode cX8_heightOf 1 = .ok (.iload_n 1, 1) := by decide +kernel
theorem dX8_heightOf_2 : decode cX8_heightOf 2 = .ok (.iload_n 2, 1) := by decide +kernel
theorem dX8_heightOf_3 : decode cX8_heightOf 3 = .ok (.invokevirtual 184, 3) := by decide +kernel
theorem dX8_heightOf_6 : decode cX8_heightOf 6 = .ok (.iload_n 3, 1) := by decide +kernel
theorem dX8_heightOf_7 : decode cX8_heightOf 7 = .ok (.iadd, 1) := by decide +kernel
theorem dX8_heightOf_8 : decode cX8_heightOf 8 = .ok (.aload_n 0, 1) := by decide +kernel
theorem dX8_heightOf_9 : decode cX8_heightOf 9 = .ok (.iload_n 1, 1) := by decide +kernel
theorem dX8_heightOf_10 : decode cX8_heightOf 10 = .ok (.invokevirtual 187, 3) := by decide +kernel
theorem dX8_heightOf_13 : decode cX8_heightOf 13 = .ok (.idiv, 1) := by decide +kernel
theorem dX8_heightOf_14 : decode cX8_heightOf 14 = .ok (.ireturn, 1) := by decide +kernel
theorem dX8_sizeOf_0 : decode cX8_sizeOf 0 = .ok (.iconst 0, 1) := by decide +kernel
theorem dX8_sizeOf_1 : decode cX8_sizeOf 1 = .ok (.istore_n 2, 1) := by decide +kernel
theorem dX8_sizeOf_2 : decode cX8_sizeOf 2 = .ok (.iconst 0, 1) := by decide +kernel
theorem dX8_sizeOf_3 : decode cX8_sizeOf 3 = .ok (.istore_n 3, 1) := by decide +kernel
theorem dX8_sizeOf_4 : decode cX8_sizeOf 4 = .ok (.iload_n 3, 1) := by decide +kernel
theorem dX8_sizeOf_5 : decode cX8_sizeOf 5 = .ok (.aload_n 0, 1) := by decide +kernel
theorem dX8_sizeOf_6 : decode cX8_sizeOf 6 = .ok (.getfield 67, 3) := by decide +kernel
theorem dX8_sizeOf_9 : decode cX8_sizeOf 9 = .ok (.if_icmp .ge 34, 3) := by decide +kernel
theorem dX8_sizeOf_12 : decode cX8_sizeOf 12 = .ok (.iload_n 2, 1) := by decide +kernel
theorem dX8_sizeOf_13 : decode cX8_sizeOf 13 = .ok (.iload_n 1, 1) := by decide +kernel
theorem dX8_sizeOf_14 : decode cX8_sizeOf 14 = .ok (.iload_n 3, 1) := by decide +kernel
theorem dX8_sizeOf_15 : decode cX8_sizeOf 15 = .ok (.invokestatic 191, 3) := by decide +kernel
theorem dX8_sizeOf_18 : decode cX8_sizeOf 18 = .ok (.ifCond .eq 16, 3) := by decide +kernel
theorem dX8_sizeOf_21 : decode cX8_sizeOf 21 = .ok (.aload_n 0, 1) := by decide +kernel
theorem dX8_sizeOf_22 : decode cX8_sizeOf 22 = .ok (.getfield 13, 3) := by decide +kernel
theorem dX8_sizeOf_25 : decode cX8_sizeOf 25 = .ok (.iconst 4, 1) := by decide +kernel
theorem dX8_sizeOf_26 : decode cX8_sizeOf 26 = .ok (.iload_n 3, 1) := by decide +kernel
theorem dX8_sizeOf_27 : decode cX8_sizeOf 27 = .ok (.imul, 1) := by decide +kernel
theorem dX8_sizeOf_28 : decode cX8_sizeOf 28 = .ok (.iconst 2, 1) := by decide +kernel
theorem dX8_sizeOf_29 : decode cX8_sizeOf 29 = .ok (.iadd, 1) := by decide +kernel
theorem dX8_sizeOf_30 : decode cX8_sizeOf 30 = .ok (.iaload, 1) := by decide +kernel
theorem dX8_sizeOf_31 : decode cX8_sizeOf 31 = .ok (.goto 4, 3) := by decide +kernel
theorem dX8_sizeOf_34 : decode cX8_sizeOf 34 = .ok (.iconst 0, 1) := by decide +kernel
theorem dX8_sizeOf_35 : decode cX8_sizeOf 35 = .ok (.iadd, 1) := by decide +kernel
theorem dX8_sizeOf_36 : decode cX8_sizeOf 36 = .ok (.istore_n 2, 1) := by decide +kernel
theorem dX8_sizeOf_37 : decode cX8_sizeOf 37 = .ok (.iinc 3 1, 3) := by decide +kernel
theorem dX8_sizeOf_40 : decode cX8_sizeOf 40 = .ok (.goto (-36), 3) := by decide +kernel
theorem dX8_sizeOf_43 : decode cX8_sizeOf 43 = .ok (.iload_n 2, 1) := by decide +kernel
theorem dX8_sizeOf_44 : decode cX8_sizeOf 44 = .ok (.ireturn, 1) := by decide +kernel
theorem dX8_height_0 : decode cX8_height 0 = .ok (.aload_n 0, 1) := by decide +kernel
theorem dX8_height_1 : decode cX8_height 1 = .ok (.iload_n 1, 1) := by decide +kernel
theorem dX8_height_2 : decode cX8_height 2 = .ok (.invokevirtual 170, 3) := by decide +kernel
theorem dX8_height_5 : decode cX8_height 5 = .ok (.ifCond .eq 11, 3) := by decide +kernel
theorem dX8_height_8 : decode cX8_height 8 = .ok (.aload_n 0, 1) := by decide +kernel
theorem dX8_height_9 : decode cX8_height 9 = .ok (.iload_n 3, 1) := by decide +kernel
theorem dX8_height_10 : decode cX8_height 10 = .ok (.invokevirtual 195, 3) := by decide +kernel
theorem dX8_height_13 : decode cX8_height 13 = .ok (.ifCond .ne 6, 3) := by decide +kernel
theorem dX8_height_16 : decode cX8_height 16 = .ok (.ldc 173, 2) := by decide +kernel
theorem dX8_height_18 : decode cX8_height 18 = .ok (.ireturn, 1) := by decide +kernel
theorem dX8_height_19 : decode cX8_height 19 = .ok (.iload_n 2, 1) := by decide +kernel
theorem dX8_height_20 : decode cX8_height 20 = .ok (.invokestatic 198, 3) := by decide +kernel
theorem dX8_height_23 : decode cX8_height 23 = .ok (.ifCond .eq 17, 3) := by decide +kernel
theorem dX8_height_26 : decode cX8_height 26 = .ok (.aload_n 0, 1) := by decide +kernel
theorem dX8_height_27 : decode cX8_height 27 = .ok (.iload_n 1, 1) := by decide +kernel
theorem dX8_height_28 : decode cX8_height 28 = .ok (.iload_n 2, 1) := by decide +kernel
theorem dX8_height_29 : decode cX8_height 29 = .ok (.aload_n 0, 1) := by decide +kernel
theorem dX8_height_30 : decode cX8_height 30 = .ok (.iload_n 3, 1) := by decide +kernel
theorem dX8_height_31 : decode cX8_height 31 = .ok (.invokevirtual 201, 3) := by decide +kernel
theorem dX8_height_34 : decode cX8_height 34 = .ok (.invokevirtual 204, 3) := by decide +kernel
theorem dX8_height_37 : decode cX8_height 37 = .ok (.goto 5, 3) := by decide +kernel
theorem dX8_height_40 : decode cX8_height 40 = .ok (.ldc 76, 2) := by decide +kernel
theorem dX8_height_42 : decode cX8_height 42 = .ok (.ireturn, 1) := by decide +kernel
theorem dX8_mostOf_0 : decode cX8_mostOf 0 = .ok (.iload_n 3, 1) := by decide +kernel
theorem dX8_mostOf_1 : decode cX8_mostOf 1 = .ok (.iconst 1, 1) := by decide +kernel
theorem dX8_mostOf_2 : decode cX8_mostOf 2 = .ok (.iadd, 1) := by decide +kernel
theorem dX8_mostOf_3 : decode cX8_mostOf 3 = .ok (.aload_n 0, 1) := by decide +kernel
theorem dX8_mostOf_4 : decode cX8_mostOf 4 = .ok (.iload_n 1, 1) := by decide +kernel
theorem dX8_mostOf_5 : decode cX8_mostOf 5 = .ok (.invokevirtual 187, 3) := by decide +kernel
theorem dX8_mostOf_8 : decode cX8_mostOf 8 = .ok (.imul, 1) := by decide +kernel
theorem dX8_mostOf_9 : decode cX8_mostOf 9 = .ok (.iconst 1, 1) := by decide +kernel
theorem dX8_mostOf_10 : decode cX8_mostOf 10 = .ok (.isub, 1) := by decide +kernel
theorem dX8_mostOf_11 : decode cX8_mostOf 11 = .ok (.aload_n 0, 1) := by decide +kernel
theorem dX8_mostOf_12 : decode cX8_mostOf 12 = .ok (.iload_n 1, 1) := by decide +kernel
theorem dX8_mostOf_13 : decode cX8_mostOf 13 = .ok (.iload_n 2, 1) := by decide +kernel
theorem dX8_mostOf_14 : decode cX8_mostOf 14 = .ok (.invokevirtual 184, 3) := by decide +kernel
theorem dX8_mostOf_17 : decode cX8_mostOf 17 = .ok (.isub, 1) := by decide +kernel
theorem dX8_mostOf_18 : decode cX8_mostOf 18 = .ok (.ireturn, 1) := by decide +kernel
theorem dX8_leastOf_0 : decode cX8_leastOf 0 = .ok (.iload_n 3, 1) := by decide +kernel
theorem dX8_leastOf_1 : decode cX8_leastOf 1 = .ok (.aload_n 0, 1) := by decide +kernel
theorem dX8_leastOf_2 : decode cX8_leastOf 2 = .ok (.iload_n 1, 1) := by decide +kernel
theorem dX8_leastOf_3 : decode cX8_leastOf 3 = .ok (.invokevirtual 187, 3) := by decide +kernel
theorem dX8_leastOf_6 : decode cX8_leastOf 6 = .ok (.imul, 1) := by decide +kernel
theorem dX8_leastOf_7 : decode cX8_leastOf 7 = .ok (.aload_n 0, 1) := by decide +kernel
theorem dX8_leastOf_8 : decode cX8_leastOf 8 = .ok (.iload_n 1, 1) := by decide +kernel
theorem dX8_leastOf_9 : decode cX8_leastOf 9 = .ok (.iload_n 2, 1) := by decide +kernel
theorem dX8_leastOf_10 : decode cX8_leastOf 10 = .ok (.invokevirtual 184, 3) := by decide +kernel
theorem dX8_leastOf_13 : decode cX8_leastOf 13 = .ok (.isub, 1) := by decide +kernel
theorem dX8_leastOf_14 : decode cX8_leastOf 14 = .ok (.istore 4, 2) := by decide +kernel
theorem dX8_leastOf_16 : decode cX8_leastOf 16 = .ok (.iload 4, 2) := by decide +kernel
theorem dX8_leastOf_18 : decode cX8_leastOf 18 = .ok (.ifCond .ge 7, 3) := by decide +kernel
theorem dX8_leastOf_21 : decode cX8_leastOf 21 = .ok (.iconst 0, 1) := by decide +kernel
theorem dX8_leastOf_22 : decode cX8_leastOf 22 = .ok (.goto 5, 3) := by decide +kernel
theorem dX8_leastOf_25 : decode cX8_leastOf 25 = .ok (.iload 4, 2) := by decide +kernel
theorem dX8_leastOf_27 : decode cX8_leastOf 27 = .ok (.ireturn, 1) := by decide +kernel
theorem dX8_span_0 : decode cX8_span 0 = .ok (.aload_n 0, 1) := by decide +kernel
theorem dX8_span_1 : decode cX8_span 1 = .ok (.iload_n 1, 1) := by decide +kernel
theorem dX8_span_2 : decode cX8_span 2 = .ok (.invokevirtual 170, 3) := by decide +kernel
theorem dX8_span_5 : decode cX8_span 5 = .ok (.ifCond .ne 6, 3) := by decide +kernel
theorem dX8_span_8 : decode cX8_span 8 = .ok (.ldc 173, 2) := by decide +kernel
theorem dX8_span_10 : decode cX8_span 10 = .ok (.ireturn, 1) := by decide +kernel
theorem dX8_span_11 : decode cX8_span 11 = .ok (.iload_n 2, 1) := by decide +kernel
theorem dX8_span_12 : decode cX8_span 12 = .ok (.invokestatic 198, 3) := by decide +kernel
theorem dX8_span_15 : decode cX8_span 15 = .ok (.ifCond .eq 21, 3) := by decide +kernel
theorem dX8_span_18 : decode cX8_span 18 = .ok (.iload_n 3, 1) := by decide +kernel
theorem dX8_span_19 : decode cX8_span 19 = .ok (.invokestatic 208, 3) := by decide +kernel
theorem dX8_span_22 : decode cX8_span 22 = .ok (.ifCond .eq 14, 3) := by decide +kernel
theorem dX8_span_25 : decode cX8_span 25 = .ok (.iload 4, 2) := by decide +kernel
theorem dX8_span_27 : decode cX8_span 27 = .ok (.i2l, 1) := by decide +kernel
theorem dX8_span_28 : decode cX8_span 28 = .ok (.lconst 0, 1) := by decide +kernel
theorem dX8_span_29 : decode cX8_span 29 = .ok (.lconst 1, 1) := by decide +kernel
theorem dX8_span_30 : decode cX8_span 30 = .ok (.invokestatic 63, 3) := by decide +kernel
theorem dX8_span_33 : decode cX8_span 33 = .ok (.ifCond .ne 6, 3) := by decide +kernel
theorem dX8_span_36 : decode cX8_span 36 = .ok (.ldc 76, 2) := by decide +kernel
theorem dX8_span_38 : decode cX8_span 38 = .ok (.ireturn, 1) := by decide +kernel
theorem dX8_span_39 : decode cX8_span 39 = .ok (.aload_n 0, 1) := by decide +kernel
theorem dX8_span_40 : decode cX8_span 40 = .ok (.iload_n 1, 1) := by decide +kernel
theorem dX8_span_41 : decode cX8_span 41 = .ok (.iload_n 2, 1) := by decide +kernel
theorem dX8_span_42 : decode cX8_span 42 = .ok (.iload_n 3, 1) := by decide +kernel
theorem dX8_span_43 : decode cX8_span 43 = .ok (.invokevirtual 211, 3) := by decide +kernel
theorem dX8_span_46 : decode cX8_span 46 = .ok (.istore 5, 2) := by decide +kernel
theorem dX8_span_48 : decode cX8_span 48 = .ok (.iload 5, 2) := by decide +kernel
theorem dX8_span_50 : decode cX8_span 50 = .ok (.ifCond .ge 7, 3) := by decide +kernel
theorem dX8_span_53 : decode cX8_span 53 = .ok (.iconst (-1), 1) := by decide +kernel
theorem dX8_span_54 : decode cX8_span 54 = .ok (.goto 20, 3) := by decide +kernel
theorem dX8_span_57 : decode cX8_span 57 = .ok (.iload 4, 2) := by decide +kernel
theorem dX8_span_59 : decode cX8_span 59 = .ok (.ifCond .ne 13, 3) := by decide +kernel
theorem dX8_span_62 : decode cX8_span 62 = .ok (.aload_n 0, 1) := by decide +kernel
theorem dX8_span_63 : decode cX8_span 63 = .ok (.iload_n 1, 1) := by decide +kernel
theorem dX8_span_64 : decode cX8_span 64 = .ok (.iload_n 2, 1) := by decide +kernel
theorem dX8_span_65 : decode cX8_span 65 = .ok (.iload_n 3, 1) := by decide +kernel
theorem dX8_span_66 : decode cX8_span 66 = .ok (.invokevirtual 214, 3) := by decide +kernel
theorem dX8_span_69 : decode cX8_span 69 = .ok (.goto 5, 3) := by decide +kernel
theorem dX8_span_72 : decode cX8_span 72 = .ok (.iload 5, 2) := by decide +kernel
theorem dX8_span_74 : decode cX8_span 74 = .ok (.ireturn, 1) := by decide +kernel
theorem dX8_startEnds_0 : decode cX8_startEnds 0 = .ok (.iconst 0, 1) := by decide +kernel
theorem dX8_startEnds_1 : decode cX8_startEnds 1 = .ok (.istore_n 1, 1) := by decide +kernel
theorem dX8_startEnds_2 : decode cX8_startEnds 2 = .ok (.iload_n 1, 1) := by decide +kernel
theorem dX8_startEnds_3 : decode cX8_startEnds 3 = .ok (.aload_n 0, 1) := by decide +kernel
theorem dX8_startEnds_4 : decode cX8_startEnds 4 = .ok (.getfield 67, 3) := by decide +kernel
theorem dX8_startEnds_7 : decode cX8_startEnds 7 = .ok (.if_icmp .ge 39, 3) := by decide +kernel
theorem dX8_startEnds_10 : decode cX8_startEnds 10 = .ok (.aload_n 0, 1) := by decide +kernel
theorem dX8_startEnds_11 : decode cX8_startEnds 11 = .ok (.getfield 35, 3) := by decide +kernel
theorem dX8_startEnds_14 : decode cX8_startEnds 14 = .ok (.iload_n 1, 1) := by decide +kernel
theorem dX8_startEnds_15 : decode cX8_startEnds 15 = .ok (.aload_n 0, 1) := by decide +kernel
theorem dX8_startEnds_16 : decode cX8_startEnds 16 = .ok (.getfield 13, 3) := by decide +kernel
theorem dX8_startEnds_19 : decode cX8_startEnds 19 = .ok (.iconst 4, 1) := by decide +kernel
theorem dX8_startEnds_20 : decode cX8_startEnds 20 = .ok (.iload_n 1, 1) := by decide +kernel
theorem dX8_startEnds_21 : decode cX8_startEnds 21 = .ok (.imul, 1) := by decide +kernel
theorem dX8_startEnds_22 : decode cX8_startEnds 22 = .ok (.iaload, 1) := by decide +kernel
theorem dX8_startEnds_23 : decode cX8_startEnds 23 = .ok (.iastore, 1) := by decide +kernel
theorem dX8_startEnds_24 : decode cX8_startEnds 24 = .ok (.aload_n 0, 1) := by decide +kernel
theorem dX8_startEnds_25 : decode cX8_startEnds 25 = .ok (.getfield 38, 3) := by decide +kernel
theorem dX8_startEnds_28 : decode cX8_startEnds 28 = .ok (.iload_n 1, 1) := by decide +kernel
theorem dX8_startEnds_29 : decode cX8_startEnds 29 = .ok (.aload_n 0, 1) := by decide +kernel
theorem dX8_startEnds_30 : decode cX8_startEnds 30 = .ok (.getfield 13, 3) := by decide +kernel
theorem dX8_startEnds_33 : decode cX8_startEnds 33 = .ok (.iconst 4, 1) := by decide +kernel
theorem dX8_startEnds_34 : decode cX8_startEnds 34 = .ok (.iload_n 1, 1) := by decide +kernel
theorem dX8_startEnds_35 : decode cX8_startEnds 35 = .ok (.imul, 1) := by decide +kernel
theorem dX8_startEnds_36 : decode cX8_startEnds 36 = .ok (.iconst 1, 1) := by decide +kernel
theorem dX8_startEnds_37 : decode cX8_startEnds 37 = .ok (.iadd, 1) := by decide +kernel
theorem dX8_startEnds_38 : decode cX8_startEnds 38 = .ok (.iaload, 1) := by decide +kernel
theorem dX8_startEnds_39 : decode cX8_startEnds 39 = .ok (.iastore, 1) := by decide +kernel
theorem dX8_startEnds_40 : decode cX8_startEnds 40 = .ok (.iinc 1 1, 3) := by decide +kernel
theorem dX8_startEnds_43 : decode cX8_startEnds 43 = .ok (.goto (-41), 3) := by decide +kernel
theorem dX8_startEnds_46 : decode cX8_startEnds 46 = .ok (.return_, 1) := by decide +kernel
theorem dX8_narrow_0 : decode cX8_narrow 0 = .ok (.iconst 4, 1) := by decide +kernel
theorem dX8_narrow_1 : decode cX8_narrow 1 = .ok (.iload_n 1, 1) := by decide +kernel
theorem dX8_narrow_2 : decode cX8_narrow 2 = .ok (.imul, 1) := by decide +kernel
theorem dX8_narrow_3 : decode cX8_narrow 3 = .ok (.istore_n 2, 1) := by decide +kernel
theorem dX8_narrow_4 : decode cX8_narrow 4 = .ok (.aload_n 0, 1) := by decide +kernel
theorem dX8_narrow_5 : decode cX8_narrow 5 = .ok (.getfield 20, 3) := by decide +kernel
theorem dX8_narrow_8 : decode cX8_narrow 8 = .ok (.iload_n 2, 1) := by decide +kernel
theorem dX8_narrow_9 : decode cX8_narrow 9 = .ok (.iconst 2, 1) := by decide +kernel
theorem dX8_narrow_10 : decode cX8_narrow 10 = .ok (.iadd, 1) := by decide +kernel
theorem dX8_narrow_11 : decode cX8_narrow 11 = .ok (.iaload, 1) := by decide +kernel
theorem dX8_narrow_12 : decode cX8_narrow 12 = .ok (.istore_n 3, 1) := by decide +kernel
theorem dX8_narrow_13 : decode cX8_narrow 13 = .ok (.aload_n 0, 1) := by decide +kernel
theorem dX8_narrow_14 : decode cX8_narrow 14 = .ok (.aload_n 0, 1) := by decide +kernel
theorem dX8_narrow_15 : decode cX8_narrow 15 = .ok (.getfield 20, 3) := by decide +kernel
theorem dX8_narrow_18 : decode cX8_narrow 18 = .ok (.iload_n 2, 1) := by decide +kernel
theorem dX8_narrow_19 : decode cX8_narrow 19 = .ok (.iaload, 1) := by decide +kernel
theorem dX8_narrow_20 : decode cX8_narrow 20 = .ok (.aload_n 0, 1) := by decide +kernel
theorem dX8_narrow_21 : decode cX8_narrow 21 = .ok (.getfield 20, 3) := by decide +kernel
theorem dX8_narrow_24 : decode cX8_narrow 24 = .ok (.iload_n 2, 1) := by decide +kernel
theorem dX8_narrow_25 : decode cX8_narrow 25 = .ok (.iconst 1, 1) := by decide +kernel
theorem dX8_narrow_26 : decode cX8_narrow 26 = .ok (.iadd, 1) := by decide +kernel
theorem dX8_narrow_27 : decode cX8_narrow 27 = .ok (.iaload, 1) := by decide +kernel
theorem dX8_narrow_28 : decode cX8_narrow 28 = .ok (.aload_n 0, 1) := by decide +kernel
theorem dX8_narrow_29 : decode cX8_narrow 29 = .ok (.getfield 20, 3) := by decide +kernel
theorem dX8_narrow_32 : decode cX8_narrow 32 = .ok (.iload_n 2, 1) := by decide +kernel
theorem dX8_narrow_33 : decode cX8_narrow 33 = .ok (.iconst 3, 1) := by decide +kernel
theorem dX8_narrow_34 : decode cX8_narrow 34 = .ok (.iadd, 1) := by decide +kernel
theorem dX8_narrow_35 : decode cX8_narrow 35 = .ok (.iaload, 1) := by decide +kernel
theorem dX8_narrow_36 : decode cX8_narrow 36 = .ok (.invokevirtual 211, 3) := by decide +kernel
theorem dX8_narrow_39 : decode cX8_narrow 39 = .ok (.istore 4, 2) := by decide +kernel
theorem dX8_narrow_41 : decode cX8_narrow 41 = .ok (.aload_n 0, 1) := by decide +kernel
theorem dX8_narrow_42 : decode cX8_narrow 42 = .ok (.aload_n 0, 1) := by decide +kernel
theorem dX8_narrow_43 : decode cX8_narrow 43 = .ok (.getfield 20, 3) := by decide +kernel
theorem dX8_narrow_46 : decode cX8_narrow 46 = .ok (.iload_n 2, 1) := by decide +kernel
theorem dX8_narrow_47 : decode cX8_narrow 47 = .ok (.iaload, 1) := by decide +kernel
theorem dX8_narrow_48 : decode cX8_narrow 48 = .ok (.aload_n 0, 1) := by decide +kernel
theorem dX8_narrow_49 : decode cX8_narrow 49 = .ok (.getfield 20, 3) := by decide +kernel
theorem dX8_narrow_52 : decode cX8_narrow 52 = .ok (.iload_n 2, 1) := by decide +kernel
theorem dX8_narrow_53 : decode cX8_narrow 53 = .ok (.iconst 1, 1) := by decide +kernel
theorem dX8_narrow_54 : decode cX8_narrow 54 = .ok (.iadd, 1) := by decide +kernel
theorem dX8_narrow_55 : decode cX8_narrow 55 = .ok (.iaload, 1) := by decide +kernel
theorem dX8_narrow_56 : decode cX8_narrow 56 = .ok (.aload_n 0, 1) := by decide +kernel
theorem dX8_narrow_57 : decode cX8_narrow 57 = .ok (.getfield 20, 3) := by decide +kernel
theorem dX8_narrow_60 : decode cX8_narrow 60 = .ok (.iload_n 2, 1) := by decide +kernel
theorem dX8_narrow_61 : decode cX8_narrow 61 = .ok (.iconst 3, 1) := by decide +kernel
theorem dX8_narrow_62 : decode cX8_narrow 62 = .ok (.iadd, 1) := by decide +kernel
theorem dX8_narrow_63 : decode cX8_narrow 63 = .ok (.iaload, 1) := by decide +kernel
theorem dX8_narrow_64 : decode cX8_narrow 64 = .ok (.invokevirtual 214, 3) := by decide +kernel
theorem dX8_narrow_67 : decode cX8_narrow 67 = .ok (.istore 5, 2) := by decide +kernel
theorem dX8_narrow_69 : decode cX8_narrow 69 = .ok (.iload 4, 2) := by decide +kernel
theorem dX8_narrow_71 : decode cX8_narrow 71 = .ok (.ifCond .lt 12, 3) := by decide +kernel
theorem dX8_narrow_74 : decode cX8_narrow 74 = .ok (.iload_n 3, 1) := by decide +kernel
theorem dX8_narrow_75 : decode cX8_narrow 75 = .ok (.ifCond .ne 10, 3) := by decide +kernel
theorem dX8_narrow_78 : decode cX8_narrow 78 = .ok (.iload 5, 2) := by decide +kernel
theorem dX8_narrow_80 : decode cX8_narrow 80 = .ok (.ifCond .le 5, 3) := by decide +kernel
theorem dX8_narrow_83 : decode cX8_narrow 83 = .ok (.iconst 0, 1) := by decide +kernel
theorem dX8_narrow_84 : decode cX8_narrow 84 = .ok (.ireturn, 1) := by decide +kernel
theorem dX8_narrow_85 : decode cX8_narrow 85 = .ok (.iconst 0, 1) := by decide +kernel
theorem dX8_narrow_86 : decode cX8_narrow 86 = .ok (.istore 6, 2) := by decide +kernel
theorem dX8_narrow_88 : decode cX8_narrow 88 = .ok (.iload 6, 2) := by decide +kernel
theorem dX8_narrow_90 : decode cX8_narrow 90 = .ok (.aload_n 0, 1) := by decide +kernel
theorem dX8_narrow_91 : decode cX8_narrow 91 = .ok (.getfield 67, 3) := by decide +kernel
theorem dX8_narrow_94 : decode cX8_narrow 94 = .ok (.if_icmp .ge 226, 3) := by decide +kernel
theorem dX8_narrow_97 : decode cX8_narrow 97 = .ok (.iload_n 3, 1) := by decide +kernel
theorem dX8_narrow_98 : decode cX8_narrow 98 = .ok (.iload 6, 2) := by decide +kernel
theorem dX8_narrow_100 : decode cX8_narrow 100 = .ok (.invokestatic 191, 3) := by decide +kernel
theorem dX8_narrow_103 : decode cX8_narrow 103 = .ok (.ifCond .eq 211, 3) := by decide +kernel
theorem dX8_narrow_106 : decode cX8_narrow 106 = .ok (.iconst 0, 1) := by decide +kernel
theorem dX8_narrow_107 : decode cX8_narrow 107 = .ok (.istore 7, 2) := by decide +kernel
theorem dX8_narrow_109 : decode cX8_narrow 109 = .ok (.iconst 0, 1) := by decide +kernel
theorem dX8_narrow_110 : decode cX8_narrow 110 = .ok (.istore 8, 2) := by decide +kernel
theorem dX8_narrow_112 : decode cX8_narrow 112 = .ok (.iconst 0, 1) := by decide +kernel
theorem dX8_narrow_113 : decode cX8_narrow 113 = .ok (.istore 9, 2) := by decide +kernel
theorem dX8_narrow_115 : decode cX8_narrow 115 = .ok (.iload 9, 2) := by decide +kernel
theorem dX8_narrow_117 : decode cX8_narrow 117 = .ok (.aload_n 0, 1) := by decide +kernel
theorem dX8_narrow_118 : decode cX8_narrow 118 = .ok (.getfield 67, 3) := by decide +kernel
theorem dX8_narrow_121 : decode cX8_narrow 121 = .ok (.if_icmp .ge 73, 3) := by decide +kernel
theorem dX8_narrow_124 : decode cX8_narrow 124 = .ok (.iload 7, 2) := by decide +kernel
theorem dX8_narrow_126 : decode cX8_narrow 126 = .ok (.iload_n 3, 1) := by decide +kernel
theorem dX8_narrow_127 : decode cX8_narrow 127 = .ok (.iload 9, 2) := by decide +kernel
theorem dX8_narrow_129 : decode cX8_narrow 129 = .ok (.invokestatic 191, 3) := by decide +kernel
theorem dX8_narrow_132 : decode cX8_narrow 132 = .ok (.ifCond .eq 20, 3) := by decide +kernel
theorem dX8_narrow_135 : decode cX8_narrow 135 = .ok (.iload 9, 2) := by decide +kernel
theorem dX8_narrow_137 : decode cX8_narrow 137 = .ok (.iload 6, 2) := by decide +kernel
theorem dX8_narrow_139 : decode cX8_narrow 139 = .ok (.if_icmp .eq 13, 3) := by decide +kernel
theorem dX8_narrow_142 : decode cX8_narrow 142 = .ok (.aload_n 0, 1) := by decide +kernel
theorem dX8_narrow_143 : decode cX8_narrow 143 = .ok (.getfield 35, 3) := by decide +kernel
theorem dX8_narrow_146 : decode cX8_narrow 146 = .ok (.iload 9, 2) := by decide +kernel
theorem dX8_narrow_148 : decode cX8_narrow 148 = .ok (.iaload, 1) := by decide +kernel
theorem dX8_narrow_149 : decode cX8_narrow 149 = .ok (.goto 4, 3) := by decide +kernel
theorem dX8_narrow_152 : decode cX8_narrow 152 = .ok (.iconst 0, 1) := by decide +kernel
theorem dX8_narrow_153 : decode cX8_narrow 153 = .ok (.iadd, 1) := by decide +kernel
theorem dX8_narrow_154 : decode cX8_narrow 154 = .ok (.istore 7, 2) := by decide +kernel
theorem dX8_narrow_156 : decode cX8_narrow 156 = .ok (.iload 8, 2) := by decide +kernel
theorem dX8_narrow_158 : decode cX8_narrow 158 = .ok (.iload_n 3, 1) := by decide +kernel
theorem dX8_narrow_159 : decode cX8_narrow 159 = .ok (.iload 9, 2) := by decide +kernel
theorem dX8_narrow_161 : decode cX8_narrow 161 = .ok (.invokestatic 191, 3) := by decide +kernel
theorem dX8_narrow_164 : decode cX8_narrow 164 = .ok (.ifCond .eq 20, 3) := by decide +kernel
theorem dX8_narrow_167 : decode cX8_narrow 167 = .ok (.iload 9, 2) := by decide +kernel
theorem dX8_narrow_169 : decode cX8_narrow 169 = .ok (.iload 6, 2) := by decide +kernel
theorem dX8_narrow_171 : decode cX8_narrow 171 = .ok (.if_icmp .eq 13, 3) := by decide +kernel
theorem dX8_narrow_174 : decode cX8_narrow 174 = .ok (.aload_n 0, 1) := by decide +kernel
theorem dX8_narrow_175 : decode cX8_narrow 175 = .ok (.getfield 38, 3) := by decide +kernel
theorem dX8_narrow_178 : decode cX8_narrow 178 = .ok (.iload 9, 2) := by decide +kernel
theorem dX8_narrow_180 : decode cX8_narrow 180 = .ok (.iaload, 1) := by decide +kernel
theorem dX8_narrow_181 : decode cX8_narrow 181 = .ok (.goto 4, 3) := by decide +kernel
theorem dX8_narrow_184 : decode cX8_narrow 184 = .ok (.iconst 0, 1) := by decide +kernel
theorem dX8_narrow_185 : decode cX8_narrow 185 = .ok (.iadd, 1) := by decide +kernel
theorem dX8_narrow_186 : decode cX8_narrow 186 = .ok (.istore 8, 2) := by decide +kernel
theorem dX8_narrow_188 : decode cX8_narrow 188 = .ok (.iinc 9 1, 3) := by decide +kernel
theorem dX8_narrow_191 : decode cX8_narrow 191 = .ok (.goto (-76), 3) := by decide +kernel
theorem dX8_narrow_194 : decode cX8_narrow 194 = .ok (.aload_n 0, 1) := by decide +kernel
theorem dX8_narrow_195 : decode cX8_narrow 195 = .ok (.aload_n 0, 1) := by decide +kernel
theorem dX8_narrow_196 : decode cX8_narrow 196 = .ok (.getfield 217, 3) := by decide +kernel
theorem dX8_narrow_199 : decode cX8_narrow 199 = .ok (.ifCond .ne 33, 3) := by decide +kernel
theorem dX8_narrow_202 : decode cX8_narrow 202 = .ok (.iload 5, 2) := by decide +kernel
theorem dX8_narrow_204 : decode cX8_narrow 204 = .ok (.iload 8, 2) := by decide +kernel
theorem dX8_narrow_206 : decode cX8_narrow 206 = .ok (.isub, 1) := by decide +kernel
theorem dX8_narrow_207 : decode cX8_narrow 207 = .ok (.aload_n 0, 1) := by decide +kernel
theorem dX8_narrow_208 : decode cX8_narrow 208 = .ok (.getfield 35, 3) := by decide +kernel
theorem dX8_narrow_211 : decode cX8_narrow 211 = .ok (.iload 6, 2) := by decide +kernel
theorem dX8_narrow_213 : decode cX8_narrow 213 = .ok (.iaload, 1) := by decide +kernel
theorem dX8_narrow_214 : decode cX8_narrow 214 = .ok (.if_icmp .gt 18, 3) := by decide +kernel
theorem dX8_narrow_217 : decode cX8_narrow 217 = .ok (.iload 4, 2) := by decide +kernel
theorem dX8_narrow_219 : decode cX8_narrow 219 = .ok (.iload 7, 2) := by decide +kernel
theorem dX8_narrow_221 : decode cX8_narrow 221 = .ok (.isub, 1) := by decide +kernel
theorem dX8_narrow_222 : decode cX8_narrow 222 = .ok (.aload_n 0, 1) := by decide +kernel
theorem dX8_narrow_223 : decode cX8_narrow 223 = .ok (.getfield 38, 3) := by decide +kernel
theorem dX8_narrow_226 : decode cX8_narrow 226 = .ok (.iload 6, 2) := by decide +kernel
theorem dX8_narrow_228 : decode cX8_narrow 228 = .ok (.iaload, 1) := by decide +kernel
theorem dX8_narrow_229 : decode cX8_narrow 229 = .ok (.if_icmp .ge 7, 3) := by decide +kernel
theorem dX8_narrow_232 : decode cX8_narrow 232 = .ok (.iconst 1, 1) := by decide +kernel
theorem dX8_narrow_233 : decode cX8_narrow 233 = .ok (.goto 4, 3) := by decide +kernel
theorem dX8_narrow_236 : decode cX8_narrow 236 = .ok (.iconst 0, 1) := by decide +kernel
theorem dX8_narrow_237 : decode cX8_narrow 237 = .ok (.putfield 217, 3) := by decide +kernel
theorem dX8_narrow_240 : decode cX8_narrow 240 = .ok (.aload_n 0, 1) := by decide +kernel
theorem dX8_narrow_241 : decode cX8_narrow 241 = .ok (.getfield 35, 3) := by decide +kernel
theorem dX8_narrow_244 : decode cX8_narrow 244 = .ok (.iload 6, 2) := by decide +kernel
theorem dX8_narrow_246 : decode cX8_narrow 246 = .ok (.iload 5, 2) := by decide +kernel
theorem dX8_narrow_248 : decode cX8_narrow 248 = .ok (.iload 8, 2) := by decide +kernel
theorem dX8_narrow_250 : decode cX8_narrow 250 = .ok (.isub, 1) := by decide +kernel
theorem dX8_narrow_251 : decode cX8_narrow 251 = .ok (.aload_n 0, 1) := by decide +kernel
theorem dX8_narrow_252 : decode cX8_narrow 252 = .ok (.getfield 35, 3) := by decide +kernel
theorem dX8_narrow_255 : decode cX8_narrow 255 = .ok (.iload 6, 2) := by decide +kernel
theorem dX8_narrow_257 : decode cX8_narrow 257 = .ok (.iaload, 1) := by decide +kernel
theorem dX8_narrow_258 : decode cX8_narrow 258 = .ok (.if_icmp .le 11, 3) := by decide +kernel
theorem dX8_narrow_261 : decode cX8_narrow 261 = .ok (.iload 5, 2) := by decide +kernel
theorem dX8_narrow_263 : decode cX8_narrow 263 = .ok (.iload 8, 2) := by decide +kernel
theorem dX8_narrow_265 : decode cX8_narrow 265 = .ok (.isub, 1) := by decide +kernel
theorem dX8_narrow_266 : decode cX8_narrow 266 = .ok (.goto 10, 3) := by decide +kernel
theorem dX8_narrow_269 : decode cX8_narrow 269 = .ok (.aload_n 0, 1) := by decide +kernel
theorem dX8_narrow_270 : decode cX8_narrow 270 = .ok (.getfield 35, 3) := by decide +kernel
theorem dX8_narrow_273 : decode cX8_narrow 273 = .ok (.iload 6, 2) := by decide +kernel
theorem dX8_narrow_275 : decode cX8_narrow 275 = .ok (.iaload, 1) := by decide +kernel
theorem dX8_narrow_276 : decode cX8_narrow 276 = .ok (.iastore, 1) := by decide +kernel
theorem dX8_narrow_277 : decode cX8_narrow 277 = .ok (.aload_n 0, 1) := by decide +kernel
theorem dX8_narrow_278 : decode cX8_narrow 278 = .ok (.getfield 38, 3) := by decide +kernel
theorem dX8_narrow_281 : decode cX8_narrow 281 = .ok (.iload 6, 2) := by decide +kernel
theorem dX8_narrow_283 : decode cX8_narrow 283 = .ok (.iload 4, 2) := by decide +kernel
theorem dX8_narrow_285 : decode cX8_narrow 285 = .ok (.iload 7, 2) := by decide +kernel
theorem dX8_narrow_287 : decode cX8_narrow 287 = .ok (.isub, 1) := by decide +kernel
theorem dX8_narrow_288 : decode cX8_narrow 288 = .ok (.aload_n 0, 1) := by decide +kernel
theorem dX8_narrow_289 : decode cX8_narrow 289 = .ok (.getfield 38, 3) := by decide +kernel
theorem dX8_narrow_292 : decode cX8_narrow 292 = .ok (.iload 6, 2) := by decide +kernel
theorem dX8_narrow_294 : decode cX8_narrow 294 = .ok (.iaload, 1) := by decide +kernel
theorem dX8_narrow_295 : decode cX8_narrow 295 = .ok (.if_icmp .ge 11, 3) := by decide +kernel
theorem dX8_narrow_298 : decode cX8_narrow 298 = .ok (.iload 4, 2) := by decide +kernel
theorem dX8_narrow_300 : decode cX8_narrow 300 = .ok (.iload 7, 2) := by decide +kernel
theorem dX8_narrow_302 : decode cX8_narrow 302 = .ok (.isub, 1) := by decide +kernel
theorem dX8_narrow_303 : decode cX8_narrow 303 = .ok (.goto 10, 3) := by decide +kernel
theorem dX8_narrow_306 : decode cX8_narrow 306 = .ok (.aload_n 0, 1) := by decide +kernel
theorem dX8_narrow_307 : decode cX8_narrow 307 = .ok (.getfield 38, 3) := by decide +kernel
theorem dX8_narrow_310 : decode cX8_narrow 310 = .ok (.iload 6, 2) := by decide +kernel
theorem dX8_narrow_312 : decode cX8_narrow 312 = .ok (.iaload, 1) := by decide +kernel
theorem dX8_narrow_313 : decode cX8_narrow 313 = .ok (.iastore, 1) := by decide +kernel
theorem dX8_narrow_314 : decode cX8_narrow 314 = .ok (.iinc 6 1, 3) := by decide +kernel
theorem dX8_narrow_317 : decode cX8_narrow 317 = .ok (.goto (-229), 3) := by decide +kernel
theorem dX8_narrow_320 : decode cX8_narrow 320 = .ok (.iconst 1, 1) := by decide +kernel
theorem dX8_narrow_321 : decode cX8_narrow 321 = .ok (.ireturn, 1) := by decide +kernel
theorem dX8_isClash_0 : decode cX8_isClash 0 = .ok (.aload_n 0, 1) := by decide +kernel
theorem dX8_isClash_1 : decode cX8_isClash 1 = .ok (.invokevirtual 221, 3) := by decide +kernel
theorem dX8_isClash_4 : decode cX8_isClash 4 = .ok (.aload_n 0, 1) := by decide +kernel
theorem dX8_isClash_5 : decode cX8_isClash 5 = .ok (.iconst 1, 1) := by decide +kernel
theorem dX8_isClash_6 : decode cX8_isClash 6 = .ok (.putfield 217, 3) := by decide +kernel
theorem dX8_isClash_9 : decode cX8_isClash 9 = .ok (.iconst 1, 1) := by decide +kernel
theorem dX8_isClash_10 : decode cX8_isClash 10 = .ok (.istore_n 2, 1) := by decide +kernel
theorem dX8_isClash_11 : decode cX8_isClash 11 = .ok (.aload_n 0, 1) := by decide +kernel
theorem dX8_isClash_12 : decode cX8_isClash 12 = .ok (.getfield 217, 3) := by decide +kernel
theorem dX8_isClash_15 : decode cX8_isClash 15 = .ok (.ifCond .eq 98, 3) := by decide +kernel
theorem dX8_isClash_18 : decode cX8_isClash 18 = .ok (.iload_n 2, 1) := by decide +kernel
theorem dX8_isClash_19 : decode cX8_isClash 19 = .ok (.ifCond .eq 94, 3) := by decide +kernel
theorem dX8_isClash_22 : decode cX8_isClash 22 = .ok (.aload_n 0, 1) := by decide +kernel
theorem dX8_isClash_23 : decode cX8_isClash 23 = .ok (.iconst 0, 1) := by decide +kernel
theorem dX8_isClash_24 : decode cX8_isClash 24 = .ok (.putfield 217, 3) := by decide +kernel
theorem dX8_isClash_27 : decode cX8_isClash 27 = .ok (.iconst 0, 1) := by decide +kernel
theorem dX8_isClash_28 : decode cX8_isClash 28 = .ok (.istore_n 3, 1) := by decide +kernel
theorem dX8_isClash_29 : decode cX8_isClash 29 = .ok (.iload_n 3, 1) := by decide +kernel
theorem dX8_isClash_30 : decode cX8_isClash 30 = .ok (.aload_n 0, 1) := by decide +kernel
theorem dX8_isClash_31 : decode cX8_isClash 31 = .ok (.getfield 160, 3) := by decide +kernel
theorem dX8_isClash_34 : decode cX8_isClash 34 = .ok (.if_icmp .ge 35, 3) := by decide +kernel
theorem dX8_isClash_37 : decode cX8_isClash 37 = .ok (.iload_n 2, 1) := by decide +kernel
theorem dX8_isClash_38 : decode cX8_isClash 38 = .ok (.ifCond .eq 23, 3) := by decide +kernel
theorem dX8_isClash_41 : decode cX8_isClash 41 = .ok (.iload_n 1, 1) := by decide +kernel
theorem dX8_isClash_42 : decode cX8_isClash 42 = .ok (.iload_n 3, 1) := by decide +kernel
theorem dX8_isClash_43 : decode cX8_isClash 43 = .ok (.invokestatic 191, 3) := by decide +kernel
theorem dX8_isClash_46 : decode cX8_isClash 46 = .ok (.ifCond .ne 11, 3) := by decide +kernel
theorem dX8_isClash_49 : decode cX8_isClash 49 = .ok (.aload_n 0, 1) := by decide +kernel
theorem dX8_isClash_50 : decode cX8_isClash 50 = .ok (.iload_n 3, 1) := by decide +kernel
theorem dX8_isClash_51 : decode cX8_isClash 51 = .ok (.invokevirtual 224, 3) := by decide +kernel
theorem dX8_isClash_54 : decode cX8_isClash 54 = .ok (.ifCond .eq 7, 3) := by decide +kernel
theorem dX8_isClash_57 : decode cX8_isClash 57 = .ok (.iconst 1, 1) := by decide +kernel
theorem dX8_isClash_58 : decode cX8_isClash 58 = .ok (.goto 4, 3) := by decide +kernel
theorem dX8_isClash_61 : decode cX8_isClash 61 = .ok (.iconst 0, 1) := by decide +kernel
theorem dX8_isClash_62 : decode cX8_isClash 62 = .ok (.istore_n 2, 1) := by decide +kernel
theorem dX8_isClash_63 : decode cX8_isClash 63 = .ok (.iinc 3 1, 3) := by decide +kernel
theorem dX8_isClash_66 : decode cX8_isClash 66 = .ok (.goto (-37), 3) := by decide +kernel
theorem dX8_isClash_69 : decode cX8_isClash 69 = .ok (.iconst 0, 1) := by decide +kernel
theorem dX8_isClash_70 : decode cX8_isClash 70 = .ok (.istore_n 3, 1) := by decide +kernel
theorem dX8_isClash_71 : decode cX8_isClash 71 = .ok (.iload_n 3, 1) := by decide +kernel
theorem dX8_isClash_72 : decode cX8_isClash 72 = .ok (.aload_n 0, 1) := by decide +kernel
theorem dX8_isClash_73 : decode cX8_isClash 73 = .ok (.getfield 67, 3) := by decide +kernel
theorem dX8_isClash_76 : decode cX8_isClash 76 = .ok (.if_icmp .ge 34, 3) := by decide +kernel
theorem dX8_isClash_79 : decode cX8_isClash 79 = .ok (.iload_n 2, 1) := by decide +kernel
theorem dX8_isClash_80 : decode cX8_isClash 80 = .ok (.ifCond .eq 22, 3) := by decide +kernel
theorem dX8_isClash_83 : decode cX8_isClash 83 = .ok (.aload_n 0, 1) := by decide +kernel
theorem dX8_isClash_84 : decode cX8_isClash 84 = .ok (.getfield 35, 3) := by decide +kernel
theorem dX8_isClash_87 : decode cX8_isClash 87 = .ok (.iload_n 3, 1) := by decide +kernel
theorem dX8_isClash_88 : decode cX8_isClash 88 = .ok (.iaload, 1) := by decide +kernel
theorem dX8_isClash_89 : decode cX8_isClash 89 = .ok (.aload_n 0, 1) := by decide +kernel
theorem dX8_isClash_90 : decode cX8_isClash 90 = .ok (.getfield 38, 3) := by decide +kernel
theorem dX8_isClash_93 : decode cX8_isClash 93 = .ok (.iload_n 3, 1) := by decide +kernel
theorem dX8_isClash_94 : decode cX8_isClash 94 = .ok (.iaload, 1) := by decide +kernel
theorem dX8_isClash_95 : decode cX8_isClash 95 = .ok (.if_icmp .gt 7, 3) := by decide +kernel
theorem dX8_isClash_98 : decode cX8_isClash 98 = .ok (.iconst 1, 1) := by decide +kernel
theorem dX8_isClash_99 : decode cX8_isClash 99 = .ok (.goto 4, 3) := by decide +kernel
theorem dX8_isClash_102 : decode cX8_isClash 102 = .ok (.iconst 0, 1) := by decide +kernel
theorem dX8_isClash_103 : decode cX8_isClash 103 = .ok (.istore_n 2, 1) := by decide +kernel
theorem dX8_isClash_104 : decode cX8_isClash 104 = .ok (.iinc 3 1, 3) := by decide +kernel
theorem dX8_isClash_107 : decode cX8_isClash 107 = .ok (.goto (-36), 3) := by decide +kernel
theorem dX8_isClash_110 : decode cX8_isClash 110 = .ok (.goto (-99), 3) := by decide +kernel
theorem dX8_isClash_113 : decode cX8_isClash 113 = .ok (.iload_n 2, 1) := by decide +kernel
theorem dX8_isClash_114 : decode cX8_isClash 114 = .ok (.ifCond .ne 7, 3) := by decide +kernel
theorem dX8_isClash_117 : decode cX8_isClash 117 = .ok (.iconst 1, 1) := by decide +kernel
theorem dX8_isClash_118 : decode cX8_isClash 118 = .ok (.goto 4, 3) := by decide +kernel
theorem dX8_isClash_121 : decode cX8_isClash 121 = .ok (.iconst 0, 1) := by decide +kernel
theorem dX8_isClash_122 : decode cX8_isClash 122 = .ok (.ireturn, 1) := by decide +kernel
theorem dX8_findEnds_0 : decode cX8_findEnds 0 = .ok (.aload_n 0, 1) := by decide +kernel
theorem dX8_findEnds_1 : decode cX8_findEnds 1 = .ok (.iconst 0, 1) := by decide +kernel
theorem dX8_findEnds_2 : decode cX8_findEnds 2 = .ok (.invokevirtual 166, 3) := by decide +kernel
theorem dX8_findEnds_5 : decode cX8_findEnds 5 = .ok (.ifCond .eq 7, 3) := by decide +kernel
theorem dX8_findEnds_8 : decode cX8_findEnds 8 = .ok (.aload_n 0, 1) := by decide +kernel
theorem dX8_findEnds_9 : decode cX8_findEnds 9 = .ok (.invokevirtual 221, 3) := by decide +kernel
theorem dX8_findEnds_12 : decode cX8_findEnds 12 = .ok (.return_, 1) := by decide +kernel
theorem dX8_isMorning_0 : decode cX8_isMorning 0 = .ok (.aload_n 0, 1) := by decide +kernel
theorem dX8_isMorning_1 : decode cX8_isMorning 1 = .ok (.iload_n 1, 1) := by decide +kernel
theorem dX8_isMorning_2 : decode cX8_isMorning 2 = .ok (.invokevirtual 170, 3) := by decide +kernel
theorem dX8_isMorning_5 : decode cX8_isMorning 5 = .ok (.ifCond .eq 15, 3) := by decide +kernel
theorem dX8_isMorning_8 : decode cX8_isMorning 8 = .ok (.aload_n 0, 1) := by decide +kernel
theorem dX8_isMorning_9 : decode cX8_isMorning 9 = .ok (.iload_n 2, 1) := by decide +kernel
theorem dX8_isMorning_10 : decode cX8_isMorning 10 = .ok (.invokevirtual 195, 3) := by decide +kernel
theorem dX8_isMorning_13 : decode cX8_isMorning 13 = .ok (.ifCond .eq 7, 3) := by decide +kernel
theorem dX8_isMorning_16 : decode cX8_isMorning 16 = .ok (.iconst 1, 1) := by decide +kernel
theorem dX8_isMorning_17 : decode cX8_isMorning 17 = .ok (.goto 4, 3) := by decide +kernel
theorem dX8_isMorning_20 : decode cX8_isMorning 20 = .ok (.iconst 0, 1) := by decide +kernel
theorem dX8_isMorning_21 : decode cX8_isMorning 21 = .ok (.ireturn, 1) := by decide +kernel
theorem dX8_morning_0 : decode cX8_morning 0 = .ok (.aload_n 0, 1) := by decide +kernel
theorem dX8_morning_1 : decode cX8_morning 1 = .ok (.iload_n 1, 1) := by decide +kernel
theorem dX8_morning_2 : decode cX8_morning 2 = .ok (.iload_n 3, 1) := by decide +kernel
theorem dX8_morning_3 : decode cX8_morning 3 = .ok (.invokevirtual 227, 3) := by decide +kernel
theorem dX8_morning_6 : decode cX8_morning 6 = .ok (.ifCond .ne 6, 3) := by decide +kernel
theorem dX8_morning_9 : decode cX8_morning 9 = .ok (.ldc 173, 2) := by decide +kernel
theorem dX8_morning_11 : decode cX8_morning 11 = .ok (.ireturn, 1) := by decide +kernel
theorem dX8_morning_12 : decode cX8_morning 12 = .ok (.iload_n 2, 1) := by decide +kernel
theorem dX8_morning_13 : decode cX8_morning 13 = .ok (.invokestatic 198, 3) := by decide +kernel
theorem dX8_morning_16 : decode cX8_morning 16 = .ok (.ifCond .eq 11, 3) := by decide +kernel
theorem dX8_morning_19 : decode cX8_morning 19 = .ok (.iload 4, 2) := by decide +kernel
theorem dX8_morning_21 : decode cX8_morning 21 = .ok (.invokestatic 208, 3) := by decide +kernel
theorem dX8_morning_24 : decode cX8_morning 24 = .ok (.ifCond .ne 6, 3) := by decide +kernel
theorem dX8_morning_27 : decode cX8_morning 27 = .ok (.ldc 76, 2) := by decide +kernel
theorem dX8_morning_29 : decode cX8_morning 29 = .ok (.ireturn, 1) := by decide +kernel
theorem dX8_morning_30 : decode cX8_morning 30 = .ok (.aload_n 0, 1) := by decide +kernel
theorem dX8_morning_31 : decode cX8_morning 31 = .ok (.getfield 160, 3) := by decide +kernel
theorem dX8_morning_34 : decode cX8_morning 34 = .ok (.bipush 12, 2) := by decide +kernel
theorem dX8_morning_36 : decode cX8_morning 36 = .ok (.if_icmp .ne 6, 3) := by decide +kernel
theorem dX8_morning_39 : decode cX8_morning 39 = .ok (.ldc 80, 2) := by decide +kernel
theorem dX8_morning_41 : decode cX8_morning 41 = .ok (.ireturn, 1) := by decide +kernel
theorem dX8_morning_42 : decode cX8_morning 42 = .ok (.aload_n 0, 1) := by decide +kernel
theorem dX8_morning_43 : decode cX8_morning 43 = .ok (.iload_n 1, 1) := by decide +kernel
theorem dX8_morning_44 : decode cX8_morning 44 = .ok (.iload_n 2, 1) := by decide +kernel
theorem dX8_morning_45 : decode cX8_morning 45 = .ok (.iload_n 3, 1) := by decide +kernel
theorem dX8_morning_46 : decode cX8_morning 46 = .ok (.iload 4, 2) := by decide +kernel
theorem dX8_morning_48 : decode cX8_morning 48 = .ok (.invokevirtual 230, 3) := by decide +kernel
theorem dX8_morning_51 : decode cX8_morning 51 = .ok (.aload_n 0, 1) := by decide +kernel
theorem dX8_morning_52 : decode cX8_morning 52 = .ok (.getfield 160, 3) := by decide +kernel
theorem dX8_morning_55 : decode cX8_morning 55 = .ok (.ireturn, 1) := by decide +kernel
theorem dX8_addMorning_0 : decode cX8_addMorning 0 = .ok (.aload_n 0, 1) := by decide +kernel
theorem dX8_addMorning_1 : decode cX8_addMorning 1 = .ok (.getfield 20, 3) := by decide +kernel
theorem dX8_addMorning_4 : decode cX8_addMorning 4 = .ok (.iconst 4, 1) := by decide +kernel
theorem dX8_addMorning_5 : decode cX8_addMorning 5 = .ok (.aload_n 0, 1) := by decide +kernel
theorem dX8_addMorning_6 : decode cX8_addMorning 6 = .ok (.getfield 160, 3) := by decide +kernel
theorem dX8_addMorning_9 : decode cX8_addMorning 9 = .ok (.imul, 1) := by decide +kernel
theorem dX8_addMorning_10 : decode cX8_addMorning 10 = .ok (.iload_n 1, 1) := by decide +kernel
theorem dX8_addMorning_11 : decode cX8_addMorning 11 = .ok (.iastore, 1) := by decide +kernel
theorem dX8_addMorning_12 : decode cX8_addMorning 12 = .ok (.aload_n 0, 1) := by decide +kernel
theorem dX8_addMorning_13 : decode cX8_addMorning 13 = .ok (.getfield 20, 3) := by decide +kernel
theorem dX8_addMorning_16 : decode cX8_addMorning 16 = .ok (.iconst 4, 1) := by decide +kernel
theorem dX8_addMorning_17 : decode cX8_addMorning 17 = .ok (.aload_n 0, 1) := by decide +kernel
theorem dX8_addMorning_18 : decode cX8_addMorning 18 = .ok (.getfield 160, 3) := by decide +kernel
theorem dX8_addMorning_21 : decode cX8_addMorning 21 = .ok (.imul, 1) := by decide +kernel
theorem dX8_addMorning_22 : decode cX8_addMorning 22 = .ok (.iconst 1, 1) := by decide +kernel
theorem dX8_addMorning_23 : decode cX8_addMorning 23 = .ok (.iadd, 1) := by decide +kernel
theorem dX8_addMorning_24 : decode cX8_addMorning 24 = .ok (.iload_n 2, 1) := by decide +kernel
theorem dX8_addMorning_25 : decode cX8_addMorning 25 = .ok (.iastore, 1) := by decide +kernel
theorem dX8_addMorning_26 : decode cX8_addMorning 26 = .ok (.aload_n 0, 1) := by decide +kernel
theorem dX8_addMorning_27 : decode cX8_addMorning 27 = .ok (.getfield 20, 3) := by decide +kernel
theorem dX8_addMorning_30 : decode cX8_addMorning 30 = .ok (.iconst 4, 1) := by decide +kernel
theorem dX8_addMorning_31 : decode cX8_addMorning 31 = .ok (.aload_n 0, 1) := by decide +kernel
theorem dX8_addMorning_32 : decode cX8_addMorning 32 = .ok (.getfield 160, 3) := by decide +kernel
theorem dX8_addMorning_35 : decode cX8_addMorning 35 = .ok (.imul, 1) := by decide +kernel
theorem dX8_addMorning_36 : decode cX8_addMorning 36 = .ok (.iconst 2, 1) := by decide +kernel
theorem dX8_addMorning_37 : decode cX8_addMorning 37 = .ok (.iadd, 1) := by decide +kernel
theorem dX8_addMorning_38 : decode cX8_addMorning 38 = .ok (.iload_n 3, 1) := by decide +kernel
theorem dX8_addMorning_39 : decode cX8_addMorning 39 = .ok (.iastore, 1) := by decide +kernel
theorem dX8_addMorning_40 : decode cX8_addMorning 40 = .ok (.aload_n 0, 1) := by decide +kernel
theorem dX8_addMorning_41 : decode cX8_addMorning 41 = .ok (.getfield 20, 3) := by decide +kernel
theorem dX8_addMorning_44 : decode cX8_addMorning 44 = .ok (.iconst 4, 1) := by decide +kernel
theorem dX8_addMorning_45 : decode cX8_addMorning 45 = .ok (.aload_n 0, 1) := by decide +kernel
theorem dX8_addMorning_46 : decode cX8_addMorning 46 = .ok (.getfield 160, 3) := by decide +kernel
theorem dX8_addMorning_49 : decode cX8_addMorning 49 = .ok (.imul, 1) := by decide +kernel
theorem dX8_addMorning_50 : decode cX8_addMorning 50 = .ok (.iconst 3, 1) := by decide +kernel
theorem dX8_addMorning_51 : decode cX8_addMorning 51 = .ok (.iadd, 1) := by decide +kernel
theorem dX8_addMorning_52 : decode cX8_addMorning 52 = .ok (.iload 4, 2) := by decide +kernel
theorem dX8_addMorning_54 : decode cX8_addMorning 54 = .ok (.iastore, 1) := by decide +kernel
theorem dX8_addMorning_55 : decode cX8_addMorning 55 = .ok (.aload_n 0, 1) := by decide +kernel
theorem dX8_addMorning_56 : decode cX8_addMorning 56 = .ok (.dup, 1) := by decide +kernel
theorem dX8_addMorning_57 : decode cX8_addMorning 57 = .ok (.getfield 160, 3) := by decide +kernel
theorem dX8_addMorning_60 : decode cX8_addMorning 60 = .ok (.iconst 1, 1) := by decide +kernel
theorem dX8_addMorning_61 : decode cX8_addMorning 61 = .ok (.iadd, 1) := by decide +kernel
theorem dX8_addMorning_62 : decode cX8_addMorning 62 = .ok (.putfield 160, 3) := by decide +kernel
theorem dX8_addMorning_65 : decode cX8_addMorning 65 = .ok (.return_, 1) := by decide +kernel
theorem dX8_strike_0 : decode cX8_strike 0 = .ok (.iload_n 1, 1) := by decide +kernel
theorem dX8_strike_1 : decode cX8_strike 1 = .ok (.i2l, 1) := by decide +kernel
theorem dX8_strike_2 : decode cX8_strike 2 = .ok (.lconst 0, 1) := by decide +kernel
theorem dX8_strike_3 : decode cX8_strike 3 = .ok (.aload_n 0, 1) := by decide +kernel
theorem dX8_strike_4 : decode cX8_strike 4 = .ok (.getfield 160, 3) := by decide +kernel
theorem dX8_strike_7 : decode cX8_strike 7 = .ok (.iconst 1, 1) := by decide +kernel
theorem dX8_strike_8 : decode cX8_strike 8 = .ok (.isub, 1) := by decide +kernel
theorem dX8_strike_9 : decode cX8_strike 9 = .ok (.i2l, 1) := by decide +kernel
theorem dX8_strike_10 : decode cX8_strike 10 = .ok (.invokestatic 63, 3) := by decide +kernel
theorem dX8_strike_13 : decode cX8_strike 13 = .ok (.ifCond .ne 6, 3) := by decide +kernel
theorem dX8_strike_16 : decode cX8_strike 16 = .ok (.ldc 173, 2) := by decide +kernel
theorem dX8_strike_18 : decode cX8_strike 18 = .ok (.ireturn, 1) := by decide +kernel
theorem dX8_strike_19 : decode cX8_strike 19 = .ok (.aload_n 0, 1) := by decide +kernel
theorem dX8_strike_20 : decode cX8_strike 20 = .ok (.dup, 1) := by decide +kernel
theorem dX8_strike_21 : decode cX8_strike 21 = .ok (.getfield 160, 3) := by decide +kernel
theorem dX8_strike_24 : decode cX8_strike 24 = .ok (.iconst 1, 1) := by decide +kernel
theorem dX8_strike_25 : decode cX8_strike 25 = .ok (.isub, 1) := by decide +kernel
theorem dX8_strike_26 : decode cX8_strike 26 = .ok (.putfield 160, 3) := by decide +kernel
theorem dX8_strike_29 : decode cX8_strike 29 = .ok (.iconst 4, 1) := by decide +kernel
theorem dX8_strike_30 : decode cX8_strike 30 = .ok (.iload_n 1, 1) := by decide +kernel
theorem dX8_strike_31 : decode cX8_strike 31 = .ok (.imul, 1) := by decide +kernel
theorem dX8_strike_32 : decode cX8_strike 32 = .ok (.istore_n 2, 1) := by decide +kernel
theorem dX8_strike_33 : decode cX8_strike 33 = .ok (.iload_n 2, 1) := by decide +kernel
theorem dX8_strike_34 : decode cX8_strike 34 = .ok (.iconst 4, 1) := by decide +kernel
theorem dX8_strike_35 : decode cX8_strike 35 = .ok (.aload_n 0, 1) := by decide +kernel
theorem dX8_strike_36 : decode cX8_strike 36 = .ok (.getfield 160, 3) := by decide +kernel
theorem dX8_strike_39 : decode cX8_strike 39 = .ok (.imul, 1) := by decide +kernel
theorem dX8_strike_40 : decode cX8_strike 40 = .ok (.if_icmp .ge 23, 3) := by decide +kernel
theorem dX8_strike_43 : decode cX8_strike 43 = .ok (.aload_n 0, 1) := by decide +kernel
theorem dX8_strike_44 : decode cX8_strike 44 = .ok (.getfield 20, 3) := by decide +kernel
theorem dX8_strike_47 : decode cX8_strike 47 = .ok (.iload_n 2, 1) := by decide +kernel
theorem dX8_strike_48 : decode cX8_strike 48 = .ok (.aload_n 0, 1) := by decide +kernel
theorem dX8_strike_49 : decode cX8_strike 49 = .ok (.getfield 20, 3) := by decide +kernel
theorem dX8_strike_52 : decode cX8_strike 52 = .ok (.iload_n 2, 1) := by decide +kernel
theorem dX8_strike_53 : decode cX8_strike 53 = .ok (.iconst 4, 1) := by decide +kernel
theorem dX8_strike_54 : decode cX8_strike 54 = .ok (.iadd, 1) := by decide +kernel
theorem dX8_strike_55 : decode cX8_strike 55 = .ok (.iaload, 1) := by decide +kernel
theorem dX8_strike_56 : decode cX8_strike 56 = .ok (.iastore, 1) := by decide +kernel
theorem dX8_strike_57 : decode cX8_strike 57 = .ok (.iinc 2 1, 3) := by decide +kernel
theorem dX8_strike_60 : decode cX8_strike 60 = .ok (.goto (-27), 3) := by decide +kernel
theorem dX8_strike_63 : decode cX8_strike 63 = .ok (.aload_n 0, 1) := by decide +kernel
theorem dX8_strike_64 : decode cX8_strike 64 = .ok (.getfield 160, 3) := by decide +kernel
theorem dX8_strike_67 : decode cX8_strike 67 = .ok (.ireturn, 1) := by decide +kernel
theorem dX8_wrong_0 : decode cX8_wrong 0 = .ok (.iconst 0, 1) := by decide +kernel
theorem dX8_wrong_1 : decode cX8_wrong 1 = .ok (.istore_n 1, 1) := by decide +kernel
theorem dX8_wrong_2 : decode cX8_wrong 2 = .ok (.iload_n 1, 1) := by decide +kernel
theorem dX8_wrong_3 : decode cX8_wrong 3 = .ok (.aload_n 0, 1) := by decide +kernel
theorem dX8_wrong_4 : decode cX8_wrong 4 = .ok (.getfield 160, 3) := by decide +kernel
theorem dX8_wrong_7 : decode cX8_wrong 7 = .ok (.if_icmp .gt 45, 3) := by decide +kernel
theorem dX8_wrong_10 : decode cX8_wrong 10 = .ok (.iconst 0, 1) := by decide +kernel
theorem dX8_wrong_11 : decode cX8_wrong 11 = .ok (.istore_n 2, 1) := by decide +kernel
theorem dX8_wrong_12 : decode cX8_wrong 12 = .ok (.iload_n 2, 1) := by decide +kernel
theorem dX8_wrong_13 : decode cX8_wrong 13 = .ok (.iconst 1, 1) := by decide +kernel
theorem dX8_wrong_14 : decode cX8_wrong 14 = .ok (.aload_n 0, 1) := by decide +kernel
theorem dX8_wrong_15 : decode cX8_wrong 15 = .ok (.getfield 160, 3) := by decide +kernel
theorem dX8_wrong_18 : decode cX8_wrong 18 = .ok (.ishl, 1) := by decide +kernel
theorem dX8_wrong_19 : decode cX8_wrong 19 = .ok (.if_icmp .ge 27, 3) := by decide +kernel
theorem dX8_wrong_22 : decode cX8_wrong 22 = .ok (.iload_n 2, 1) := by decide +kernel
theorem dX8_wrong_23 : decode cX8_wrong 23 = .ok (.invokestatic 234, 3) := by decide +kernel
theorem dX8_wrong_26 : decode cX8_wrong 26 = .ok (.iload_n 1, 1) := by decide +kernel
theorem dX8_wrong_27 : decode cX8_wrong 27 = .ok (.if_icmp .ne 13, 3) := by decide +kernel
theorem dX8_wrong_30 : decode cX8_wrong 30 = .ok (.aload_n 0, 1) := by decide +kernel
theorem dX8_wrong_31 : decode cX8_wrong 31 = .ok (.iload_n 2, 1) := by decide +kernel
theorem dX8_wrong_32 : decode cX8_wrong 32 = .ok (.invokevirtual 166, 3) := by decide +kernel
theorem dX8_wrong_35 : decode cX8_wrong 35 = .ok (.ifCond .ne 5, 3) := by decide +kernel
theorem dX8_wrong_38 : decode cX8_wrong 38 = .ok (.iload_n 2, 1) := by decide +kernel
theorem dX8_wrong_39 : decode cX8_wrong 39 = .ok (.ireturn, 1) := by decide +kernel
theorem dX8_wrong_40 : decode cX8_wrong 40 = .ok (.iinc 2 1, 3) := by decide +kernel
theorem dX8_wrong_43 : decode cX8_wrong 43 = .ok (.goto (-31), 3) := by decide +kernel
theorem dX8_wrong_46 : decode cX8_wrong 46 = .ok (.iinc 1 1, 3) := by decide +kernel
theorem dX8_wrong_49 : decode cX8_wrong 49 = .ok (.goto (-47), 3) := by decide +kernel
theorem dX8_wrong_52 : decode cX8_wrong 52 = .ok (.iconst 0, 1) := by decide +kernel
theorem dX8_wrong_53 : decode cX8_wrong 53 = .ok (.ireturn, 1) := by decide +kernel
theorem dX8_canBeIn_0 : decode cX8_canBeIn 0 = .ok (.iconst 0, 1) := by decide +kernel
theorem dX8_canBeIn_1 : decode cX8_canBeIn 1 = .ok (.istore 5, 2) := by decide +kernel
theorem dX8_canBeIn_3 : decode cX8_canBeIn 3 = .ok (.iconst 0, 1) := by decide +kernel
theorem dX8_canBeIn_4 : decode cX8_canBeIn 4 = .ok (.istore 6, 2) := by decide +kernel
theorem dX8_canBeIn_6 : decode cX8_canBeIn 6 = .ok (.iconst 0, 1) := by decide +kernel
theorem dX8_canBeIn_7 : decode cX8_canBeIn 7 = .ok (.istore 7, 2) := by decide +kernel
theorem dX8_canBeIn_9 : decode cX8_canBeIn 9 = .ok (.iload 7, 2) := by decide +kernel
theorem dX8_canBeIn_11 : decode cX8_canBeIn 11 = .ok (.aload_n 0, 1) := by decide +kernel
theorem dX8_canBeIn_12 : decode cX8_canBeIn 12 = .ok (.getfield 67, 3) := by decide +kernel
theorem dX8_canBeIn_15 : decode cX8_canBeIn 15 = .ok (.if_icmp .ge 61, 3) := by decide +kernel
theorem dX8_canBeIn_18 : decode cX8_canBeIn 18 = .ok (.iload 5, 2) := by decide +kernel
theorem dX8_canBeIn_20 : decode cX8_canBeIn 20 = .ok (.iload 4, 2) := by decide +kernel
theorem dX8_canBeIn_22 : decode cX8_canBeIn 22 = .ok (.iload 7, 2) := by decide +kernel
theorem dX8_canBeIn_24 : decode cX8_canBeIn 24 = .ok (.invokestatic 191, 3) := by decide +kernel
theorem dX8_canBeIn_27 : decode cX8_canBeIn 27 = .ok (.ifCond .eq 13, 3) := by decide +kernel
theorem dX8_canBeIn_30 : decode cX8_canBeIn 30 = .ok (.aload_n 0, 1) := by decide +kernel
theorem dX8_canBeIn_31 : decode cX8_canBeIn 31 = .ok (.getfield 35, 3) := by decide +kernel
theorem dX8_canBeIn_34 : decode cX8_canBeIn 34 = .ok (.iload 7, 2) := by decide +kernel
theorem dX8_canBeIn_36 : decode cX8_canBeIn 36 = .ok (.iaload, 1) := by decide +kernel
theorem dX8_canBeIn_37 : decode cX8_canBeIn 37 = .ok (.goto 4, 3) := by decide +kernel
theorem dX8_canBeIn_40 : decode cX8_canBeIn 40 = .ok (.iconst 0, 1) := by decide +kernel
theorem dX8_canBeIn_41 : decode cX8_canBeIn 41 = .ok (.iadd, 1) := by decide +kernel
theorem dX8_canBeIn_42 : decode cX8_canBeIn 42 = .ok (.istore 5, 2) := by decide +kernel
theorem dX8_canBeIn_44 : decode cX8_canBeIn 44 = .ok (.iload 6, 2) := by decide +kernel
theorem dX8_canBeIn_46 : decode cX8_canBeIn 46 = .ok (.iload 4, 2) := by decide +kernel
theorem dX8_canBeIn_48 : decode cX8_canBeIn 48 = .ok (.iload 7, 2) := by decide +kernel
theorem dX8_canBeIn_50 : decode cX8_canBeIn 50 = .ok (.invokestatic 191, 3) := by decide +kernel
theorem dX8_canBeIn_53 : decode cX8_canBeIn 53 = .ok (.ifCond .eq 13, 3) := by decide +kernel
theorem dX8_canBeIn_56 : decode cX8_canBeIn 56 = .ok (.aload_n 0, 1) := by decide +kernel
theorem dX8_canBeIn_57 : decode cX8_canBeIn 57 = .ok (.getfield 38, 3) := by decide +kernel
theorem dX8_canBeIn_60 : decode cX8_canBeIn 60 = .ok (.iload 7, 2) := by decide +kernel
theorem dX8_canBeIn_62 : decode cX8_canBeIn 62 = .ok (.iaload, 1) := by decide +kernel
theorem dX8_canBeIn_63 : decode cX8_canBeIn 63 = .ok (.goto 4, 3) := by decide +kernel
theorem dX8_canBeIn_66 : decode cX8_canBeIn 66 = .ok (.iconst 0, 1) := by decide +kernel
theorem dX8_canBeIn_67 : decode cX8_canBeIn 67 = .ok (.iadd, 1) := by decide +kernel
theorem dX8_canBeIn_68 : decode cX8_canBeIn 68 = .ok (.istore 6, 2) := by decide +kernel
theorem dX8_canBeIn_70 : decode cX8_canBeIn 70 = .ok (.iinc 7 1, 3) := by decide +kernel
theorem dX8_canBeIn_73 : decode cX8_canBeIn 73 = .ok (.goto (-64), 3) := by decide +kernel
theorem dX8_canBeIn_76 : decode cX8_canBeIn 76 = .ok (.aload_n 0, 1) := by decide +kernel
theorem dX8_canBeIn_77 : decode cX8_canBeIn 77 = .ok (.iload_n 1, 1) := by decide +kernel
theorem dX8_canBeIn_78 : decode cX8_canBeIn 78 = .ok (.iload_n 2, 1) := by decide +kernel
theorem dX8_canBeIn_79 : decode cX8_canBeIn 79 = .ok (.iload_n 3, 1) := by decide +kernel
theorem dX8_canBeIn_80 : decode cX8_canBeIn 80 = .ok (.invokevirtual 211, 3) := by decide +kernel
theorem dX8_canBeIn_83 : decode cX8_canBeIn 83 = .ok (.istore 7, 2) := by decide +kernel
theorem dX8_canBeIn_85 : decode cX8_canBeIn 85 = .ok (.iload 7, 2) := by decide +kernel
theorem dX8_canBeIn_87 : decode cX8_canBeIn 87 = .ok (.iload 5, 2) := by decide +kernel
theorem dX8_canBeIn_89 : decode cX8_canBeIn 89 = .ok (.if_icmp .lt 19, 3) := by decide +kernel
theorem dX8_canBeIn_92 : decode cX8_canBeIn 92 = .ok (.aload_n 0, 1) := by decide +kernel
theorem dX8_canBeIn_93 : decode cX8_canBeIn 93 = .ok (.iload_n 1, 1) := by decide +kernel
theorem dX8_canBeIn_94 : decode cX8_canBeIn 94 = .ok (.iload_n 2, 1) := by decide +kernel
theorem dX8_canBeIn_95 : decode cX8_canBeIn 95 = .ok (.iload_n 3, 1) := by decide +kernel
theorem dX8_canBeIn_96 : decode cX8_canBeIn 96 = .ok (.invokevirtual 214, 3) := by decide +kernel
theorem dX8_canBeIn_99 : decode cX8_canBeIn 99 = .ok (.iload 6, 2) := by decide +kernel
theorem dX8_canBeIn_101 : decode cX8_canBeIn 101 = .ok (.if_icmp .gt 7, 3) := by decide +kernel
theorem dX8_canBeIn_104 : decode cX8_canBeIn 104 = .ok (.iconst 1, 1) := by decide +kernel
theorem dX8_canBeIn_105 : decode cX8_canBeIn 105 = .ok (.goto 4, 3) := by decide +kernel
theorem dX8_canBeIn_108 : decode cX8_canBeIn 108 = .ok (.iconst 0, 1) := by decide +kernel
theorem dX8_canBeIn_109 : decode cX8_canBeIn 109 = .ok (.ireturn, 1) := by decide +kernel
theorem dX8_canBe_0 : decode cX8_canBe 0 = .ok (.aload_n 0, 1) := by decide +kernel
theorem dX8_canBe_1 : decode cX8_canBe 1 = .ok (.iload_n 1, 1) := by decide +kernel
theorem dX8_canBe_2 : decode cX8_canBe 2 = .ok (.invokevirtual 170, 3) := by decide +kernel
theorem dX8_canBe_5 : decode cX8_canBe 5 = .ok (.ifCond .ne 6, 3) := by decide +kernel
theorem dX8_canBe_8 : decode cX8_canBe 8 = .ok (.ldc 173, 2) := by decide +kernel
theorem dX8_canBe_10 : decode cX8_canBe 10 = .ok (.ireturn, 1) := by decide +kernel
theorem dX8_canBe_11 : decode cX8_canBe 11 = .ok (.iload_n 2, 1) := by decide +kernel
theorem dX8_canBe_12 : decode cX8_canBe 12 = .ok (.invokestatic 198, 3) := by decide +kernel
theorem dX8_canBe_15 : decode cX8_canBe 15 = .ok (.ifCond .eq 10, 3) := by decide +kernel
theorem dX8_canBe_18 : decode cX8_canBe 18 = .ok (.iload_n 3, 1) := by decide +kernel
theorem dX8_canBe_19 : decode cX8_canBe 19 = .ok (.invokestatic 208, 3) := by decide +kernel
theorem dX8_canBe_22 : decode cX8_canBe 22 = .ok (.ifCond .ne 6, 3) := by decide +kernel
theorem dX8_canBe_25 : decode cX8_canBe 25 = .ok (.ldc 76, 2) := by decide +kernel
theorem dX8_canBe_27 : decode cX8_canBe 27 = .ok (.ireturn, 1) := by decide +kernel
theorem dX8_canBe_28 : decode cX8_canBe 28 = .ok (.aload_n 0, 1) := by decide +kernel
theorem dX8_canBe_29 : decode cX8_canBe 29 = .ok (.invokevirtual 181, 3) := by decide +kernel
theorem dX8_canBe_32 : decode cX8_canBe 32 = .ok (.iconst 0, 1) := by decide +kernel
theorem dX8_canBe_33 : decode cX8_canBe 33 = .ok (.istore 5, 2) := by decide +kernel
theorem dX8_canBe_35 : decode cX8_canBe 35 = .ok (.iconst 0, 1) := by decide +kernel
theorem dX8_canBe_36 : decode cX8_canBe 36 = .ok (.istore 6, 2) := by decide +kernel
theorem dX8_canBe_38 : decode cX8_canBe 38 = .ok (.iload 6, 2) := by decide +kernel
theorem dX8_canBe_40 : decode cX8_canBe 40 = .ok (.iconst 1, 1) := by decide +kernel
theorem dX8_canBe_41 : decode cX8_canBe 41 = .ok (.aload_n 0, 1) := by decide +kernel
theorem dX8_canBe_42 : decode cX8_canBe 42 = .ok (.getfield 67, 3) := by decide +kernel
theorem dX8_canBe_45 : decode cX8_canBe 45 = .ok (.ishl, 1) := by decide +kernel
theorem dX8_canBe_46 : decode cX8_canBe 46 = .ok (.if_icmp .ge 34, 3) := by decide +kernel
theorem dX8_canBe_49 : decode cX8_canBe 49 = .ok (.aload_n 0, 1) := by decide +kernel
theorem dX8_canBe_50 : decode cX8_canBe 50 = .ok (.iload_n 1, 1) := by decide +kernel
theorem dX8_canBe_51 : decode cX8_canBe 51 = .ok (.iload_n 2, 1) := by decide +kernel
theorem dX8_canBe_52 : decode cX8_canBe 52 = .ok (.iload_n 3, 1) := by decide +kernel
theorem dX8_canBe_53 : decode cX8_canBe 53 = .ok (.iload 6, 2) := by decide +kernel
theorem dX8_canBe_55 : decode cX8_canBe 55 = .ok (.invokevirtual 237, 3) := by decide +kernel
theorem dX8_canBe_58 : decode cX8_canBe 58 = .ok (.ifCond .eq 16, 3) := by decide +kernel
theorem dX8_canBe_61 : decode cX8_canBe 61 = .ok (.iload 5, 2) := by decide +kernel
theorem dX8_canBe_63 : decode cX8_canBe 63 = .ok (.iload 4, 2) := by decide +kernel
theorem dX8_canBe_65 : decode cX8_canBe 65 = .ok (.if_icmp .ne 6, 3) := by decide +kernel
theorem dX8_canBe_68 : decode cX8_canBe 68 = .ok (.iload 6, 2) := by decide +kernel
theorem dX8_canBe_70 : decode cX8_canBe 70 = .ok (.ireturn, 1) := by decide +kernel
theorem dX8_canBe_71 : decode cX8_canBe 71 = .ok (.iinc 5 1, 3) := by decide +kernel
theorem dX8_canBe_74 : decode cX8_canBe 74 = .ok (.iinc 6 1, 3) := by decide +kernel
theorem dX8_canBe_77 : decode cX8_canBe 77 = .ok (.goto (-39), 3) := by decide +kernel
theorem dX8_canBe_80 : decode cX8_canBe 80 = .ok (.iload 4, 2) := by decide +kernel
theorem dX8_canBe_82 : decode cX8_canBe 82 = .ok (.iconst (-1), 1) := by decide +kernel
theorem dX8_canBe_83 : decode cX8_canBe 83 = .ok (.if_icmp .ne 8, 3) := by decide +kernel
theorem dX8_canBe_86 : decode cX8_canBe 86 = .ok (.iload 5, 2) := by decide +kernel
theorem dX8_canBe_88 : decode cX8_canBe 88 = .ok (.goto 4, 3) := by decide +kernel
theorem dX8_canBe_91 : decode cX8_canBe 91 = .ok (.iconst (-1), 1) := by decide +kernel
theorem dX8_canBe_92 : decode cX8_canBe 92 = .ok (.ireturn, 1) := by decide +kernel
theorem dX8_oddsOf_0 : decode cX8_oddsOf 0 = .ok (.ldc2_w 241, 3) := by decide +kernel
theorem dX8_oddsOf_3 : decode cX8_oddsOf 3 = .ok (.lstore_n 2, 1) := by decide +kernel
theorem dX8_oddsOf_4 : decode cX8_oddsOf 4 = .ok (.iconst 0, 1) := by decide +kernel
theorem dX8_oddsOf_5 : decode cX8_oddsOf 5 = .ok (.istore 4, 2) := by decide +kernel
theorem dX8_oddsOf_7 : decode cX8_oddsOf 7 = .ok (.iload 4, 2) := by decide +kernel
theorem dX8_oddsOf_9 : decode cX8_oddsOf 9 = .ok (.aload_n 0, 1) := by decide +kernel
theorem dX8_oddsOf_10 : decode cX8_oddsOf 10 = .ok (.getfield 67, 3) := by decide +kernel
theorem dX8_oddsOf_13 : decode cX8_oddsOf 13 = .ok (.if_icmp .ge 54, 3) := by decide +kernel
theorem dX8_oddsOf_16 : decode cX8_oddsOf 16 = .ok (.lload_n 2, 1) := by decide +kernel
theorem dX8_oddsOf_17 : decode cX8_oddsOf 17 = .ok (.iload_n 1, 1) := by decide +kernel
theorem dX8_oddsOf_18 : decode cX8_oddsOf 18 = .ok (.iload 4, 2) := by decide +kernel
theorem dX8_oddsOf_20 : decode cX8_oddsOf 20 = .ok (.invokestatic 191, 3) := by decide +kernel
theorem dX8_oddsOf_23 : decode cX8_oddsOf 23 = .ok (.ifCond .eq 17, 3) := by decide +kernel
theorem dX8_oddsOf_26 : decode cX8_oddsOf 26 = .ok (.aload_n 0, 1) := by decide +kernel
theorem dX8_oddsOf_27 : decode cX8_oddsOf 27 = .ok (.getfield 13, 3) := by decide +kernel
theorem dX8_oddsOf_30 : decode cX8_oddsOf 30 = .ok (.iconst 4, 1) := by decide +kernel
theorem dX8_oddsOf_31 : decode cX8_oddsOf 31 = .ok (.iload 4, 2) := by decide +kernel
theorem dX8_oddsOf_33 : decode cX8_oddsOf 33 = .ok (.imul, 1) := by decide +kernel
theorem dX8_oddsOf_34 : decode cX8_oddsOf 34 = .ok (.iconst 3, 1) := by decide +kernel
theorem dX8_oddsOf_35 : decode cX8_oddsOf 35 = .ok (.iadd, 1) := by decide +kernel
theorem dX8_oddsOf_36 : decode cX8_oddsOf 36 = .ok (.iaload, 1) := by decide +kernel
theorem dX8_oddsOf_37 : decode cX8_oddsOf 37 = .ok (.goto 17, 3) := by decide +kernel
theorem dX8_oddsOf_40 : decode cX8_oddsOf 40 = .ok (.bipush 100, 2) := by decide +kernel
theorem dX8_oddsOf_42 : decode cX8_oddsOf 42 = .ok (.aload_n 0, 1) := by decide +kernel
theorem dX8_oddsOf_43 : decode cX8_oddsOf 43 = .ok (.getfield 13, 3) := by decide +kernel
theorem dX8_oddsOf_46 : decode cX8_oddsOf 46 = .ok (.iconst 4, 1) := by decide +kernel
theorem dX8_oddsOf_47 : decode cX8_oddsOf 47 = .ok (.iload 4, 2) := by decide +kernel
theorem dX8_oddsOf_49 : decode cX8_oddsOf 49 = .ok (.imul, 1) := by decide +kernel
theorem dX8_oddsOf_50 : decode cX8_oddsOf 50 = .ok (.iconst 3, 1) := by decide +kernel
theorem dX8_oddsOf_51 : decode cX8_oddsOf 51 = .ok (.iadd, 1) := by decide +kernel
theorem dX8_oddsOf_52 : decode cX8_oddsOf 52 = .ok (.iaload, 1) := by decide +kernel
theorem dX8_oddsOf_53 : decode cX8_oddsOf 53 = .ok (.isub, 1) := by decide +kernel
theorem dX8_oddsOf_54 : decode cX8_oddsOf 54 = .ok (.i2l, 1) := by decide +kernel
theorem dX8_oddsOf_55 : decode cX8_oddsOf 55 = .ok (.lmul, 1) := by decide +kernel
theorem dX8_oddsOf_56 : decode cX8_oddsOf 56 = .ok (.ldc2_w 243, 3) := by decide +kernel
theorem dX8_oddsOf_59 : decode cX8_oddsOf 59 = .ok (.ldiv, 1) := by decide +kernel
theorem dX8_oddsOf_60 : decode cX8_oddsOf 60 = .ok (.lstore_n 2, 1) := by decide +kernel
theorem dX8_oddsOf_61 : decode cX8_oddsOf 61 = .ok (.iinc 4 1, 3) := by decide +kernel
theorem dX8_oddsOf_64 : decode cX8_oddsOf 64 = .ok (.goto (-57), 3) := by decide +kernel
theorem dX8_oddsOf_67 : decode cX8_oddsOf 67 = .ok (.lload_n 2, 1) := by decide +kernel
theorem dX8_oddsOf_68 : decode cX8_oddsOf 68 = .ok (.lreturn, 1) := by decide +kernel
theorem dX8_likely_0 : decode cX8_likely 0 = .ok (.aload_n 0, 1) := by decide +kernel
theorem dX8_likely_1 : decode cX8_likely 1 = .ok (.iload_n 1, 1) := by decide +kernel
theorem dX8_likely_2 : decode cX8_likely 2 = .ok (.invokevirtual 170, 3) := by decide +kernel
theorem dX8_likely_5 : decode cX8_likely 5 = .ok (.ifCond .eq 12, 3) := by decide +kernel
theorem dX8_likely_8 : decode cX8_likely 8 = .ok (.aload_n 0, 1) := by decide +kernel
theorem dX8_likely_9 : decode cX8_likely 9 = .ok (.iload 4, 2) := by decide +kernel
theorem dX8_likely_11 : decode cX8_likely 11 = .ok (.invokevirtual 176, 3) := by decide +kernel
theorem dX8_likely_14 : decode cX8_likely 14 = .ok (.ifCond .ne 6, 3) := by decide +kernel
theorem dX8_likely_17 : decode cX8_likely 17 = .ok (.ldc 173, 2) := by decide +kernel
theorem dX8_likely_19 : decode cX8_likely 19 = .ok (.ireturn, 1) := by decide +kernel
theorem dX8_likely_20 : decode cX8_likely 20 = .ok (.iload_n 2, 1) := by decide +kernel
theorem dX8_likely_21 : decode cX8_likely 21 = .ok (.invokestatic 198, 3) := by decide +kernel
theorem dX8_likely_24 : decode cX8_likely 24 = .ok (.ifCond .eq 10, 3) := by decide +kernel
theorem dX8_likely_27 : decode cX8_likely 27 = .ok (.iload_n 3, 1) := by decide +kernel
theorem dX8_likely_28 : decode cX8_likely 28 = .ok (.invokestatic 208, 3) := by decide +kernel
theorem dX8_likely_31 : decode cX8_likely 31 = .ok (.ifCond .ne 6, 3) := by decide +kernel
theorem dX8_likely_34 : decode cX8_likely 34 = .ok (.ldc 76, 2) := by decide +kernel
theorem dX8_likely_36 : decode cX8_likely 36 = .ok (.ireturn, 1) := by decide +kernel
theorem dX8_likely_37 : decode cX8_likely 37 = .ok (.aload_n 0, 1) := by decide +kernel
theorem dX8_likely_38 : decode cX8_likely 38 = .ok (.invokevirtual 181, 3) := by decide +kernel
theorem dX8_likely_41 : decode cX8_likely 41 = .ok (.lconst 0, 1) := by decide +kernel
theorem dX8_likely_42 : decode cX8_likely 42 = .ok (.lstore 5, 2) := by decide +kernel
theorem dX8_likely_44 : decode cX8_likely 44 = .ok (.lconst 0, 1) := by decide +kernel
theorem dX8_likely_45 : decode cX8_likely 45 = .ok (.lstore 7, 2) := by decide +kernel
theorem dX8_likely_47 : decode cX8_likely 47 = .ok (.iconst 0, 1) := by decide +kernel
theorem dX8_likely_48 : decode cX8_likely 48 = .ok (.istore 9, 2) := by decide +kernel
theorem dX8_likely_50 : decode cX8_likely 50 = .ok (.iload 9, 2) := by decide +kernel
theorem dX8_likely_52 : decode cX8_likely 52 = .ok (.iconst 1, 1) := by decide +kernel
theorem dX8_likely_53 : decode cX8_likely 53 = .ok (.aload_n 0, 1) := by decide +kernel
theorem dX8_likely_54 : decode cX8_likely 54 = .ok (.getfield 67, 3) := by decide +kernel
theorem dX8_likely_57 : decode cX8_likely 57 = .ok (.ishl, 1) := by decide +kernel
theorem dX8_likely_58 : decode cX8_likely 58 = .ok (.if_icmp .ge 57, 3) := by decide +kernel
theorem dX8_likely_61 : decode cX8_likely 61 = .ok (.aload_n 0, 1) := by decide +kernel
theorem dX8_likely_62 : decode cX8_likely 62 = .ok (.iload_n 1, 1) := by decide +kernel
theorem dX8_likely_63 : decode cX8_likely 63 = .ok (.iload_n 2, 1) := by decide +kernel
theorem dX8_likely_64 : decode cX8_likely 64 = .ok (.iload_n 3, 1) := by decide +kernel
theorem dX8_likely_65 : decode cX8_likely 65 = .ok (.iload 9, 2) := by decide +kernel
theorem dX8_likely_67 : decode cX8_likely 67 = .ok (.invokevirtual 237, 3) := by decide +kernel
theorem dX8_likely_70 : decode cX8_likely 70 = .ok (.ifCond .eq 39, 3) := by decide +kernel
theorem dX8_likely_73 : decode cX8_likely 73 = .ok (.lload 5, 2) := by decide +kernel
theorem dX8_likely_75 : decode cX8_likely 75 = .ok (.aload_n 0, 1) := by decide +kernel
theorem dX8_likely_76 : decode cX8_likely 76 = .ok (.iload 9, 2) := by decide +kernel
theorem dX8_likely_78 : decode cX8_likely 78 = .ok (.invokevirtual 245, 3) := by decide +kernel
theorem dX8_likely_81 : decode cX8_likely 81 = .ok (.ladd, 1) := by decide +kernel
theorem dX8_likely_82 : decode cX8_likely 82 = .ok (.lstore 5, 2) := by decide +kernel
theorem dX8_likely_84 : decode cX8_likely 84 = .ok (.lload 7, 2) := by decide +kernel
theorem dX8_likely_86 : decode cX8_likely 86 = .ok (.iload 9, 2) := by decide +kernel
theorem dX8_likely_88 : decode cX8_likely 88 = .ok (.iload 4, 2) := by decide +kernel
theorem dX8_likely_90 : decode cX8_likely 90 = .ok (.invokestatic 191, 3) := by decide +kernel
theorem dX8_likely_93 : decode cX8_likely 93 = .ok (.ifCond .eq 12, 3) := by decide +kernel
theorem dX8_likely_96 : decode cX8_likely 96 = .ok (.aload_n 0, 1) := by decide +kernel
theorem dX8_likely_97 : decode cX8_likely 97 = .ok (.iload 9, 2) := by decide +kernel
theorem dX8_likely_99 : decode cX8_likely 99 = .ok (.invokevirtual 245, 3) := by decide +kernel
theorem dX8_likely_102 : decode cX8_likely 102 = .ok (.goto 4, 3) := by decide +kernel
theorem dX8_likely_105 : decode cX8_likely 105 = .ok (.lconst 0, 1) := by decide +kernel
theorem dX8_likely_106 : decode cX8_likely 106 = .ok (.ladd, 1) := by decide +kernel
theorem dX8_likely_107 : decode cX8_likely 107 = .ok (.lstore 7, 2) := by decide +kernel
theorem dX8_likely_109 : decode cX8_likely 109 = .ok (.iinc 9 1, 3) := by decide +kernel
theorem dX8_likely_112 : decode cX8_likely 112 = .ok (.goto (-62), 3) := by decide +kernel
theorem dX8_likely_115 : decode cX8_likely 115 = .ok (.lload 5, 2) := by decide +kernel
theorem dX8_likely_117 : decode cX8_likely 117 = .ok (.lconst 0, 1) := by decide +kernel
theorem dX8_likely_118 : decode cX8_likely 118 = .ok (.lcmp, 1) := by decide +kernel
theorem dX8_likely_119 : decode cX8_likely 119 = .ok (.ifCond .ne 7, 3) := by decide +kernel
theorem dX8_likely_122 : decode cX8_likely 122 = .ok (.iconst 0, 1) := by decide +kernel
theorem dX8_likely_123 : decode cX8_likely 123 = .ok (.goto 13, 3) := by decide +kernel
theorem dX8_likely_126 : decode cX8_likely 126 = .ok (.lload 7, 2) := by decide +kernel
theorem dX8_likely_128 : decode cX8_likely 128 = .ok (.ldc2_w 249, 3) := by decide +kernel
theorem dX8_likely_131 : decode cX8_likely 131 = .ok (.lmul, 1) := by decide +kernel
theorem dX8_likely_132 : decode cX8_likely 132 = .ok (.lload 5, 2) := by decide +kernel
theorem dX8_likely_134 : decode cX8_likely 134 = .ok (.ldiv, 1) := by decide +kernel
theorem dX8_likely_135 : decode cX8_likely 135 = .ok (.l2i, 1) := by decide +kernel
theorem dX8_likely_136 : decode cX8_likely 136 = .ok (.ireturn, 1) := by decide +kernel
theorem dX8_odds_0 : decode cX8_odds 0 = .ok (.aload_n 0, 1) := by decide +kernel
theorem dX8_odds_1 : decode cX8_odds 1 = .ok (.iload_n 1, 1) := by decide +kernel
theorem dX8_odds_2 : decode cX8_odds 2 = .ok (.invokevirtual 195, 3) := by decide +kernel
theorem dX8_odds_5 : decode cX8_odds 5 = .ok (.ifCond .eq 12, 3) := by decide +kernel
theorem dX8_odds_8 : decode cX8_odds 8 = .ok (.aload_n 0, 1) := by decide +kernel
theorem dX8_odds_9 : decode cX8_odds 9 = .ok (.iload_n 1, 1) := by decide +kernel
theorem dX8_odds_10 : decode cX8_odds 10 = .ok (.invokevirtual 245, 3) := by decide +kernel
theorem dX8_odds_13 : decode cX8_odds 13 = .ok (.l2i, 1) := by decide +kernel
theorem dX8_odds_14 : decode cX8_odds 14 = .ok (.goto 5, 3) := by decide +kernel
theorem dX8_odds_17 : decode cX8_odds 17 = .ok (.ldc 173, 2) := by decide +kernel
theorem dX8_odds_19 : decode cX8_odds 19 = .ok (.ireturn, 1) := by decide +kernel
theorem dX8_isCase_0 : decode cX8_isCase 0 = .ok (.iload_n 1, 1) := by decide +kernel
theorem dX8_isCase_1 : decode cX8_isCase 1 = .ok (.ifCond .eq 36, 3) := by decide +kernel
theorem dX8_isCase_4 : decode cX8_isCase 4 = .ok (.iload_n 1, 1) := by decide +kernel
theorem dX8_isCase_5 : decode cX8_isCase 5 = .ok (.i2l, 1) := by decide +kernel
theorem dX8_isCase_6 : decode cX8_isCase 6 = .ok (.lconst 1, 1) := by decide +kernel
theorem dX8_isCase_7 : decode cX8_isCase 7 = .ok (.aload_n 0, 1) := by decide +kernel
theorem dX8_isCase_8 : decode cX8_isCase 8 = .ok (.getfield 67, 3) := by decide +kernel
theorem dX8_isCase_11 : decode cX8_isCase 11 = .ok (.i2l, 1) := by decide +kernel
theorem dX8_isCase_12 : decode cX8_isCase 12 = .ok (.invokestatic 63, 3) := by decide +kernel
theorem dX8_isCase_15 : decode cX8_isCase 15 = .ok (.ifCond .ne 22, 3) := by decide +kernel
theorem dX8_isCase_18 : decode cX8_isCase 18 = .ok (.iload_n 1, 1) := by decide +kernel
theorem dX8_isCase_19 : decode cX8_isCase 19 = .ok (.i2l, 1) := by decide +kernel
theorem dX8_isCase_20 : decode cX8_isCase 20 = .ok (.ldc2_w 251, 3) := by decide +kernel
theorem dX8_isCase_23 : decode cX8_isCase 23 = .ok (.bipush 6, 2) := by decide +kernel
theorem dX8_isCase_25 : decode cX8_isCase 25 = .ok (.aload_n 0, 1) := by decide +kernel
theorem dX8_isCase_26 : decode cX8_isCase 26 = .ok (.getfield 67, 3) := by decide +kernel
theorem dX8_isCase_29 : decode cX8_isCase 29 = .ok (.iadd, 1) := by decide +kernel
theorem dX8_isCase_30 : decode cX8_isCase 30 = .ok (.i2l, 1) := by decide +kernel
theorem dX8_isCase_31 : decode cX8_isCase 31 = .ok (.invokestatic 63, 3) := by decide +kernel
theorem dX8_isCase_34 : decode cX8_isCase 34 = .ok (.ifCond .eq 7, 3) := by decide +kernel
theorem dX8_isCase_37 : decode cX8_isCase 37 = .ok (.iconst 1, 1) := by decide +kernel
theorem dX8_isCase_38 : decode cX8_isCase 38 = .ok (.goto 4, 3) := by decide +kernel
theorem dX8_isCase_41 : decode cX8_isCase 41 = .ok (.iconst 0, 1) := by decide +kernel
theorem dX8_isCase_42 : decode cX8_isCase 42 = .ok (.ireturn, 1) := by decide +kernel
theorem dX8_tellsOf_0 : decode cX8_tellsOf 0 = .ok (.aload_n 0, 1) := by decide +kernel
theorem dX8_tellsOf_1 : decode cX8_tellsOf 1 = .ok (.iload_n 2, 1) := by decide +kernel
theorem dX8_tellsOf_2 : decode cX8_tellsOf 2 = .ok (.invokevirtual 201, 3) := by decide +kernel
theorem dX8_tellsOf_5 : decode cX8_tellsOf 5 = .ok (.istore 4, 2) := by decide +kernel
theorem dX8_tellsOf_7 : decode cX8_tellsOf 7 = .ok (.iload_n 3, 1) := by decide +kernel
theorem dX8_tellsOf_8 : decode cX8_tellsOf 8 = .ok (.i2l, 1) := by decide +kernel
theorem dX8_tellsOf_9 : decode cX8_tellsOf 9 = .ok (.lconst 1, 1) := by decide +kernel
theorem dX8_tellsOf_10 : decode cX8_tellsOf 10 = .ok (.ldc2_w 253, 3) := by decide +kernel
theorem dX8_tellsOf_13 : decode cX8_tellsOf 13 = .ok (.invokestatic 63, 3) := by decide +kernel
theorem dX8_tellsOf_16 : decode cX8_tellsOf 16 = .ok (.ifCond .eq 25, 3) := by decide +kernel
theorem dX8_tellsOf_19 : decode cX8_tellsOf 19 = .ok (.iload_n 2, 1) := by decide +kernel
theorem dX8_tellsOf_20 : decode cX8_tellsOf 20 = .ok (.iload_n 3, 1) := by decide +kernel
theorem dX8_tellsOf_21 : decode cX8_tellsOf 21 = .ok (.iconst 1, 1) := by decide +kernel
theorem dX8_tellsOf_22 : decode cX8_tellsOf 22 = .ok (.isub, 1) := by decide +kernel
theorem dX8_tellsOf_23 : decode cX8_tellsOf 23 = .ok (.invokestatic 191, 3) := by decide +kernel
theorem dX8_tellsOf_26 : decode cX8_tellsOf 26 = .ok (.ifCond .eq 15, 3) := by decide +kernel
theorem dX8_tellsOf_29 : decode cX8_tellsOf 29 = .ok (.iload 4, 2) := by decide +kernel
theorem dX8_tellsOf_31 : decode cX8_tellsOf 31 = .ok (.aload_n 0, 1) := by decide +kernel
theorem dX8_tellsOf_32 : decode cX8_tellsOf 32 = .ok (.getfield 16, 3) := by decide +kernel
theorem dX8_tellsOf_35 : decode cX8_tellsOf 35 = .ok (.iadd, 1) := by decide +kernel
theorem dX8_tellsOf_36 : decode cX8_tellsOf 36 = .ok (.istore 4, 2) := by decide +kernel
theorem dX8_tellsOf_38 : decode cX8_tellsOf 38 = .ok (.goto 38, 3) := by decide +kernel
theorem dX8_tellsOf_41 : decode cX8_tellsOf 41 = .ok (.iload_n 3, 1) := by decide +kernel
theorem dX8_tellsOf_42 : decode cX8_tellsOf 42 = .ok (.bipush 6, 2) := by decide +kernel
theorem dX8_tellsOf_44 : decode cX8_tellsOf 44 = .ok (.if_icmp .le 32, 3) := by decide +kernel
theorem dX8_tellsOf_47 : decode cX8_tellsOf 47 = .ok (.iload_n 2, 1) := by decide +kernel
theorem dX8_tellsOf_48 : decode cX8_tellsOf 48 = .ok (.iload_n 3, 1) := by decide +kernel
theorem dX8_tellsOf_49 : decode cX8_tellsOf 49 = .ok (.bipush 7, 2) := by decide +kernel
theorem dX8_tellsOf_51 : decode cX8_tellsOf 51 = .ok (.isub, 1) := by decide +kernel
theorem dX8_tellsOf_52 : decode cX8_tellsOf 52 = .ok (.invokestatic 191, 3) := by decide +kernel
theorem dX8_tellsOf_55 : decode cX8_tellsOf 55 = .ok (.ifCond .eq 21, 3) := by decide +kernel
theorem dX8_tellsOf_58 : decode cX8_tellsOf 58 = .ok (.iload 4, 2) := by decide +kernel
theorem dX8_tellsOf_60 : decode cX8_tellsOf 60 = .ok (.aload_n 0, 1) := by decide +kernel
theorem dX8_tellsOf_61 : decode cX8_tellsOf 61 = .ok (.getfield 13, 3) := by decide +kernel
theorem dX8_tellsOf_64 : decode cX8_tellsOf 64 = .ok (.iconst 4, 1) := by decide +kernel
theorem dX8_tellsOf_65 : decode cX8_tellsOf 65 = .ok (.iload_n 3, 1) := by decide +kernel
theorem dX8_tellsOf_66 : decode cX8_tellsOf 66 = .ok (.bipush 7, 2) := by decide +kernel
theorem dX8_tellsOf_68 : decode cX8_tellsOf 68 = .ok (.isub, 1) := by decide +kernel
theorem dX8_tellsOf_69 : decode cX8_tellsOf 69 = .ok (.imul, 1) := by decide +kernel
theorem dX8_tellsOf_70 : decode cX8_tellsOf 70 = .ok (.iconst 2, 1) := by decide +kernel
theorem dX8_tellsOf_71 : decode cX8_tellsOf 71 = .ok (.iadd, 1) := by decide +kernel
theorem dX8_tellsOf_72 : decode cX8_tellsOf 72 = .ok (.iaload, 1) := by decide +kernel
theorem dX8_tellsOf_73 : decode cX8_tellsOf 73 = .ok (.isub, 1) := by decide +kernel
theorem dX8_tellsOf_74 : decode cX8_tellsOf 74 = .ok (.istore 4, 2) := by decide +kernel
theorem dX8_tellsOf_76 : decode cX8_tellsOf 76 = .ok (.aload_n 0, 1) := by decide +kernel
theorem dX8_tellsOf_77 : decode cX8_tellsOf 77 = .ok (.iload_n 1, 1) := by decide +kernel
theorem dX8_tellsOf_78 : decode cX8_tellsOf 78 = .ok (.iconst 0, 1) := by decide +kernel
theorem dX8_tellsOf_79 : decode cX8_tellsOf 79 = .ok (.iload 4, 2) := by decide +kernel
theorem dX8_tellsOf_81 : decode cX8_tellsOf 81 = .ok (.invokevirtual 204, 3) := by decide +kernel
theorem dX8_tellsOf_84 : decode cX8_tellsOf 84 = .ok (.ireturn, 1) := by decide +kernel
theorem dX8_tells_0 : decode cX8_tells 0 = .ok (.aload_n 0, 1) := by decide +kernel
theorem dX8_tells_1 : decode cX8_tells 1 = .ok (.iload_n 1, 1) := by decide +kernel
theorem dX8_tells_2 : decode cX8_tells 2 = .ok (.invokevirtual 170, 3) := by decide +kernel
theorem dX8_tells_5 : decode cX8_tells 5 = .ok (.ifCond .eq 33, 3) := by decide +kernel
theorem dX8_tells_8 : decode cX8_tells 8 = .ok (.aload_n 0, 1) := by decide +kernel
theorem dX8_tells_9 : decode cX8_tells 9 = .ok (.iload_n 2, 1) := by decide +kernel
theorem dX8_tells_10 : decode cX8_tells 10 = .ok (.invokevirtual 195, 3) := by decide +kernel
theorem dX8_tells_13 : decode cX8_tells 13 = .ok (.ifCond .eq 25, 3) := by decide +kernel
theorem dX8_tells_16 : decode cX8_tells 16 = .ok (.iload_n 2, 1) := by decide +kernel
theorem dX8_tells_17 : decode cX8_tells 17 = .ok (.ifCond .eq 21, 3) := by decide +kernel
theorem dX8_tells_20 : decode cX8_tells 20 = .ok (.aload_n 0, 1) := by decide +kernel
theorem dX8_tells_21 : decode cX8_tells 21 = .ok (.iload_n 3, 1) := by decide +kernel
theorem dX8_tells_22 : decode cX8_tells 22 = .ok (.invokevirtual 255, 3) := by decide +kernel
theorem dX8_tells_25 : decode cX8_tells 25 = .ok (.ifCond .eq 13, 3) := by decide +kernel
theorem dX8_tells_28 : decode cX8_tells 28 = .ok (.aload_n 0, 1) := by decide +kernel
theorem dX8_tells_29 : decode cX8_tells 29 = .ok (.iload_n 1, 1) := by decide +kernel
theorem dX8_tells_30 : decode cX8_tells 30 = .ok (.iload_n 2, 1) := by decide +kernel
theorem dX8_tells_31 : decode cX8_tells 31 = .ok (.iload_n 3, 1) := by decide +kernel
theorem dX8_tells_32 : decode cX8_tells 32 = .ok (.invokevirtual 258, 3) := by decide +kernel
theorem dX8_tells_35 : decode cX8_tells 35 = .ok (.goto 5, 3) := by decide +kernel
theorem dX8_tells_38 : decode cX8_tells 38 = .ok (.ldc 173, 2) := by decide +kernel
theorem dX8_tells_40 : decode cX8_tells 40 = .ok (.ireturn, 1) := by decide +kernel
theorem dX8_isParted_0 : decode cX8_isParted 0 = .ok (.iconst 0, 1) := by decide +kernel
theorem dX8_isParted_1 : decode cX8_isParted 1 = .ok (.istore 4, 2) := by decide +kernel
theorem dX8_isParted_3 : decode cX8_isParted 3 = .ok (.iconst 0, 1) := by decide +kernel
theorem dX8_isParted_4 : decode cX8_isParted 4 = .ok (.istore 5, 2) := by decide +kernel
theorem dX8_isParted_6 : decode cX8_isParted 6 = .ok (.iload 5, 2) := by decide +kernel
theorem dX8_isParted_8 : decode cX8_isParted 8 = .ok (.aload_n 0, 1) := by decide +kernel
theorem dX8_isParted_9 : decode cX8_isParted 9 = .ok (.getfield 60, 3) := by decide +kernel
theorem dX8_isParted_12 : decode cX8_isParted 12 = .ok (.if_icmp .ge 74, 3) := by decide +kernel
theorem dX8_isParted_15 : decode cX8_isParted 15 = .ok (.iload 4, 2) := by decide +kernel
theorem dX8_isParted_17 : decode cX8_isParted 17 = .ok (.ifCond .ne 69, 3) := by decide +kernel
theorem dX8_isParted_20 : decode cX8_isParted 20 = .ok (.iconst 1, 1) := by decide +kernel
theorem dX8_isParted_21 : decode cX8_isParted 21 = .ok (.istore 6, 2) := by decide +kernel
theorem dX8_isParted_23 : decode cX8_isParted 23 = .ok (.iload 6, 2) := by decide +kernel
theorem dX8_isParted_25 : decode cX8_isParted 25 = .ok (.iconst 1, 1) := by decide +kernel
theorem dX8_isParted_26 : decode cX8_isParted 26 = .ok (.aload_n 0, 1) := by decide +kernel
theorem dX8_isParted_27 : decode cX8_isParted 27 = .ok (.getfield 67, 3) := by decide +kernel
theorem dX8_isParted_30 : decode cX8_isParted 30 = .ok (.ishl, 1) := by decide +kernel
theorem dX8_isParted_31 : decode cX8_isParted 31 = .ok (.if_icmp .ge 49, 3) := by decide +kernel
theorem dX8_isParted_34 : decode cX8_isParted 34 = .ok (.iload 4, 2) := by decide +kernel
theorem dX8_isParted_36 : decode cX8_isParted 36 = .ok (.ifCond .ne 44, 3) := by decide +kernel
theorem dX8_isParted_39 : decode cX8_isParted 39 = .ok (.iload 6, 2) := by decide +kernel
theorem dX8_isParted_41 : decode cX8_isParted 41 = .ok (.iload_n 3, 1) := by decide +kernel
theorem dX8_isParted_42 : decode cX8_isParted 42 = .ok (.iand, 1) := by decide +kernel
theorem dX8_isParted_43 : decode cX8_isParted 43 = .ok (.ifCond .ne 28, 3) := by decide +kernel
theorem dX8_isParted_46 : decode cX8_isParted 46 = .ok (.aload_n 0, 1) := by decide +kernel
theorem dX8_isParted_47 : decode cX8_isParted 47 = .ok (.iload 5, 2) := by decide +kernel
theorem dX8_isParted_49 : decode cX8_isParted 49 = .ok (.iload 6, 2) := by decide +kernel
theorem dX8_isParted_51 : decode cX8_isParted 51 = .ok (.iload_n 1, 1) := by decide +kernel
theorem dX8_isParted_52 : decode cX8_isParted 52 = .ok (.invokevirtual 258, 3) := by decide +kernel
theorem dX8_isParted_55 : decode cX8_isParted 55 = .ok (.aload_n 0, 1) := by decide +kernel
theorem dX8_isParted_56 : decode cX8_isParted 56 = .ok (.iload 5, 2) := by decide +kernel
theorem dX8_isParted_58 : decode cX8_isParted 58 = .ok (.iload 6, 2) := by decide +kernel
theorem dX8_isParted_60 : decode cX8_isParted 60 = .ok (.iload_n 2, 1) := by decide +kernel
theorem dX8_isParted_61 : decode cX8_isParted 61 = .ok (.invokevirtual 258, 3) := by decide +kernel
theorem dX8_isParted_64 : decode cX8_isParted 64 = .ok (.if_icmp .eq 7, 3) := by decide +kernel
theorem dX8_isParted_67 : decode cX8_isParted 67 = .ok (.iconst 1, 1) := by decide +kernel
theorem dX8_isParted_68 : decode cX8_isParted 68 = .ok (.goto 4, 3) := by decide +kernel
theorem dX8_isParted_71 : decode cX8_isParted 71 = .ok (.iconst 0, 1) := by decide +kernel
theorem dX8_isParted_72 : decode cX8_isParted 72 = .ok (.istore 4, 2) := by decide +kernel
theorem dX8_isParted_74 : decode cX8_isParted 74 = .ok (.iinc 6 1, 3) := by decide +kernel
theorem dX8_isParted_77 : decode cX8_isParted 77 = .ok (.goto (-54), 3) := by decide +kernel
theorem dX8_isParted_80 : decode cX8_isParted 80 = .ok (.iinc 5 1, 3) := by decide +kernel
theorem dX8_isParted_83 : decode cX8_isParted 83 = .ok (.goto (-77), 3) := by decide +kernel
theorem dX8_isParted_86 : decode cX8_isParted 86 = .ok (.iload 4, 2) := by decide +kernel
theorem dX8_isParted_88 : decode cX8_isParted 88 = .ok (.ireturn, 1) := by decide +kernel
theorem dX8_alikeOf_0 : decode cX8_alikeOf 0 = .ok (.iconst 0, 1) := by decide +kernel
theorem dX8_alikeOf_1 : decode cX8_alikeOf 1 = .ok (.istore_n 2, 1) := by decide +kernel
theorem dX8_alikeOf_2 : decode cX8_alikeOf 2 = .ok (.iconst 0, 1) := by decide +kernel
theorem dX8_alikeOf_3 : decode cX8_alikeOf 3 = .ok (.istore_n 3, 1) := by decide +kernel
theorem dX8_alikeOf_4 : decode cX8_alikeOf 4 = .ok (.iload_n 3, 1) := by decide +kernel
theorem dX8_alikeOf_5 : decode cX8_alikeOf 5 = .ok (.bipush 13, 2) := by decide +kernel
theorem dX8_alikeOf_7 : decode cX8_alikeOf 7 = .ok (.if_icmp .ge 37, 3) := by decide +kernel
theorem dX8_alikeOf_10 : decode cX8_alikeOf 10 = .ok (.iload_n 2, 1) := by decide +kernel
theorem dX8_alikeOf_11 : decode cX8_alikeOf 11 = .ok (.aload_n 0, 1) := by decide +kernel
theorem dX8_alikeOf_12 : decode cX8_alikeOf 12 = .ok (.iload_n 3, 1) := by decide +kernel
theorem dX8_alikeOf_13 : decode cX8_alikeOf 13 = .ok (.invokevirtual 255, 3) := by decide +kernel
theorem dX8_alikeOf_16 : decode cX8_alikeOf 16 = .ok (.ifCond .eq 19, 3) := by decide +kernel
theorem dX8_alikeOf_19 : decode cX8_alikeOf 19 = .ok (.aload_n 0, 1) := by decide +kernel
theorem dX8_alikeOf_20 : decode cX8_alikeOf 20 = .ok (.iload_n 1, 1) := by decide +kernel
theorem dX8_alikeOf_21 : decode cX8_alikeOf 21 = .ok (.iload_n 3, 1) := by decide +kernel
theorem dX8_alikeOf_22 : decode cX8_alikeOf 22 = .ok (.iconst 0, 1) := by decide +kernel
theorem dX8_alikeOf_23 : decode cX8_alikeOf 23 = .ok (.invokevirtual 261, 3) := by decide +kernel
theorem dX8_alikeOf_26 : decode cX8_alikeOf 26 = .ok (.ifCond .ne 9, 3) := by decide +kernel
theorem dX8_alikeOf_29 : decode cX8_alikeOf 29 = .ok (.iconst 1, 1) := by decide +kernel
theorem dX8_alikeOf_30 : decode cX8_alikeOf 30 = .ok (.iload_n 3, 1) := by decide +kernel
theorem dX8_alikeOf_31 : decode cX8_alikeOf 31 = .ok (.ishl, 1) := by decide +kernel
theorem dX8_alikeOf_32 : decode cX8_alikeOf 32 = .ok (.goto 4, 3) := by decide +kernel
theorem dX8_alikeOf_35 : decode cX8_alikeOf 35 = .ok (.iconst 0, 1) := by decide +kernel
theorem dX8_alikeOf_36 : decode cX8_alikeOf 36 = .ok (.ior, 1) := by decide +kernel
theorem dX8_alikeOf_37 : decode cX8_alikeOf 37 = .ok (.istore_n 2, 1) := by decide +kernel
theorem dX8_alikeOf_38 : decode cX8_alikeOf 38 = .ok (.iinc 3 1, 3) := by decide +kernel
theorem dX8_alikeOf_41 : decode cX8_alikeOf 41 = .ok (.goto (-37), 3) := by decide +kernel
theorem dX8_alikeOf_44 : decode cX8_alikeOf 44 = .ok (.iload_n 2, 1) := by decide +kernel
theorem dX8_alikeOf_45 : decode cX8_alikeOf 45 = .ok (.ireturn, 1) := by decide +kernel
theorem dX8_alike_0 : decode cX8_alike 0 = .ok (.aload_n 0, 1) := by decide +kernel
theorem dX8_alike_1 : decode cX8_alike 1 = .ok (.iload_n 1, 1) := by decide +kernel
theorem dX8_alike_2 : decode cX8_alike 2 = .ok (.invokevirtual 255, 3) := by decide +kernel
theorem dX8_alike_5 : decode cX8_alike 5 = .ok (.ifCond .eq 11, 3) := by decide +kernel
theorem dX8_alike_8 : decode cX8_alike 8 = .ok (.aload_n 0, 1) := by decide +kernel
theorem dX8_alike_9 : decode cX8_alike 9 = .ok (.iload_n 1, 1) := by decide +kernel
theorem dX8_alike_10 : decode cX8_alike 10 = .ok (.invokevirtual 265, 3) := by decide +kernel
theorem dX8_alike_13 : decode cX8_alike 13 = .ok (.goto 5, 3) := by decide +kernel
theorem dX8_alike_16 : decode cX8_alike 16 = .ok (.ldc 173, 2) := by decide +kernel
theorem dX8_alike_18 : decode cX8_alike 18 = .ok (.ireturn, 1) := by decide +kernel
theorem dX8_findTries_0 : decode cX8_findTries 0 = .ok (.aload_n 0, 1) := by decide +kernel
theorem dX8_findTries_1 : decode cX8_findTries 1 = .ok (.iconst 0, 1) := by decide +kernel
theorem dX8_findTries_2 : decode cX8_findTries 2 = .ok (.putfield 268, 3) := by decide +kernel
theorem dX8_findTries_5 : decode cX8_findTries 5 = .ok (.iconst 0, 1) := by decide +kernel
theorem dX8_findTries_6 : decode cX8_findTries 6 = .ok (.istore_n 1, 1) := by decide +kernel
theorem dX8_findTries_7 : decode cX8_findTries 7 = .ok (.iload_n 1, 1) := by decide +kernel
theorem dX8_findTries_8 : decode cX8_findTries 8 = .ok (.aload_n 0, 1) := by decide +kernel
theorem dX8_findTries_9 : decode cX8_findTries 9 = .ok (.getfield 60, 3) := by decide +kernel
theorem dX8_findTries_12 : decode cX8_findTries 12 = .ok (.if_icmp .ge 84, 3) := by decide +kernel
theorem dX8_findTries_15 : decode cX8_findTries 15 = .ok (.iconst 1, 1) := by decide +kernel
theorem dX8_findTries_16 : decode cX8_findTries 16 = .ok (.istore_n 2, 1) := by decide +kernel
theorem dX8_findTries_17 : decode cX8_findTries 17 = .ok (.iload_n 2, 1) := by decide +kernel
theorem dX8_findTries_18 : decode cX8_findTries 18 = .ok (.iconst 1, 1) := by decide +kernel
theorem dX8_findTries_19 : decode cX8_findTries 19 = .ok (.aload_n 0, 1) := by decide +kernel
theorem dX8_findTries_20 : decode cX8_findTries 20 = .ok (.getfield 67, 3) := by decide +kernel
theorem dX8_findTries_23 : decode cX8_findTries 23 = .ok (.ishl, 1) := by decide +kernel
theorem dX8_findTries_24 : decode cX8_findTries 24 = .ok (.if_icmp .ge 66, 3) := by decide +kernel
theorem dX8_findTries_27 : decode cX8_findTries 27 = .ok (.iconst 0, 1) := by decide +kernel
theorem dX8_findTries_28 : decode cX8_findTries 28 = .ok (.istore_n 3, 1) := by decide +kernel
theorem dX8_findTries_29 : decode cX8_findTries 29 = .ok (.iload_n 3, 1) := by decide +kernel
theorem dX8_findTries_30 : decode cX8_findTries 30 = .ok (.bipush 13, 2) := by decide +kernel
theorem dX8_findTries_32 : decode cX8_findTries 32 = .ok (.if_icmp .ge 42, 3) := by decide +kernel
theorem dX8_findTries_35 : decode cX8_findTries 35 = .ok (.aload_n 0, 1) := by decide +kernel
theorem dX8_findTries_36 : decode cX8_findTries 36 = .ok (.getfield 47, 3) := by decide +kernel
theorem dX8_findTries_39 : decode cX8_findTries 39 = .ok (.bipush 13, 2) := by decide +kernel
theorem dX8_findTries_41 : decode cX8_findTries 41 = .ok (.aload_n 0, 1) := by decide +kernel
theorem dX8_findTries_42 : decode cX8_findTries 42 = .ok (.getfield 268, 3) := by decide +kernel
theorem dX8_findTries_45 : decode cX8_findTries 45 = .ok (.imul, 1) := by decide +kernel
theorem dX8_findTries_46 : decode cX8_findTries 46 = .ok (.iload_n 3, 1) := by decide +kernel
theorem dX8_findTries_47 : decode cX8_findTries 47 = .ok (.iadd, 1) := by decide +kernel
theorem dX8_findTries_48 : decode cX8_findTries 48 = .ok (.aload_n 0, 1) := by decide +kernel
theorem dX8_findTries_49 : decode cX8_findTries 49 = .ok (.iload_n 3, 1) := by decide +kernel
theorem dX8_findTries_50 : decode cX8_findTries 50 = .ok (.invokevirtual 255, 3) := by decide +kernel
theorem dX8_findTries_53 : decode cX8_findTries 53 = .ok (.ifCond .eq 13, 3) := by decide +kernel
theorem dX8_findTries_56 : decode cX8_findTries 56 = .ok (.aload_n 0, 1) := by decide +kernel
theorem dX8_findTries_57 : decode cX8_findTries 57 = .ok (.iload_n 1, 1) := by decide +kernel
theorem dX8_findTries_58 : decode cX8_findTries 58 = .ok (.iload_n 2, 1) := by decide +kernel
theorem dX8_findTries_59 : decode cX8_findTries 59 = .ok (.iload_n 3, 1) := by decide +kernel
theorem dX8_findTries_60 : decode cX8_findTries 60 = .ok (.invokevirtual 258, 3) := by decide +kernel
theorem dX8_findTries_63 : decode cX8_findTries 63 = .ok (.goto 4, 3) := by decide +kernel
theorem dX8_findTries_66 : decode cX8_findTries 66 = .ok (.iconst (-1), 1) := by decide +kernel
theorem dX8_findTries_67 : decode cX8_findTries 67 = .ok (.iastore, 1) := by decide +kernel
theorem dX8_findTries_68 : decode cX8_findTries 68 = .ok (.iinc 3 1, 3) := by decide +kernel
theorem dX8_findTries_71 : decode cX8_findTries 71 = .ok (.goto (-42), 3) := by decide +kernel
theorem dX8_findTries_74 : decode cX8_findTries 74 = .ok (.aload_n 0, 1) := by decide +kernel
theorem dX8_findTries_75 : decode cX8_findTries 75 = .ok (.dup, 1) := by decide +kernel
theorem dX8_findTries_76 : decode cX8_findTries 76 = .ok (.getfield 268, 3) := by decide +kernel
theorem dX8_findTries_79 : decode cX8_findTries 79 = .ok (.iconst 1, 1) := by decide +kernel
theorem dX8_findTries_80 : decode cX8_findTries 80 = .ok (.iadd, 1) := by decide +kernel
theorem dX8_findTries_81 : decode cX8_findTries 81 = .ok (.putfield 268, 3) := by decide +kernel
theorem dX8_findTries_84 : decode cX8_findTries 84 = .ok (.iinc 2 1, 3) := by decide +kernel
theorem dX8_findTries_87 : decode cX8_findTries 87 = .ok (.goto (-70), 3) := by decide +kernel
theorem dX8_findTries_90 : decode cX8_findTries 90 = .ok (.iinc 1 1, 3) := by decide +kernel
theorem dX8_findTries_93 : decode cX8_findTries 93 = .ok (.goto (-86), 3) := by decide +kernel
theorem dX8_findTries_96 : decode cX8_findTries 96 = .ok (.iconst 0, 1) := by decide +kernel
theorem dX8_findTries_97 : decode cX8_findTries 97 = .ok (.istore_n 1, 1) := by decide +kernel
theorem dX8_findTries_98 : decode cX8_findTries 98 = .ok (.iload_n 1, 1) := by decide +kernel
theorem dX8_findTries_99 : decode cX8_findTries 99 = .ok (.bipush 13, 2) := by decide +kernel
theorem dX8_findTries_101 : decode cX8_findTries 101 = .ok (.if_icmp .ge 32, 3) := by decide +kernel
theorem dX8_findTries_104 : decode cX8_findTries 104 = .ok (.aload_n 0, 1) := by decide +kernel
theorem dX8_findTries_105 : decode cX8_findTries 105 = .ok (.getfield 44, 3) := by decide +kernel
theorem dX8_findTries_108 : decode cX8_findTries 108 = .ok (.iload_n 1, 1) := by decide +kernel
theorem dX8_findTries_109 : decode cX8_findTries 109 = .ok (.aload_n 0, 1) := by decide +kernel
theorem dX8_findTries_110 : decode cX8_findTries 110 = .ok (.iload_n 1, 1) := by decide +kernel
theorem dX8_findTries_111 : decode cX8_findTries 111 = .ok (.invokevirtual 255, 3) := by decide +kernel
theorem dX8_findTries_114 : decode cX8_findTries 114 = .ok (.ifCond .eq 11, 3) := by decide +kernel
theorem dX8_findTries_117 : decode cX8_findTries 117 = .ok (.aload_n 0, 1) := by decide +kernel
theorem dX8_findTries_118 : decode cX8_findTries 118 = .ok (.iload_n 1, 1) := by decide +kernel
theorem dX8_findTries_119 : decode cX8_findTries 119 = .ok (.invokevirtual 265, 3) := by decide +kernel
theorem dX8_findTries_122 : decode cX8_findTries 122 = .ok (.goto 4, 3) := by decide +kernel
theorem dX8_findTries_125 : decode cX8_findTries 125 = .ok (.iconst 0, 1) := by decide +kernel
theorem dX8_findTries_126 : decode cX8_findTries 126 = .ok (.iastore, 1) := by decide +kernel
theorem dX8_findTries_127 : decode cX8_findTries 127 = .ok (.iinc 1 1, 3) := by decide +kernel
theorem dX8_findTries_130 : decode cX8_findTries 130 = .ok (.goto (-32), 3) := by decide +kernel
theorem dX8_findTries_133 : decode cX8_findTries 133 = .ok (.return_, 1) := by decide +kernel
theorem dX8_isKnown_0 : decode cX8_isKnown 0 = .ok (.iconst 1, 1) := by decide +kernel
theorem dX8_isKnown_1 : decode cX8_isKnown 1 = .ok (.istore_n 2, 1) := by decide +kernel
theorem dX8_isKnown_2 : decode cX8_isKnown 2 = .ok (.iconst 0, 1) := by decide +kernel
theorem dX8_isKnown_3 : decode cX8_isKnown 3 = .ok (.istore_n 3, 1) := by decide +kernel
theorem dX8_isKnown_4 : decode cX8_isKnown 4 = .ok (.iload_n 3, 1) := by decide +kernel
theorem dX8_isKnown_5 : decode cX8_isKnown 5 = .ok (.bipush 13, 2) := by decide +kernel
theorem dX8_isKnown_7 : decode cX8_isKnown 7 = .ok (.if_icmp .ge 40, 3) := by decide +kernel
theorem dX8_isKnown_10 : decode cX8_isKnown 10 = .ok (.iload_n 2, 1) := by decide +kernel
theorem dX8_isKnown_11 : decode cX8_isKnown 11 = .ok (.ifCond .eq 28, 3) := by decide +kernel
theorem dX8_isKnown_14 : decode cX8_isKnown 14 = .ok (.iload_n 1, 1) := by decide +kernel
theorem dX8_isKnown_15 : decode cX8_isKnown 15 = .ok (.iload_n 3, 1) := by decide +kernel
theorem dX8_isKnown_16 : decode cX8_isKnown 16 = .ok (.invokestatic 191, 3) := by decide +kernel
theorem dX8_isKnown_19 : decode cX8_isKnown 19 = .ok (.ifCond .eq 16, 3) := by decide +kernel
theorem dX8_isKnown_22 : decode cX8_isKnown 22 = .ok (.iload_n 1, 1) := by decide +kernel
theorem dX8_isKnown_23 : decode cX8_isKnown 23 = .ok (.aload_n 0, 1) := by decide +kernel
theorem dX8_isKnown_24 : decode cX8_isKnown 24 = .ok (.getfield 44, 3) := by decide +kernel
theorem dX8_isKnown_27 : decode cX8_isKnown 27 = .ok (.iload_n 3, 1) := by decide +kernel
theorem dX8_isKnown_28 : decode cX8_isKnown 28 = .ok (.iaload, 1) := by decide +kernel
theorem dX8_isKnown_29 : decode cX8_isKnown 29 = .ok (.iconst (-1), 1) := by decide +kernel
theorem dX8_isKnown_30 : decode cX8_isKnown 30 = .ok (.ixor, 1) := by decide +kernel
theorem dX8_isKnown_31 : decode cX8_isKnown 31 = .ok (.iand, 1) := by decide +kernel
theorem dX8_isKnown_32 : decode cX8_isKnown 32 = .ok (.ifCond .ne 7, 3) := by decide +kernel
theorem dX8_isKnown_35 : decode cX8_isKnown 35 = .ok (.iconst 1, 1) := by decide +kernel
theorem dX8_isKnown_36 : decode cX8_isKnown 36 = .ok (.goto 4, 3) := by decide +kernel
theorem dX8_isKnown_39 : decode cX8_isKnown 39 = .ok (.iconst 0, 1) := by decide +kernel
theorem dX8_isKnown_40 : decode cX8_isKnown 40 = .ok (.istore_n 2, 1) := by decide +kernel
theorem dX8_isKnown_41 : decode cX8_isKnown 41 = .ok (.iinc 3 1, 3) := by decide +kernel
theorem dX8_isKnown_44 : decode cX8_isKnown 44 = .ok (.goto (-40), 3) := by decide +kernel
theorem dX8_isKnown_47 : decode cX8_isKnown 47 = .ok (.iload_n 2, 1) := by decide +kernel
theorem dX8_isKnown_48 : decode cX8_isKnown 48 = .ok (.ireturn, 1) := by decide +kernel
theorem dX8_worstBy_0 : decode cX8_worstBy 0 = .ok (.iconst 0, 1) := by decide +kernel
theorem dX8_worstBy_1 : decode cX8_worstBy 1 = .ok (.istore_n 3, 1) := by decide +kernel
theorem dX8_worstBy_2 : decode cX8_worstBy 2 = .ok (.iload_n 2, 1) := by decide +kernel
theorem dX8_worstBy_3 : decode cX8_worstBy 3 = .ok (.istore 4, 2) := by decide +kernel
theorem dX8_worstBy_5 : decode cX8_worstBy 5 = .ok (.iload 4, 2) := by decide +kernel
theorem dX8_worstBy_7 : decode cX8_worstBy 7 = .ok (.ifCond .eq 137, 3) := by decide +kernel
theorem dX8_worstBy_10 : decode cX8_worstBy 10 = .ok (.iconst 0, 1) := by decide +kernel
theorem dX8_worstBy_11 : decode cX8_worstBy 11 = .ok (.istore 5, 2) := by decide +kernel
theorem dX8_worstBy_13 : decode cX8_worstBy 13 = .ok (.iload 4, 2) := by decide +kernel
theorem dX8_worstBy_15 : decode cX8_worstBy 15 = .ok (.iload 5, 2) := by decide +kernel
theorem dX8_worstBy_17 : decode cX8_worstBy 17 = .ok (.invokestatic 191, 3) := by decide +kernel
theorem dX8_worstBy_20 : decode cX8_worstBy 20 = .ok (.ifCond .ne 9, 3) := by decide +kernel
theorem dX8_worstBy_23 : decode cX8_worstBy 23 = .ok (.iinc 5 1, 3) := by decide +kernel
theorem dX8_worstBy_26 : decode cX8_worstBy 26 = .ok (.goto (-13), 3) := by decide +kernel
theorem dX8_worstBy_29 : decode cX8_worstBy 29 = .ok (.iconst 0, 1) := by decide +kernel
theorem dX8_worstBy_30 : decode cX8_worstBy 30 = .ok (.istore 6, 2) := by decide +kernel
theorem dX8_worstBy_32 : decode cX8_worstBy 32 = .ok (.iload 5, 2) := by decide +kernel
theorem dX8_worstBy_34 : decode cX8_worstBy 34 = .ok (.istore 7, 2) := by decide +kernel
theorem dX8_worstBy_36 : decode cX8_worstBy 36 = .ok (.iload 7, 2) := by decide +kernel
theorem dX8_worstBy_38 : decode cX8_worstBy 38 = .ok (.bipush 13, 2) := by decide +kernel
theorem dX8_worstBy_40 : decode cX8_worstBy 40 = .ok (.if_icmp .ge 59, 3) := by decide +kernel
theorem dX8_worstBy_43 : decode cX8_worstBy 43 = .ok (.iload 6, 2) := by decide +kernel
theorem dX8_worstBy_45 : decode cX8_worstBy 45 = .ok (.iload 4, 2) := by decide +kernel
theorem dX8_worstBy_47 : decode cX8_worstBy 47 = .ok (.iload 7, 2) := by decide +kernel
theorem dX8_worstBy_49 : decode cX8_worstBy 49 = .ok (.invokestatic 191, 3) := by decide +kernel
theorem dX8_worstBy_52 : decode cX8_worstBy 52 = .ok (.ifCond .eq 37, 3) := by decide +kernel
theorem dX8_worstBy_55 : decode cX8_worstBy 55 = .ok (.aload_n 0, 1) := by decide +kernel
theorem dX8_worstBy_56 : decode cX8_worstBy 56 = .ok (.getfield 47, 3) := by decide +kernel
theorem dX8_worstBy_59 : decode cX8_worstBy 59 = .ok (.bipush 13, 2) := by decide +kernel
theorem dX8_worstBy_61 : decode cX8_worstBy 61 = .ok (.iload_n 1, 1) := by decide +kernel
theorem dX8_worstBy_62 : decode cX8_worstBy 62 = .ok (.imul, 1) := by decide +kernel
theorem dX8_worstBy_63 : decode cX8_worstBy 63 = .ok (.iload 7, 2) := by decide +kernel
theorem dX8_worstBy_65 : decode cX8_worstBy 65 = .ok (.iadd, 1) := by decide +kernel
theorem dX8_worstBy_66 : decode cX8_worstBy 66 = .ok (.iaload, 1) := by decide +kernel
theorem dX8_worstBy_67 : decode cX8_worstBy 67 = .ok (.aload_n 0, 1) := by decide +kernel
theorem dX8_worstBy_68 : decode cX8_worstBy 68 = .ok (.getfield 47, 3) := by decide +kernel
theorem dX8_worstBy_71 : decode cX8_worstBy 71 = .ok (.bipush 13, 2) := by decide +kernel
theorem dX8_worstBy_73 : decode cX8_worstBy 73 = .ok (.iload_n 1, 1) := by decide +kernel
theorem dX8_worstBy_74 : decode cX8_worstBy 74 = .ok (.imul, 1) := by decide +kernel
theorem dX8_worstBy_75 : decode cX8_worstBy 75 = .ok (.iload 5, 2) := by decide +kernel
theorem dX8_worstBy_77 : decode cX8_worstBy 77 = .ok (.iadd, 1) := by decide +kernel
theorem dX8_worstBy_78 : decode cX8_worstBy 78 = .ok (.iaload, 1) := by decide +kernel
theorem dX8_worstBy_79 : decode cX8_worstBy 79 = .ok (.if_icmp .ne 10, 3) := by decide +kernel
theorem dX8_worstBy_82 : decode cX8_worstBy 82 = .ok (.iconst 1, 1) := by decide +kernel
theorem dX8_worstBy_83 : decode cX8_worstBy 83 = .ok (.iload 7, 2) := by decide +kernel
theorem dX8_worstBy_85 : decode cX8_worstBy 85 = .ok (.ishl, 1) := by decide +kernel
theorem dX8_worstBy_86 : decode cX8_worstBy 86 = .ok (.goto 4, 3) := by decide +kernel
theorem dX8_worstBy_89 : decode cX8_worstBy 89 = .ok (.iconst 0, 1) := by decide +kernel
theorem dX8_worstBy_90 : decode cX8_worstBy 90 = .ok (.ior, 1) := by decide +kernel
theorem dX8_worstBy_91 : decode cX8_worstBy 91 = .ok (.istore 6, 2) := by decide +kernel
theorem dX8_worstBy_93 : decode cX8_worstBy 93 = .ok (.iinc 7 1, 3) := by decide +kernel
theorem dX8_worstBy_96 : decode cX8_worstBy 96 = .ok (.goto (-60), 3) := by decide +kernel
theorem dX8_worstBy_99 : decode cX8_worstBy 99 = .ok (.iload 6, 2) := by decide +kernel
theorem dX8_worstBy_101 : decode cX8_worstBy 101 = .ok (.iload_n 2, 1) := by decide +kernel
theorem dX8_worstBy_102 : decode cX8_worstBy 102 = .ok (.if_icmp .ne 7, 3) := by decide +kernel
theorem dX8_worstBy_105 : decode cX8_worstBy 105 = .ok (.sipush 1000, 3) := by decide +kernel
theorem dX8_worstBy_108 : decode cX8_worstBy 108 = .ok (.ireturn, 1) := by decide +kernel
theorem dX8_worstBy_109 : decode cX8_worstBy 109 = .ok (.iload 4, 2) := by decide +kernel
theorem dX8_worstBy_111 : decode cX8_worstBy 111 = .ok (.iload 6, 2) := by decide +kernel
theorem dX8_worstBy_113 : decode cX8_worstBy 113 = .ok (.iconst (-1), 1) := by decide +kernel
theorem dX8_worstBy_114 : decode cX8_worstBy 114 = .ok (.ixor, 1) := by decide +kernel
theorem dX8_worstBy_115 : decode cX8_worstBy 115 = .ok (.iand, 1) := by decide +kernel
theorem dX8_worstBy_116 : decode cX8_worstBy 116 = .ok (.istore 4, 2) := by decide +kernel
theorem dX8_worstBy_118 : decode cX8_worstBy 118 = .ok (.aload_n 0, 1) := by decide +kernel
theorem dX8_worstBy_119 : decode cX8_worstBy 119 = .ok (.getfield 41, 3) := by decide +kernel
theorem dX8_worstBy_122 : decode cX8_worstBy 122 = .ok (.iload 6, 2) := by decide +kernel
theorem dX8_worstBy_124 : decode cX8_worstBy 124 = .ok (.iaload, 1) := by decide +kernel
theorem dX8_worstBy_125 : decode cX8_worstBy 125 = .ok (.iload_n 3, 1) := by decide +kernel
theorem dX8_worstBy_126 : decode cX8_worstBy 126 = .ok (.if_icmp .le 13, 3) := by decide +kernel
theorem dX8_worstBy_129 : decode cX8_worstBy 129 = .ok (.aload_n 0, 1) := by decide +kernel
theorem dX8_worstBy_130 : decode cX8_worstBy 130 = .ok (.getfield 41, 3) := by decide +kernel
theorem dX8_worstBy_133 : decode cX8_worstBy 133 = .ok (.iload 6, 2) := by decide +kernel
theorem dX8_worstBy_135 : decode cX8_worstBy 135 = .ok (.iaload, 1) := by decide +kernel
theorem dX8_worstBy_136 : decode cX8_worstBy 136 = .ok (.goto 4, 3) := by decide +kernel
theorem dX8_worstBy_139 : decode cX8_worstBy 139 = .ok (.iload_n 3, 1) := by decide +kernel
theorem dX8_worstBy_140 : decode cX8_worstBy 140 = .ok (.istore_n 3, 1) := by decide +kernel
theorem dX8_worstBy_141 : decode cX8_worstBy 141 = .ok (.goto (-136), 3) := by decide +kernel
theorem dX8_worstBy_144 : decode cX8_worstBy 144 = .ok (.iload_n 3, 1) := by decide +kernel
theorem dX8_worstBy_145 : decode cX8_worstBy 145 = .ok (.ireturn, 1) := by decide +kernel
theorem dX8_findNeeds_0 : decode cX8_findNeeds 0 = .ok (.aload_n 0, 1) := by decide +kernel
theorem dX8_findNeeds_1 : decode cX8_findNeeds 1 = .ok (.invokevirtual 271, 3) := by decide +kernel
theorem dX8_findNeeds_4 : decode cX8_findNeeds 4 = .ok (.iconst 0, 1) := by decide +kernel
theorem dX8_findNeeds_5 : decode cX8_findNeeds 5 = .ok (.istore_n 2, 1) := by decide +kernel
theorem dX8_findNeeds_6 : decode cX8_findNeeds 6 = .ok (.iload_n 2, 1) := by decide +kernel
theorem dX8_findNeeds_7 : decode cX8_findNeeds 7 = .ok (.iload_n 1, 1) := by decide +kernel
theorem dX8_findNeeds_8 : decode cX8_findNeeds 8 = .ok (.if_icmp .gt 102, 3) := by decide +kernel
theorem dX8_findNeeds_11 : decode cX8_findNeeds 11 = .ok (.iload_n 2, 1) := by decide +kernel
theorem dX8_findNeeds_12 : decode cX8_findNeeds 12 = .ok (.iload_n 1, 1) := by decide +kernel
theorem dX8_findNeeds_13 : decode cX8_findNeeds 13 = .ok (.iconst (-1), 1) := by decide +kernel
theorem dX8_findNeeds_14 : decode cX8_findNeeds 14 = .ok (.ixor, 1) := by decide +kernel
theorem dX8_findNeeds_15 : decode cX8_findNeeds 15 = .ok (.iand, 1) := by decide +kernel
theorem dX8_findNeeds_16 : decode cX8_findNeeds 16 = .ok (.ifCond .ne 88, 3) := by decide +kernel
theorem dX8_findNeeds_19 : decode cX8_findNeeds 19 = .ok (.aload_n 0, 1) := by decide +kernel
theorem dX8_findNeeds_20 : decode cX8_findNeeds 20 = .ok (.getfield 41, 3) := by decide +kernel
theorem dX8_findNeeds_23 : decode cX8_findNeeds 23 = .ok (.iload_n 2, 1) := by decide +kernel
theorem dX8_findNeeds_24 : decode cX8_findNeeds 24 = .ok (.aload_n 0, 1) := by decide +kernel
theorem dX8_findNeeds_25 : decode cX8_findNeeds 25 = .ok (.iload_n 2, 1) := by decide +kernel
theorem dX8_findNeeds_26 : decode cX8_findNeeds 26 = .ok (.invokevirtual 274, 3) := by decide +kernel
theorem dX8_findNeeds_29 : decode cX8_findNeeds 29 = .ok (.ifCond .eq 7, 3) := by decide +kernel
theorem dX8_findNeeds_32 : decode cX8_findNeeds 32 = .ok (.iconst 0, 1) := by decide +kernel
theorem dX8_findNeeds_33 : decode cX8_findNeeds 33 = .ok (.goto 6, 3) := by decide +kernel
theorem dX8_findNeeds_36 : decode cX8_findNeeds 36 = .ok (.sipush 1000, 3) := by decide +kernel
theorem dX8_findNeeds_39 : decode cX8_findNeeds 39 = .ok (.iastore, 1) := by decide +kernel
theorem dX8_findNeeds_40 : decode cX8_findNeeds 40 = .ok (.iconst 0, 1) := by decide +kernel
theorem dX8_findNeeds_41 : decode cX8_findNeeds 41 = .ok (.istore_n 3, 1) := by decide +kernel
theorem dX8_findNeeds_42 : decode cX8_findNeeds 42 = .ok (.iload_n 3, 1) := by decide +kernel
theorem dX8_findNeeds_43 : decode cX8_findNeeds 43 = .ok (.aload_n 0, 1) := by decide +kernel
theorem dX8_findNeeds_44 : decode cX8_findNeeds 44 = .ok (.getfield 268, 3) := by decide +kernel
theorem dX8_findNeeds_47 : decode cX8_findNeeds 47 = .ok (.if_icmp .ge 57, 3) := by decide +kernel
theorem dX8_findNeeds_50 : decode cX8_findNeeds 50 = .ok (.aload_n 0, 1) := by decide +kernel
theorem dX8_findNeeds_51 : decode cX8_findNeeds 51 = .ok (.getfield 41, 3) := by decide +kernel
theorem dX8_findNeeds_54 : decode cX8_findNeeds 54 = .ok (.iload_n 2, 1) := by decide +kernel
theorem dX8_findNeeds_55 : decode cX8_findNeeds 55 = .ok (.iaload, 1) := by decide +kernel
theorem dX8_findNeeds_56 : decode cX8_findNeeds 56 = .ok (.iconst 1, 1) := by decide +kernel
theorem dX8_findNeeds_57 : decode cX8_findNeeds 57 = .ok (.if_icmp .le 47, 3) := by decide +kernel
theorem dX8_findNeeds_60 : decode cX8_findNeeds 60 = .ok (.aload_n 0, 1) := by decide +kernel
theorem dX8_findNeeds_61 : decode cX8_findNeeds 61 = .ok (.iload_n 3, 1) := by decide +kernel
theorem dX8_findNeeds_62 : decode cX8_findNeeds 62 = .ok (.iload_n 2, 1) := by decide +kernel
theorem dX8_findNeeds_63 : decode cX8_findNeeds 63 = .ok (.invokevirtual 277, 3) := by decide +kernel
theorem dX8_findNeeds_66 : decode cX8_findNeeds 66 = .ok (.iconst 1, 1) := by decide +kernel
theorem dX8_findNeeds_67 : decode cX8_findNeeds 67 = .ok (.iadd, 1) := by decide +kernel
theorem dX8_findNeeds_68 : decode cX8_findNeeds 68 = .ok (.istore 4, 2) := by decide +kernel
theorem dX8_findNeeds_70 : decode cX8_findNeeds 70 = .ok (.aload_n 0, 1) := by decide +kernel
theorem dX8_findNeeds_71 : decode cX8_findNeeds 71 = .ok (.getfield 41, 3) := by decide +kernel
theorem dX8_findNeeds_74 : decode cX8_findNeeds 74 = .ok (.iload_n 2, 1) := by decide +kernel
theorem dX8_findNeeds_75 : decode cX8_findNeeds 75 = .ok (.iload 4, 2) := by decide +kernel
theorem dX8_findNeeds_77 : decode cX8_findNeeds 77 = .ok (.aload_n 0, 1) := by decide +kernel
theorem dX8_findNeeds_78 : decode cX8_findNeeds 78 = .ok (.getfield 41, 3) := by decide +kernel
theorem dX8_findNeeds_81 : decode cX8_findNeeds 81 = .ok (.iload_n 2, 1) := by decide +kernel
theorem dX8_findNeeds_82 : decode cX8_findNeeds 82 = .ok (.iaload, 1) := by decide +kernel
theorem dX8_findNeeds_83 : decode cX8_findNeeds 83 = .ok (.if_icmp .ge 8, 3) := by decide +kernel
theorem dX8_findNeeds_86 : decode cX8_findNeeds 86 = .ok (.iload 4, 2) := by decide +kernel
theorem dX8_findNeeds_88 : decode cX8_findNeeds 88 = .ok (.goto 9, 3) := by decide +kernel
theorem dX8_findNeeds_91 : decode cX8_findNeeds 91 = .ok (.aload_n 0, 1) := by decide +kernel
theorem dX8_findNeeds_92 : decode cX8_findNeeds 92 = .ok (.getfield 41, 3) := by decide +kernel
theorem dX8_findNeeds_95 : decode cX8_findNeeds 95 = .ok (.iload_n 2, 1) := by decide +kernel
theorem dX8_findNeeds_96 : decode cX8_findNeeds 96 = .ok (.iaload, 1) := by decide +kernel
theorem dX8_findNeeds_97 : decode cX8_findNeeds 97 = .ok (.iastore, 1) := by decide +kernel
theorem dX8_findNeeds_98 : decode cX8_findNeeds 98 = .ok (.iinc 3 1, 3) := by decide +kernel
theorem dX8_findNeeds_101 : decode cX8_findNeeds 101 = .ok (.goto (-59), 3) := by decide +kernel
theorem dX8_findNeeds_104 : decode cX8_findNeeds 104 = .ok (.iinc 2 1, 3) := by decide +kernel
theorem dX8_findNeeds_107 : decode cX8_findNeeds 107 = .ok (.goto (-101), 3) := by decide +kernel
theorem dX8_findNeeds_110 : decode cX8_findNeeds 110 = .ok (.return_, 1) := by decide +kernel
theorem dX8_allCases_0 : decode cX8_allCases 0 = .ok (.iconst 0, 1) := by decide +kernel
theorem dX8_allCases_1 : decode cX8_allCases 1 = .ok (.istore_n 1, 1) := by decide +kernel
theorem dX8_allCases_2 : decode cX8_allCases 2 = .ok (.iconst 0, 1) := by decide +kernel
theorem dX8_allCases_3 : decode cX8_allCases 3 = .ok (.istore_n 2, 1) := by decide +kernel
theorem dX8_allCases_4 : decode cX8_allCases 4 = .ok (.iload_n 2, 1) := by decide +kernel
theorem dX8_allCases_5 : decode cX8_allCases 5 = .ok (.bipush 13, 2) := by decide +kernel
theorem dX8_allCases_7 : decode cX8_allCases 7 = .ok (.if_icmp .ge 27, 3) := by decide +kernel
theorem dX8_allCases_10 : decode cX8_allCases 10 = .ok (.iload_n 1, 1) := by decide +kernel
theorem dX8_allCases_11 : decode cX8_allCases 11 = .ok (.aload_n 0, 1) := by decide +kernel
theorem dX8_allCases_12 : decode cX8_allCases 12 = .ok (.iload_n 2, 1) := by decide +kernel
theorem dX8_allCases_13 : decode cX8_allCases 13 = .ok (.invokevirtual 255, 3) := by decide +kernel
theorem dX8_allCases_16 : decode cX8_allCases 16 = .ok (.ifCond .eq 9, 3) := by decide +kernel
theorem dX8_allCases_19 : decode cX8_allCases 19 = .ok (.iconst 1, 1) := by decide +kernel
theorem dX8_allCases_20 : decode cX8_allCases 20 = .ok (.iload_n 2, 1) := by decide +kernel
theorem dX8_allCases_21 : decode cX8_allCases 21 = .ok (.ishl, 1) := by decide +kernel
theorem dX8_allCases_22 : decode cX8_allCases 22 = .ok (.goto 4, 3) := by decide +kernel
theorem dX8_allCases_25 : decode cX8_allCases 25 = .ok (.iconst 0, 1) := by decide +kernel
theorem dX8_allCases_26 : decode cX8_allCases 26 = .ok (.ior, 1) := by decide +kernel
theorem dX8_allCases_27 : decode cX8_allCases 27 = .ok (.istore_n 1, 1) := by decide +kernel
theorem dX8_allCases_28 : decode cX8_allCases 28 = .ok (.iinc 2 1, 3) := by decide +kernel
theorem dX8_allCases_31 : decode cX8_allCases 31 = .ok (.goto (-27), 3) := by decide +kernel
theorem dX8_allCases_34 : decode cX8_allCases 34 = .ok (.iload_n 1, 1) := by decide +kernel
theorem dX8_allCases_35 : decode cX8_allCases 35 = .ok (.ireturn, 1) := by decide +kernel
theorem dX8_needed_0 : decode cX8_needed 0 = .ok (.iload_n 1, 1) := by decide +kernel
theorem dX8_needed_1 : decode cX8_needed 1 = .ok (.ifCond .lt 14, 3) := by decide +kernel
theorem dX8_needed_4 : decode cX8_needed 4 = .ok (.iload_n 1, 1) := by decide +kernel
theorem dX8_needed_5 : decode cX8_needed 5 = .ok (.aload_n 0, 1) := by decide +kernel
theorem dX8_needed_6 : decode cX8_needed 6 = .ok (.invokevirtual 280, 3) := by decide +kernel
theorem dX8_needed_9 : decode cX8_needed 9 = .ok (.iconst (-1), 1) := by decide +kernel
theorem dX8_needed_10 : decode cX8_needed 10 = .ok (.ixor, 1) := by decide +kernel
theorem dX8_needed_11 : decode cX8_needed 11 = .ok (.iand, 1) := by decide +kernel
theorem dX8_needed_12 : decode cX8_needed 12 = .ok (.ifCond .eq 6, 3) := by decide +kernel
theorem dX8_needed_15 : decode cX8_needed 15 = .ok (.ldc 173, 2) := by decide +kernel
theorem dX8_needed_17 : decode cX8_needed 17 = .ok (.ireturn, 1) := by decide +kernel
theorem dX8_needed_18 : decode cX8_needed 18 = .ok (.iload_n 2, 1) := by decide +kernel
theorem dX8_needed_19 : decode cX8_needed 19 = .ok (.i2l, 1) := by decide +kernel
theorem dX8_needed_20 : decode cX8_needed 20 = .ok (.lconst 0, 1) := by decide +kernel
theorem dX8_needed_21 : decode cX8_needed 21 = .ok (.ldc2_w 283, 3) := by decide +kernel
theorem dX8_needed_24 : decode cX8_needed 24 = .ok (.invokestatic 63, 3) := by decide +kernel
theorem dX8_needed_27 : decode cX8_needed 27 = .ok (.ifCond .ne 6, 3) := by decide +kernel
theorem dX8_needed_30 : decode cX8_needed 30 = .ok (.ldc 76, 2) := by decide +kernel
theorem dX8_needed_32 : decode cX8_needed 32 = .ok (.ireturn, 1) := by decide +kernel
theorem dX8_needed_33 : decode cX8_needed 33 = .ok (.aload_n 0, 1) := by decide +kernel
theorem dX8_needed_34 : decode cX8_needed 34 = .ok (.iload_n 1, 1) := by decide +kernel
theorem dX8_needed_35 : decode cX8_needed 35 = .ok (.invokevirtual 285, 3) := by decide +kernel
theorem dX8_needed_38 : decode cX8_needed 38 = .ok (.iload_n 2, 1) := by decide +kernel
theorem dX8_needed_39 : decode cX8_needed 39 = .ok (.ifCond .eq 12, 3) := by decide +kernel
theorem dX8_needed_42 : decode cX8_needed 42 = .ok (.aload_n 0, 1) := by decide +kernel
theorem dX8_needed_43 : decode cX8_needed 43 = .ok (.getfield 41, 3) := by decide +kernel
theorem dX8_needed_46 : decode cX8_needed 46 = .ok (.iload_n 1, 1) := by decide +kernel
theorem dX8_needed_47 : decode cX8_needed 47 = .ok (.iaload, 1) := by decide +kernel
theorem dX8_needed_48 : decode cX8_needed 48 = .ok (.ifCond .ne 18, 3) := by decide +kernel
theorem dX8_needed_51 : decode cX8_needed 51 = .ok (.iload_n 2, 1) := by decide +kernel
theorem dX8_needed_52 : decode cX8_needed 52 = .ok (.ifCond .ne 12, 3) := by decide +kernel
theorem dX8_needed_55 : decode cX8_needed 55 = .ok (.aload_n 0, 1) := by decide +kernel
theorem dX8_needed_56 : decode cX8_needed 56 = .ok (.getfield 41, 3) := by decide +kernel
theorem dX8_needed_59 : decode cX8_needed 59 = .ok (.iload_n 1, 1) := by decide +kernel
theorem dX8_needed_60 : decode cX8_needed 60 = .ok (.iaload, 1) := by decide +kernel
theorem dX8_needed_61 : decode cX8_needed 61 = .ok (.goto 4, 3) := by decide +kernel
theorem dX8_needed_64 : decode cX8_needed 64 = .ok (.iconst (-1), 1) := by decide +kernel
theorem dX8_needed_65 : decode cX8_needed 65 = .ok (.ireturn, 1) := by decide +kernel
theorem dX8_needed_66 : decode cX8_needed 66 = .ok (.iconst 0, 1) := by decide +kernel
theorem dX8_needed_67 : decode cX8_needed 67 = .ok (.istore_n 3, 1) := by decide +kernel
theorem dX8_needed_68 : decode cX8_needed 68 = .ok (.aload_n 0, 1) := by decide +kernel
theorem dX8_needed_69 : decode cX8_needed 69 = .ok (.iload_n 3, 1) := by decide +kernel
theorem dX8_needed_70 : decode cX8_needed 70 = .ok (.iload_n 1, 1) := by decide +kernel
theorem dX8_needed_71 : decode cX8_needed 71 = .ok (.invokevirtual 277, 3) := by decide +kernel
theorem dX8_needed_74 : decode cX8_needed 74 = .ok (.iconst 1, 1) := by decide +kernel
theorem dX8_needed_75 : decode cX8_needed 75 = .ok (.iadd, 1) := by decide +kernel
theorem dX8_needed_76 : decode cX8_needed 76 = .ok (.aload_n 0, 1) := by decide +kernel
theorem dX8_needed_77 : decode cX8_needed 77 = .ok (.getfield 41, 3) := by decide +kernel
theorem dX8_needed_80 : decode cX8_needed 80 = .ok (.iload_n 1, 1) := by decide +kernel
theorem dX8_needed_81 : decode cX8_needed 81 = .ok (.iaload, 1) := by decide +kernel
theorem dX8_needed_82 : decode cX8_needed 82 = .ok (.if_icmp .eq 9, 3) := by decide +kernel
theorem dX8_needed_85 : decode cX8_needed 85 = .ok (.iinc 3 1, 3) := by decide +kernel
theorem dX8_needed_88 : decode cX8_needed 88 = .ok (.goto (-20), 3) := by decide +kernel
theorem dX8_needed_91 : decode cX8_needed 91 = .ok (.iconst 1, 1) := by decide +kernel
theorem dX8_needed_92 : decode cX8_needed 92 = .ok (.aload_n 0, 1) := by decide +kernel
theorem dX8_needed_93 : decode cX8_needed 93 = .ok (.getfield 67, 3) := by decide +kernel
theorem dX8_needed_96 : decode cX8_needed 96 = .ok (.ishl, 1) := by decide +kernel
theorem dX8_needed_97 : decode cX8_needed 97 = .ok (.iconst 1, 1) := by decide +kernel
theorem dX8_needed_98 : decode cX8_needed 98 = .ok (.isub, 1) := by decide +kernel
theorem dX8_needed_99 : decode cX8_needed 99 = .ok (.istore 4, 2) := by decide +kernel
theorem dX8_needed_101 : decode cX8_needed 101 = .ok (.iload_n 2, 1) := by decide +kernel
theorem dX8_needed_102 : decode cX8_needed 102 = .ok (.iconst 1, 1) := by decide +kernel
theorem dX8_needed_103 : decode cX8_needed 103 = .ok (.if_icmp .ne 10, 3) := by decide +kernel
theorem dX8_needed_106 : decode cX8_needed 106 = .ok (.iload_n 3, 1) := by decide +kernel
theorem dX8_needed_107 : decode cX8_needed 107 = .ok (.iload 4, 2) := by decide +kernel
theorem dX8_needed_109 : decode cX8_needed 109 = .ok (.idiv, 1) := by decide +kernel
theorem dX8_needed_110 : decode cX8_needed 110 = .ok (.goto 9, 3) := by decide +kernel
theorem dX8_needed_113 : decode cX8_needed 113 = .ok (.iconst 1, 1) := by decide +kernel
theorem dX8_needed_114 : decode cX8_needed 114 = .ok (.iload_n 3, 1) := by decide +kernel
theorem dX8_needed_115 : decode cX8_needed 115 = .ok (.iload 4, 2) := by decide +kernel
theorem dX8_needed_117 : decode cX8_needed 117 = .ok (.irem, 1) := by decide +kernel
theorem dX8_needed_118 : decode cX8_needed 118 = .ok (.iadd, 1) := by decide +kernel
theorem dX8_needed_119 : decode cX8_needed 119 = .ok (.ireturn, 1) := by decide +kernel
theorem dX8_away_0 : decode cX8_away 0 = .ok (.iconst 0, 1) := by decide +kernel
theorem dX8_away_1 : decode cX8_away 1 = .ok (.istore_n 1, 1) := by decide +kernel
theorem dX8_away_2 : decode cX8_away 2 = .ok (.iload_n 1, 1) := by decide +kernel
theorem dX8_away_3 : decode cX8_away 3 = .ok (.aload_n 0, 1) := by decide +kernel
theorem dX8_away_4 : decode cX8_away 4 = .ok (.getfield 67, 3) := by decide +kernel
theorem dX8_away_7 : decode cX8_away 7 = .ok (.if_icmp .ge 91, 3) := by decide +kernel
theorem dX8_away_10 : decode cX8_away 10 = .ok (.iconst 0, 1) := by decide +kernel
theorem dX8_away_11 : decode cX8_away 11 = .ok (.istore_n 2, 1) := by decide +kernel
theorem dX8_away_12 : decode cX8_away 12 = .ok (.iload_n 2, 1) := by decide +kernel
theorem dX8_away_13 : decode cX8_away 13 = .ok (.bipush 36, 2) := by decide +kernel
theorem dX8_away_15 : decode cX8_away 15 = .ok (.if_icmp .ge 77, 3) := by decide +kernel
theorem dX8_away_18 : decode cX8_away 18 = .ok (.iconst 1, 1) := by decide +kernel
theorem dX8_away_19 : decode cX8_away 19 = .ok (.iload_n 2, 1) := by decide +kernel
theorem dX8_away_20 : decode cX8_away 20 = .ok (.bipush 6, 2) := by decide +kernel
theorem dX8_away_22 : decode cX8_away 22 = .ok (.idiv, 1) := by decide +kernel
theorem dX8_away_23 : decode cX8_away 23 = .ok (.iadd, 1) := by decide +kernel
theorem dX8_away_24 : decode cX8_away 24 = .ok (.istore_n 3, 1) := by decide +kernel
theorem dX8_away_25 : decode cX8_away 25 = .ok (.iconst 1, 1) := by decide +kernel
theorem dX8_away_26 : decode cX8_away 26 = .ok (.iload_n 2, 1) := by decide +kernel
theorem dX8_away_27 : decode cX8_away 27 = .ok (.bipush 6, 2) := by decide +kernel
theorem dX8_away_29 : decode cX8_away 29 = .ok (.irem, 1) := by decide +kernel
theorem dX8_away_30 : decode cX8_away 30 = .ok (.iadd, 1) := by decide +kernel
theorem dX8_away_31 : decode cX8_away 31 = .ok (.istore 4, 2) := by decide +kernel
theorem dX8_away_33 : decode cX8_away 33 = .ok (.iload_n 3, 1) := by decide +kernel
theorem dX8_away_34 : decode cX8_away 34 = .ok (.iload 4, 2) := by decide +kernel
theorem dX8_away_36 : decode cX8_away 36 = .ok (.if_icmp .ge 16, 3) := by decide +kernel
theorem dX8_away_39 : decode cX8_away 39 = .ok (.iload 4, 2) := by decide +kernel
theorem dX8_away_41 : decode cX8_away 41 = .ok (.aload_n 0, 1) := by decide +kernel
theorem dX8_away_42 : decode cX8_away 42 = .ok (.getfield 67, 3) := by decide +kernel
theorem dX8_away_45 : decode cX8_away 45 = .ok (.if_icmp .gt 7, 3) := by decide +kernel
theorem dX8_away_48 : decode cX8_away 48 = .ok (.iconst 1, 1) := by decide +kernel
theorem dX8_away_49 : decode cX8_away 49 = .ok (.goto 4, 3) := by decide +kernel
theorem dX8_away_52 : decode cX8_away 52 = .ok (.iconst 0, 1) := by decide +kernel
theorem dX8_away_53 : decode cX8_away 53 = .ok (.istore 5, 2) := by decide +kernel
theorem dX8_away_55 : decode cX8_away 55 = .ok (.iload 5, 2) := by decide +kernel
theorem dX8_away_57 : decode cX8_away 57 = .ok (.ifCond .eq 29, 3) := by decide +kernel
theorem dX8_away_60 : decode cX8_away 60 = .ok (.aload_n 0, 1) := by decide +kernel
theorem dX8_away_61 : decode cX8_away 61 = .ok (.iload_n 3, 1) := by decide +kernel
theorem dX8_away_62 : decode cX8_away 62 = .ok (.iload 4, 2) := by decide +kernel
theorem dX8_away_64 : decode cX8_away 64 = .ok (.iconst 0, 1) := by decide +kernel
theorem dX8_away_65 : decode cX8_away 65 = .ok (.invokevirtual 261, 3) := by decide +kernel
theorem dX8_away_68 : decode cX8_away 68 = .ok (.ifCond .eq 18, 3) := by decide +kernel
theorem dX8_away_71 : decode cX8_away 71 = .ok (.aload_n 0, 1) := by decide +kernel
theorem dX8_away_72 : decode cX8_away 72 = .ok (.iload_n 3, 1) := by decide +kernel
theorem dX8_away_73 : decode cX8_away 73 = .ok (.iload 4, 2) := by decide +kernel
theorem dX8_away_75 : decode cX8_away 75 = .ok (.iconst 1, 1) := by decide +kernel
theorem dX8_away_76 : decode cX8_away 76 = .ok (.iload_n 1, 1) := by decide +kernel
theorem dX8_away_77 : decode cX8_away 77 = .ok (.ishl, 1) := by decide +kernel
theorem dX8_away_78 : decode cX8_away 78 = .ok (.invokevirtual 261, 3) := by decide +kernel
theorem dX8_away_81 : decode cX8_away 81 = .ok (.ifCond .ne 5, 3) := by decide +kernel
theorem dX8_away_84 : decode cX8_away 84 = .ok (.iload_n 1, 1) := by decide +kernel
theorem dX8_away_85 : decode cX8_away 85 = .ok (.ireturn, 1) := by decide +kernel
theorem dX8_away_86 : decode cX8_away 86 = .ok (.iinc 2 1, 3) := by decide +kernel
theorem dX8_away_89 : decode cX8_away 89 = .ok (.goto (-77), 3) := by decide +kernel
theorem dX8_away_92 : decode cX8_away 92 = .ok (.iinc 1 1, 3) := by decide +kernel
theorem dX8_away_95 : decode cX8_away 95 = .ok (.goto (-93), 3) := by decide +kernel
theorem dX8_away_98 : decode cX8_away 98 = .ok (.iconst (-1), 1) := by decide +kernel
theorem dX8_away_99 : decode cX8_away 99 = .ok (.ireturn, 1) := by decide +kernel
theorem dX8_called_0 : decode cX8_called 0 = .ok (.iload_n 1, 1) := by decide +kernel
theorem dX8_called_1 : decode cX8_called 1 = .ok (.i2l, 1) := by decide +kernel
theorem dX8_called_2 : decode cX8_called 2 = .ok (.lconst 0, 1) := by decide +kernel
theorem dX8_called_3 : decode cX8_called 3 = .ok (.ldc2_w 289, 3) := by decide +kernel
theorem dX8_called_6 : decode cX8_called 6 = .ok (.invokestatic 63, 3) := by decide +kernel
theorem dX8_called_9 : decode cX8_called 9 = .ok (.ifCond .eq 13, 3) := by decide +kernel
theorem dX8_called_12 : decode cX8_called 12 = .ok (.iload_n 2, 1) := by decide +kernel
theorem dX8_called_13 : decode cX8_called 13 = .ok (.i2l, 1) := by decide +kernel
theorem dX8_called_14 : decode cX8_called 14 = .ok (.lconst 0, 1) := by decide +kernel
theorem dX8_called_15 : decode cX8_called 15 = .ok (.lconst 1, 1) := by decide +kernel
theorem dX8_called_16 : decode cX8_called 16 = .ok (.invokestatic 63, 3) := by decide +kernel
theorem dX8_called_19 : decode cX8_called 19 = .ok (.ifCond .ne 6, 3) := by decide +kernel
theorem dX8_called_22 : decode cX8_called 22 = .ok (.ldc 76, 2) := by decide +kernel
theorem dX8_called_24 : decode cX8_called 24 = .ok (.ireturn, 1) := by decide +kernel
theorem dX8_called_25 : decode cX8_called 25 = .ok (.aload_n 0, 1) := by decide +kernel
theorem dX8_called_26 : decode cX8_called 26 = .ok (.getfield 60, 3) := by decide +kernel
theorem dX8_called_29 : decode cX8_called 29 = .ok (.ifCond .ne 7, 3) := by decide +kernel
theorem dX8_called_32 : decode cX8_called 32 = .ok (.ldc_w 291, 3) := by decide +kernel
theorem dX8_called_35 : decode cX8_called 35 = .ok (.ireturn, 1) := by decide +kernel
theorem dX8_called_36 : decode cX8_called 36 = .ok (.aload_n 0, 1) := by decide +kernel
theorem dX8_called_37 : decode cX8_called 37 = .ok (.invokevirtual 181, 3) := by decide +kernel
theorem dX8_called_40 : decode cX8_called 40 = .ok (.aload_n 0, 1) := by decide +kernel
theorem dX8_called_41 : decode cX8_called 41 = .ok (.getfield 60, 3) := by decide +kernel
theorem dX8_called_44 : decode cX8_called 44 = .ok (.iconst 1, 1) := by decide +kernel
theorem dX8_called_45 : decode cX8_called 45 = .ok (.if_icmp .le 20, 3) := by decide +kernel
theorem dX8_called_48 : decode cX8_called 48 = .ok (.aload_n 0, 1) := by decide +kernel
theorem dX8_called_49 : decode cX8_called 49 = .ok (.iconst 1, 1) := by decide +kernel
theorem dX8_called_50 : decode cX8_called 50 = .ok (.invokevirtual 187, 3) := by decide +kernel
theorem dX8_called_53 : decode cX8_called 53 = .ok (.aload_n 0, 1) := by decide +kernel
theorem dX8_called_54 : decode cX8_called 54 = .ok (.iconst 0, 1) := by decide +kernel
theorem dX8_called_55 : decode cX8_called 55 = .ok (.invokevirtual 187, 3) := by decide +kernel
theorem dX8_called_58 : decode cX8_called 58 = .ok (.if_icmp .ge 7, 3) := by decide +kernel
theorem dX8_called_61 : decode cX8_called 61 = .ok (.iconst 1, 1) := by decide +kernel
theorem dX8_called_62 : decode cX8_called 62 = .ok (.goto 4, 3) := by decide +kernel
theorem dX8_called_65 : decode cX8_called 65 = .ok (.iconst 0, 1) := by decide +kernel
theorem dX8_called_66 : decode cX8_called 66 = .ok (.istore_n 3, 1) := by decide +kernel
theorem dX8_called_67 : decode cX8_called 67 = .ok (.iconst 0, 1) := by decide +kernel
theorem dX8_called_68 : decode cX8_called 68 = .ok (.istore 4, 2) := by decide +kernel
theorem dX8_called_70 : decode cX8_called 70 = .ok (.iconst 0, 1) := by decide +kernel
theorem dX8_called_71 : decode cX8_called 71 = .ok (.istore 5, 2) := by decide +kernel
theorem dX8_called_73 : decode cX8_called 73 = .ok (.iconst 0, 1) := by decide +kernel
theorem dX8_called_74 : decode cX8_called 74 = .ok (.istore 6, 2) := by decide +kernel
theorem dX8_called_76 : decode cX8_called 76 = .ok (.iload 6, 2) := by decide +kernel
theorem dX8_called_78 : decode cX8_called 78 = .ok (.aload_n 0, 1) := by decide +kernel
theorem dX8_called_79 : decode cX8_called 79 = .ok (.getfield 67, 3) := by decide +kernel
theorem dX8_called_82 : decode cX8_called 82 = .ok (.if_icmp .ge 132, 3) := by decide +kernel
theorem dX8_called_85 : decode cX8_called 85 = .ok (.aload_n 0, 1) := by decide +kernel
theorem dX8_called_86 : decode cX8_called 86 = .ok (.getfield 35, 3) := by decide +kernel
theorem dX8_called_89 : decode cX8_called 89 = .ok (.iload 6, 2) := by decide +kernel
theorem dX8_called_91 : decode cX8_called 91 = .ok (.iaload, 1) := by decide +kernel
theorem dX8_called_92 : decode cX8_called 92 = .ok (.istore 7, 2) := by decide +kernel
theorem dX8_called_94 : decode cX8_called 94 = .ok (.aload_n 0, 1) := by decide +kernel
theorem dX8_called_95 : decode cX8_called 95 = .ok (.getfield 38, 3) := by decide +kernel
theorem dX8_called_98 : decode cX8_called 98 = .ok (.iload 6, 2) := by decide +kernel
theorem dX8_called_100 : decode cX8_called 100 = .ok (.iaload, 1) := by decide +kernel
theorem dX8_called_101 : decode cX8_called 101 = .ok (.istore 8, 2) := by decide +kernel
theorem dX8_called_103 : decode cX8_called 103 = .ok (.iload 8, 2) := by decide +kernel
theorem dX8_called_105 : decode cX8_called 105 = .ok (.iload 7, 2) := by decide +kernel
theorem dX8_called_107 : decode cX8_called 107 = .ok (.isub, 1) := by decide +kernel
theorem dX8_called_108 : decode cX8_called 108 = .ok (.iload_n 1, 1) := by decide +kernel
theorem dX8_called_109 : decode cX8_called 109 = .ok (.if_icmp .le 77, 3) := by decide +kernel
theorem dX8_called_112 : decode cX8_called 112 = .ok (.iinc 4 1, 3) := by decide +kernel
theorem dX8_called_115 : decode cX8_called 115 = .ok (.aload_n 0, 1) := by decide +kernel
theorem dX8_called_116 : decode cX8_called 116 = .ok (.iload_n 3, 1) := by decide +kernel
theorem dX8_called_117 : decode cX8_called 117 = .ok (.iconst 0, 1) := by decide +kernel
theorem dX8_called_118 : decode cX8_called 118 = .ok (.aload_n 0, 1) := by decide +kernel
theorem dX8_called_119 : decode cX8_called 119 = .ok (.getfield 13, 3) := by decide +kernel
theorem dX8_called_122 : decode cX8_called 122 = .ok (.iconst 4, 1) := by decide +kernel
theorem dX8_called_123 : decode cX8_called 123 = .ok (.iload 6, 2) := by decide +kernel
theorem dX8_called_125 : decode cX8_called 125 = .ok (.imul, 1) := by decide +kernel
theorem dX8_called_126 : decode cX8_called 126 = .ok (.iconst 2, 1) := by decide +kernel
theorem dX8_called_127 : decode cX8_called 127 = .ok (.iadd, 1) := by decide +kernel
theorem dX8_called_128 : decode cX8_called 128 = .ok (.iaload, 1) := by decide +kernel
theorem dX8_called_129 : decode cX8_called 129 = .ok (.invokevirtual 204, 3) := by decide +kernel
theorem dX8_called_132 : decode cX8_called 132 = .ok (.istore 9, 2) := by decide +kernel
theorem dX8_called_134 : decode cX8_called 134 = .ok (.aload_n 0, 1) := by decide +kernel
theorem dX8_called_135 : decode cX8_called 135 = .ok (.iload_n 3, 1) := by decide +kernel
theorem dX8_called_136 : decode cX8_called 136 = .ok (.iconst 0, 1) := by decide +kernel
theorem dX8_called_137 : decode cX8_called 137 = .ok (.iload 9, 2) := by decide +kernel
theorem dX8_called_139 : decode cX8_called 139 = .ok (.invokevirtual 214, 3) := by decide +kernel
theorem dX8_called_142 : decode cX8_called 142 = .ok (.istore 10, 2) := by decide +kernel
theorem dX8_called_144 : decode cX8_called 144 = .ok (.aload_n 0, 1) := by decide +kernel
theorem dX8_called_145 : decode cX8_called 145 = .ok (.iload_n 3, 1) := by decide +kernel
theorem dX8_called_146 : decode cX8_called 146 = .ok (.iconst 0, 1) := by decide +kernel
theorem dX8_called_147 : decode cX8_called 147 = .ok (.iload 9, 2) := by decide +kernel
theorem dX8_called_149 : decode cX8_called 149 = .ok (.invokevirtual 211, 3) := by decide +kernel
theorem dX8_called_152 : decode cX8_called 152 = .ok (.istore 11, 2) := by decide +kernel
theorem dX8_called_154 : decode cX8_called 154 = .ok (.iload 10, 2) := by decide +kernel
theorem dX8_called_156 : decode cX8_called 156 = .ok (.iload 7, 2) := by decide +kernel
theorem dX8_called_158 : decode cX8_called 158 = .ok (.if_icmp .le 8, 3) := by decide +kernel
theorem dX8_called_161 : decode cX8_called 161 = .ok (.iload 10, 2) := by decide +kernel
theorem dX8_called_163 : decode cX8_called 163 = .ok (.goto 5, 3) := by decide +kernel
theorem dX8_called_166 : decode cX8_called 166 = .ok (.iload 7, 2) := by decide +kernel
theorem dX8_called_168 : decode cX8_called 168 = .ok (.istore 7, 2) := by decide +kernel
theorem dX8_called_170 : decode cX8_called 170 = .ok (.iload 11, 2) := by decide +kernel
theorem dX8_called_172 : decode cX8_called 172 = .ok (.iload 8, 2) := by decide +kernel
theorem dX8_called_174 : decode cX8_called 174 = .ok (.if_icmp .ge 8, 3) := by decide +kernel
theorem dX8_called_177 : decode cX8_called 177 = .ok (.iload 11, 2) := by decide +kernel
theorem dX8_called_179 : decode cX8_called 179 = .ok (.goto 5, 3) := by decide +kernel
theorem dX8_called_182 : decode cX8_called 182 = .ok (.iload 8, 2) := by decide +kernel
theorem dX8_called_184 : decode cX8_called 184 = .ok (.istore 8, 2) := by decide +kernel
theorem dX8_called_186 : decode cX8_called 186 = .ok (.iload 8, 2) := by decide +kernel
theorem dX8_called_188 : decode cX8_called 188 = .ok (.iload 7, 2) := by decide +kernel
theorem dX8_called_190 : decode cX8_called 190 = .ok (.isub, 1) := by decide +kernel
theorem dX8_called_191 : decode cX8_called 191 = .ok (.iload 5, 2) := by decide +kernel
theorem dX8_called_193 : decode cX8_called 193 = .ok (.if_icmp .le 11, 3) := by decide +kernel
theorem dX8_called_196 : decode cX8_called 196 = .ok (.iload 8, 2) := by decide +kernel
theorem dX8_called_198 : decode cX8_called 198 = .ok (.iload 7, 2) := by decide +kernel
theorem dX8_called_200 : decode cX8_called 200 = .ok (.isub, 1) := by decide +kernel
theorem dX8_called_201 : decode cX8_called 201 = .ok (.goto 5, 3) := by decide +kernel
theorem dX8_called_204 : decode cX8_called 204 = .ok (.iload 5, 2) := by decide +kernel
theorem dX8_called_206 : decode cX8_called 206 = .ok (.istore 5, 2) := by decide +kernel
theorem dX8_called_208 : decode cX8_called 208 = .ok (.iinc 6 1, 3) := by decide +kernel
theorem dX8_called_211 : decode cX8_called 211 = .ok (.goto (-135), 3) := by decide +kernel
theorem dX8_called_214 : decode cX8_called 214 = .ok (.iload_n 2, 1) := by decide +kernel
theorem dX8_called_215 : decode cX8_called 215 = .ok (.ifCond .ne 8, 3) := by decide +kernel
theorem dX8_called_218 : decode cX8_called 218 = .ok (.iload 4, 2) := by decide +kernel
theorem dX8_called_220 : decode cX8_called 220 = .ok (.goto 5, 3) := by decide +kernel
theorem dX8_called_223 : decode cX8_called 223 = .ok (.iload 5, 2) := by decide +kernel
theorem dX8_called_225 : decode cX8_called 225 = .ok (.ireturn, 1) := by decide +kernel
theorem dX8_write_0 : decode cX8_write 0 = .ok (.aload_n 0, 1) := by decide +kernel
theorem dX8_write_1 : decode cX8_write 1 = .ok (.iload_n 1, 1) := by decide +kernel
theorem dX8_write_2 : decode cX8_write 2 = .ok (.iload_n 3, 1) := by decide +kernel
theorem dX8_write_3 : decode cX8_write 3 = .ok (.invokevirtual 227, 3) := by decide +kernel
theorem dX8_write_6 : decode cX8_write 6 = .ok (.ifCond .ne 6, 3) := by decide +kernel
theorem dX8_write_9 : decode cX8_write 9 = .ok (.ldc 173, 2) := by decide +kernel
theorem dX8_write_11 : decode cX8_write 11 = .ok (.ireturn, 1) := by decide +kernel
theorem dX8_write_12 : decode cX8_write 12 = .ok (.iload_n 2, 1) := by decide +kernel
theorem dX8_write_13 : decode cX8_write 13 = .ok (.invokestatic 198, 3) := by decide +kernel
theorem dX8_write_16 : decode cX8_write 16 = .ok (.ifCond .eq 11, 3) := by decide +kernel
theorem dX8_write_19 : decode cX8_write 19 = .ok (.iload 4, 2) := by decide +kernel
theorem dX8_write_21 : decode cX8_write 21 = .ok (.invokestatic 208, 3) := by decide +kernel
theorem dX8_write_24 : decode cX8_write 24 = .ok (.ifCond .ne 6, 3) := by decide +kernel
theorem dX8_write_27 : decode cX8_write 27 = .ok (.ldc 76, 2) := by decide +kernel
theorem dX8_write_29 : decode cX8_write 29 = .ok (.ireturn, 1) := by decide +kernel
theorem dX8_write_30 : decode cX8_write 30 = .ok (.aload_n 0, 1) := by decide +kernel
theorem dX8_write_31 : decode cX8_write 31 = .ok (.getfield 163, 3) := by decide +kernel
theorem dX8_write_34 : decode cX8_write 34 = .ok (.bipush 30, 2) := by decide +kernel
theorem dX8_write_36 : decode cX8_write 36 = .ok (.if_icmp .ne 6, 3) := by decide +kernel
theorem dX8_write_39 : decode cX8_write 39 = .ok (.ldc 80, 2) := by decide +kernel
theorem dX8_write_41 : decode cX8_write 41 = .ok (.ireturn, 1) := by decide +kernel
theorem dX8_write_42 : decode cX8_write 42 = .ok (.aload_n 0, 1) := by decide +kernel
theorem dX8_write_43 : decode cX8_write 43 = .ok (.getfield 50, 3) := by decide +kernel
theorem dX8_write_46 : decode cX8_write 46 = .ok (.iconst 4, 1) := by decide +kernel
theorem dX8_write_47 : decode cX8_write 47 = .ok (.aload_n 0, 1) := by decide +kernel
theorem dX8_write_48 : decode cX8_write 48 = .ok (.getfield 163, 3) := by decide +kernel
theorem dX8_write_51 : decode cX8_write 51 = .ok (.imul, 1) := by decide +kernel
theorem dX8_write_52 : decode cX8_write 52 = .ok (.iload_n 1, 1) := by decide +kernel
theorem dX8_write_53 : decode cX8_write 53 = .ok (.iastore, 1) := by decide +kernel
theorem dX8_write_54 : decode cX8_write 54 = .ok (.aload_n 0, 1) := by decide +kernel
theorem dX8_write_55 : decode cX8_write 55 = .ok (.getfield 50, 3) := by decide +kernel
theorem dX8_write_58 : decode cX8_write 58 = .ok (.iconst 4, 1) := by decide +kernel
theorem dX8_write_59 : decode cX8_write 59 = .ok (.aload_n 0, 1) := by decide +kernel
theorem dX8_write_60 : decode cX8_write 60 = .ok (.getfield 163, 3) := by decide +kernel
theorem dX8_write_63 : decode cX8_write 63 = .ok (.imul, 1) := by decide +kernel
theorem dX8_write_64 : decode cX8_write 64 = .ok (.iconst 1, 1) := by decide +kernel
theorem dX8_write_65 : decode cX8_write 65 = .ok (.iadd, 1) := by decide +kernel
theorem dX8_write_66 : decode cX8_write 66 = .ok (.iload_n 2, 1) := by decide +kernel
theorem dX8_write_67 : decode cX8_write 67 = .ok (.iastore, 1) := by decide +kernel
theorem dX8_write_68 : decode cX8_write 68 = .ok (.aload_n 0, 1) := by decide +kernel
theorem dX8_write_69 : decode cX8_write 69 = .ok (.getfield 50, 3) := by decide +kernel
theorem dX8_write_72 : decode cX8_write 72 = .ok (.iconst 4, 1) := by decide +kernel
theorem dX8_write_73 : decode cX8_write 73 = .ok (.aload_n 0, 1) := by decide +kernel
theorem dX8_write_74 : decode cX8_write 74 = .ok (.getfield 163, 3) := by decide +kernel
theorem dX8_write_77 : decode cX8_write 77 = .ok (.imul, 1) := by decide +kernel
theorem dX8_write_78 : decode cX8_write 78 = .ok (.iconst 2, 1) := by decide +kernel
theorem dX8_write_79 : decode cX8_write 79 = .ok (.iadd, 1) := by decide +kernel
theorem dX8_write_80 : decode cX8_write 80 = .ok (.iload_n 3, 1) := by decide +kernel
theorem dX8_write_81 : decode cX8_write 81 = .ok (.iastore, 1) := by decide +kernel
theorem dX8_write_82 : decode cX8_write 82 = .ok (.aload_n 0, 1) := by decide +kernel
theorem dX8_write_83 : decode cX8_write 83 = .ok (.getfield 50, 3) := by decide +kernel
theorem dX8_write_86 : decode cX8_write 86 = .ok (.iconst 4, 1) := by decide +kernel
theorem dX8_write_87 : decode cX8_write 87 = .ok (.aload_n 0, 1) := by decide +kernel
theorem dX8_write_88 : decode cX8_write 88 = .ok (.getfield 163, 3) := by decide +kernel
theorem dX8_write_91 : decode cX8_write 91 = .ok (.imul, 1) := by decide +kernel
theorem dX8_write_92 : decode cX8_write 92 = .ok (.iconst 3, 1) := by decide +kernel
theorem dX8_write_93 : decode cX8_write 93 = .ok (.iadd, 1) := by decide +kernel
theorem dX8_write_94 : decode cX8_write 94 = .ok (.iload 4, 2) := by decide +kernel
theorem dX8_write_96 : decode cX8_write 96 = .ok (.iastore, 1) := by decide +kernel
theorem dX8_write_97 : decode cX8_write 97 = .ok (.aload_n 0, 1) := by decide +kernel
theorem dX8_write_98 : decode cX8_write 98 = .ok (.dup, 1) := by decide +kernel
theorem dX8_write_99 : decode cX8_write 99 = .ok (.getfield 163, 3) := by decide +kernel
theorem dX8_write_102 : decode cX8_write 102 = .ok (.iconst 1, 1) := by decide +kernel
theorem dX8_write_103 : decode cX8_write 103 = .ok (.iadd, 1) := by decide +kernel
theorem dX8_write_104 : decode cX8_write 104 = .ok (.putfield 163, 3) := by decide +kernel
theorem dX8_write_107 : decode cX8_write 107 = .ok (.aload_n 0, 1) := by decide +kernel
theorem dX8_write_108 : decode cX8_write 108 = .ok (.getfield 163, 3) := by decide +kernel
theorem dX8_write_111 : decode cX8_write 111 = .ok (.ireturn, 1) := by decide +kernel
theorem dX8_tear_0 : decode cX8_tear 0 = .ok (.aload_n 0, 1) := by decide +kernel
theorem dX8_tear_1 : decode cX8_tear 1 = .ok (.getfield 163, 3) := by decide +kernel
theorem dX8_tear_4 : decode cX8_tear 4 = .ok (.istore_n 1, 1) := by decide +kernel
theorem dX8_tear_5 : decode cX8_tear 5 = .ok (.aload_n 0, 1) := by decide +kernel
theorem dX8_tear_6 : decode cX8_tear 6 = .ok (.iconst 0, 1) := by decide +kernel
theorem dX8_tear_7 : decode cX8_tear 7 = .ok (.putfield 163, 3) := by decide +kernel
theorem dX8_tear_10 : decode cX8_tear 10 = .ok (.iload_n 1, 1) := by decide +kernel
theorem dX8_tear_11 : decode cX8_tear 11 = .ok (.ireturn, 1) := by decide +kernel
theorem dX8_judge_0 : decode cX8_judge 0 = .ok (.iconst 0, 1) := by decide +kernel
theorem dX8_judge_1 : decode cX8_judge 1 = .ok (.istore_n 1, 1) := by decide +kernel
theorem dX8_judge_2 : decode cX8_judge 2 = .ok (.iload_n 1, 1) := by decide +kernel
theorem dX8_judge_3 : decode cX8_judge 3 = .ok (.aload_n 0, 1) := by decide +kernel
theorem dX8_judge_4 : decode cX8_judge 4 = .ok (.getfield 163, 3) := by decide +kernel
theorem dX8_judge_7 : decode cX8_judge 7 = .ok (.if_icmp .ge 60, 3) := by decide +kernel
theorem dX8_judge_10 : decode cX8_judge 10 = .ok (.aload_n 0, 1) := by decide +kernel
theorem dX8_judge_11 : decode cX8_judge 11 = .ok (.aload_n 0, 1) := by decide +kernel
theorem dX8_judge_12 : decode cX8_judge 12 = .ok (.getfield 50, 3) := by decide +kernel
theorem dX8_judge_15 : decode cX8_judge 15 = .ok (.iconst 4, 1) := by decide +kernel
theorem dX8_judge_16 : decode cX8_judge 16 = .ok (.iload_n 1, 1) := by decide +kernel
theorem dX8_judge_17 : decode cX8_judge 17 = .ok (.imul, 1) := by decide +kernel
theorem dX8_judge_18 : decode cX8_judge 18 = .ok (.iaload, 1) := by decide +kernel
theorem dX8_judge_19 : decode cX8_judge 19 = .ok (.aload_n 0, 1) := by decide +kernel
theorem dX8_judge_20 : decode cX8_judge 20 = .ok (.getfield 50, 3) := by decide +kernel
theorem dX8_judge_23 : decode cX8_judge 23 = .ok (.iconst 4, 1) := by decide +kernel
theorem dX8_judge_24 : decode cX8_judge 24 = .ok (.iload_n 1, 1) := by decide +kernel
theorem dX8_judge_25 : decode cX8_judge 25 = .ok (.imul, 1) := by decide +kernel
theorem dX8_judge_26 : decode cX8_judge 26 = .ok (.iconst 1, 1) := by decide +kernel
theorem dX8_judge_27 : decode cX8_judge 27 = .ok (.iadd, 1) := by decide +kernel
theorem dX8_judge_28 : decode cX8_judge 28 = .ok (.iaload, 1) := by decide +kernel
theorem dX8_judge_29 : decode cX8_judge 29 = .ok (.aload_n 0, 1) := by decide +kernel
theorem dX8_judge_30 : decode cX8_judge 30 = .ok (.aload_n 0, 1) := by decide +kernel
theorem dX8_judge_31 : decode cX8_judge 31 = .ok (.getfield 50, 3) := by decide +kernel
theorem dX8_judge_34 : decode cX8_judge 34 = .ok (.iconst 4, 1) := by decide +kernel
theorem dX8_judge_35 : decode cX8_judge 35 = .ok (.iload_n 1, 1) := by decide +kernel
theorem dX8_judge_36 : decode cX8_judge 36 = .ok (.imul, 1) := by decide +kernel
theorem dX8_judge_37 : decode cX8_judge 37 = .ok (.iconst 2, 1) := by decide +kernel
theorem dX8_judge_38 : decode cX8_judge 38 = .ok (.iadd, 1) := by decide +kernel
theorem dX8_judge_39 : decode cX8_judge 39 = .ok (.iaload, 1) := by decide +kernel
theorem dX8_judge_40 : decode cX8_judge 40 = .ok (.invokevirtual 201, 3) := by decide +kernel
theorem dX8_judge_43 : decode cX8_judge 43 = .ok (.invokevirtual 204, 3) := by decide +kernel
theorem dX8_judge_46 : decode cX8_judge 46 = .ok (.aload_n 0, 1) := by decide +kernel
theorem dX8_judge_47 : decode cX8_judge 47 = .ok (.getfield 50, 3) := by decide +kernel
theorem dX8_judge_50 : decode cX8_judge 50 = .ok (.iconst 4, 1) := by decide +kernel
theorem dX8_judge_51 : decode cX8_judge 51 = .ok (.iload_n 1, 1) := by decide +kernel
theorem dX8_judge_52 : decode cX8_judge 52 = .ok (.imul, 1) := by decide +kernel
theorem dX8_judge_53 : decode cX8_judge 53 = .ok (.iconst 3, 1) := by decide +kernel
theorem dX8_judge_54 : decode cX8_judge 54 = .ok (.iadd, 1) := by decide +kernel
theorem dX8_judge_55 : decode cX8_judge 55 = .ok (.iaload, 1) := by decide +kernel
theorem dX8_judge_56 : decode cX8_judge 56 = .ok (.if_icmp .eq 5, 3) := by decide +kernel
theorem dX8_judge_59 : decode cX8_judge 59 = .ok (.iload_n 1, 1) := by decide +kernel
theorem dX8_judge_60 : decode cX8_judge 60 = .ok (.ireturn, 1) := by decide +kernel
theorem dX8_judge_61 : decode cX8_judge 61 = .ok (.iinc 1 1, 3) := by decide +kernel
theorem dX8_judge_64 : decode cX8_judge 64 = .ok (.goto (-62), 3) := by decide +kernel
theorem dX8_judge_67 : decode cX8_judge 67 = .ok (.iconst (-1), 1) := by decide +kernel
theorem dX8_judge_68 : decode cX8_judge 68 = .ok (.ireturn, 1) := by decide +kernel
theorem dX8_draw_0 : decode cX8_draw 0 = .ok (.aload_n 0, 1) := by decide +kernel
theorem dX8_draw_1 : decode cX8_draw 1 = .ok (.aload_n 0, 1) := by decide +kernel
theorem dX8_draw_2 : decode cX8_draw 2 = .ok (.getfield 292, 3) := by decide +kernel
theorem dX8_draw_5 : decode cX8_draw 5 = .ok (.i2l, 1) := by decide +kernel
theorem dX8_draw_6 : decode cX8_draw 6 = .ok (.ldc2_w 295, 3) := by decide +kernel
theorem dX8_draw_9 : decode cX8_draw 9 = .ok (.lmul, 1) := by decide +kernel
theorem dX8_draw_10 : decode cX8_draw 10 = .ok (.ldc2_w 297, 3) := by decide +kernel
theorem dX8_draw_13 : decode cX8_draw 13 = .ok (.ladd, 1) := by decide +kernel
theorem dX8_draw_14 : decode cX8_draw 14 = .ok (.ldc2_w 299, 3) := by decide +kernel
theorem dX8_draw_17 : decode cX8_draw 17 = .ok (.lrem, 1) := by decide +kernel
theorem dX8_draw_18 : decode cX8_draw 18 = .ok (.l2i, 1) := by decide +kernel
theorem dX8_draw_19 : decode cX8_draw 19 = .ok (.putfield 292, 3) := by decide +kernel
theorem dX8_draw_22 : decode cX8_draw 22 = .ok (.aload_n 0, 1) := by decide +kernel
theorem dX8_draw_23 : decode cX8_draw 23 = .ok (.getfield 292, 3) := by decide +kernel
theorem dX8_draw_26 : decode cX8_draw 26 = .ok (.ldc_w 301, 3) := by decide +kernel
theorem dX8_draw_29 : decode cX8_draw 29 = .ok (.idiv, 1) := by decide +kernel
theorem dX8_draw_30 : decode cX8_draw 30 = .ok (.iload_n 1, 1) := by decide +kernel
theorem dX8_draw_31 : decode cX8_draw 31 = .ok (.irem, 1) := by decide +kernel
theorem dX8_draw_32 : decode cX8_draw 32 = .ok (.ireturn, 1) := by decide +kernel
theorem dX8_drift_0 : decode cX8_drift 0 = .ok (.aload_n 0, 1) := by decide +kernel
theorem dX8_drift_1 : decode cX8_drift 1 = .ok (.iload_n 1, 1) := by decide +kernel
theorem dX8_drift_2 : decode cX8_drift 2 = .ok (.invokevirtual 170, 3) := by decide +kernel
theorem dX8_drift_5 : decode cX8_drift 5 = .ok (.ifCond .ne 6, 3) := by decide +kernel
theorem dX8_drift_8 : decode cX8_drift 8 = .ok (.ldc 173, 2) := by decide +kernel
theorem dX8_drift_10 : decode cX8_drift 10 = .ok (.ireturn, 1) := by decide +kernel
theorem dX8_drift_11 : decode cX8_drift 11 = .ok (.iload_n 2, 1) := by decide +kernel
theorem dX8_drift_12 : decode cX8_drift 12 = .ok (.i2l, 1) := by decide +kernel
theorem dX8_drift_13 : decode cX8_drift 13 = .ok (.lconst 1, 1) := by decide +kernel
theorem dX8_drift_14 : decode cX8_drift 14 = .ok (.ldc2_w 302, 3) := by decide +kernel
theorem dX8_drift_17 : decode cX8_drift 17 = .ok (.invokestatic 63, 3) := by decide +kernel
theorem dX8_drift_20 : decode cX8_drift 20 = .ok (.ifCond .ne 6, 3) := by decide +kernel
theorem dX8_drift_23 : decode cX8_drift 23 = .ok (.ldc 76, 2) := by decide +kernel
theorem dX8_drift_25 : decode cX8_drift 25 = .ok (.ireturn, 1) := by decide +kernel
theorem dX8_drift_26 : decode cX8_drift 26 = .ok (.iconst 0, 1) := by decide +kernel
theorem dX8_drift_27 : decode cX8_drift 27 = .ok (.istore_n 3, 1) := by decide +kernel
theorem dX8_drift_28 : decode cX8_drift 28 = .ok (.iload_n 3, 1) := by decide +kernel
theorem dX8_drift_29 : decode cX8_drift 29 = .ok (.iload_n 2, 1) := by decide +kernel
theorem dX8_drift_30 : decode cX8_drift 30 = .ok (.if_icmp .ge 101, 3) := by decide +kernel
theorem dX8_drift_33 : decode cX8_drift 33 = .ok (.iconst 0, 1) := by decide +kernel
theorem dX8_drift_34 : decode cX8_drift 34 = .ok (.istore 4, 2) := by decide +kernel
theorem dX8_drift_36 : decode cX8_drift 36 = .ok (.iconst 0, 1) := by decide +kernel
theorem dX8_drift_37 : decode cX8_drift 37 = .ok (.istore 5, 2) := by decide +kernel
theorem dX8_drift_39 : decode cX8_drift 39 = .ok (.iload 5, 2) := by decide +kernel
theorem dX8_drift_41 : decode cX8_drift 41 = .ok (.aload_n 0, 1) := by decide +kernel
theorem dX8_drift_42 : decode cX8_drift 42 = .ok (.getfield 67, 3) := by decide +kernel
theorem dX8_drift_45 : decode cX8_drift 45 = .ok (.if_icmp .ge 42, 3) := by decide +kernel
theorem dX8_drift_48 : decode cX8_drift 48 = .ok (.iload 4, 2) := by decide +kernel
theorem dX8_drift_50 : decode cX8_drift 50 = .ok (.aload_n 0, 1) := by decide +kernel
theorem dX8_drift_51 : decode cX8_drift 51 = .ok (.bipush 100, 2) := by decide +kernel
theorem dX8_drift_53 : decode cX8_drift 53 = .ok (.invokevirtual 304, 3) := by decide +kernel
theorem dX8_drift_56 : decode cX8_drift 56 = .ok (.aload_n 0, 1) := by decide +kernel
theorem dX8_drift_57 : decode cX8_drift 57 = .ok (.getfield 13, 3) := by decide +kernel
theorem dX8_drift_60 : decode cX8_drift 60 = .ok (.iconst 4, 1) := by decide +kernel
theorem dX8_drift_61 : decode cX8_drift 61 = .ok (.iload 5, 2) := by decide +kernel
theorem dX8_drift_63 : decode cX8_drift 63 = .ok (.imul, 1) := by decide +kernel
theorem dX8_drift_64 : decode cX8_drift 64 = .ok (.iconst 3, 1) := by decide +kernel
theorem dX8_drift_65 : decode cX8_drift 65 = .ok (.iadd, 1) := by decide +kernel
theorem dX8_drift_66 : decode cX8_drift 66 = .ok (.iaload, 1) := by decide +kernel
theorem dX8_drift_67 : decode cX8_drift 67 = .ok (.if_icmp .ge 10, 3) := by decide +kernel
theorem dX8_drift_70 : decode cX8_drift 70 = .ok (.iconst 1, 1) := by decide +kernel
theorem dX8_drift_71 : decode cX8_drift 71 = .ok (.iload 5, 2) := by decide +kernel
theorem dX8_drift_73 : decode cX8_drift 73 = .ok (.ishl, 1) := by decide +kernel
theorem dX8_drift_74 : decode cX8_drift 74 = .ok (.goto 4, 3) := by decide +kernel
theorem dX8_drift_77 : decode cX8_drift 77 = .ok (.iconst 0, 1) := by decide +kernel
theorem dX8_drift_78 : decode cX8_drift 78 = .ok (.ior, 1) := by decide +kernel
theorem dX8_drift_79 : decode cX8_drift 79 = .ok (.istore 4, 2) := by decide +kernel
theorem dX8_drift_81 : decode cX8_drift 81 = .ok (.iinc 5 1, 3) := by decide +kernel
theorem dX8_drift_84 : decode cX8_drift 84 = .ok (.goto (-45), 3) := by decide +kernel
theorem dX8_drift_87 : decode cX8_drift 87 = .ok (.aload_n 0, 1) := by decide +kernel
theorem dX8_drift_88 : decode cX8_drift 88 = .ok (.iconst 4, 1) := by decide +kernel
theorem dX8_drift_89 : decode cX8_drift 89 = .ok (.invokevirtual 304, 3) := by decide +kernel
theorem dX8_drift_92 : decode cX8_drift 92 = .ok (.istore 5, 2) := by decide +kernel
theorem dX8_drift_94 : decode cX8_drift 94 = .ok (.aload_n 0, 1) := by decide +kernel
theorem dX8_drift_95 : decode cX8_drift 95 = .ok (.getfield 160, 3) := by decide +kernel
theorem dX8_drift_98 : decode cX8_drift 98 = .ok (.bipush 12, 2) := by decide +kernel
theorem dX8_drift_100 : decode cX8_drift 100 = .ok (.if_icmp .ge 25, 3) := by decide +kernel
theorem dX8_drift_103 : decode cX8_drift 103 = .ok (.aload_n 0, 1) := by decide +kernel
theorem dX8_drift_104 : decode cX8_drift 104 = .ok (.iload_n 1, 1) := by decide +kernel
theorem dX8_drift_105 : decode cX8_drift 105 = .ok (.iload 5, 2) := by decide +kernel
theorem dX8_drift_107 : decode cX8_drift 107 = .ok (.iload 4, 2) := by decide +kernel
theorem dX8_drift_109 : decode cX8_drift 109 = .ok (.aload_n 0, 1) := by decide +kernel
theorem dX8_drift_110 : decode cX8_drift 110 = .ok (.iload_n 1, 1) := by decide +kernel
theorem dX8_drift_111 : decode cX8_drift 111 = .ok (.iload 5, 2) := by decide +kernel
theorem dX8_drift_113 : decode cX8_drift 113 = .ok (.aload_n 0, 1) := by decide +kernel
theorem dX8_drift_114 : decode cX8_drift 114 = .ok (.iload 4, 2) := by decide +kernel
theorem dX8_drift_116 : decode cX8_drift 116 = .ok (.invokevirtual 201, 3) := by decide +kernel
theorem dX8_drift_119 : decode cX8_drift 119 = .ok (.invokevirtual 204, 3) := by decide +kernel
theorem dX8_drift_122 : decode cX8_drift 122 = .ok (.invokevirtual 230, 3) := by decide +kernel
theorem dX8_drift_125 : decode cX8_drift 125 = .ok (.iinc 3 1, 3) := by decide +kernel
theorem dX8_drift_128 : decode cX8_drift 128 = .ok (.goto (-100), 3) := by decide +kernel
theorem dX8_drift_131 : decode cX8_drift 131 = .ok (.aload_n 0, 1) := by decide +kernel
theorem dX8_drift_132 : decode cX8_drift 132 = .ok (.getfield 160, 3) := by decide +kernel
theorem dX8_drift_135 : decode cX8_drift 135 = .ok (.ireturn, 1) := by decide +kernel
theorem dX8_forget_0 : decode cX8_forget 0 = .ok (.aload_n 0, 1) := by decide +kernel
theorem dX8_forget_1 : decode cX8_forget 1 = .ok (.getfield 160, 3) := by decide +kernel
theorem dX8_forget_4 : decode cX8_forget 4 = .ok (.istore_n 1, 1) := by decide +kernel
theorem dX8_forget_5 : decode cX8_forget 5 = .ok (.aload_n 0, 1) := by decide +kernel
theorem dX8_forget_6 : decode cX8_forget 6 = .ok (.iconst 0, 1) := by decide +kernel
theorem dX8_forget_7 : decode cX8_forget 7 = .ok (.putfield 160, 3) := by decide +kernel
theorem dX8_forget_10 : decode cX8_forget 10 = .ok (.iload_n 1, 1) := by decide +kernel
theorem dX8_forget_11 : decode cX8_forget 11 = .ok (.ireturn, 1) := by decide +kernel
theorem dX8_seed_0 : decode cX8_seed 0 = .ok (.iload_n 1, 1) := by decide +kernel
theorem dX8_seed_1 : decode cX8_seed 1 = .ok (.ifCond .ge 6, 3) := by decide +kernel
theorem dX8_seed_4 : decode cX8_seed 4 = .ok (.ldc 76, 2) := by decide +kernel
theorem dX8_seed_6 : decode cX8_seed 6 = .ok (.ireturn, 1) := by decide +kernel
theorem dX8_seed_7 : decode cX8_seed 7 = .ok (.aload_n 0, 1) := by decide +kernel
theorem dX8_seed_8 : decode cX8_seed 8 = .ok (.getfield 292, 3) := by decide +kernel
theorem dX8_seed_11 : decode cX8_seed 11 = .ok (.istore_n 2, 1) := by decide +kernel
theorem dX8_seed_12 : decode cX8_seed 12 = .ok (.aload_n 0, 1) := by decide +kernel
theorem dX8_seed_13 : decode cX8_seed 13 = .ok (.iload_n 1, 1) := by decide +kernel
theorem dX8_seed_14 : decode cX8_seed 14 = .ok (.putfield 292, 3) := by decide +kernel
theorem dX8_seed_17 : decode cX8_seed 17 = .ok (.iload_n 2, 1) := by decide +kernel
theorem dX8_seed_18 : decode cX8_seed 18 = .ok (.ireturn, 1) := by decide +kernel
theorem dX8_keep_0 : decode cX8_keep 0 = .ok (.iload_n 1, 1) := by decide +kernel
theorem dX8_keep_1 : decode cX8_keep 1 = .ok (.i2l, 1) := by decide +kernel
theorem dX8_keep_2 : decode cX8_keep 2 = .ok (.lconst 0, 1) := by decide +kernel
theorem dX8_keep_3 : decode cX8_keep 3 = .ok (.lconst 1, 1) := by decide +kernel
theorem dX8_keep_4 : decode cX8_keep 4 = .ok (.invokestatic 63, 3) := by decide +kernel
theorem dX8_keep_7 : decode cX8_keep 7 = .ok (.ifCond .ne 6, 3) := by decide +kernel
theorem dX8_keep_10 : decode cX8_keep 10 = .ok (.ldc 173, 2) := by decide +kernel
theorem dX8_keep_12 : decode cX8_keep 12 = .ok (.ireturn, 1) := by decide +kernel
theorem dX8_keep_13 : decode cX8_keep 13 = .ok (.bipush 50, 2) := by decide +kernel
theorem dX8_keep_15 : decode cX8_keep 15 = .ok (.iload_n 1, 1) := by decide +kernel
theorem dX8_keep_16 : decode cX8_keep 16 = .ok (.imul, 1) := by decide +kernel
theorem dX8_keep_17 : decode cX8_keep 17 = .ok (.istore_n 2, 1) := by decide +kernel
theorem dX8_keep_18 : decode cX8_keep 18 = .ok (.iconst 0, 1) := by decide +kernel
theorem dX8_keep_19 : decode cX8_keep 19 = .ok (.istore_n 3, 1) := by decide +kernel
theorem dX8_keep_20 : decode cX8_keep 20 = .ok (.iload_n 3, 1) := by decide +kernel
theorem dX8_keep_21 : decode cX8_keep 21 = .ok (.bipush 48, 2) := by decide +kernel
theorem dX8_keep_23 : decode cX8_keep 23 = .ok (.if_icmp .ge 23, 3) := by decide +kernel
theorem dX8_keep_26 : decode cX8_keep 26 = .ok (.aload_n 0, 1) := by decide +kernel
theorem dX8_keep_27 : decode cX8_keep 27 = .ok (.getfield 53, 3) := by decide +kernel
theorem dX8_keep_30 : decode cX8_keep 30 = .ok (.iload_n 2, 1) := by decide +kernel
theorem dX8_keep_31 : decode cX8_keep 31 = .ok (.iload_n 3, 1) := by decide +kernel
theorem dX8_keep_32 : decode cX8_keep 32 = .ok (.iadd, 1) := by decide +kernel
theorem dX8_keep_33 : decode cX8_keep 33 = .ok (.aload_n 0, 1) := by decide +kernel
theorem dX8_keep_34 : decode cX8_keep 34 = .ok (.getfield 20, 3) := by decide +kernel
theorem dX8_keep_37 : decode cX8_keep 37 = .ok (.iload_n 3, 1) := by decide +kernel
theorem dX8_keep_38 : decode cX8_keep 38 = .ok (.iaload, 1) := by decide +kernel
theorem dX8_keep_39 : decode cX8_keep 39 = .ok (.iastore, 1) := by decide +kernel
theorem dX8_keep_40 : decode cX8_keep 40 = .ok (.iinc 3 1, 3) := by decide +kernel
theorem dX8_keep_43 : decode cX8_keep 43 = .ok (.goto (-23), 3) := by decide +kernel
theorem dX8_keep_46 : decode cX8_keep 46 = .ok (.aload_n 0, 1) := by decide +kernel
theorem dX8_keep_47 : decode cX8_keep 47 = .ok (.getfield 53, 3) := by decide +kernel
theorem dX8_keep_50 : decode cX8_keep 50 = .ok (.iload_n 2, 1) := by decide +kernel
theorem dX8_keep_51 : decode cX8_keep 51 = .ok (.bipush 48, 2) := by decide +kernel
theorem dX8_keep_53 : decode cX8_keep 53 = .ok (.iadd, 1) := by decide +kernel
theorem dX8_keep_54 : decode cX8_keep 54 = .ok (.aload_n 0, 1) := by decide +kernel
theorem dX8_keep_55 : decode cX8_keep 55 = .ok (.getfield 160, 3) := by decide +kernel
theorem dX8_keep_58 : decode cX8_keep 58 = .ok (.iastore, 1) := by decide +kernel
theorem dX8_keep_59 : decode cX8_keep 59 = .ok (.aload_n 0, 1) := by decide +kernel
theorem dX8_keep_60 : decode cX8_keep 60 = .ok (.getfield 53, 3) := by decide +kernel
theorem dX8_keep_63 : decode cX8_keep 63 = .ok (.iload_n 2, 1) := by decide +kernel
theorem dX8_keep_64 : decode cX8_keep 64 = .ok (.bipush 49, 2) := by decide +kernel
theorem dX8_keep_66 : decode cX8_keep 66 = .ok (.iadd, 1) := by decide +kernel
theorem dX8_keep_67 : decode cX8_keep 67 = .ok (.aload_n 0, 1) := by decide +kernel
theorem dX8_keep_68 : decode cX8_keep 68 = .ok (.getfield 292, 3) := by decide +kernel
theorem dX8_keep_71 : decode cX8_keep 71 = .ok (.iastore, 1) := by decide +kernel
theorem dX8_keep_72 : decode cX8_keep 72 = .ok (.aload_n 0, 1) := by decide +kernel
theorem dX8_keep_73 : decode cX8_keep 73 = .ok (.getfield 56, 3) := by decide +kernel
theorem dX8_keep_76 : decode cX8_keep 76 = .ok (.iload_n 1, 1) := by decide +kernel
theorem dX8_keep_77 : decode cX8_keep 77 = .ok (.iconst 1, 1) := by decide +kernel
theorem dX8_keep_78 : decode cX8_keep 78 = .ok (.bastore, 1) := by decide +kernel
theorem dX8_keep_79 : decode cX8_keep 79 = .ok (.iconst 1, 1) := by decide +kernel
theorem dX8_keep_80 : decode cX8_keep 80 = .ok (.ireturn, 1) := by decide +kernel
theorem dX8_goBack_0 : decode cX8_goBack 0 = .ok (.iload_n 1, 1) := by decide +kernel
theorem dX8_goBack_1 : decode cX8_goBack 1 = .ok (.i2l, 1) := by decide +kernel
theorem dX8_goBack_2 : decode cX8_goBack 2 = .ok (.lconst 0, 1) := by decide +kernel
theorem dX8_goBack_3 : decode cX8_goBack 3 = .ok (.lconst 1, 1) := by decide +kernel
theorem dX8_goBack_4 : decode cX8_goBack 4 = .ok (.invokestatic 63, 3) := by decide +kernel
theorem dX8_goBack_7 : decode cX8_goBack 7 = .ok (.ifCond .ne 6, 3) := by decide +kernel
theorem dX8_goBack_10 : decode cX8_goBack 10 = .ok (.ldc 173, 2) := by decide +kernel
theorem dX8_goBack_12 : decode cX8_goBack 12 = .ok (.ireturn, 1) := by decide +kernel
theorem dX8_goBack_13 : decode cX8_goBack 13 = .ok (.aload_n 0, 1) := by decide +kernel
theorem dX8_goBack_14 : decode cX8_goBack 14 = .ok (.getfield 56, 3) := by decide +kernel
theorem dX8_goBack_17 : decode cX8_goBack 17 = .ok (.iload_n 1, 1) := by decide +kernel
theorem dX8_goBack_18 : decode cX8_goBack 18 = .ok (.baload, 1) := by decide +kernel
theorem dX8_goBack_19 : decode cX8_goBack 19 = .ok (.ifCond .ne 7, 3) := by decide +kernel
theorem dX8_goBack_22 : decode cX8_goBack 22 = .ok (.ldc_w 291, 3) := by decide +kernel
theorem dX8_goBack_25 : decode cX8_goBack 25 = .ok (.ireturn, 1) := by decide +kernel
theorem dX8_goBack_26 : decode cX8_goBack 26 = .ok (.bipush 50, 2) := by decide +kernel
theorem dX8_goBack_28 : decode cX8_goBack 28 = .ok (.iload_n 1, 1) := by decide +kernel
theorem dX8_goBack_29 : decode cX8_goBack 29 = .ok (.imul, 1) := by decide +kernel
theorem dX8_goBack_30 : decode cX8_goBack 30 = .ok (.istore_n 2, 1) := by decide +kernel
theorem dX8_goBack_31 : decode cX8_goBack 31 = .ok (.iconst 0, 1) := by decide +kernel
theorem dX8_goBack_32 : decode cX8_goBack 32 = .ok (.istore_n 3, 1) := by decide +kernel
theorem dX8_goBack_33 : decode cX8_goBack 33 = .ok (.iload_n 3, 1) := by decide +kernel
theorem dX8_goBack_34 : decode cX8_goBack 34 = .ok (.bipush 48, 2) := by decide +kernel
theorem dX8_goBack_36 : decode cX8_goBack 36 = .ok (.if_icmp .ge 23, 3) := by decide +kernel
theorem dX8_goBack_39 : decode cX8_goBack 39 = .ok (.aload_n 0, 1) := by decide +kernel
theorem dX8_goBack_40 : decode cX8_goBack 40 = .ok (.getfield 20, 3) := by decide +kernel
theorem dX8_goBack_43 : decode cX8_goBack 43 = .ok (.iload_n 3, 1) := by decide +kernel
theorem dX8_goBack_44 : decode cX8_goBack 44 = .ok (.aload_n 0, 1) := by decide +kernel
theorem dX8_goBack_45 : decode cX8_goBack 45 = .ok (.getfield 53, 3) := by decide +kernel
theorem dX8_goBack_48 : decode cX8_goBack 48 = .ok (.iload_n 2, 1) := by decide +kernel
theorem dX8_goBack_49 : decode cX8_goBack 49 = .ok (.iload_n 3, 1) := by decide +kernel
theorem dX8_goBack_50 : decode cX8_goBack 50 = .ok (.iadd, 1) := by decide +kernel
theorem dX8_goBack_51 : decode cX8_goBack 51 = .ok (.iaload, 1) := by decide +kernel
theorem dX8_goBack_52 : decode cX8_goBack 52 = .ok (.iastore, 1) := by decide +kernel
theorem dX8_goBack_53 : decode cX8_goBack 53 = .ok (.iinc 3 1, 3) := by decide +kernel
theorem dX8_goBack_56 : decode cX8_goBack 56 = .ok (.goto (-23), 3) := by decide +kernel
theorem dX8_goBack_59 : decode cX8_goBack 59 = .ok (.aload_n 0, 1) := by decide +kernel
theorem dX8_goBack_60 : decode cX8_goBack 60 = .ok (.aload_n 0, 1) := by decide +kernel
theorem dX8_goBack_61 : decode cX8_goBack 61 = .ok (.getfield 53, 3) := by decide +kernel
theorem dX8_goBack_64 : decode cX8_goBack 64 = .ok (.iload_n 2, 1) := by decide +kernel
theorem dX8_goBack_65 : decode cX8_goBack 65 = .ok (.bipush 48, 2) := by decide +kernel
theorem dX8_goBack_67 : decode cX8_goBack 67 = .ok (.iadd, 1) := by decide +kernel
theorem dX8_goBack_68 : decode cX8_goBack 68 = .ok (.iaload, 1) := by decide +kernel
theorem dX8_goBack_69 : decode cX8_goBack 69 = .ok (.putfield 160, 3) := by decide +kernel
theorem dX8_goBack_72 : decode cX8_goBack 72 = .ok (.aload_n 0, 1) := by decide +kernel
theorem dX8_goBack_73 : decode cX8_goBack 73 = .ok (.aload_n 0, 1) := by decide +kernel
theorem dX8_goBack_74 : decode cX8_goBack 74 = .ok (.getfield 53, 3) := by decide +kernel
theorem dX8_goBack_77 : decode cX8_goBack 77 = .ok (.iload_n 2, 1) := by decide +kernel
theorem dX8_goBack_78 : decode cX8_goBack 78 = .ok (.bipush 49, 2) := by decide +kernel
theorem dX8_goBack_80 : decode cX8_goBack 80 = .ok (.iadd, 1) := by decide +kernel
theorem dX8_goBack_81 : decode cX8_goBack 81 = .ok (.iaload, 1) := by decide +kernel
theorem dX8_goBack_82 : decode cX8_goBack 82 = .ok (.putfield 292, 3) := by decide +kernel
theorem dX8_goBack_85 : decode cX8_goBack 85 = .ok (.iconst 1, 1) := by decide +kernel
theorem dX8_goBack_86 : decode cX8_goBack 86 = .ok (.ireturn, 1) := by decide +kernel
theorem dJ6_numberOfTrailingZeros_0f7a4_0 : decode cJ6_numberOfTrailingZeros_0f7a4 0 = .ok (.iload_n 0, 1) := by decide +kernel
theorem dJ6_numberOfTrailingZeros_0f7a4_1 : decode cJ6_numberOfTrailingZeros_0f7a4 1 = .ok (.iconst (-1), 1) := by decide +kernel
theorem dJ6_numberOfTrailingZeros_0f7a4_2 : decode cJ6_numberOfTrailingZeros_0f7a4 2 = .ok (.ixor, 1) := by decide +kernel
theorem dJ6_numberOfTrailingZeros_0f7a4_3 : decode cJ6_numberOfTrailingZeros_0f7a4 3 = .ok (.iload_n 0, 1) := by decide +kernel
theorem dJ6_numberOfTrailingZeros_0f7a4_4 : decode cJ6_numberOfTrailingZeros_0f7a4 4 = .ok (.iconst 1, 1) := by decide +kernel
theorem dJ6_numberOfTrailingZeros_0f7a4_5 : decode cJ6_numberOfTrailingZeros_0f7a4 5 = .ok (.isub, 1) := by decide +kernel
theorem dJ6_numberOfTrailingZeros_0f7a4_6 : decode cJ6_numberOfTrailingZeros_0f7a4 6 = .ok (.iand, 1) := by decide +kernel
theorem dJ6_numberOfTrailingZeros_0f7a4_7 : decode cJ6_numberOfTrailingZeros_0f7a4 7 = .ok (.istore_n 0, 1) := by decide +kernel
theorem dJ6_numberOfTrailingZeros_0f7a4_8 : decode cJ6_numberOfTrailingZeros_0f7a4 8 = .ok (.iload_n 0, 1) := by decide +kernel
theorem dJ6_numberOfTrailingZeros_0f7a4_9 : decode cJ6_numberOfTrailingZeros_0f7a4 9 = .ok (.ifCond .gt 8, 3) := by decide +kernel
theorem dJ6_numberOfTrailingZeros_0f7a4_12 : decode cJ6_numberOfTrailingZeros_0f7a4 12 = .ok (.iload_n 0, 1) := by decide +kernel
theorem dJ6_numberOfTrailingZeros_0f7a4_13 : decode cJ6_numberOfTrailingZeros_0f7a4 13 = .ok (.bipush 32, 2) := by decide +kernel
theorem dJ6_numberOfTrailingZeros_0f7a4_15 : decode cJ6_numberOfTrailingZeros_0f7a4 15 = .ok (.iand, 1) := by decide +kernel
theorem dJ6_numberOfTrailingZeros_0f7a4_16 : decode cJ6_numberOfTrailingZeros_0f7a4 16 = .ok (.ireturn, 1) := by decide +kernel
theorem dJ6_numberOfTrailingZeros_0f7a4_17 : decode cJ6_numberOfTrailingZeros_0f7a4 17 = .ok (.iconst 1, 1) := by decide +kernel
theorem dJ6_numberOfTrailingZeros_0f7a4_18 : decode cJ6_numberOfTrailingZeros_0f7a4 18 = .ok (.istore_n 1, 1) := by decide +kernel
theorem dJ6_numberOfTrailingZeros_0f7a4_19 : decode cJ6_numberOfTrailingZeros_0f7a4 19 = .ok (.iload_n 0, 1) := by decide +kernel
theorem dJ6_numberOfTrailingZeros_0f7a4_20 : decode cJ6_numberOfTrailingZeros_0f7a4 20 = .ok (.ldc_w 264, 3) := by decide +kernel
theorem dJ6_numberOfTrailingZeros_0f7a4_23 : decode cJ6_numberOfTrailingZeros_0f7a4 23 = .ok (.if_icmp .le 11, 3) := by decide +kernel
theorem dJ6_numberOfTrailingZeros_0f7a4_26 : decode cJ6_numberOfTrailingZeros_0f7a4 26 = .ok (.iinc 1 16, 3) := by decide +kernel
theorem dJ6_numberOfTrailingZeros_0f7a4_29 : decode cJ6_numberOfTrailingZeros_0f7a4 29 = .ok (.iload_n 0, 1) := by decide +kernel
theorem dJ6_numberOfTrailingZeros_0f7a4_30 : decode cJ6_numberOfTrailingZeros_0f7a4 30 = .ok (.bipush 16, 2) := by decide +kernel
theorem dJ6_numberOfTrailingZeros_0f7a4_32 : decode cJ6_numberOfTrailingZeros_0f7a4 32 = .ok (.iushr, 1) := by decide +kernel
theorem dJ6_numberOfTrailingZeros_0f7a4_33 : decode cJ6_numberOfTrailingZeros_0f7a4 33 = .ok (.istore_n 0, 1) := by decide +kernel
theorem dJ6_numberOfTrailingZeros_0f7a4_34 : decode cJ6_numberOfTrailingZeros_0f7a4 34 = .ok (.iload_n 0, 1) := by decide +kernel
theorem dJ6_numberOfTrailingZeros_0f7a4_35 : decode cJ6_numberOfTrailingZeros_0f7a4 35 = .ok (.sipush 256, 3) := by decide +kernel
theorem dJ6_numberOfTrailingZeros_0f7a4_38 : decode cJ6_numberOfTrailingZeros_0f7a4 38 = .ok (.if_icmp .le 11, 3) := by decide +kernel
theorem dJ6_numberOfTrailingZeros_0f7a4_41 : decode cJ6_numberOfTrailingZeros_0f7a4 41 = .ok (.iinc 1 8, 3) := by decide +kernel
theorem dJ6_numberOfTrailingZeros_0f7a4_44 : decode cJ6_numberOfTrailingZeros_0f7a4 44 = .ok (.iload_n 0, 1) := by decide +kernel
theorem dJ6_numberOfTrailingZeros_0f7a4_45 : decode cJ6_numberOfTrailingZeros_0f7a4 45 = .ok (.bipush 8, 2) := by decide +kernel
theorem dJ6_numberOfTrailingZeros_0f7a4_47 : decode cJ6_numberOfTrailingZeros_0f7a4 47 = .ok (.iushr, 1) := by decide +kernel
theorem dJ6_numberOfTrailingZeros_0f7a4_48 : decode cJ6_numberOfTrailingZeros_0f7a4 48 = .ok (.istore_n 0, 1) := by decide +kernel
theorem dJ6_numberOfTrailingZeros_0f7a4_49 : decode cJ6_numberOfTrailingZeros_0f7a4 49 = .ok (.iload_n 0, 1) := by decide +kernel
theorem dJ6_numberOfTrailingZeros_0f7a4_50 : decode cJ6_numberOfTrailingZeros_0f7a4 50 = .ok (.bipush 16, 2) := by decide +kernel
theorem dJ6_numberOfTrailingZeros_0f7a4_52 : decode cJ6_numberOfTrailingZeros_0f7a4 52 = .ok (.if_icmp .le 10, 3) := by decide +kernel
theorem dJ6_numberOfTrailingZeros_0f7a4_55 : decode cJ6_numberOfTrailingZeros_0f7a4 55 = .ok (.iinc 1 4, 3) := by decide +kernel
theorem dJ6_numberOfTrailingZeros_0f7a4_58 : decode cJ6_numberOfTrailingZeros_0f7a4 58 = .ok (.iload_n 0, 1) := by decide +kernel
theorem dJ6_numberOfTrailingZeros_0f7a4_59 : decode cJ6_numberOfTrailingZeros_0f7a4 59 = .ok (.iconst 4, 1) := by decide +kernel
theorem dJ6_numberOfTrailingZeros_0f7a4_60 : decode cJ6_numberOfTrailingZeros_0f7a4 60 = .ok (.iushr, 1) := by decide +kernel
theorem dJ6_numberOfTrailingZeros_0f7a4_61 : decode cJ6_numberOfTrailingZeros_0f7a4 61 = .ok (.istore_n 0, 1) := by decide +kernel
theorem dJ6_numberOfTrailingZeros_0f7a4_62 : decode cJ6_numberOfTrailingZeros_0f7a4 62 = .ok (.iload_n 0, 1) := by decide +kernel
theorem dJ6_numberOfTrailingZeros_0f7a4_63 : decode cJ6_numberOfTrailingZeros_0f7a4 63 = .ok (.iconst 4, 1) := by decide +kernel
theorem dJ6_numberOfTrailingZeros_0f7a4_64 : decode cJ6_numberOfTrailingZeros_0f7a4 64 = .ok (.if_icmp .le 10, 3) := by decide +kernel
theorem dJ6_numberOfTrailingZeros_0f7a4_67 : decode cJ6_numberOfTrailingZeros_0f7a4 67 = .ok (.iinc 1 2, 3) := by decide +kernel
theorem dJ6_numberOfTrailingZeros_0f7a4_70 : decode cJ6_numberOfTrailingZeros_0f7a4 70 = .ok (.iload_n 0, 1) := by decide +kernel
theorem dJ6_numberOfTrailingZeros_0f7a4_71 : decode cJ6_numberOfTrailingZeros_0f7a4 71 = .ok (.iconst 2, 1) := by decide +kernel
theorem dJ6_numberOfTrailingZeros_0f7a4_72 : decode cJ6_numberOfTrailingZeros_0f7a4 72 = .ok (.iushr, 1) := by decide +kernel
theorem dJ6_numberOfTrailingZeros_0f7a4_73 : decode cJ6_numberOfTrailingZeros_0f7a4 73 = .ok (.istore_n 0, 1) := by decide +kernel
theorem dJ6_numberOfTrailingZeros_0f7a4_74 : decode cJ6_numberOfTrailingZeros_0f7a4 74 = .ok (.iload_n 1, 1) := by decide +kernel
theorem dJ6_numberOfTrailingZeros_0f7a4_75 : decode cJ6_numberOfTrailingZeros_0f7a4 75 = .ok (.iload_n 0, 1) := by decide +kernel
theorem dJ6_numberOfTrailingZeros_0f7a4_76 : decode cJ6_numberOfTrailingZeros_0f7a4 76 = .ok (.iconst 1, 1) := by decide +kernel
theorem dJ6_numberOfTrailingZeros_0f7a4_77 : decode cJ6_numberOfTrailingZeros_0f7a4 77 = .ok (.iushr, 1) := by decide +kernel
theorem dJ6_numberOfTrailingZeros_0f7a4_78 : decode cJ6_numberOfTrailingZeros_0f7a4 78 = .ok (.iadd, 1) := by decide +kernel
theorem dJ6_numberOfTrailingZeros_0f7a4_79 : decode cJ6_numberOfTrailingZeros_0f7a4 79 = .ok (.ireturn, 1) := by decide +kernel
theorem dJ9_max_7cf53_0 : decode cJ9_max_7cf53 0 = .ok (.iload_n 0, 1) := by decide +kernel
theorem dJ9_max_7cf53_1 : decode cJ9_max_7cf53 1 = .ok (.iload_n 1, 1) := by decide +kernel
theorem dJ9_max_7cf53_2 : decode cJ9_max_7cf53 2 = .ok (.if_icmp .lt 7, 3) := by decide +kernel
theorem dJ9_max_7cf53_5 : decode cJ9_max_7cf53 5 = .ok (.iload_n 0, 1) := by decide +kernel
theorem dJ9_max_7cf53_6 : decode cJ9_max_7cf53 6 = .ok (.goto 4, 3) := by decide +kernel
theorem dJ9_max_7cf53_9 : decode cJ9_max_7cf53 9 = .ok (.iload_n 1, 1) := by decide +kernel
theorem dJ9_max_7cf53_10 : decode cJ9_max_7cf53 10 = .ok (.ireturn, 1) := by decide +kernel
theorem dJ9_min_7cf53_0 : decode cJ9_min_7cf53 0 = .ok (.iload_n 0, 1) := by decide +kernel
theorem dJ9_min_7cf53_1 : decode cJ9_min_7cf53 1 = .ok (.iload_n 1, 1) := by decide +kernel
theorem dJ9_min_7cf53_2 : decode cJ9_min_7cf53 2 = .ok (.if_icmp .gt 7, 3) := by decide +kernel
theorem dJ9_min_7cf53_5 : decode cJ9_min_7cf53 5 = .ok (.iload_n 0, 1) := by decide +kernel
theorem dJ9_min_7cf53_6 : decode cJ9_min_7cf53 6 = .ok (.goto 4, 3) := by decide +kernel
theorem dJ9_min_7cf53_9 : decode cJ9_min_7cf53 9 = .ok (.iload_n 1, 1) := by decide +kernel
theorem dJ9_min_7cf53_10 : decode cJ9_min_7cf53 10 = .ok (.ireturn, 1) := by decide +kernel
theorem dJ0_length_8abf5_0 : decode cJ0_length_8abf5 0 = .ok (.aload_n 0, 1) := by decide +kernel
theorem dJ0_length_8abf5_1 : decode cJ0_length_8abf5 1 = .ok (.getfield 9, 3) := by decide +kernel
theorem dJ0_length_8abf5_4 : decode cJ0_length_8abf5 4 = .ok (.arraylength, 1) := by decide +kernel
theorem dJ0_length_8abf5_5 : decode cJ0_length_8abf5 5 = .ok (.aload_n 0, 1) := by decide +kernel
theorem dJ0_length_8abf5_6 : decode cJ0_length_8abf5 6 = .ok (.invokevirtual 335, 3) := by decide +kernel
theorem dJ0_length_8abf5_9 : decode cJ0_length_8abf5 9 = .ok (.ishr, 1) := by decide +kernel
theorem dJ0_length_8abf5_10 : decode cJ0_length_8abf5 10 = .ok (.ireturn, 1) := by decide +kernel
theorem dJ0_charAt_5068e_0 : decode cJ0_charAt_5068e 0 = .ok (.aload_n 0, 1) := by decide +kernel
theorem dJ0_charAt_5068e_1 : decode cJ0_charAt_5068e 1 = .ok (.invokevirtual 492, 3) := by decide +kernel
theorem dJ0_charAt_5068e_4 : decode cJ0_charAt_5068e 4 = .ok (.ifCond .eq 12, 3) := by decide +kernel
theorem dJ0_charAt_5068e_7 : decode cJ0_charAt_5068e 7 = .ok (.aload_n 0, 1) := by decide +kernel
theorem dJ0_charAt_5068e_8 : decode cJ0_charAt_5068e 8 = .ok (.getfield 9, 3) := by decide +kernel
theorem dJ0_charAt_5068e_11 : decode cJ0_charAt_5068e 11 = .ok (.iload_n 1, 1) := by decide +kernel
theorem dJ0_charAt_5068e_12 : decode cJ0_charAt_5068e 12 = .ok (.invokestatic 495, 3) := by decide +kernel
theorem dJ0_charAt_5068e_15 : decode cJ0_charAt_5068e 15 = .ok (.ireturn, 1) := by decide +kernel
theorem dJ0_charAt_5068e_16 : decode cJ0_charAt_5068e 16 = .ok (.aload_n 0, 1) := by decide +kernel
theorem dJ0_charAt_5068e_17 : decode cJ0_charAt_5068e 17 = .ok (.getfield 9, 3) := by decide +kernel
theorem dJ0_charAt_5068e_20 : decode cJ0_charAt_5068e 20 = .ok (.iload_n 1, 1) := by decide +kernel
theorem dJ0_charAt_5068e_21 : decode cJ0_charAt_5068e 21 = .ok (.invokestatic 498, 3) := by decide +kernel
theorem dJ0_charAt_5068e_24 : decode cJ0_charAt_5068e 24 = .ok (.ireturn, 1) := by decide +kernel
theorem dJ0_coder_7d493_0 : decode cJ0_coder_7d493 0 = .ok (.getstatic 38, 3) := by decide +kernel
theorem dJ0_coder_7d493_3 : decode cJ0_coder_7d493 3 = .ok (.ifCond .eq 10, 3) := by decide +kernel
theorem dJ0_coder_7d493_6 : decode cJ0_coder_7d493 6 = .ok (.aload_n 0, 1) := by decide +kernel
theorem dJ0_coder_7d493_7 : decode cJ0_coder_7d493 7 = .ok (.getfield 15, 3) := by decide +kernel
theorem dJ0_coder_7d493_10 : decode cJ0_coder_7d493 10 = .ok (.goto 4, 3) := by decide +kernel
theorem dJ0_coder_7d493_13 : decode cJ0_coder_7d493 13 = .ok (.iconst 1, 1) := by decide +kernel
theorem dJ0_coder_7d493_14 : decode cJ0_coder_7d493 14 = .ok (.ireturn, 1) := by decide +kernel
theorem dJ0_isLatin1_aae02_0 : decode cJ0_isLatin1_aae02 0 = .ok (.getstatic 38, 3) := by decide +kernel
theorem dJ0_isLatin1_aae02_3 : decode cJ0_isLatin1_aae02 3 = .ok (.ifCond .eq 14, 3) := by decide +kernel
theorem dJ0_isLatin1_aae02_6 : decode cJ0_isLatin1_aae02 6 = .ok (.aload_n 0, 1) := by decide +kernel
theorem dJ0_isLatin1_aae02_7 : decode cJ0_isLatin1_aae02 7 = .ok (.getfield 15, 3) := by decide +kernel
theorem dJ0_isLatin1_aae02_10 : decode cJ0_isLatin1_aae02 10 = .ok (.ifCond .ne 7, 3) := by decide +kernel
theorem dJ0_isLatin1_aae02_13 : decode cJ0_isLatin1_aae02 13 = .ok (.iconst 1, 1) := by decide +kernel
theorem dJ0_isLatin1_aae02_14 : decode cJ0_isLatin1_aae02 14 = .ok (.goto 4, 3) := by decide +kernel
theorem dJ0_isLatin1_aae02_17 : decode cJ0_isLatin1_aae02 17 = .ok (.iconst 0, 1) := by decide +kernel
theorem dJ0_isLatin1_aae02_18 : decode cJ0_isLatin1_aae02 18 = .ok (.ireturn, 1) := by decide +kernel
theorem dJ0_checkIndex_df160_0 : decode cJ0_checkIndex_df160 0 = .ok (.iload_n 0, 1) := by decide +kernel
theorem dJ0_checkIndex_df160_1 : decode cJ0_checkIndex_df160 1 = .ok (.iload_n 1, 1) := by decide +kernel
theorem dJ0_checkIndex_df160_2 : decode cJ0_checkIndex_df160 2 = .ok (.getstatic 1053, 3) := by decide +kernel
theorem dJ0_checkIndex_df160_5 : decode cJ0_checkIndex_df160 5 = .ok (.invokestatic 1059, 3) := by decide +kernel
theorem dJ0_checkIndex_df160_8 : decode cJ0_checkIndex_df160 8 = .ok (.pop, 1) := by decide +kernel
theorem dJ0_checkIndex_df160_9 : decode cJ0_checkIndex_df160 9 = .ok (.return_, 1) := by decide +kernel
theorem dJ1_charAt_3b067_0 : decode cJ1_charAt_3b067 0 = .ok (.iload_n 1, 1) := by decide +kernel
theorem dJ1_charAt_3b067_1 : decode cJ1_charAt_3b067 1 = .ok (.aload_n 0, 1) := by decide +kernel
theorem dJ1_charAt_3b067_2 : decode cJ1_charAt_3b067 2 = .ok (.arraylength, 1) := by decide +kernel
theorem dJ1_charAt_3b067_3 : decode cJ1_charAt_3b067 3 = .ok (.invokestatic 9, 3) := by decide +kernel
theorem dJ1_charAt_3b067_6 : decode cJ1_charAt_3b067 6 = .ok (.aload_n 0, 1) := by decide +kernel
theorem dJ1_charAt_3b067_7 : decode cJ1_charAt_3b067 7 = .ok (.iload_n 1, 1) := by decide +kernel
theorem dJ1_charAt_3b067_8 : decode cJ1_charAt_3b067 8 = .ok (.baload, 1) := by decide +kernel
theorem dJ1_charAt_3b067_9 : decode cJ1_charAt_3b067 9 = .ok (.sipush 255, 3) := by decide +kernel
theorem dJ1_charAt_3b067_12 : decode cJ1_charAt_3b067 12 = .ok (.iand, 1) := by decide +kernel
theorem dJ1_charAt_3b067_13 : decode cJ1_charAt_3b067 13 = .ok (.i2c, 1) := by decide +kernel
theorem dJ1_charAt_3b067_14 : decode cJ1_charAt_3b067 14 = .ok (.ireturn, 1) := by decide +kernel
theorem dJ2_getChar_3b067_0 : decode cJ2_getChar_3b067 0 = .ok (.getstatic 44, 3) := by decide +kernel
theorem dJ2_getChar_3b067_3 : decode cJ2_getChar_3b067 3 = .ok (.ifCond .ne 25, 3) := by decide +kernel
theorem dJ2_getChar_3b067_6 : decode cJ2_getChar_3b067 6 = .ok (.iload_n 1, 1) := by decide +kernel
theorem dJ2_getChar_3b067_7 : decode cJ2_getChar_3b067 7 = .ok (.ifCond .lt 11, 3) := by decide +kernel
theorem dJ2_getChar_3b067_10 : decode cJ2_getChar_3b067 10 = .ok (.iload_n 1, 1) := by decide +kernel
theorem dJ2_getChar_3b067_11 : decode cJ2_getChar_3b067 11 = .ok (.aload_n 0, 1) := by decide +kernel
theorem dJ2_getChar_3b067_12 : decode cJ2_getChar_3b067 12 = .ok (.invokestatic 48, 3) := by decide +kernel
theorem dJ2_getChar_3b067_15 : decode cJ2_getChar_3b067 15 = .ok (.if_icmp .lt 13, 3) := by decide +kernel
theorem dJ2_getChar_3b067_18 : decode cJ2_getChar_3b067 18 = .ok (.new 52, 3) := by decide +kernel
theorem dJ2_getChar_3b067_21 : decode cJ2_getChar_3b067 21 = .ok (.dup, 1) := by decide +kernel
theorem dJ2_getChar_3b067_22 : decode cJ2_getChar_3b067 22 = .ok (.ldc 54, 2) := by decide +kernel
theorem dJ2_getChar_3b067_24 : decode cJ2_getChar_3b067 24 = .ok (.invokespecial 56, 3) := by decide +kernel
theorem dJ2_getChar_3b067_27 : decode cJ2_getChar_3b067 27 = .ok (.athrow, 1) := by decide +kernel
theorem dJ2_getChar_3b067_28 : decode cJ2_getChar_3b067 28 = .ok (.iload_n 1, 1) := by decide +kernel
theorem dJ2_getChar_3b067_29 : decode cJ2_getChar_3b067 29 = .ok (.iconst 1, 1) := by decide +kernel
theorem dJ2_getChar_3b067_30 : decode cJ2_getChar_3b067 30 = .ok (.ishl, 1) := by decide +kernel
theorem dJ2_getChar_3b067_31 : decode cJ2_getChar_3b067 31 = .ok (.istore_n 1, 1) := by decide +kernel
theorem dJ2_getChar_3b067_32 : decode cJ2_getChar_3b067 32 = .ok (.aload_n 0, 1) := by decide +kernel
theorem dJ2_getChar_3b067_33 : decode cJ2_getChar_3b067 33 = .ok (.iload_n 1, 1) := by decide +kernel
theorem dJ2_getChar_3b067_34 : decode cJ2_getChar_3b067 34 = .ok (.iinc 1 1, 3) := by decide +kernel
theorem dJ2_getChar_3b067_37 : decode cJ2_getChar_3b067 37 = .ok (.baload, 1) := by decide +kernel
theorem dJ2_getChar_3b067_38 : decode cJ2_getChar_3b067 38 = .ok (.sipush 255, 3) := by decide +kernel
theorem dJ2_getChar_3b067_41 : decode cJ2_getChar_3b067 41 = .ok (.iand, 1) := by decide +kernel
theorem dJ2_getChar_3b067_42 : decode cJ2_getChar_3b067 42 = .ok (.getstatic 59, 3) := by decide +kernel
theorem dJ2_getChar_3b067_45 : decode cJ2_getChar_3b067 45 = .ok (.ishl, 1) := by decide +kernel
theorem dJ2_getChar_3b067_46 : decode cJ2_getChar_3b067 46 = .ok (.aload_n 0, 1) := by decide +kernel
theorem dJ2_getChar_3b067_47 : decode cJ2_getChar_3b067 47 = .ok (.iload_n 1, 1) := by decide +kernel
theorem dJ2_getChar_3b067_48 : decode cJ2_getChar_3b067 48 = .ok (.baload, 1) := by decide +kernel
theorem dJ2_getChar_3b067_49 : decode cJ2_getChar_3b067 49 = .ok (.sipush 255, 3) := by decide +kernel
theorem dJ2_getChar_3b067_52 : decode cJ2_getChar_3b067 52 = .ok (.iand, 1) := by decide +kernel
theorem dJ2_getChar_3b067_53 : decode cJ2_getChar_3b067 53 = .ok (.getstatic 63, 3) := by decide +kernel
theorem dJ2_getChar_3b067_56 : decode cJ2_getChar_3b067 56 = .ok (.ishl, 1) := by decide +kernel
theorem dJ2_getChar_3b067_57 : decode cJ2_getChar_3b067 57 = .ok (.ior, 1) := by decide +kernel
theorem dJ2_getChar_3b067_58 : decode cJ2_getChar_3b067 58 = .ok (.i2c, 1) := by decide +kernel
theorem dJ2_getChar_3b067_59 : decode cJ2_getChar_3b067 59 = .ok (.ireturn, 1) := by decide +kernel
theorem dJ2_length_9d52b_0 : decode cJ2_length_9d52b 0 = .ok (.aload_n 0, 1) := by decide +kernel
theorem dJ2_length_9d52b_1 : decode cJ2_length_9d52b 1 = .ok (.arraylength, 1) := by decide +kernel
theorem dJ2_length_9d52b_2 : decode cJ2_length_9d52b 2 = .ok (.iconst 1, 1) := by decide +kernel
theorem dJ2_length_9d52b_3 : decode cJ2_length_9d52b 3 = .ok (.ishr, 1) := by decide +kernel
theorem dJ2_length_9d52b_4 : decode cJ2_length_9d52b 4 = .ok (.ireturn, 1) := by decide +kernel
theorem dJ2_charAt_3b067_0 : decode cJ2_charAt_3b067 0 = .ok (.iload_n 1, 1) := by decide +kernel
theorem dJ2_charAt_3b067_1 : decode cJ2_charAt_3b067 1 = .ok (.aload_n 0, 1) := by decide +kernel
theorem dJ2_charAt_3b067_2 : decode cJ2_charAt_3b067 2 = .ok (.invokestatic 67, 3) := by decide +kernel
theorem dJ2_charAt_3b067_5 : decode cJ2_charAt_3b067 5 = .ok (.aload_n 0, 1) := by decide +kernel
theorem dJ2_charAt_3b067_6 : decode cJ2_charAt_3b067 6 = .ok (.iload_n 1, 1) := by decide +kernel
theorem dJ2_charAt_3b067_7 : decode cJ2_charAt_3b067 7 = .ok (.invokestatic 71, 3) := by decide +kernel
theorem dJ2_charAt_3b067_10 : decode cJ2_charAt_3b067 10 = .ok (.ireturn, 1) := by decide +kernel
theorem dJ2_checkIndex_2214a_0 : decode cJ2_checkIndex_2214a 0 = .ok (.iload_n 0, 1) := by decide +kernel
theorem dJ2_checkIndex_2214a_1 : decode cJ2_checkIndex_2214a 1 = .ok (.aload_n 1, 1) := by decide +kernel
theorem dJ2_checkIndex_2214a_2 : decode cJ2_checkIndex_2214a 2 = .ok (.invokestatic 48, 3) := by decide +kernel
theorem dJ2_checkIndex_2214a_5 : decode cJ2_checkIndex_2214a 5 = .ok (.invokestatic 414, 3) := by decide +kernel
theorem dJ2_checkIndex_2214a_8 : decode cJ2_checkIndex_2214a 8 = .ok (.return_, 1) := by decide +kernel
theorem dJ7_fill_53178_0 : decode cJ7_fill_53178 0 = .ok (.iconst 0, 1) := by decide +kernel
theorem dJ7_fill_53178_1 : decode cJ7_fill_53178 1 = .ok (.istore_n 2, 1) := by decide +kernel
theorem dJ7_fill_53178_2 : decode cJ7_fill_53178 2 = .ok (.aload_n 0, 1) := by decide +kernel
theorem dJ7_fill_53178_3 : decode cJ7_fill_53178 3 = .ok (.arraylength, 1) := by decide +kernel
theorem dJ7_fill_53178_4 : decode cJ7_fill_53178 4 = .ok (.istore_n 3, 1) := by decide +kernel
theorem dJ7_fill_53178_5 : decode cJ7_fill_53178 5 = .ok (.iload_n 2, 1) := by decide +kernel
theorem dJ7_fill_53178_6 : decode cJ7_fill_53178 6 = .ok (.iload_n 3, 1) := by decide +kernel
theorem dJ7_fill_53178_7 : decode cJ7_fill_53178 7 = .ok (.if_icmp .ge 13, 3) := by decide +kernel
theorem dJ7_fill_53178_10 : decode cJ7_fill_53178 10 = .ok (.aload_n 0, 1) := by decide +kernel
theorem dJ7_fill_53178_11 : decode cJ7_fill_53178 11 = .ok (.iload_n 2, 1) := by decide +kernel
theorem dJ7_fill_53178_12 : decode cJ7_fill_53178 12 = .ok (.iload_n 1, 1) := by decide +kernel
theorem dJ7_fill_53178_13 : decode cJ7_fill_53178 13 = .ok (.iastore, 1) := by decide +kernel
theorem dJ7_fill_53178_14 : decode cJ7_fill_53178 14 = .ok (.iinc 2 1, 3) := by decide +kernel
theorem dJ7_fill_53178_17 : decode cJ7_fill_53178 17 = .ok (.goto (-12), 3) := by decide +kernel
theorem dJ7_fill_53178_20 : decode cJ7_fill_53178 20 = .ok (.return_, 1) := by decide +kernel
theorem dJ3_checkIndex_8e157_0 : decode cJ3_checkIndex_8e157 0 = .ok (.iload_n 0, 1) := by decide +kernel
theorem dJ3_checkIndex_8e157_1 : decode cJ3_checkIndex_8e157 1 = .ok (.ifCond .lt 8, 3) := by decide +kernel
theorem dJ3_checkIndex_8e157_4 : decode cJ3_checkIndex_8e157 4 = .ok (.iload_n 0, 1) := by decide +kernel
theorem dJ3_checkIndex_8e157_5 : decode cJ3_checkIndex_8e157 5 = .ok (.iload_n 1, 1) := by decide +kernel
theorem dJ3_checkIndex_8e157_6 : decode cJ3_checkIndex_8e157 6 = .ok (.if_icmp .lt 10, 3) := by decide +kernel
theorem dJ3_checkIndex_8e157_9 : decode cJ3_checkIndex_8e157 9 = .ok (.aload_n 2, 1) := by decide +kernel
theorem dJ3_checkIndex_8e157_10 : decode cJ3_checkIndex_8e157 10 = .ok (.iload_n 0, 1) := by decide +kernel
theorem dJ3_checkIndex_8e157_11 : decode cJ3_checkIndex_8e157 11 = .ok (.iload_n 1, 1) := by decide +kernel
theorem dJ3_checkIndex_8e157_12 : decode cJ3_checkIndex_8e157 12 = .ok (.invokestatic 95, 3) := by decide +kernel
theorem dJ3_checkIndex_8e157_15 : decode cJ3_checkIndex_8e157 15 = .ok (.athrow, 1) := by decide +kernel
theorem dJ3_checkIndex_8e157_16 : decode cJ3_checkIndex_8e157 16 = .ok (.iload_n 0, 1) := by decide +kernel
theorem dJ3_checkIndex_8e157_17 : decode cJ3_checkIndex_8e157 17 = .ok (.ireturn, 1) := by decide +kernel
theorem dL_law_0 : decode cL_law 0 = .ok (.new 7, 3) := by decide +kernel
theorem dL_law_3 : decode cL_law 3 = .ok (.dup, 1) := by decide +kernel
theorem dL_law_4 : decode cL_law 4 = .ok (.invokespecial 9, 3) := by decide +kernel
theorem dL_law_7 : decode cL_law 7 = .ok (.astore_n 1, 1) := by decide +kernel
theorem dL_law_8 : decode cL_law 8 = .ok (.new 10, 3) := by decide +kernel
theorem dL_law_11 : decode cL_law 11 = .ok (.dup, 1) := by decide +kernel
theorem dL_law_12 : decode cL_law 12 = .ok (.invokespecial 12, 3) := by decide +kernel
theorem dL_law_15 : decode cL_law 15 = .ok (.astore_n 2, 1) := by decide +kernel
theorem dL_law_16 : decode cL_law 16 = .ok (.iconst 0, 1) := by decide +kernel
theorem dL_law_17 : decode cL_law 17 = .ok (.istore_n 3, 1) := by decide +kernel
theorem dL_law_18 : decode cL_law 18 = .ok (.iload_n 3, 1) := by decide +kernel
theorem dL_law_19 : decode cL_law 19 = .ok (.aload_n 0, 1) := by decide +kernel
theorem dL_law_20 : decode cL_law 20 = .ok (.arraylength, 1) := by decide +kernel
theorem dL_law_21 : decode cL_law 21 = .ok (.iconst 5, 1) := by decide +kernel
theorem dL_law_22 : decode cL_law 22 = .ok (.isub, 1) := by decide +kernel
theorem dL_law_23 : decode cL_law 23 = .ok (.if_icmp .gt 970, 3) := by decide +kernel
theorem dL_law_26 : decode cL_law 26 = .ok (.aload_n 0, 1) := by decide +kernel
theorem dL_law_27 : decode cL_law 27 = .ok (.iload_n 3, 1) := by decide +kernel
theorem dL_law_28 : decode cL_law 28 = .ok (.iaload, 1) := by decide +kernel
theorem dL_law_29 : decode cL_law 29 = .ok (.bipush 31, 2) := by decide +kernel
theorem dL_law_31 : decode cL_law 31 = .ok (.iand, 1) := by decide +kernel
theorem dL_law_32 : decode cL_law 32 = .ok (.tableswitch 955 0 26 #[124, 187, 200, 213, 236, 269, 302, 345, 398, 451, 474, 487, 540, 593, 616, 659, 682, 715, 728, 761, 814, 827, 840, 873, 886, 909, 932], 124) := by decide +kernel
theorem dL_law_156 : decode cL_law 156 = .ok (.aload_n 1, 1) := by decide +kernel
theorem dL_law_157 : decode cL_law 157 = .ok (.aload_n 0, 1) := by decide +kernel
theorem dL_law_158 : decode cL_law 158 = .ok (.iload_n 3, 1) := by decide +kernel
theorem dL_law_159 : decode cL_law 159 = .ok (.iconst 1, 1) := by decide +kernel
theorem dL_law_160 : decode cL_law 160 = .ok (.iadd, 1) := by decide +kernel
theorem dL_law_161 : decode cL_law 161 = .ok (.iaload, 1) := by decide +kernel
theorem dL_law_162 : decode cL_law 162 = .ok (.aload_n 0, 1) := by decide +kernel
theorem dL_law_163 : decode cL_law 163 = .ok (.iload_n 3, 1) := by decide +kernel
theorem dL_law_164 : decode cL_law 164 = .ok (.iconst 2, 1) := by decide +kernel
theorem dL_law_165 : decode cL_law 165 = .ok (.iadd, 1) := by decide +kernel
theorem dL_law_166 : decode cL_law 166 = .ok (.iaload, 1) := by decide +kernel
theorem dL_law_167 : decode cL_law 167 = .ok (.i2l, 1) := by decide +kernel
theorem dL_law_168 : decode cL_law 168 = .ok (.bipush 32, 2) := by decide +kernel
theorem dL_law_170 : decode cL_law 170 = .ok (.lshl, 1) := by decide +kernel
theorem dL_law_171 : decode cL_law 171 = .ok (.aload_n 0, 1) := by decide +kernel
theorem dL_law_172 : decode cL_law 172 = .ok (.iload_n 3, 1) := by decide +kernel
theorem dL_law_173 : decode cL_law 173 = .ok (.iconst 3, 1) := by decide +kernel
theorem dL_law_174 : decode cL_law 174 = .ok (.iadd, 1) := by decide +kernel
theorem dL_law_175 : decode cL_law 175 = .ok (.iaload, 1) := by decide +kernel
theorem dL_law_176 : decode cL_law 176 = .ok (.i2l, 1) := by decide +kernel
theorem dL_law_177 : decode cL_law 177 = .ok (.ldc2_w 13, 3) := by decide +kernel
theorem dL_law_180 : decode cL_law 180 = .ok (.land, 1) := by decide +kernel
theorem dL_law_181 : decode cL_law 181 = .ok (.lor, 1) := by decide +kernel
theorem dL_law_182 : decode cL_law 182 = .ok (.invokevirtual 15, 3) := by decide +kernel
theorem dL_law_185 : decode cL_law 185 = .ok (.aload_n 2, 1) := by decide +kernel
theorem dL_law_186 : decode cL_law 186 = .ok (.aload_n 0, 1) := by decide +kernel
theorem dL_law_187 : decode cL_law 187 = .ok (.iload_n 3, 1) := by decide +kernel
theorem dL_law_188 : decode cL_law 188 = .ok (.iconst 1, 1) := by decide +kernel
theorem dL_law_189 : decode cL_law 189 = .ok (.iadd, 1) := by decide +kernel
theorem dL_law_190 : decode cL_law 190 = .ok (.iaload, 1) := by decide +kernel
theorem dL_law_191 : decode cL_law 191 = .ok (.aload_n 0, 1) := by decide +kernel
theorem dL_law_192 : decode cL_law 192 = .ok (.iload_n 3, 1) := by decide +kernel
theorem dL_law_193 : decode cL_law 193 = .ok (.iconst 2, 1) := by decide +kernel
theorem dL_law_194 : decode cL_law 194 = .ok (.iadd, 1) := by decide +kernel
theorem dL_law_195 : decode cL_law 195 = .ok (.iaload, 1) := by decide +kernel
theorem dL_law_196 : decode cL_law 196 = .ok (.i2l, 1) := by decide +kernel
theorem dL_law_197 : decode cL_law 197 = .ok (.bipush 32, 2) := by decide +kernel
theorem dL_law_199 : decode cL_law 199 = .ok (.lshl, 1) := by decide +kernel
theorem dL_law_200 : decode cL_law 200 = .ok (.aload_n 0, 1) := by decide +kernel
theorem dL_law_201 : decode cL_law 201 = .ok (.iload_n 3, 1) := by decide +kernel
theorem dL_law_202 : decode cL_law 202 = .ok (.iconst 3, 1) := by decide +kernel
theorem dL_law_203 : decode cL_law 203 = .ok (.iadd, 1) := by decide +kernel
theorem dL_law_204 : decode cL_law 204 = .ok (.iaload, 1) := by decide +kernel
theorem dL_law_205 : decode cL_law 205 = .ok (.i2l, 1) := by decide +kernel
theorem dL_law_206 : decode cL_law 206 = .ok (.ldc2_w 13, 3) := by decide +kernel
theorem dL_law_209 : decode cL_law 209 = .ok (.land, 1) := by decide +kernel
theorem dL_law_210 : decode cL_law 210 = .ok (.lor, 1) := by decide +kernel
theorem dL_law_211 : decode cL_law 211 = .ok (.invokevirtual 19, 3) := by decide +kernel
theorem dL_law_214 : decode cL_law 214 = .ok (.if_icmp .eq 773, 3) := by decide +kernel
theorem dL_law_217 : decode cL_law 217 = .ok (.iconst 0, 1) := by decide +kernel
theorem dL_law_218 : decode cL_law 218 = .ok (.ireturn, 1) := by decide +kernel
theorem dL_law_219 : decode cL_law 219 = .ok (.aload_n 1, 1) := by decide +kernel
theorem dL_law_220 : decode cL_law 220 = .ok (.invokevirtual 20, 3) := by decide +kernel
theorem dL_law_223 : decode cL_law 223 = .ok (.aload_n 2, 1) := by decide +kernel
theorem dL_law_224 : decode cL_law 224 = .ok (.invokevirtual 24, 3) := by decide +kernel
theorem dL_law_227 : decode cL_law 227 = .ok (.if_icmp .eq 760, 3) := by decide +kernel
theorem dL_law_230 : decode cL_law 230 = .ok (.iconst 0, 1) := by decide +kernel
theorem dL_law_231 : decode cL_law 231 = .ok (.ireturn, 1) := by decide +kernel
theorem dL_law_232 : decode cL_law 232 = .ok (.aload_n 1, 1) := by decide +kernel
theorem dL_law_233 : decode cL_law 233 = .ok (.invokevirtual 25, 3) := by decide +kernel
theorem dL_law_236 : decode cL_law 236 = .ok (.aload_n 2, 1) := by decide +kernel
theorem dL_law_237 : decode cL_law 237 = .ok (.invokevirtual 28, 3) := by decide +kernel
theorem dL_law_240 : decode cL_law 240 = .ok (.if_icmp .eq 747, 3) := by decide +kernel
theorem dL_law_243 : decode cL_law 243 = .ok (.iconst 0, 1) := by decide +kernel
theorem dL_law_244 : decode cL_law 244 = .ok (.ireturn, 1) := by decide +kernel
theorem dL_law_245 : decode cL_law 245 = .ok (.aload_n 1, 1) := by decide +kernel
theorem dL_law_246 : decode cL_law 246 = .ok (.aload_n 0, 1) := by decide +kernel
theorem dL_law_247 : decode cL_law 247 = .ok (.iload_n 3, 1) := by decide +kernel
theorem dL_law_248 : decode cL_law 248 = .ok (.iconst 1, 1) := by decide +kernel
theorem dL_law_249 : decode cL_law 249 = .ok (.iadd, 1) := by decide +kernel
theorem dL_law_250 : decode cL_law 250 = .ok (.iaload, 1) := by decide +kernel
theorem dL_law_251 : decode cL_law 251 = .ok (.invokevirtual 29, 3) := by decide +kernel
theorem dL_law_254 : decode cL_law 254 = .ok (.aload_n 2, 1) := by decide +kernel
theorem dL_law_255 : decode cL_law 255 = .ok (.aload_n 0, 1) := by decide +kernel
theorem dL_law_256 : decode cL_law 256 = .ok (.iload_n 3, 1) := by decide +kernel
theorem dL_law_257 : decode cL_law 257 = .ok (.iconst 1, 1) := by decide +kernel
theorem dL_law_258 : decode cL_law 258 = .ok (.iadd, 1) := by decide +kernel
theorem dL_law_259 : decode cL_law 259 = .ok (.iaload, 1) := by decide +kernel
theorem dL_law_260 : decode cL_law 260 = .ok (.invokevirtual 33, 3) := by decide +kernel
theorem dL_law_263 : decode cL_law 263 = .ok (.if_icmp .eq 724, 3) := by decide +kernel
theorem dL_law_266 : decode cL_law 266 = .ok (.iconst 0, 1) := by decide +kernel
theorem dL_law_267 : decode cL_law 267 = .ok (.ireturn, 1) := by decide +kernel
theorem dL_law_268 : decode cL_law 268 = .ok (.aload_n 1, 1) := by decide +kernel
theorem dL_law_269 : decode cL_law 269 = .ok (.aload_n 0, 1) := by decide +kernel
theorem dL_law_270 : decode cL_law 270 = .ok (.iload_n 3, 1) := by decide +kernel
theorem dL_law_271 : decode cL_law 271 = .ok (.iconst 1, 1) := by decide +kernel
theorem dL_law_272 : decode cL_law 272 = .ok (.iadd, 1) := by decide +kernel
theorem dL_law_273 : decode cL_law 273 = .ok (.iaload, 1) := by decide +kernel
theorem dL_law_274 : decode cL_law 274 = .ok (.aload_n 0, 1) := by decide +kernel
theorem dL_law_275 : decode cL_law 275 = .ok (.iload_n 3, 1) := by decide +kernel
theorem dL_law_276 : decode cL_law 276 = .ok (.iconst 2, 1) := by decide +kernel
theorem dL_law_277 : decode cL_law 277 = .ok (.iadd, 1) := by decide +kernel
theorem dL_law_278 : decode cL_law 278 = .ok (.iaload, 1) := by decide +kernel
theorem dL_law_279 : decode cL_law 279 = .ok (.invokevirtual 34, 3) := by decide +kernel
theorem dL_law_282 : decode cL_law 282 = .ok (.aload_n 2, 1) := by decide +kernel
theorem dL_law_283 : decode cL_law 283 = .ok (.aload_n 0, 1) := by decide +kernel
theorem dL_law_284 : decode cL_law 284 = .ok (.iload_n 3, 1) := by decide +kernel
theorem dL_law_285 : decode cL_law 285 = .ok (.iconst 1, 1) := by decide +kernel
theorem dL_law_286 : decode cL_law 286 = .ok (.iadd, 1) := by decide +kernel
theorem dL_law_287 : decode cL_law 287 = .ok (.iaload, 1) := by decide +kernel
theorem dL_law_288 : decode cL_law 288 = .ok (.aload_n 0, 1) := by decide +kernel
theorem dL_law_289 : decode cL_law 289 = .ok (.iload_n 3, 1) := by decide +kernel
theorem dL_law_290 : decode cL_law 290 = .ok (.iconst 2, 1) := by decide +kernel
theorem dL_law_291 : decode cL_law 291 = .ok (.iadd, 1) := by decide +kernel
theorem dL_law_292 : decode cL_law 292 = .ok (.iaload, 1) := by decide +kernel
theorem dL_law_293 : decode cL_law 293 = .ok (.invokevirtual 38, 3) := by decide +kernel
theorem dL_law_296 : decode cL_law 296 = .ok (.if_icmp .eq 691, 3) := by decide +kernel
theorem dL_law_299 : decode cL_law 299 = .ok (.iconst 0, 1) := by decide +kernel
theorem dL_law_300 : decode cL_law 300 = .ok (.ireturn, 1) := by decide +kernel
theorem dL_law_301 : decode cL_law 301 = .ok (.aload_n 1, 1) := by decide +kernel
theorem dL_law_302 : decode cL_law 302 = .ok (.aload_n 0, 1) := by decide +kernel
theorem dL_law_303 : decode cL_law 303 = .ok (.iload_n 3, 1) := by decide +kernel
theorem dL_law_304 : decode cL_law 304 = .ok (.iconst 1, 1) := by decide +kernel
theorem dL_law_305 : decode cL_law 305 = .ok (.iadd, 1) := by decide +kernel
theorem dL_law_306 : decode cL_law 306 = .ok (.iaload, 1) := by decide +kernel
theorem dL_law_307 : decode cL_law 307 = .ok (.aload_n 0, 1) := by decide +kernel
theorem dL_law_308 : decode cL_law 308 = .ok (.iload_n 3, 1) := by decide +kernel
theorem dL_law_309 : decode cL_law 309 = .ok (.iconst 2, 1) := by decide +kernel
theorem dL_law_310 : decode cL_law 310 = .ok (.iadd, 1) := by decide +kernel
theorem dL_law_311 : decode cL_law 311 = .ok (.iaload, 1) := by decide +kernel
theorem dL_law_312 : decode cL_law 312 = .ok (.invokevirtual 39, 3) := by decide +kernel
theorem dL_law_315 : decode cL_law 315 = .ok (.aload_n 2, 1) := by decide +kernel
theorem dL_law_316 : decode cL_law 316 = .ok (.aload_n 0, 1) := by decide +kernel
theorem dL_law_317 : decode cL_law 317 = .ok (.iload_n 3, 1) := by decide +kernel
theorem dL_law_318 : decode cL_law 318 = .ok (.iconst 1, 1) := by decide +kernel
theorem dL_law_319 : decode cL_law 319 = .ok (.iadd, 1) := by decide +kernel
theorem dL_law_320 : decode cL_law 320 = .ok (.iaload, 1) := by decide +kernel
theorem dL_law_321 : decode cL_law 321 = .ok (.aload_n 0, 1) := by decide +kernel
theorem dL_law_322 : decode cL_law 322 = .ok (.iload_n 3, 1) := by decide +kernel
theorem dL_law_323 : decode cL_law 323 = .ok (.iconst 2, 1) := by decide +kernel
theorem dL_law_324 : decode cL_law 324 = .ok (.iadd, 1) := by decide +kernel
theorem dL_law_325 : decode cL_law 325 = .ok (.iaload, 1) := by decide +kernel
theorem dL_law_326 : decode cL_law 326 = .ok (.invokevirtual 42, 3) := by decide +kernel
theorem dL_law_329 : decode cL_law 329 = .ok (.if_icmp .eq 658, 3) := by decide +kernel
theorem dL_law_332 : decode cL_law 332 = .ok (.iconst 0, 1) := by decide +kernel
theorem dL_law_333 : decode cL_law 333 = .ok (.ireturn, 1) := by decide +kernel
theorem dL_law_334 : decode cL_law 334 = .ok (.aload_n 1, 1) := by decide +kernel
theorem dL_law_335 : decode cL_law 335 = .ok (.aload_n 0, 1) := by decide +kernel
theorem dL_law_336 : decode cL_law 336 = .ok (.iload_n 3, 1) := by decide +kernel
theorem dL_law_337 : decode cL_law 337 = .ok (.iconst 1, 1) := by decide +kernel
theorem dL_law_338 : decode cL_law 338 = .ok (.iadd, 1) := by decide +kernel
theorem dL_law_339 : decode cL_law 339 = .ok (.iaload, 1) := by decide +kernel
theorem dL_law_340 : decode cL_law 340 = .ok (.aload_n 0, 1) := by decide +kernel
theorem dL_law_341 : decode cL_law 341 = .ok (.iload_n 3, 1) := by decide +kernel
theorem dL_law_342 : decode cL_law 342 = .ok (.iconst 2, 1) := by decide +kernel
theorem dL_law_343 : decode cL_law 343 = .ok (.iadd, 1) := by decide +kernel
theorem dL_law_344 : decode cL_law 344 = .ok (.iaload, 1) := by decide +kernel
theorem dL_law_345 : decode cL_law 345 = .ok (.aload_n 0, 1) := by decide +kernel
theorem dL_law_346 : decode cL_law 346 = .ok (.iload_n 3, 1) := by decide +kernel
theorem dL_law_347 : decode cL_law 347 = .ok (.iconst 3, 1) := by decide +kernel
theorem dL_law_348 : decode cL_law 348 = .ok (.iadd, 1) := by decide +kernel
theorem dL_law_349 : decode cL_law 349 = .ok (.iaload, 1) := by decide +kernel
theorem dL_law_350 : decode cL_law 350 = .ok (.invokevirtual 43, 3) := by decide +kernel
theorem dL_law_353 : decode cL_law 353 = .ok (.aload_n 2, 1) := by decide +kernel
theorem dL_law_354 : decode cL_law 354 = .ok (.aload_n 0, 1) := by decide +kernel
theorem dL_law_355 : decode cL_law 355 = .ok (.iload_n 3, 1) := by decide +kernel
theorem dL_law_356 : decode cL_law 356 = .ok (.iconst 1, 1) := by decide +kernel
theorem dL_law_357 : decode cL_law 357 = .ok (.iadd, 1) := by decide +kernel
theorem dL_law_358 : decode cL_law 358 = .ok (.iaload, 1) := by decide +kernel
theorem dL_law_359 : decode cL_law 359 = .ok (.aload_n 0, 1) := by decide +kernel
theorem dL_law_360 : decode cL_law 360 = .ok (.iload_n 3, 1) := by decide +kernel
theorem dL_law_361 : decode cL_law 361 = .ok (.iconst 2, 1) := by decide +kernel
theorem dL_law_362 : decode cL_law 362 = .ok (.iadd, 1) := by decide +kernel
theorem dL_law_363 : decode cL_law 363 = .ok (.iaload, 1) := by decide +kernel
theorem dL_law_364 : decode cL_law 364 = .ok (.aload_n 0, 1) := by decide +kernel
theorem dL_law_365 : decode cL_law 365 = .ok (.iload_n 3, 1) := by decide +kernel
theorem dL_law_366 : decode cL_law 366 = .ok (.iconst 3, 1) := by decide +kernel
theorem dL_law_367 : decode cL_law 367 = .ok (.iadd, 1) := by decide +kernel
theorem dL_law_368 : decode cL_law 368 = .ok (.iaload, 1) := by decide +kernel
theorem dL_law_369 : decode cL_law 369 = .ok (.invokevirtual 47, 3) := by decide +kernel
theorem dL_law_372 : decode cL_law 372 = .ok (.if_icmp .eq 615, 3) := by decide +kernel
theorem dL_law_375 : decode cL_law 375 = .ok (.iconst 0, 1) := by decide +kernel
theorem dL_law_376 : decode cL_law 376 = .ok (.ireturn, 1) := by decide +kernel
theorem dL_law_377 : decode cL_law 377 = .ok (.aload_n 1, 1) := by decide +kernel
theorem dL_law_378 : decode cL_law 378 = .ok (.aload_n 0, 1) := by decide +kernel
theorem dL_law_379 : decode cL_law 379 = .ok (.iload_n 3, 1) := by decide +kernel
theorem dL_law_380 : decode cL_law 380 = .ok (.iconst 1, 1) := by decide +kernel
theorem dL_law_381 : decode cL_law 381 = .ok (.iadd, 1) := by decide +kernel
theorem dL_law_382 : decode cL_law 382 = .ok (.iaload, 1) := by decide +kernel
theorem dL_law_383 : decode cL_law 383 = .ok (.aload_n 0, 1) := by decide +kernel
theorem dL_law_384 : decode cL_law 384 = .ok (.iload_n 3, 1) := by decide +kernel
theorem dL_law_385 : decode cL_law 385 = .ok (.iconst 2, 1) := by decide +kernel
theorem dL_law_386 : decode cL_law 386 = .ok (.iadd, 1) := by decide +kernel
theorem dL_law_387 : decode cL_law 387 = .ok (.iaload, 1) := by decide +kernel
theorem dL_law_388 : decode cL_law 388 = .ok (.aload_n 0, 1) := by decide +kernel
theorem dL_law_389 : decode cL_law 389 = .ok (.iload_n 3, 1) := by decide +kernel
theorem dL_law_390 : decode cL_law 390 = .ok (.iconst 3, 1) := by decide +kernel
theorem dL_law_391 : decode cL_law 391 = .ok (.iadd, 1) := by decide +kernel
theorem dL_law_392 : decode cL_law 392 = .ok (.iaload, 1) := by decide +kernel
theorem dL_law_393 : decode cL_law 393 = .ok (.aload_n 0, 1) := by decide +kernel
theorem dL_law_394 : decode cL_law 394 = .ok (.iload_n 3, 1) := by decide +kernel
theorem dL_law_395 : decode cL_law 395 = .ok (.iconst 4, 1) := by decide +kernel
theorem dL_law_396 : decode cL_law 396 = .ok (.iadd, 1) := by decide +kernel
theorem dL_law_397 : decode cL_law 397 = .ok (.iaload, 1) := by decide +kernel
theorem dL_law_398 : decode cL_law 398 = .ok (.invokevirtual 48, 3) := by decide +kernel
theorem dL_law_401 : decode cL_law 401 = .ok (.aload_n 2, 1) := by decide +kernel
theorem dL_law_402 : decode cL_law 402 = .ok (.aload_n 0, 1) := by decide +kernel
theorem dL_law_403 : decode cL_law 403 = .ok (.iload_n 3, 1) := by decide +kernel
theorem dL_law_404 : decode cL_law 404 = .ok (.iconst 1, 1) := by decide +kernel
theorem dL_law_405 : decode cL_law 405 = .ok (.iadd, 1) := by decide +kernel
theorem dL_law_406 : decode cL_law 406 = .ok (.iaload, 1) := by decide +kernel
theorem dL_law_407 : decode cL_law 407 = .ok (.aload_n 0, 1) := by decide +kernel
theorem dL_law_408 : decode cL_law 408 = .ok (.iload_n 3, 1) := by decide +kernel
theorem dL_law_409 : decode cL_law 409 = .ok (.iconst 2, 1) := by decide +kernel
theorem dL_law_410 : decode cL_law 410 = .ok (.iadd, 1) := by decide +kernel
theorem dL_law_411 : decode cL_law 411 = .ok (.iaload, 1) := by decide +kernel
theorem dL_law_412 : decode cL_law 412 = .ok (.aload_n 0, 1) := by decide +kernel
theorem dL_law_413 : decode cL_law 413 = .ok (.iload_n 3, 1) := by decide +kernel
theorem dL_law_414 : decode cL_law 414 = .ok (.iconst 3, 1) := by decide +kernel
theorem dL_law_415 : decode cL_law 415 = .ok (.iadd, 1) := by decide +kernel
theorem dL_law_416 : decode cL_law 416 = .ok (.iaload, 1) := by decide +kernel
theorem dL_law_417 : decode cL_law 417 = .ok (.aload_n 0, 1) := by decide +kernel
theorem dL_law_418 : decode cL_law 418 = .ok (.iload_n 3, 1) := by decide +kernel
theorem dL_law_419 : decode cL_law 419 = .ok (.iconst 4, 1) := by decide +kernel
theorem dL_law_420 : decode cL_law 420 = .ok (.iadd, 1) := by decide +kernel
theorem dL_law_421 : decode cL_law 421 = .ok (.iaload, 1) := by decide +kernel
theorem dL_law_422 : decode cL_law 422 = .ok (.invokevirtual 52, 3) := by decide +kernel
theorem dL_law_425 : decode cL_law 425 = .ok (.if_icmp .eq 562, 3) := by decide +kernel
theorem dL_law_428 : decode cL_law 428 = .ok (.iconst 0, 1) := by decide +kernel
theorem dL_law_429 : decode cL_law 429 = .ok (.ireturn, 1) := by decide +kernel
theorem dL_law_430 : decode cL_law 430 = .ok (.aload_n 1, 1) := by decide +kernel
theorem dL_law_431 : decode cL_law 431 = .ok (.aload_n 0, 1) := by decide +kernel
theorem dL_law_432 : decode cL_law 432 = .ok (.iload_n 3, 1) := by decide +kernel
theorem dL_law_433 : decode cL_law 433 = .ok (.iconst 1, 1) := by decide +kernel
theorem dL_law_434 : decode cL_law 434 = .ok (.iadd, 1) := by decide +kernel
theorem dL_law_435 : decode cL_law 435 = .ok (.iaload, 1) := by decide +kernel
theorem dL_law_436 : decode cL_law 436 = .ok (.aload_n 0, 1) := by decide +kernel
theorem dL_law_437 : decode cL_law 437 = .ok (.iload_n 3, 1) := by decide +kernel
theorem dL_law_438 : decode cL_law 438 = .ok (.iconst 2, 1) := by decide +kernel
theorem dL_law_439 : decode cL_law 439 = .ok (.iadd, 1) := by decide +kernel
theorem dL_law_440 : decode cL_law 440 = .ok (.iaload, 1) := by decide +kernel
theorem dL_law_441 : decode cL_law 441 = .ok (.aload_n 0, 1) := by decide +kernel
theorem dL_law_442 : decode cL_law 442 = .ok (.iload_n 3, 1) := by decide +kernel
theorem dL_law_443 : decode cL_law 443 = .ok (.iconst 3, 1) := by decide +kernel
theorem dL_law_444 : decode cL_law 444 = .ok (.iadd, 1) := by decide +kernel
theorem dL_law_445 : decode cL_law 445 = .ok (.iaload, 1) := by decide +kernel
theorem dL_law_446 : decode cL_law 446 = .ok (.aload_n 0, 1) := by decide +kernel
theorem dL_law_447 : decode cL_law 447 = .ok (.iload_n 3, 1) := by decide +kernel
theorem dL_law_448 : decode cL_law 448 = .ok (.iconst 4, 1) := by decide +kernel
theorem dL_law_449 : decode cL_law 449 = .ok (.iadd, 1) := by decide +kernel
theorem dL_law_450 : decode cL_law 450 = .ok (.iaload, 1) := by decide +kernel
theorem dL_law_451 : decode cL_law 451 = .ok (.invokevirtual 53, 3) := by decide +kernel
theorem dL_law_454 : decode cL_law 454 = .ok (.aload_n 2, 1) := by decide +kernel
theorem dL_law_455 : decode cL_law 455 = .ok (.aload_n 0, 1) := by decide +kernel
theorem dL_law_456 : decode cL_law 456 = .ok (.iload_n 3, 1) := by decide +kernel
theorem dL_law_457 : decode cL_law 457 = .ok (.iconst 1, 1) := by decide +kernel
theorem dL_law_458 : decode cL_law 458 = .ok (.iadd, 1) := by decide +kernel
theorem dL_law_459 : decode cL_law 459 = .ok (.iaload, 1) := by decide +kernel
theorem dL_law_460 : decode cL_law 460 = .ok (.aload_n 0, 1) := by decide +kernel
theorem dL_law_461 : decode cL_law 461 = .ok (.iload_n 3, 1) := by decide +kernel
theorem dL_law_462 : decode cL_law 462 = .ok (.iconst 2, 1) := by decide +kernel
theorem dL_law_463 : decode cL_law 463 = .ok (.iadd, 1) := by decide +kernel
theorem dL_law_464 : decode cL_law 464 = .ok (.iaload, 1) := by decide +kernel
theorem dL_law_465 : decode cL_law 465 = .ok (.aload_n 0, 1) := by decide +kernel
theorem dL_law_466 : decode cL_law 466 = .ok (.iload_n 3, 1) := by decide +kernel
theorem dL_law_467 : decode cL_law 467 = .ok (.iconst 3, 1) := by decide +kernel
theorem dL_law_468 : decode cL_law 468 = .ok (.iadd, 1) := by decide +kernel
theorem dL_law_469 : decode cL_law 469 = .ok (.iaload, 1) := by decide +kernel
theorem dL_law_470 : decode cL_law 470 = .ok (.aload_n 0, 1) := by decide +kernel
theorem dL_law_471 : decode cL_law 471 = .ok (.iload_n 3, 1) := by decide +kernel
theorem dL_law_472 : decode cL_law 472 = .ok (.iconst 4, 1) := by decide +kernel
theorem dL_law_473 : decode cL_law 473 = .ok (.iadd, 1) := by decide +kernel
theorem dL_law_474 : decode cL_law 474 = .ok (.iaload, 1) := by decide +kernel
theorem dL_law_475 : decode cL_law 475 = .ok (.invokevirtual 56, 3) := by decide +kernel
theorem dL_law_478 : decode cL_law 478 = .ok (.if_icmp .eq 509, 3) := by decide +kernel
theorem dL_law_481 : decode cL_law 481 = .ok (.iconst 0, 1) := by decide +kernel
theorem dL_law_482 : decode cL_law 482 = .ok (.ireturn, 1) := by decide +kernel
theorem dL_law_483 : decode cL_law 483 = .ok (.aload_n 1, 1) := by decide +kernel
theorem dL_law_484 : decode cL_law 484 = .ok (.aload_n 0, 1) := by decide +kernel
theorem dL_law_485 : decode cL_law 485 = .ok (.iload_n 3, 1) := by decide +kernel
theorem dL_law_486 : decode cL_law 486 = .ok (.iconst 1, 1) := by decide +kernel
theorem dL_law_487 : decode cL_law 487 = .ok (.iadd, 1) := by decide +kernel
theorem dL_law_488 : decode cL_law 488 = .ok (.iaload, 1) := by decide +kernel
theorem dL_law_489 : decode cL_law 489 = .ok (.invokevirtual 57, 3) := by decide +kernel
theorem dL_law_492 : decode cL_law 492 = .ok (.aload_n 2, 1) := by decide +kernel
theorem dL_law_493 : decode cL_law 493 = .ok (.aload_n 0, 1) := by decide +kernel
theorem dL_law_494 : decode cL_law 494 = .ok (.iload_n 3, 1) := by decide +kernel
theorem dL_law_495 : decode cL_law 495 = .ok (.iconst 1, 1) := by decide +kernel
theorem dL_law_496 : decode cL_law 496 = .ok (.iadd, 1) := by decide +kernel
theorem dL_law_497 : decode cL_law 497 = .ok (.iaload, 1) := by decide +kernel
theorem dL_law_498 : decode cL_law 498 = .ok (.invokevirtual 60, 3) := by decide +kernel
theorem dL_law_501 : decode cL_law 501 = .ok (.if_icmp .eq 486, 3) := by decide +kernel
theorem dL_law_504 : decode cL_law 504 = .ok (.iconst 0, 1) := by decide +kernel
theorem dL_law_505 : decode cL_law 505 = .ok (.ireturn, 1) := by decide +kernel
theorem dL_law_506 : decode cL_law 506 = .ok (.aload_n 1, 1) := by decide +kernel
theorem dL_law_507 : decode cL_law 507 = .ok (.invokevirtual 61, 3) := by decide +kernel
theorem dL_law_510 : decode cL_law 510 = .ok (.aload_n 2, 1) := by decide +kernel
theorem dL_law_511 : decode cL_law 511 = .ok (.invokevirtual 64, 3) := by decide +kernel
theorem dL_law_514 : decode cL_law 514 = .ok (.if_icmp .eq 473, 3) := by decide +kernel
theorem dL_law_517 : decode cL_law 517 = .ok (.iconst 0, 1) := by decide +kernel
theorem dL_law_518 : decode cL_law 518 = .ok (.ireturn, 1) := by decide +kernel
theorem dL_law_519 : decode cL_law 519 = .ok (.aload_n 1, 1) := by decide +kernel
theorem dL_law_520 : decode cL_law 520 = .ok (.aload_n 0, 1) := by decide +kernel
theorem dL_law_521 : decode cL_law 521 = .ok (.iload_n 3, 1) := by decide +kernel
theorem dL_law_522 : decode cL_law 522 = .ok (.iconst 1, 1) := by decide +kernel
theorem dL_law_523 : decode cL_law 523 = .ok (.iadd, 1) := by decide +kernel
theorem dL_law_524 : decode cL_law 524 = .ok (.iaload, 1) := by decide +kernel
theorem dL_law_525 : decode cL_law 525 = .ok (.aload_n 0, 1) := by decide +kernel
theorem dL_law_526 : decode cL_law 526 = .ok (.iload_n 3, 1) := by decide +kernel
theorem dL_law_527 : decode cL_law 527 = .ok (.iconst 2, 1) := by decide +kernel
theorem dL_law_528 : decode cL_law 528 = .ok (.iadd, 1) := by decide +kernel
theorem dL_law_529 : decode cL_law 529 = .ok (.iaload, 1) := by decide +kernel
theorem dL_law_530 : decode cL_law 530 = .ok (.aload_n 0, 1) := by decide +kernel
theorem dL_law_531 : decode cL_law 531 = .ok (.iload_n 3, 1) := by decide +kernel
theorem dL_law_532 : decode cL_law 532 = .ok (.iconst 3, 1) := by decide +kernel
theorem dL_law_533 : decode cL_law 533 = .ok (.iadd, 1) := by decide +kernel
theorem dL_law_534 : decode cL_law 534 = .ok (.iaload, 1) := by decide +kernel
theorem dL_law_535 : decode cL_law 535 = .ok (.aload_n 0, 1) := by decide +kernel
theorem dL_law_536 : decode cL_law 536 = .ok (.iload_n 3, 1) := by decide +kernel
theorem dL_law_537 : decode cL_law 537 = .ok (.iconst 4, 1) := by decide +kernel
theorem dL_law_538 : decode cL_law 538 = .ok (.iadd, 1) := by decide +kernel
theorem dL_law_539 : decode cL_law 539 = .ok (.iaload, 1) := by decide +kernel
theorem dL_law_540 : decode cL_law 540 = .ok (.invokevirtual 65, 3) := by decide +kernel
theorem dL_law_543 : decode cL_law 543 = .ok (.aload_n 2, 1) := by decide +kernel
theorem dL_law_544 : decode cL_law 544 = .ok (.aload_n 0, 1) := by decide +kernel
theorem dL_law_545 : decode cL_law 545 = .ok (.iload_n 3, 1) := by decide +kernel
theorem dL_law_546 : decode cL_law 546 = .ok (.iconst 1, 1) := by decide +kernel
theorem dL_law_547 : decode cL_law 547 = .ok (.iadd, 1) := by decide +kernel
theorem dL_law_548 : decode cL_law 548 = .ok (.iaload, 1) := by decide +kernel
theorem dL_law_549 : decode cL_law 549 = .ok (.aload_n 0, 1) := by decide +kernel
theorem dL_law_550 : decode cL_law 550 = .ok (.iload_n 3, 1) := by decide +kernel
theorem dL_law_551 : decode cL_law 551 = .ok (.iconst 2, 1) := by decide +kernel
theorem dL_law_552 : decode cL_law 552 = .ok (.iadd, 1) := by decide +kernel
theorem dL_law_553 : decode cL_law 553 = .ok (.iaload, 1) := by decide +kernel
theorem dL_law_554 : decode cL_law 554 = .ok (.aload_n 0, 1) := by decide +kernel
theorem dL_law_555 : decode cL_law 555 = .ok (.iload_n 3, 1) := by decide +kernel
theorem dL_law_556 : decode cL_law 556 = .ok (.iconst 3, 1) := by decide +kernel
theorem dL_law_557 : decode cL_law 557 = .ok (.iadd, 1) := by decide +kernel
theorem dL_law_558 : decode cL_law 558 = .ok (.iaload, 1) := by decide +kernel
theorem dL_law_559 : decode cL_law 559 = .ok (.aload_n 0, 1) := by decide +kernel
theorem dL_law_560 : decode cL_law 560 = .ok (.iload_n 3, 1) := by decide +kernel
theorem dL_law_561 : decode cL_law 561 = .ok (.iconst 4, 1) := by decide +kernel
theorem dL_law_562 : decode cL_law 562 = .ok (.iadd, 1) := by decide +kernel
theorem dL_law_563 : decode cL_law 563 = .ok (.iaload, 1) := by decide +kernel
theorem dL_law_564 : decode cL_law 564 = .ok (.invokevirtual 68, 3) := by decide +kernel
theorem dL_law_567 : decode cL_law 567 = .ok (.if_icmp .eq 420, 3) := by decide +kernel
theorem dL_law_570 : decode cL_law 570 = .ok (.iconst 0, 1) := by decide +kernel
theorem dL_law_571 : decode cL_law 571 = .ok (.ireturn, 1) := by decide +kernel
theorem dL_law_572 : decode cL_law 572 = .ok (.aload_n 1, 1) := by decide +kernel
theorem dL_law_573 : decode cL_law 573 = .ok (.aload_n 0, 1) := by decide +kernel
theorem dL_law_574 : decode cL_law 574 = .ok (.iload_n 3, 1) := by decide +kernel
theorem dL_law_575 : decode cL_law 575 = .ok (.iconst 1, 1) := by decide +kernel
theorem dL_law_576 : decode cL_law 576 = .ok (.iadd, 1) := by decide +kernel
theorem dL_law_577 : decode cL_law 577 = .ok (.iaload, 1) := by decide +kernel
theorem dL_law_578 : decode cL_law 578 = .ok (.aload_n 0, 1) := by decide +kernel
theorem dL_law_579 : decode cL_law 579 = .ok (.iload_n 3, 1) := by decide +kernel
theorem dL_law_580 : decode cL_law 580 = .ok (.iconst 2, 1) := by decide +kernel
theorem dL_law_581 : decode cL_law 581 = .ok (.iadd, 1) := by decide +kernel
theorem dL_law_582 : decode cL_law 582 = .ok (.iaload, 1) := by decide +kernel
theorem dL_law_583 : decode cL_law 583 = .ok (.aload_n 0, 1) := by decide +kernel
theorem dL_law_584 : decode cL_law 584 = .ok (.iload_n 3, 1) := by decide +kernel
theorem dL_law_585 : decode cL_law 585 = .ok (.iconst 3, 1) := by decide +kernel
theorem dL_law_586 : decode cL_law 586 = .ok (.iadd, 1) := by decide +kernel
theorem dL_law_587 : decode cL_law 587 = .ok (.iaload, 1) := by decide +kernel
theorem dL_law_588 : decode cL_law 588 = .ok (.aload_n 0, 1) := by decide +kernel
theorem dL_law_589 : decode cL_law 589 = .ok (.iload_n 3, 1) := by decide +kernel
theorem dL_law_590 : decode cL_law 590 = .ok (.iconst 4, 1) := by decide +kernel
theorem dL_law_591 : decode cL_law 591 = .ok (.iadd, 1) := by decide +kernel
theorem dL_law_592 : decode cL_law 592 = .ok (.iaload, 1) := by decide +kernel
theorem dL_law_593 : decode cL_law 593 = .ok (.invokevirtual 69, 3) := by decide +kernel
theorem dL_law_596 : decode cL_law 596 = .ok (.aload_n 2, 1) := by decide +kernel
theorem dL_law_597 : decode cL_law 597 = .ok (.aload_n 0, 1) := by decide +kernel
theorem dL_law_598 : decode cL_law 598 = .ok (.iload_n 3, 1) := by decide +kernel
theorem dL_law_599 : decode cL_law 599 = .ok (.iconst 1, 1) := by decide +kernel
theorem dL_law_600 : decode cL_law 600 = .ok (.iadd, 1) := by decide +kernel
theorem dL_law_601 : decode cL_law 601 = .ok (.iaload, 1) := by decide +kernel
theorem dL_law_602 : decode cL_law 602 = .ok (.aload_n 0, 1) := by decide +kernel
theorem dL_law_603 : decode cL_law 603 = .ok (.iload_n 3, 1) := by decide +kernel
theorem dL_law_604 : decode cL_law 604 = .ok (.iconst 2, 1) := by decide +kernel
theorem dL_law_605 : decode cL_law 605 = .ok (.iadd, 1) := by decide +kernel
theorem dL_law_606 : decode cL_law 606 = .ok (.iaload, 1) := by decide +kernel
theorem dL_law_607 : decode cL_law 607 = .ok (.aload_n 0, 1) := by decide +kernel
theorem dL_law_608 : decode cL_law 608 = .ok (.iload_n 3, 1) := by decide +kernel
theorem dL_law_609 : decode cL_law 609 = .ok (.iconst 3, 1) := by decide +kernel
theorem dL_law_610 : decode cL_law 610 = .ok (.iadd, 1) := by decide +kernel
theorem dL_law_611 : decode cL_law 611 = .ok (.iaload, 1) := by decide +kernel
theorem dL_law_612 : decode cL_law 612 = .ok (.aload_n 0, 1) := by decide +kernel
theorem dL_law_613 : decode cL_law 613 = .ok (.iload_n 3, 1) := by decide +kernel
theorem dL_law_614 : decode cL_law 614 = .ok (.iconst 4, 1) := by decide +kernel
theorem dL_law_615 : decode cL_law 615 = .ok (.iadd, 1) := by decide +kernel
theorem dL_law_616 : decode cL_law 616 = .ok (.iaload, 1) := by decide +kernel
theorem dL_law_617 : decode cL_law 617 = .ok (.invokevirtual 72, 3) := by decide +kernel
theorem dL_law_620 : decode cL_law 620 = .ok (.if_icmp .eq 367, 3) := by decide +kernel
theorem dL_law_623 : decode cL_law 623 = .ok (.iconst 0, 1) := by decide +kernel
theorem dL_law_624 : decode cL_law 624 = .ok (.ireturn, 1) := by decide +kernel
theorem dL_law_625 : decode cL_law 625 = .ok (.aload_n 1, 1) := by decide +kernel
theorem dL_law_626 : decode cL_law 626 = .ok (.aload_n 0, 1) := by decide +kernel
theorem dL_law_627 : decode cL_law 627 = .ok (.iload_n 3, 1) := by decide +kernel
theorem dL_law_628 : decode cL_law 628 = .ok (.iconst 1, 1) := by decide +kernel
theorem dL_law_629 : decode cL_law 629 = .ok (.iadd, 1) := by decide +kernel
theorem dL_law_630 : decode cL_law 630 = .ok (.iaload, 1) := by decide +kernel
theorem dL_law_631 : decode cL_law 631 = .ok (.invokevirtual 73, 3) := by decide +kernel
theorem dL_law_634 : decode cL_law 634 = .ok (.aload_n 2, 1) := by decide +kernel
theorem dL_law_635 : decode cL_law 635 = .ok (.aload_n 0, 1) := by decide +kernel
theorem dL_law_636 : decode cL_law 636 = .ok (.iload_n 3, 1) := by decide +kernel
theorem dL_law_637 : decode cL_law 637 = .ok (.iconst 1, 1) := by decide +kernel
theorem dL_law_638 : decode cL_law 638 = .ok (.iadd, 1) := by decide +kernel
theorem dL_law_639 : decode cL_law 639 = .ok (.iaload, 1) := by decide +kernel
theorem dL_law_640 : decode cL_law 640 = .ok (.invokevirtual 76, 3) := by decide +kernel
theorem dL_law_643 : decode cL_law 643 = .ok (.if_icmp .eq 344, 3) := by decide +kernel
theorem dL_law_646 : decode cL_law 646 = .ok (.iconst 0, 1) := by decide +kernel
theorem dL_law_647 : decode cL_law 647 = .ok (.ireturn, 1) := by decide +kernel
theorem dL_law_648 : decode cL_law 648 = .ok (.aload_n 1, 1) := by decide +kernel
theorem dL_law_649 : decode cL_law 649 = .ok (.aload_n 0, 1) := by decide +kernel
theorem dL_law_650 : decode cL_law 650 = .ok (.iload_n 3, 1) := by decide +kernel
theorem dL_law_651 : decode cL_law 651 = .ok (.iconst 1, 1) := by decide +kernel
theorem dL_law_652 : decode cL_law 652 = .ok (.iadd, 1) := by decide +kernel
theorem dL_law_653 : decode cL_law 653 = .ok (.iaload, 1) := by decide +kernel
theorem dL_law_654 : decode cL_law 654 = .ok (.aload_n 0, 1) := by decide +kernel
theorem dL_law_655 : decode cL_law 655 = .ok (.iload_n 3, 1) := by decide +kernel
theorem dL_law_656 : decode cL_law 656 = .ok (.iconst 2, 1) := by decide +kernel
theorem dL_law_657 : decode cL_law 657 = .ok (.iadd, 1) := by decide +kernel
theorem dL_law_658 : decode cL_law 658 = .ok (.iaload, 1) := by decide +kernel
theorem dL_law_659 : decode cL_law 659 = .ok (.aload_n 0, 1) := by decide +kernel
theorem dL_law_660 : decode cL_law 660 = .ok (.iload_n 3, 1) := by decide +kernel
theorem dL_law_661 : decode cL_law 661 = .ok (.iconst 3, 1) := by decide +kernel
theorem dL_law_662 : decode cL_law 662 = .ok (.iadd, 1) := by decide +kernel
theorem dL_law_663 : decode cL_law 663 = .ok (.iaload, 1) := by decide +kernel
theorem dL_law_664 : decode cL_law 664 = .ok (.invokevirtual 77, 3) := by decide +kernel
theorem dL_law_667 : decode cL_law 667 = .ok (.aload_n 2, 1) := by decide +kernel
theorem dL_law_668 : decode cL_law 668 = .ok (.aload_n 0, 1) := by decide +kernel
theorem dL_law_669 : decode cL_law 669 = .ok (.iload_n 3, 1) := by decide +kernel
theorem dL_law_670 : decode cL_law 670 = .ok (.iconst 1, 1) := by decide +kernel
theorem dL_law_671 : decode cL_law 671 = .ok (.iadd, 1) := by decide +kernel
theorem dL_law_672 : decode cL_law 672 = .ok (.iaload, 1) := by decide +kernel
theorem dL_law_673 : decode cL_law 673 = .ok (.aload_n 0, 1) := by decide +kernel
theorem dL_law_674 : decode cL_law 674 = .ok (.iload_n 3, 1) := by decide +kernel
theorem dL_law_675 : decode cL_law 675 = .ok (.iconst 2, 1) := by decide +kernel
theorem dL_law_676 : decode cL_law 676 = .ok (.iadd, 1) := by decide +kernel
theorem dL_law_677 : decode cL_law 677 = .ok (.iaload, 1) := by decide +kernel
theorem dL_law_678 : decode cL_law 678 = .ok (.aload_n 0, 1) := by decide +kernel
theorem dL_law_679 : decode cL_law 679 = .ok (.iload_n 3, 1) := by decide +kernel
theorem dL_law_680 : decode cL_law 680 = .ok (.iconst 3, 1) := by decide +kernel
theorem dL_law_681 : decode cL_law 681 = .ok (.iadd, 1) := by decide +kernel
theorem dL_law_682 : decode cL_law 682 = .ok (.iaload, 1) := by decide +kernel
theorem dL_law_683 : decode cL_law 683 = .ok (.invokevirtual 80, 3) := by decide +kernel
theorem dL_law_686 : decode cL_law 686 = .ok (.if_icmp .eq 301, 3) := by decide +kernel
theorem dL_law_689 : decode cL_law 689 = .ok (.iconst 0, 1) := by decide +kernel
theorem dL_law_690 : decode cL_law 690 = .ok (.ireturn, 1) := by decide +kernel
theorem dL_law_691 : decode cL_law 691 = .ok (.aload_n 1, 1) := by decide +kernel
theorem dL_law_692 : decode cL_law 692 = .ok (.aload_n 0, 1) := by decide +kernel
theorem dL_law_693 : decode cL_law 693 = .ok (.iload_n 3, 1) := by decide +kernel
theorem dL_law_694 : decode cL_law 694 = .ok (.iconst 1, 1) := by decide +kernel
theorem dL_law_695 : decode cL_law 695 = .ok (.iadd, 1) := by decide +kernel
theorem dL_law_696 : decode cL_law 696 = .ok (.iaload, 1) := by decide +kernel
theorem dL_law_697 : decode cL_law 697 = .ok (.invokevirtual 81, 3) := by decide +kernel
theorem dL_law_700 : decode cL_law 700 = .ok (.aload_n 2, 1) := by decide +kernel
theorem dL_law_701 : decode cL_law 701 = .ok (.aload_n 0, 1) := by decide +kernel
theorem dL_law_702 : decode cL_law 702 = .ok (.iload_n 3, 1) := by decide +kernel
theorem dL_law_703 : decode cL_law 703 = .ok (.iconst 1, 1) := by decide +kernel
theorem dL_law_704 : decode cL_law 704 = .ok (.iadd, 1) := by decide +kernel
theorem dL_law_705 : decode cL_law 705 = .ok (.iaload, 1) := by decide +kernel
theorem dL_law_706 : decode cL_law 706 = .ok (.invokevirtual 84, 3) := by decide +kernel
theorem dL_law_709 : decode cL_law 709 = .ok (.if_icmp .eq 278, 3) := by decide +kernel
theorem dL_law_712 : decode cL_law 712 = .ok (.iconst 0, 1) := by decide +kernel
theorem dL_law_713 : decode cL_law 713 = .ok (.ireturn, 1) := by decide +kernel
theorem dL_law_714 : decode cL_law 714 = .ok (.aload_n 1, 1) := by decide +kernel
theorem dL_law_715 : decode cL_law 715 = .ok (.aload_n 0, 1) := by decide +kernel
theorem dL_law_716 : decode cL_law 716 = .ok (.iload_n 3, 1) := by decide +kernel
theorem dL_law_717 : decode cL_law 717 = .ok (.iconst 1, 1) := by decide +kernel
theorem dL_law_718 : decode cL_law 718 = .ok (.iadd, 1) := by decide +kernel
theorem dL_law_719 : decode cL_law 719 = .ok (.iaload, 1) := by decide +kernel
theorem dL_law_720 : decode cL_law 720 = .ok (.aload_n 0, 1) := by decide +kernel
theorem dL_law_721 : decode cL_law 721 = .ok (.iload_n 3, 1) := by decide +kernel
theorem dL_law_722 : decode cL_law 722 = .ok (.iconst 2, 1) := by decide +kernel
theorem dL_law_723 : decode cL_law 723 = .ok (.iadd, 1) := by decide +kernel
theorem dL_law_724 : decode cL_law 724 = .ok (.iaload, 1) := by decide +kernel
theorem dL_law_725 : decode cL_law 725 = .ok (.invokevirtual 85, 3) := by decide +kernel
theorem dL_law_728 : decode cL_law 728 = .ok (.aload_n 2, 1) := by decide +kernel
theorem dL_law_729 : decode cL_law 729 = .ok (.aload_n 0, 1) := by decide +kernel
theorem dL_law_730 : decode cL_law 730 = .ok (.iload_n 3, 1) := by decide +kernel
theorem dL_law_731 : decode cL_law 731 = .ok (.iconst 1, 1) := by decide +kernel
theorem dL_law_732 : decode cL_law 732 = .ok (.iadd, 1) := by decide +kernel
theorem dL_law_733 : decode cL_law 733 = .ok (.iaload, 1) := by decide +kernel
theorem dL_law_734 : decode cL_law 734 = .ok (.aload_n 0, 1) := by decide +kernel
theorem dL_law_735 : decode cL_law 735 = .ok (.iload_n 3, 1) := by decide +kernel
theorem dL_law_736 : decode cL_law 736 = .ok (.iconst 2, 1) := by decide +kernel
theorem dL_law_737 : decode cL_law 737 = .ok (.iadd, 1) := by decide +kernel
theorem dL_law_738 : decode cL_law 738 = .ok (.iaload, 1) := by decide +kernel
theorem dL_law_739 : decode cL_law 739 = .ok (.invokevirtual 88, 3) := by decide +kernel
theorem dL_law_742 : decode cL_law 742 = .ok (.if_icmp .eq 245, 3) := by decide +kernel
theorem dL_law_745 : decode cL_law 745 = .ok (.iconst 0, 1) := by decide +kernel
theorem dL_law_746 : decode cL_law 746 = .ok (.ireturn, 1) := by decide +kernel
theorem dL_law_747 : decode cL_law 747 = .ok (.aload_n 1, 1) := by decide +kernel
theorem dL_law_748 : decode cL_law 748 = .ok (.invokevirtual 89, 3) := by decide +kernel
theorem dL_law_751 : decode cL_law 751 = .ok (.aload_n 2, 1) := by decide +kernel
theorem dL_law_752 : decode cL_law 752 = .ok (.invokevirtual 92, 3) := by decide +kernel
theorem dL_law_755 : decode cL_law 755 = .ok (.if_icmp .eq 232, 3) := by decide +kernel
theorem dL_law_758 : decode cL_law 758 = .ok (.iconst 0, 1) := by decide +kernel
theorem dL_law_759 : decode cL_law 759 = .ok (.ireturn, 1) := by decide +kernel
theorem dL_law_760 : decode cL_law 760 = .ok (.aload_n 1, 1) := by decide +kernel
theorem dL_law_761 : decode cL_law 761 = .ok (.aload_n 0, 1) := by decide +kernel
theorem dL_law_762 : decode cL_law 762 = .ok (.iload_n 3, 1) := by decide +kernel
theorem dL_law_763 : decode cL_law 763 = .ok (.iconst 1, 1) := by decide +kernel
theorem dL_law_764 : decode cL_law 764 = .ok (.iadd, 1) := by decide +kernel
theorem dL_law_765 : decode cL_law 765 = .ok (.iaload, 1) := by decide +kernel
theorem dL_law_766 : decode cL_law 766 = .ok (.aload_n 0, 1) := by decide +kernel
theorem dL_law_767 : decode cL_law 767 = .ok (.iload_n 3, 1) := by decide +kernel
theorem dL_law_768 : decode cL_law 768 = .ok (.iconst 2, 1) := by decide +kernel
theorem dL_law_769 : decode cL_law 769 = .ok (.iadd, 1) := by decide +kernel
theorem dL_law_770 : decode cL_law 770 = .ok (.iaload, 1) := by decide +kernel
theorem dL_law_771 : decode cL_law 771 = .ok (.invokevirtual 93, 3) := by decide +kernel
theorem dL_law_774 : decode cL_law 774 = .ok (.aload_n 2, 1) := by decide +kernel
theorem dL_law_775 : decode cL_law 775 = .ok (.aload_n 0, 1) := by decide +kernel
theorem dL_law_776 : decode cL_law 776 = .ok (.iload_n 3, 1) := by decide +kernel
theorem dL_law_777 : decode cL_law 777 = .ok (.iconst 1, 1) := by decide +kernel
theorem dL_law_778 : decode cL_law 778 = .ok (.iadd, 1) := by decide +kernel
theorem dL_law_779 : decode cL_law 779 = .ok (.iaload, 1) := by decide +kernel
theorem dL_law_780 : decode cL_law 780 = .ok (.aload_n 0, 1) := by decide +kernel
theorem dL_law_781 : decode cL_law 781 = .ok (.iload_n 3, 1) := by decide +kernel
theorem dL_law_782 : decode cL_law 782 = .ok (.iconst 2, 1) := by decide +kernel
theorem dL_law_783 : decode cL_law 783 = .ok (.iadd, 1) := by decide +kernel
theorem dL_law_784 : decode cL_law 784 = .ok (.iaload, 1) := by decide +kernel
theorem dL_law_785 : decode cL_law 785 = .ok (.invokevirtual 96, 3) := by decide +kernel
theorem dL_law_788 : decode cL_law 788 = .ok (.if_icmp .eq 199, 3) := by decide +kernel
theorem dL_law_791 : decode cL_law 791 = .ok (.iconst 0, 1) := by decide +kernel
theorem dL_law_792 : decode cL_law 792 = .ok (.ireturn, 1) := by decide +kernel
theorem dL_law_793 : decode cL_law 793 = .ok (.aload_n 1, 1) := by decide +kernel
theorem dL_law_794 : decode cL_law 794 = .ok (.aload_n 0, 1) := by decide +kernel
theorem dL_law_795 : decode cL_law 795 = .ok (.iload_n 3, 1) := by decide +kernel
theorem dL_law_796 : decode cL_law 796 = .ok (.iconst 1, 1) := by decide +kernel
theorem dL_law_797 : decode cL_law 797 = .ok (.iadd, 1) := by decide +kernel
theorem dL_law_798 : decode cL_law 798 = .ok (.iaload, 1) := by decide +kernel
theorem dL_law_799 : decode cL_law 799 = .ok (.aload_n 0, 1) := by decide +kernel
theorem dL_law_800 : decode cL_law 800 = .ok (.iload_n 3, 1) := by decide +kernel
theorem dL_law_801 : decode cL_law 801 = .ok (.iconst 2, 1) := by decide +kernel
theorem dL_law_802 : decode cL_law 802 = .ok (.iadd, 1) := by decide +kernel
theorem dL_law_803 : decode cL_law 803 = .ok (.iaload, 1) := by decide +kernel
theorem dL_law_804 : decode cL_law 804 = .ok (.aload_n 0, 1) := by decide +kernel
theorem dL_law_805 : decode cL_law 805 = .ok (.iload_n 3, 1) := by decide +kernel
theorem dL_law_806 : decode cL_law 806 = .ok (.iconst 3, 1) := by decide +kernel
theorem dL_law_807 : decode cL_law 807 = .ok (.iadd, 1) := by decide +kernel
theorem dL_law_808 : decode cL_law 808 = .ok (.iaload, 1) := by decide +kernel
theorem dL_law_809 : decode cL_law 809 = .ok (.aload_n 0, 1) := by decide +kernel
theorem dL_law_810 : decode cL_law 810 = .ok (.iload_n 3, 1) := by decide +kernel
theorem dL_law_811 : decode cL_law 811 = .ok (.iconst 4, 1) := by decide +kernel
theorem dL_law_812 : decode cL_law 812 = .ok (.iadd, 1) := by decide +kernel
theorem dL_law_813 : decode cL_law 813 = .ok (.iaload, 1) := by decide +kernel
theorem dL_law_814 : decode cL_law 814 = .ok (.invokevirtual 97, 3) := by decide +kernel
theorem dL_law_817 : decode cL_law 817 = .ok (.aload_n 2, 1) := by decide +kernel
theorem dL_law_818 : decode cL_law 818 = .ok (.aload_n 0, 1) := by decide +kernel
theorem dL_law_819 : decode cL_law 819 = .ok (.iload_n 3, 1) := by decide +kernel
theorem dL_law_820 : decode cL_law 820 = .ok (.iconst 1, 1) := by decide +kernel
theorem dL_law_821 : decode cL_law 821 = .ok (.iadd, 1) := by decide +kernel
theorem dL_law_822 : decode cL_law 822 = .ok (.iaload, 1) := by decide +kernel
theorem dL_law_823 : decode cL_law 823 = .ok (.aload_n 0, 1) := by decide +kernel
theorem dL_law_824 : decode cL_law 824 = .ok (.iload_n 3, 1) := by decide +kernel
theorem dL_law_825 : decode cL_law 825 = .ok (.iconst 2, 1) := by decide +kernel
theorem dL_law_826 : decode cL_law 826 = .ok (.iadd, 1) := by decide +kernel
theorem dL_law_827 : decode cL_law 827 = .ok (.iaload, 1) := by decide +kernel
theorem dL_law_828 : decode cL_law 828 = .ok (.aload_n 0, 1) := by decide +kernel
theorem dL_law_829 : decode cL_law 829 = .ok (.iload_n 3, 1) := by decide +kernel
theorem dL_law_830 : decode cL_law 830 = .ok (.iconst 3, 1) := by decide +kernel
theorem dL_law_831 : decode cL_law 831 = .ok (.iadd, 1) := by decide +kernel
theorem dL_law_832 : decode cL_law 832 = .ok (.iaload, 1) := by decide +kernel
theorem dL_law_833 : decode cL_law 833 = .ok (.aload_n 0, 1) := by decide +kernel
theorem dL_law_834 : decode cL_law 834 = .ok (.iload_n 3, 1) := by decide +kernel
theorem dL_law_835 : decode cL_law 835 = .ok (.iconst 4, 1) := by decide +kernel
theorem dL_law_836 : decode cL_law 836 = .ok (.iadd, 1) := by decide +kernel
theorem dL_law_837 : decode cL_law 837 = .ok (.iaload, 1) := by decide +kernel
theorem dL_law_838 : decode cL_law 838 = .ok (.invokevirtual 100, 3) := by decide +kernel
theorem dL_law_841 : decode cL_law 841 = .ok (.if_icmp .eq 146, 3) := by decide +kernel
theorem dL_law_844 : decode cL_law 844 = .ok (.iconst 0, 1) := by decide +kernel
theorem dL_law_845 : decode cL_law 845 = .ok (.ireturn, 1) := by decide +kernel
theorem dL_law_846 : decode cL_law 846 = .ok (.aload_n 1, 1) := by decide +kernel
theorem dL_law_847 : decode cL_law 847 = .ok (.invokevirtual 101, 3) := by decide +kernel
theorem dL_law_850 : decode cL_law 850 = .ok (.aload_n 2, 1) := by decide +kernel
theorem dL_law_851 : decode cL_law 851 = .ok (.invokevirtual 104, 3) := by decide +kernel
theorem dL_law_854 : decode cL_law 854 = .ok (.if_icmp .eq 133, 3) := by decide +kernel
theorem dL_law_857 : decode cL_law 857 = .ok (.iconst 0, 1) := by decide +kernel
theorem dL_law_858 : decode cL_law 858 = .ok (.ireturn, 1) := by decide +kernel
theorem dL_law_859 : decode cL_law 859 = .ok (.aload_n 1, 1) := by decide +kernel
theorem dL_law_860 : decode cL_law 860 = .ok (.invokevirtual 105, 3) := by decide +kernel
theorem dL_law_863 : decode cL_law 863 = .ok (.aload_n 2, 1) := by decide +kernel
theorem dL_law_864 : decode cL_law 864 = .ok (.invokevirtual 108, 3) := by decide +kernel
theorem dL_law_867 : decode cL_law 867 = .ok (.if_icmp .eq 120, 3) := by decide +kernel
theorem dL_law_870 : decode cL_law 870 = .ok (.iconst 0, 1) := by decide +kernel
theorem dL_law_871 : decode cL_law 871 = .ok (.ireturn, 1) := by decide +kernel
theorem dL_law_872 : decode cL_law 872 = .ok (.aload_n 1, 1) := by decide +kernel
theorem dL_law_873 : decode cL_law 873 = .ok (.aload_n 0, 1) := by decide +kernel
theorem dL_law_874 : decode cL_law 874 = .ok (.iload_n 3, 1) := by decide +kernel
theorem dL_law_875 : decode cL_law 875 = .ok (.iconst 1, 1) := by decide +kernel
theorem dL_law_876 : decode cL_law 876 = .ok (.iadd, 1) := by decide +kernel
theorem dL_law_877 : decode cL_law 877 = .ok (.iaload, 1) := by decide +kernel
theorem dL_law_878 : decode cL_law 878 = .ok (.aload_n 0, 1) := by decide +kernel
theorem dL_law_879 : decode cL_law 879 = .ok (.iload_n 3, 1) := by decide +kernel
theorem dL_law_880 : decode cL_law 880 = .ok (.iconst 2, 1) := by decide +kernel
theorem dL_law_881 : decode cL_law 881 = .ok (.iadd, 1) := by decide +kernel
theorem dL_law_882 : decode cL_law 882 = .ok (.iaload, 1) := by decide +kernel
theorem dL_law_883 : decode cL_law 883 = .ok (.invokevirtual 109, 3) := by decide +kernel
theorem dL_law_886 : decode cL_law 886 = .ok (.aload_n 2, 1) := by decide +kernel
theorem dL_law_887 : decode cL_law 887 = .ok (.aload_n 0, 1) := by decide +kernel
theorem dL_law_888 : decode cL_law 888 = .ok (.iload_n 3, 1) := by decide +kernel
theorem dL_law_889 : decode cL_law 889 = .ok (.iconst 1, 1) := by decide +kernel
theorem dL_law_890 : decode cL_law 890 = .ok (.iadd, 1) := by decide +kernel
theorem dL_law_891 : decode cL_law 891 = .ok (.iaload, 1) := by decide +kernel
theorem dL_law_892 : decode cL_law 892 = .ok (.aload_n 0, 1) := by decide +kernel
theorem dL_law_893 : decode cL_law 893 = .ok (.iload_n 3, 1) := by decide +kernel
theorem dL_law_894 : decode cL_law 894 = .ok (.iconst 2, 1) := by decide +kernel
theorem dL_law_895 : decode cL_law 895 = .ok (.iadd, 1) := by decide +kernel
theorem dL_law_896 : decode cL_law 896 = .ok (.iaload, 1) := by decide +kernel
theorem dL_law_897 : decode cL_law 897 = .ok (.invokevirtual 112, 3) := by decide +kernel
theorem dL_law_900 : decode cL_law 900 = .ok (.if_icmp .eq 87, 3) := by decide +kernel
theorem dL_law_903 : decode cL_law 903 = .ok (.iconst 0, 1) := by decide +kernel
theorem dL_law_904 : decode cL_law 904 = .ok (.ireturn, 1) := by decide +kernel
theorem dL_law_905 : decode cL_law 905 = .ok (.aload_n 1, 1) := by decide +kernel
theorem dL_law_906 : decode cL_law 906 = .ok (.invokevirtual 113, 3) := by decide +kernel
theorem dL_law_909 : decode cL_law 909 = .ok (.aload_n 2, 1) := by decide +kernel
theorem dL_law_910 : decode cL_law 910 = .ok (.invokevirtual 116, 3) := by decide +kernel
theorem dL_law_913 : decode cL_law 913 = .ok (.if_icmp .eq 74, 3) := by decide +kernel
theorem dL_law_916 : decode cL_law 916 = .ok (.iconst 0, 1) := by decide +kernel
theorem dL_law_917 : decode cL_law 917 = .ok (.ireturn, 1) := by decide +kernel
theorem dL_law_918 : decode cL_law 918 = .ok (.aload_n 1, 1) := by decide +kernel
theorem dL_law_919 : decode cL_law 919 = .ok (.aload_n 0, 1) := by decide +kernel
theorem dL_law_920 : decode cL_law 920 = .ok (.iload_n 3, 1) := by decide +kernel
theorem dL_law_921 : decode cL_law 921 = .ok (.iconst 1, 1) := by decide +kernel
theorem dL_law_922 : decode cL_law 922 = .ok (.iadd, 1) := by decide +kernel
theorem dL_law_923 : decode cL_law 923 = .ok (.iaload, 1) := by decide +kernel
theorem dL_law_924 : decode cL_law 924 = .ok (.invokevirtual 117, 3) := by decide +kernel
theorem dL_law_927 : decode cL_law 927 = .ok (.aload_n 2, 1) := by decide +kernel
theorem dL_law_928 : decode cL_law 928 = .ok (.aload_n 0, 1) := by decide +kernel
theorem dL_law_929 : decode cL_law 929 = .ok (.iload_n 3, 1) := by decide +kernel
theorem dL_law_930 : decode cL_law 930 = .ok (.iconst 1, 1) := by decide +kernel
theorem dL_law_931 : decode cL_law 931 = .ok (.iadd, 1) := by decide +kernel
theorem dL_law_932 : decode cL_law 932 = .ok (.iaload, 1) := by decide +kernel
theorem dL_law_933 : decode cL_law 933 = .ok (.invokevirtual 120, 3) := by decide +kernel
theorem dL_law_936 : decode cL_law 936 = .ok (.if_icmp .eq 51, 3) := by decide +kernel
theorem dL_law_939 : decode cL_law 939 = .ok (.iconst 0, 1) := by decide +kernel
theorem dL_law_940 : decode cL_law 940 = .ok (.ireturn, 1) := by decide +kernel
theorem dL_law_941 : decode cL_law 941 = .ok (.aload_n 1, 1) := by decide +kernel
theorem dL_law_942 : decode cL_law 942 = .ok (.aload_n 0, 1) := by decide +kernel
theorem dL_law_943 : decode cL_law 943 = .ok (.iload_n 3, 1) := by decide +kernel
theorem dL_law_944 : decode cL_law 944 = .ok (.iconst 1, 1) := by decide +kernel
theorem dL_law_945 : decode cL_law 945 = .ok (.iadd, 1) := by decide +kernel
theorem dL_law_946 : decode cL_law 946 = .ok (.iaload, 1) := by decide +kernel
theorem dL_law_947 : decode cL_law 947 = .ok (.invokevirtual 121, 3) := by decide +kernel
theorem dL_law_950 : decode cL_law 950 = .ok (.aload_n 2, 1) := by decide +kernel
theorem dL_law_951 : decode cL_law 951 = .ok (.aload_n 0, 1) := by decide +kernel
theorem dL_law_952 : decode cL_law 952 = .ok (.iload_n 3, 1) := by decide +kernel
theorem dL_law_953 : decode cL_law 953 = .ok (.iconst 1, 1) := by decide +kernel
theorem dL_law_954 : decode cL_law 954 = .ok (.iadd, 1) := by decide +kernel
theorem dL_law_955 : decode cL_law 955 = .ok (.iaload, 1) := by decide +kernel
theorem dL_law_956 : decode cL_law 956 = .ok (.invokevirtual 124, 3) := by decide +kernel
theorem dL_law_959 : decode cL_law 959 = .ok (.if_icmp .eq 28, 3) := by decide +kernel
theorem dL_law_962 : decode cL_law 962 = .ok (.iconst 0, 1) := by decide +kernel
theorem dL_law_963 : decode cL_law 963 = .ok (.ireturn, 1) := by decide +kernel
theorem dL_law_964 : decode cL_law 964 = .ok (.aload_n 1, 1) := by decide +kernel
theorem dL_law_965 : decode cL_law 965 = .ok (.aload_n 0, 1) := by decide +kernel
theorem dL_law_966 : decode cL_law 966 = .ok (.iload_n 3, 1) := by decide +kernel
theorem dL_law_967 : decode cL_law 967 = .ok (.iconst 1, 1) := by decide +kernel
theorem dL_law_968 : decode cL_law 968 = .ok (.iadd, 1) := by decide +kernel
theorem dL_law_969 : decode cL_law 969 = .ok (.iaload, 1) := by decide +kernel
theorem dL_law_970 : decode cL_law 970 = .ok (.invokevirtual 125, 3) := by decide +kernel
theorem dL_law_973 : decode cL_law 973 = .ok (.aload_n 2, 1) := by decide +kernel
theorem dL_law_974 : decode cL_law 974 = .ok (.aload_n 0, 1) := by decide +kernel
theorem dL_law_975 : decode cL_law 975 = .ok (.iload_n 3, 1) := by decide +kernel
theorem dL_law_976 : decode cL_law 976 = .ok (.iconst 1, 1) := by decide +kernel
theorem dL_law_977 : decode cL_law 977 = .ok (.iadd, 1) := by decide +kernel
theorem dL_law_978 : decode cL_law 978 = .ok (.iaload, 1) := by decide +kernel
theorem dL_law_979 : decode cL_law 979 = .ok (.invokevirtual 128, 3) := by decide +kernel
theorem dL_law_982 : decode cL_law 982 = .ok (.if_icmp .eq 5, 3) := by decide +kernel
theorem dL_law_985 : decode cL_law 985 = .ok (.iconst 0, 1) := by decide +kernel
theorem dL_law_986 : decode cL_law 986 = .ok (.ireturn, 1) := by decide +kernel
theorem dL_law_987 : decode cL_law 987 = .ok (.iinc 3 5, 3) := by decide +kernel
theorem dL_law_990 : decode cL_law 990 = .ok (.goto (-972), 3) := by decide +kernel
theorem dL_law_993 : decode cL_law 993 = .ok (.iconst 1, 1) := by decide +kernel
theorem dL_law_994 : decode cL_law 994 = .ok (.ireturn, 1) := by decide +kernel
