theorem dX0_init_0 : decode cX0_init 0 = .ok (.aload_n 0, 1) := by decide +kernel
theorem dX0_init_1 : decode cX0_init 1 = .ok (.invokespecial 3, 3) := by decide +kernel
theorem dX0_init_4 : decode cX0_init 4 = .ok (.aload_n 0, 1) := by decide +kernel
theorem dX0_init_5 : decode cX0_init 5 = .ok (.new 9, 3) := by decide +kernel
theorem dX0_init_8 : decode cX0_init 8 = .ok (.dup, 1) := by decide +kernel
theorem dX0_init_9 : decode cX0_init 9 = .ok (.invokespecial 11, 3) := by decide +kernel
theorem dX0_init_12 : decode cX0_init 12 = .ok (.putfield 12, 3) := by decide +kernel
theorem dX0_init_15 : decode cX0_init 15 = .ok (.aload_n 0, 1) := by decide +kernel
theorem dX0_init_16 : decode cX0_init 16 = .ok (.iconst 0, 1) := by decide +kernel
theorem dX0_init_17 : decode cX0_init 17 = .ok (.putfield 18, 3) := by decide +kernel
theorem dX0_init_20 : decode cX0_init 20 = .ok (.aload_n 0, 1) := by decide +kernel
theorem dX0_init_21 : decode cX0_init 21 = .ok (.bipush 14, 2) := by decide +kernel
theorem dX0_init_23 : decode cX0_init 23 = .ok (.newarray .int, 2) := by decide +kernel
theorem dX0_init_25 : decode cX0_init 25 = .ok (.putfield 22, 3) := by decide +kernel
theorem dX0_init_28 : decode cX0_init 28 = .ok (.aload_n 0, 1) := by decide +kernel
theorem dX0_init_29 : decode cX0_init 29 = .ok (.bipush 14, 2) := by decide +kernel
theorem dX0_init_31 : decode cX0_init 31 = .ok (.newarray .int, 2) := by decide +kernel
theorem dX0_init_33 : decode cX0_init 33 = .ok (.putfield 26, 3) := by decide +kernel
theorem dX0_init_36 : decode cX0_init 36 = .ok (.aload_n 0, 1) := by decide +kernel
theorem dX0_init_37 : decode cX0_init 37 = .ok (.bipush 14, 2) := by decide +kernel
theorem dX0_init_39 : decode cX0_init 39 = .ok (.newarray .int, 2) := by decide +kernel
theorem dX0_init_41 : decode cX0_init 41 = .ok (.putfield 29, 3) := by decide +kernel
theorem dX0_init_44 : decode cX0_init 44 = .ok (.aload_n 0, 1) := by decide +kernel
theorem dX0_init_45 : decode cX0_init 45 = .ok (.bipush 14, 2) := by decide +kernel
theorem dX0_init_47 : decode cX0_init 47 = .ok (.newarray .int, 2) := by decide +kernel
theorem dX0_init_49 : decode cX0_init 49 = .ok (.putfield 32, 3) := by decide +kernel
theorem dX0_init_52 : decode cX0_init 52 = .ok (.aload_n 0, 1) := by decide +kernel
theorem dX0_init_53 : decode cX0_init 53 = .ok (.bipush 14, 2) := by decide +kernel
theorem dX0_init_55 : decode cX0_init 55 = .ok (.newarray .int, 2) := by decide +kernel
theorem dX0_init_57 : decode cX0_init 57 = .ok (.putfield 35, 3) := by decide +kernel
theorem dX0_init_60 : decode cX0_init 60 = .ok (.aload_n 0, 1) := by decide +kernel
theorem dX0_init_61 : decode cX0_init 61 = .ok (.iconst 4, 1) := by decide +kernel
theorem dX0_init_62 : decode cX0_init 62 = .ok (.newarray .int, 2) := by decide +kernel
theorem dX0_init_64 : decode cX0_init 64 = .ok (.putfield 38, 3) := by decide +kernel
theorem dX0_init_67 : decode cX0_init 67 = .ok (.aload_n 0, 1) := by decide +kernel
theorem dX0_init_68 : decode cX0_init 68 = .ok (.bipush 56, 2) := by decide +kernel
theorem dX0_init_70 : decode cX0_init 70 = .ok (.newarray .int, 2) := by decide +kernel
theorem dX0_init_72 : decode cX0_init 72 = .ok (.putfield 41, 3) := by decide +kernel
theorem dX0_init_75 : decode cX0_init 75 = .ok (.aload_n 0, 1) := by decide +kernel
theorem dX0_init_76 : decode cX0_init 76 = .ok (.iconst 4, 1) := by decide +kernel
theorem dX0_init_77 : decode cX0_init 77 = .ok (.newarray .int, 2) := by decide +kernel
theorem dX0_init_79 : decode cX0_init 79 = .ok (.putfield 44, 3) := by decide +kernel
theorem dX0_init_82 : decode cX0_init 82 = .ok (.aload_n 0, 1) := by decide +kernel
theorem dX0_init_83 : decode cX0_init 83 = .ok (.iconst 4, 1) := by decide +kernel
theorem dX0_init_84 : decode cX0_init 84 = .ok (.newarray .int, 2) := by decide +kernel
theorem dX0_init_86 : decode cX0_init 86 = .ok (.putfield 47, 3) := by decide +kernel
theorem dX0_init_89 : decode cX0_init 89 = .ok (.aload_n 0, 1) := by decide +kernel
theorem dX0_init_90 : decode cX0_init 90 = .ok (.iconst 4, 1) := by decide +kernel
theorem dX0_init_91 : decode cX0_init 91 = .ok (.newarray .int, 2) := by decide +kernel
theorem dX0_init_93 : decode cX0_init 93 = .ok (.putfield 50, 3) := by decide +kernel
theorem dX0_init_96 : decode cX0_init 96 = .ok (.aload_n 0, 1) := by decide +kernel
theorem dX0_init_97 : decode cX0_init 97 = .ok (.bipush 14, 2) := by decide +kernel
theorem dX0_init_99 : decode cX0_init 99 = .ok (.newarray .int, 2) := by decide +kernel
theorem dX0_init_101 : decode cX0_init 101 = .ok (.putfield 53, 3) := by decide +kernel
theorem dX0_init_104 : decode cX0_init 104 = .ok (.return_, 1) := by decide +kernel
theorem dX0_analyse_0 : decode cX0_analyse 0 = .ok (.aload_n 0, 1) := by decide +kernel
theorem dX0_analyse_1 : decode cX0_analyse 1 = .ok (.invokevirtual 56, 3) := by decide +kernel
theorem dX0_analyse_4 : decode cX0_analyse 4 = .ok (.aload_n 0, 1) := by decide +kernel
theorem dX0_analyse_5 : decode cX0_analyse 5 = .ok (.invokevirtual 59, 3) := by decide +kernel
theorem dX0_analyse_8 : decode cX0_analyse 8 = .ok (.iconst 0, 1) := by decide +kernel
theorem dX0_analyse_9 : decode cX0_analyse 9 = .ok (.istore_n 1, 1) := by decide +kernel
theorem dX0_analyse_10 : decode cX0_analyse 10 = .ok (.iload_n 1, 1) := by decide +kernel
theorem dX0_analyse_11 : decode cX0_analyse 11 = .ok (.iconst 4, 1) := by decide +kernel
theorem dX0_analyse_12 : decode cX0_analyse 12 = .ok (.if_icmp .ge 61, 3) := by decide +kernel
theorem dX0_analyse_15 : decode cX0_analyse 15 = .ok (.aload_n 0, 1) := by decide +kernel
theorem dX0_analyse_16 : decode cX0_analyse 16 = .ok (.getfield 38, 3) := by decide +kernel
theorem dX0_analyse_19 : decode cX0_analyse 19 = .ok (.iload_n 1, 1) := by decide +kernel
theorem dX0_analyse_20 : decode cX0_analyse 20 = .ok (.aload_n 0, 1) := by decide +kernel
theorem dX0_analyse_21 : decode cX0_analyse 21 = .ok (.iload_n 1, 1) := by decide +kernel
theorem dX0_analyse_22 : decode cX0_analyse 22 = .ok (.invokevirtual 62, 3) := by decide +kernel
theorem dX0_analyse_25 : decode cX0_analyse 25 = .ok (.iastore, 1) := by decide +kernel
theorem dX0_analyse_26 : decode cX0_analyse 26 = .ok (.aload_n 0, 1) := by decide +kernel
theorem dX0_analyse_27 : decode cX0_analyse 27 = .ok (.getfield 44, 3) := by decide +kernel
theorem dX0_analyse_30 : decode cX0_analyse 30 = .ok (.iload_n 1, 1) := by decide +kernel
theorem dX0_analyse_31 : decode cX0_analyse 31 = .ok (.aload_n 0, 1) := by decide +kernel
theorem dX0_analyse_32 : decode cX0_analyse 32 = .ok (.iload_n 1, 1) := by decide +kernel
theorem dX0_analyse_33 : decode cX0_analyse 33 = .ok (.invokevirtual 66, 3) := by decide +kernel
theorem dX0_analyse_36 : decode cX0_analyse 36 = .ok (.iastore, 1) := by decide +kernel
theorem dX0_analyse_37 : decode cX0_analyse 37 = .ok (.aload_n 0, 1) := by decide +kernel
theorem dX0_analyse_38 : decode cX0_analyse 38 = .ok (.getfield 47, 3) := by decide +kernel
theorem dX0_analyse_41 : decode cX0_analyse 41 = .ok (.iload_n 1, 1) := by decide +kernel
theorem dX0_analyse_42 : decode cX0_analyse 42 = .ok (.aload_n 0, 1) := by decide +kernel
theorem dX0_analyse_43 : decode cX0_analyse 43 = .ok (.iload_n 1, 1) := by decide +kernel
theorem dX0_analyse_44 : decode cX0_analyse 44 = .ok (.invokevirtual 69, 3) := by decide +kernel
theorem dX0_analyse_47 : decode cX0_analyse 47 = .ok (.iastore, 1) := by decide +kernel
theorem dX0_analyse_48 : decode cX0_analyse 48 = .ok (.aload_n 0, 1) := by decide +kernel
theorem dX0_analyse_49 : decode cX0_analyse 49 = .ok (.getfield 50, 3) := by decide +kernel
theorem dX0_analyse_52 : decode cX0_analyse 52 = .ok (.iload_n 1, 1) := by decide +kernel
theorem dX0_analyse_53 : decode cX0_analyse 53 = .ok (.aload_n 0, 1) := by decide +kernel
theorem dX0_analyse_54 : decode cX0_analyse 54 = .ok (.getfield 47, 3) := by decide +kernel
theorem dX0_analyse_57 : decode cX0_analyse 57 = .ok (.iload_n 1, 1) := by decide +kernel
theorem dX0_analyse_58 : decode cX0_analyse 58 = .ok (.iaload, 1) := by decide +kernel
theorem dX0_analyse_59 : decode cX0_analyse 59 = .ok (.aload_n 0, 1) := by decide +kernel
theorem dX0_analyse_60 : decode cX0_analyse 60 = .ok (.getfield 44, 3) := by decide +kernel
theorem dX0_analyse_63 : decode cX0_analyse 63 = .ok (.iload_n 1, 1) := by decide +kernel
theorem dX0_analyse_64 : decode cX0_analyse 64 = .ok (.iaload, 1) := by decide +kernel
theorem dX0_analyse_65 : decode cX0_analyse 65 = .ok (.iand, 1) := by decide +kernel
theorem dX0_analyse_66 : decode cX0_analyse 66 = .ok (.iastore, 1) := by decide +kernel
theorem dX0_analyse_67 : decode cX0_analyse 67 = .ok (.iinc 1 1, 3) := by decide +kernel
theorem dX0_analyse_70 : decode cX0_analyse 70 = .ok (.goto (-60), 3) := by decide +kernel
theorem dX0_analyse_73 : decode cX0_analyse 73 = .ok (.return_, 1) := by decide +kernel
theorem dX0_findReachable_0 : decode cX0_findReachable 0 = .ok (.iconst 0, 1) := by decide +kernel
theorem dX0_findReachable_1 : decode cX0_findReachable 1 = .ok (.istore_n 1, 1) := by decide +kernel
theorem dX0_findReachable_2 : decode cX0_findReachable 2 = .ok (.iload_n 1, 1) := by decide +kernel
theorem dX0_findReachable_3 : decode cX0_findReachable 3 = .ok (.bipush 14, 2) := by decide +kernel
theorem dX0_findReachable_5 : decode cX0_findReachable 5 = .ok (.if_icmp .ge 38, 3) := by decide +kernel
theorem dX0_findReachable_8 : decode cX0_findReachable 8 = .ok (.aload_n 0, 1) := by decide +kernel
theorem dX0_findReachable_9 : decode cX0_findReachable 9 = .ok (.getfield 22, 3) := by decide +kernel
theorem dX0_findReachable_12 : decode cX0_findReachable 12 = .ok (.iload_n 1, 1) := by decide +kernel
theorem dX0_findReachable_13 : decode cX0_findReachable 13 = .ok (.aload_n 0, 1) := by decide +kernel
theorem dX0_findReachable_14 : decode cX0_findReachable 14 = .ok (.getfield 12, 3) := by decide +kernel
theorem dX0_findReachable_17 : decode cX0_findReachable 17 = .ok (.iload_n 1, 1) := by decide +kernel
theorem dX0_findReachable_18 : decode cX0_findReachable 18 = .ok (.invokevirtual 72, 3) := by decide +kernel
theorem dX0_findReachable_21 : decode cX0_findReachable 21 = .ok (.ifCond .eq 14, 3) := by decide +kernel
theorem dX0_findReachable_24 : decode cX0_findReachable 24 = .ok (.aload_n 0, 1) := by decide +kernel
theorem dX0_findReachable_25 : decode cX0_findReachable 25 = .ok (.getfield 12, 3) := by decide +kernel
theorem dX0_findReachable_28 : decode cX0_findReachable 28 = .ok (.iload_n 1, 1) := by decide +kernel
theorem dX0_findReachable_29 : decode cX0_findReachable 29 = .ok (.invokevirtual 76, 3) := by decide +kernel
theorem dX0_findReachable_32 : decode cX0_findReachable 32 = .ok (.goto 4, 3) := by decide +kernel
theorem dX0_findReachable_35 : decode cX0_findReachable 35 = .ok (.iconst 0, 1) := by decide +kernel
theorem dX0_findReachable_36 : decode cX0_findReachable 36 = .ok (.iastore, 1) := by decide +kernel
theorem dX0_findReachable_37 : decode cX0_findReachable 37 = .ok (.iinc 1 1, 3) := by decide +kernel
theorem dX0_findReachable_40 : decode cX0_findReachable 40 = .ok (.goto (-38), 3) := by decide +kernel
theorem dX0_findReachable_43 : decode cX0_findReachable 43 = .ok (.aload_n 0, 1) := by decide +kernel
theorem dX0_findReachable_44 : decode cX0_findReachable 44 = .ok (.aload_n 0, 1) := by decide +kernel
theorem dX0_findReachable_45 : decode cX0_findReachable 45 = .ok (.iconst 0, 1) := by decide +kernel
theorem dX0_findReachable_46 : decode cX0_findReachable 46 = .ok (.invokevirtual 79, 3) := by decide +kernel
theorem dX0_findReachable_49 : decode cX0_findReachable 49 = .ok (.putfield 18, 3) := by decide +kernel
theorem dX0_findReachable_52 : decode cX0_findReachable 52 = .ok (.iconst 0, 1) := by decide +kernel
theorem dX0_findReachable_53 : decode cX0_findReachable 53 = .ok (.istore_n 1, 1) := by decide +kernel
theorem dX0_findReachable_54 : decode cX0_findReachable 54 = .ok (.iload_n 1, 1) := by decide +kernel
theorem dX0_findReachable_55 : decode cX0_findReachable 55 = .ok (.bipush 14, 2) := by decide +kernel
theorem dX0_findReachable_57 : decode cX0_findReachable 57 = .ok (.if_icmp .ge 20, 3) := by decide +kernel
theorem dX0_findReachable_60 : decode cX0_findReachable 60 = .ok (.aload_n 0, 1) := by decide +kernel
theorem dX0_findReachable_61 : decode cX0_findReachable 61 = .ok (.getfield 26, 3) := by decide +kernel
theorem dX0_findReachable_64 : decode cX0_findReachable 64 = .ok (.iload_n 1, 1) := by decide +kernel
theorem dX0_findReachable_65 : decode cX0_findReachable 65 = .ok (.aload_n 0, 1) := by decide +kernel
theorem dX0_findReachable_66 : decode cX0_findReachable 66 = .ok (.iload_n 1, 1) := by decide +kernel
theorem dX0_findReachable_67 : decode cX0_findReachable 67 = .ok (.invokevirtual 82, 3) := by decide +kernel
theorem dX0_findReachable_70 : decode cX0_findReachable 70 = .ok (.iastore, 1) := by decide +kernel
theorem dX0_findReachable_71 : decode cX0_findReachable 71 = .ok (.iinc 1 1, 3) := by decide +kernel
theorem dX0_findReachable_74 : decode cX0_findReachable 74 = .ok (.goto (-20), 3) := by decide +kernel
theorem dX0_findReachable_77 : decode cX0_findReachable 77 = .ok (.return_, 1) := by decide +kernel
theorem dX0_reachedWithout_0 : decode cX0_reachedWithout 0 = .ok (.iconst 1, 1) := by decide +kernel
theorem dX0_reachedWithout_1 : decode cX0_reachedWithout 1 = .ok (.iload_n 1, 1) := by decide +kernel
theorem dX0_reachedWithout_2 : decode cX0_reachedWithout 2 = .ok (.iconst (-1), 1) := by decide +kernel
theorem dX0_reachedWithout_3 : decode cX0_reachedWithout 3 = .ok (.ixor, 1) := by decide +kernel
theorem dX0_reachedWithout_4 : decode cX0_reachedWithout 4 = .ok (.iand, 1) := by decide +kernel
theorem dX0_reachedWithout_5 : decode cX0_reachedWithout 5 = .ok (.istore_n 2, 1) := by decide +kernel
theorem dX0_reachedWithout_6 : decode cX0_reachedWithout 6 = .ok (.iconst 0, 1) := by decide +kernel
theorem dX0_reachedWithout_7 : decode cX0_reachedWithout 7 = .ok (.istore_n 3, 1) := by decide +kernel
theorem dX0_reachedWithout_8 : decode cX0_reachedWithout 8 = .ok (.iload_n 3, 1) := by decide +kernel
theorem dX0_reachedWithout_9 : decode cX0_reachedWithout 9 = .ok (.bipush 14, 2) := by decide +kernel
theorem dX0_reachedWithout_11 : decode cX0_reachedWithout 11 = .ok (.if_icmp .ge 60, 3) := by decide +kernel
theorem dX0_reachedWithout_14 : decode cX0_reachedWithout 14 = .ok (.iload_n 2, 1) := by decide +kernel
theorem dX0_reachedWithout_15 : decode cX0_reachedWithout 15 = .ok (.istore 4, 2) := by decide +kernel
theorem dX0_reachedWithout_17 : decode cX0_reachedWithout 17 = .ok (.iconst 0, 1) := by decide +kernel
theorem dX0_reachedWithout_18 : decode cX0_reachedWithout 18 = .ok (.istore 5, 2) := by decide +kernel
theorem dX0_reachedWithout_20 : decode cX0_reachedWithout 20 = .ok (.iload 5, 2) := by decide +kernel
theorem dX0_reachedWithout_22 : decode cX0_reachedWithout 22 = .ok (.bipush 14, 2) := by decide +kernel
theorem dX0_reachedWithout_24 : decode cX0_reachedWithout 24 = .ok (.if_icmp .ge 32, 3) := by decide +kernel
theorem dX0_reachedWithout_27 : decode cX0_reachedWithout 27 = .ok (.iload_n 2, 1) := by decide +kernel
theorem dX0_reachedWithout_28 : decode cX0_reachedWithout 28 = .ok (.iload 5, 2) := by decide +kernel
theorem dX0_reachedWithout_30 : decode cX0_reachedWithout 30 = .ok (.invokestatic 85, 3) := by decide +kernel
theorem dX0_reachedWithout_33 : decode cX0_reachedWithout 33 = .ok (.ifCond .eq 17, 3) := by decide +kernel
theorem dX0_reachedWithout_36 : decode cX0_reachedWithout 36 = .ok (.iload_n 2, 1) := by decide +kernel
theorem dX0_reachedWithout_37 : decode cX0_reachedWithout 37 = .ok (.aload_n 0, 1) := by decide +kernel
theorem dX0_reachedWithout_38 : decode cX0_reachedWithout 38 = .ok (.getfield 22, 3) := by decide +kernel
theorem dX0_reachedWithout_41 : decode cX0_reachedWithout 41 = .ok (.iload 5, 2) := by decide +kernel
theorem dX0_reachedWithout_43 : decode cX0_reachedWithout 43 = .ok (.iaload, 1) := by decide +kernel
theorem dX0_reachedWithout_44 : decode cX0_reachedWithout 44 = .ok (.iload_n 1, 1) := by decide +kernel
theorem dX0_reachedWithout_45 : decode cX0_reachedWithout 45 = .ok (.iconst (-1), 1) := by decide +kernel
theorem dX0_reachedWithout_46 : decode cX0_reachedWithout 46 = .ok (.ixor, 1) := by decide +kernel
theorem dX0_reachedWithout_47 : decode cX0_reachedWithout 47 = .ok (.iand, 1) := by decide +kernel
theorem dX0_reachedWithout_48 : decode cX0_reachedWithout 48 = .ok (.ior, 1) := by decide +kernel
theorem dX0_reachedWithout_49 : decode cX0_reachedWithout 49 = .ok (.istore_n 2, 1) := by decide +kernel
theorem dX0_reachedWithout_50 : decode cX0_reachedWithout 50 = .ok (.iinc 5 1, 3) := by decide +kernel
theorem dX0_reachedWithout_53 : decode cX0_reachedWithout 53 = .ok (.goto (-33), 3) := by decide +kernel
theorem dX0_reachedWithout_56 : decode cX0_reachedWithout 56 = .ok (.iload_n 2, 1) := by decide +kernel
theorem dX0_reachedWithout_57 : decode cX0_reachedWithout 57 = .ok (.iload 4, 2) := by decide +kernel
theorem dX0_reachedWithout_59 : decode cX0_reachedWithout 59 = .ok (.if_icmp .ne 6, 3) := by decide +kernel
theorem dX0_reachedWithout_62 : decode cX0_reachedWithout 62 = .ok (.goto 9, 3) := by decide +kernel
theorem dX0_reachedWithout_65 : decode cX0_reachedWithout 65 = .ok (.iinc 3 1, 3) := by decide +kernel
theorem dX0_reachedWithout_68 : decode cX0_reachedWithout 68 = .ok (.goto (-60), 3) := by decide +kernel
theorem dX0_reachedWithout_71 : decode cX0_reachedWithout 71 = .ok (.iload_n 2, 1) := by decide +kernel
theorem dX0_reachedWithout_72 : decode cX0_reachedWithout 72 = .ok (.ireturn, 1) := by decide +kernel
theorem dX0_findSourcesOfEdges_0 : decode cX0_findSourcesOfEdges 0 = .ok (.iconst 0, 1) := by decide +kernel
theorem dX0_findSourcesOfEdges_1 : decode cX0_findSourcesOfEdges 1 = .ok (.istore_n 2, 1) := by decide +kernel
theorem dX0_findSourcesOfEdges_2 : decode cX0_findSourcesOfEdges 2 = .ok (.iconst 0, 1) := by decide +kernel
theorem dX0_findSourcesOfEdges_3 : decode cX0_findSourcesOfEdges 3 = .ok (.istore_n 3, 1) := by decide +kernel
theorem dX0_findSourcesOfEdges_4 : decode cX0_findSourcesOfEdges 4 = .ok (.iload_n 3, 1) := by decide +kernel
theorem dX0_findSourcesOfEdges_5 : decode cX0_findSourcesOfEdges 5 = .ok (.bipush 14, 2) := by decide +kernel
theorem dX0_findSourcesOfEdges_7 : decode cX0_findSourcesOfEdges 7 = .ok (.if_icmp .ge 39, 3) := by decide +kernel
theorem dX0_findSourcesOfEdges_10 : decode cX0_findSourcesOfEdges 10 = .ok (.aload_n 0, 1) := by decide +kernel
theorem dX0_findSourcesOfEdges_11 : decode cX0_findSourcesOfEdges 11 = .ok (.getfield 18, 3) := by decide +kernel
theorem dX0_findSourcesOfEdges_14 : decode cX0_findSourcesOfEdges 14 = .ok (.iload_n 3, 1) := by decide +kernel
theorem dX0_findSourcesOfEdges_15 : decode cX0_findSourcesOfEdges 15 = .ok (.invokestatic 85, 3) := by decide +kernel
theorem dX0_findSourcesOfEdges_18 : decode cX0_findSourcesOfEdges 18 = .ok (.ifCond .eq 22, 3) := by decide +kernel
theorem dX0_findSourcesOfEdges_21 : decode cX0_findSourcesOfEdges 21 = .ok (.aload_n 0, 1) := by decide +kernel
theorem dX0_findSourcesOfEdges_22 : decode cX0_findSourcesOfEdges 22 = .ok (.getfield 22, 3) := by decide +kernel
theorem dX0_findSourcesOfEdges_25 : decode cX0_findSourcesOfEdges 25 = .ok (.iload_n 3, 1) := by decide +kernel
theorem dX0_findSourcesOfEdges_26 : decode cX0_findSourcesOfEdges 26 = .ok (.iaload, 1) := by decide +kernel
theorem dX0_findSourcesOfEdges_27 : decode cX0_findSourcesOfEdges 27 = .ok (.iload_n 1, 1) := by decide +kernel
theorem dX0_findSourcesOfEdges_28 : decode cX0_findSourcesOfEdges 28 = .ok (.invokestatic 85, 3) := by decide +kernel
theorem dX0_findSourcesOfEdges_31 : decode cX0_findSourcesOfEdges 31 = .ok (.ifCond .eq 9, 3) := by decide +kernel
theorem dX0_findSourcesOfEdges_34 : decode cX0_findSourcesOfEdges 34 = .ok (.iload_n 2, 1) := by decide +kernel
theorem dX0_findSourcesOfEdges_35 : decode cX0_findSourcesOfEdges 35 = .ok (.iconst 1, 1) := by decide +kernel
theorem dX0_findSourcesOfEdges_36 : decode cX0_findSourcesOfEdges 36 = .ok (.iload_n 3, 1) := by decide +kernel
theorem dX0_findSourcesOfEdges_37 : decode cX0_findSourcesOfEdges 37 = .ok (.ishl, 1) := by decide +kernel
theorem dX0_findSourcesOfEdges_38 : decode cX0_findSourcesOfEdges 38 = .ok (.ior, 1) := by decide +kernel
theorem dX0_findSourcesOfEdges_39 : decode cX0_findSourcesOfEdges 39 = .ok (.istore_n 2, 1) := by decide +kernel
theorem dX0_findSourcesOfEdges_40 : decode cX0_findSourcesOfEdges 40 = .ok (.iinc 3 1, 3) := by decide +kernel
theorem dX0_findSourcesOfEdges_43 : decode cX0_findSourcesOfEdges 43 = .ok (.goto (-39), 3) := by decide +kernel
theorem dX0_findSourcesOfEdges_46 : decode cX0_findSourcesOfEdges 46 = .ok (.iload_n 2, 1) := by decide +kernel
theorem dX0_findSourcesOfEdges_47 : decode cX0_findSourcesOfEdges 47 = .ok (.ireturn, 1) := by decide +kernel
theorem dX0_findDominators_0 : decode cX0_findDominators 0 = .ok (.iconst 0, 1) := by decide +kernel
theorem dX0_findDominators_1 : decode cX0_findDominators 1 = .ok (.istore_n 1, 1) := by decide +kernel
theorem dX0_findDominators_2 : decode cX0_findDominators 2 = .ok (.iload_n 1, 1) := by decide +kernel
theorem dX0_findDominators_3 : decode cX0_findDominators 3 = .ok (.bipush 14, 2) := by decide +kernel
theorem dX0_findDominators_5 : decode cX0_findDominators 5 = .ok (.if_icmp .ge 44, 3) := by decide +kernel
theorem dX0_findDominators_8 : decode cX0_findDominators 8 = .ok (.aload_n 0, 1) := by decide +kernel
theorem dX0_findDominators_9 : decode cX0_findDominators 9 = .ok (.getfield 29, 3) := by decide +kernel
theorem dX0_findDominators_12 : decode cX0_findDominators 12 = .ok (.iload_n 1, 1) := by decide +kernel
theorem dX0_findDominators_13 : decode cX0_findDominators 13 = .ok (.aload_n 0, 1) := by decide +kernel
theorem dX0_findDominators_14 : decode cX0_findDominators 14 = .ok (.getfield 18, 3) := by decide +kernel
theorem dX0_findDominators_17 : decode cX0_findDominators 17 = .ok (.iload_n 1, 1) := by decide +kernel
theorem dX0_findDominators_18 : decode cX0_findDominators 18 = .ok (.invokestatic 85, 3) := by decide +kernel
theorem dX0_findDominators_21 : decode cX0_findDominators 21 = .ok (.ifCond .eq 20, 3) := by decide +kernel
theorem dX0_findDominators_24 : decode cX0_findDominators 24 = .ok (.aload_n 0, 1) := by decide +kernel
theorem dX0_findDominators_25 : decode cX0_findDominators 25 = .ok (.getfield 18, 3) := by decide +kernel
theorem dX0_findDominators_28 : decode cX0_findDominators 28 = .ok (.aload_n 0, 1) := by decide +kernel
theorem dX0_findDominators_29 : decode cX0_findDominators 29 = .ok (.iconst 1, 1) := by decide +kernel
theorem dX0_findDominators_30 : decode cX0_findDominators 30 = .ok (.iload_n 1, 1) := by decide +kernel
theorem dX0_findDominators_31 : decode cX0_findDominators 31 = .ok (.ishl, 1) := by decide +kernel
theorem dX0_findDominators_32 : decode cX0_findDominators 32 = .ok (.invokevirtual 79, 3) := by decide +kernel
theorem dX0_findDominators_35 : decode cX0_findDominators 35 = .ok (.iconst (-1), 1) := by decide +kernel
theorem dX0_findDominators_36 : decode cX0_findDominators 36 = .ok (.ixor, 1) := by decide +kernel
theorem dX0_findDominators_37 : decode cX0_findDominators 37 = .ok (.iand, 1) := by decide +kernel
theorem dX0_findDominators_38 : decode cX0_findDominators 38 = .ok (.goto 4, 3) := by decide +kernel
theorem dX0_findDominators_41 : decode cX0_findDominators 41 = .ok (.iconst 0, 1) := by decide +kernel
theorem dX0_findDominators_42 : decode cX0_findDominators 42 = .ok (.iastore, 1) := by decide +kernel
theorem dX0_findDominators_43 : decode cX0_findDominators 43 = .ok (.iinc 1 1, 3) := by decide +kernel
theorem dX0_findDominators_46 : decode cX0_findDominators 46 = .ok (.goto (-44), 3) := by decide +kernel
theorem dX0_findDominators_49 : decode cX0_findDominators 49 = .ok (.iconst 0, 1) := by decide +kernel
theorem dX0_findDominators_50 : decode cX0_findDominators 50 = .ok (.istore_n 1, 1) := by decide +kernel
theorem dX0_findDominators_51 : decode cX0_findDominators 51 = .ok (.iload_n 1, 1) := by decide +kernel
theorem dX0_findDominators_52 : decode cX0_findDominators 52 = .ok (.bipush 14, 2) := by decide +kernel
theorem dX0_findDominators_54 : decode cX0_findDominators 54 = .ok (.if_icmp .ge 31, 3) := by decide +kernel
theorem dX0_findDominators_57 : decode cX0_findDominators 57 = .ok (.aload_n 0, 1) := by decide +kernel
theorem dX0_findDominators_58 : decode cX0_findDominators 58 = .ok (.getfield 32, 3) := by decide +kernel
theorem dX0_findDominators_61 : decode cX0_findDominators 61 = .ok (.iload_n 1, 1) := by decide +kernel
theorem dX0_findDominators_62 : decode cX0_findDominators 62 = .ok (.aload_n 0, 1) := by decide +kernel
theorem dX0_findDominators_63 : decode cX0_findDominators 63 = .ok (.iload_n 1, 1) := by decide +kernel
theorem dX0_findDominators_64 : decode cX0_findDominators 64 = .ok (.invokevirtual 89, 3) := by decide +kernel
theorem dX0_findDominators_67 : decode cX0_findDominators 67 = .ok (.iastore, 1) := by decide +kernel
theorem dX0_findDominators_68 : decode cX0_findDominators 68 = .ok (.aload_n 0, 1) := by decide +kernel
theorem dX0_findDominators_69 : decode cX0_findDominators 69 = .ok (.getfield 35, 3) := by decide +kernel
theorem dX0_findDominators_72 : decode cX0_findDominators 72 = .ok (.iload_n 1, 1) := by decide +kernel
theorem dX0_findDominators_73 : decode cX0_findDominators 73 = .ok (.aload_n 0, 1) := by decide +kernel
theorem dX0_findDominators_74 : decode cX0_findDominators 74 = .ok (.iload_n 1, 1) := by decide +kernel
theorem dX0_findDominators_75 : decode cX0_findDominators 75 = .ok (.invokevirtual 92, 3) := by decide +kernel
theorem dX0_findDominators_78 : decode cX0_findDominators 78 = .ok (.iastore, 1) := by decide +kernel
theorem dX0_findDominators_79 : decode cX0_findDominators 79 = .ok (.iinc 1 1, 3) := by decide +kernel
theorem dX0_findDominators_82 : decode cX0_findDominators 82 = .ok (.goto (-31), 3) := by decide +kernel
theorem dX0_findDominators_85 : decode cX0_findDominators 85 = .ok (.return_, 1) := by decide +kernel
theorem dX0_findParent_0 : decode cX0_findParent 0 = .ok (.iconst 0, 1) := by decide +kernel
theorem dX0_findParent_1 : decode cX0_findParent 1 = .ok (.istore_n 2, 1) := by decide +kernel
theorem dX0_findParent_2 : decode cX0_findParent 2 = .ok (.iconst 1, 1) := by decide +kernel
theorem dX0_findParent_3 : decode cX0_findParent 3 = .ok (.istore_n 3, 1) := by decide +kernel
theorem dX0_findParent_4 : decode cX0_findParent 4 = .ok (.iload_n 3, 1) := by decide +kernel
theorem dX0_findParent_5 : decode cX0_findParent 5 = .ok (.bipush 14, 2) := by decide +kernel
theorem dX0_findParent_7 : decode cX0_findParent 7 = .ok (.if_icmp .ge 42, 3) := by decide +kernel
theorem dX0_findParent_10 : decode cX0_findParent 10 = .ok (.iload_n 3, 1) := by decide +kernel
theorem dX0_findParent_11 : decode cX0_findParent 11 = .ok (.iload_n 1, 1) := by decide +kernel
theorem dX0_findParent_12 : decode cX0_findParent 12 = .ok (.if_icmp .eq 31, 3) := by decide +kernel
theorem dX0_findParent_15 : decode cX0_findParent 15 = .ok (.aload_n 0, 1) := by decide +kernel
theorem dX0_findParent_16 : decode cX0_findParent 16 = .ok (.getfield 29, 3) := by decide +kernel
theorem dX0_findParent_19 : decode cX0_findParent 19 = .ok (.iload_n 3, 1) := by decide +kernel
theorem dX0_findParent_20 : decode cX0_findParent 20 = .ok (.iaload, 1) := by decide +kernel
theorem dX0_findParent_21 : decode cX0_findParent 21 = .ok (.iload_n 1, 1) := by decide +kernel
theorem dX0_findParent_22 : decode cX0_findParent 22 = .ok (.invokestatic 85, 3) := by decide +kernel
theorem dX0_findParent_25 : decode cX0_findParent 25 = .ok (.ifCond .eq 18, 3) := by decide +kernel
theorem dX0_findParent_28 : decode cX0_findParent 28 = .ok (.aload_n 0, 1) := by decide +kernel
theorem dX0_findParent_29 : decode cX0_findParent 29 = .ok (.getfield 29, 3) := by decide +kernel
theorem dX0_findParent_32 : decode cX0_findParent 32 = .ok (.iload_n 2, 1) := by decide +kernel
theorem dX0_findParent_33 : decode cX0_findParent 33 = .ok (.iaload, 1) := by decide +kernel
theorem dX0_findParent_34 : decode cX0_findParent 34 = .ok (.iload_n 3, 1) := by decide +kernel
theorem dX0_findParent_35 : decode cX0_findParent 35 = .ok (.invokestatic 85, 3) := by decide +kernel
theorem dX0_findParent_38 : decode cX0_findParent 38 = .ok (.ifCond .eq 5, 3) := by decide +kernel
theorem dX0_findParent_41 : decode cX0_findParent 41 = .ok (.iload_n 3, 1) := by decide +kernel
theorem dX0_findParent_42 : decode cX0_findParent 42 = .ok (.istore_n 2, 1) := by decide +kernel
theorem dX0_findParent_43 : decode cX0_findParent 43 = .ok (.iinc 3 1, 3) := by decide +kernel
theorem dX0_findParent_46 : decode cX0_findParent 46 = .ok (.goto (-42), 3) := by decide +kernel
theorem dX0_findParent_49 : decode cX0_findParent 49 = .ok (.iload_n 2, 1) := by decide +kernel
theorem dX0_findParent_50 : decode cX0_findParent 50 = .ok (.ireturn, 1) := by decide +kernel
theorem dX0_findFrontier_0 : decode cX0_findFrontier 0 = .ok (.iconst 0, 1) := by decide +kernel
theorem dX0_findFrontier_1 : decode cX0_findFrontier 1 = .ok (.istore_n 2, 1) := by decide +kernel
theorem dX0_findFrontier_2 : decode cX0_findFrontier 2 = .ok (.iconst 0, 1) := by decide +kernel
theorem dX0_findFrontier_3 : decode cX0_findFrontier 3 = .ok (.istore_n 3, 1) := by decide +kernel
theorem dX0_findFrontier_4 : decode cX0_findFrontier 4 = .ok (.iload_n 3, 1) := by decide +kernel
theorem dX0_findFrontier_5 : decode cX0_findFrontier 5 = .ok (.bipush 14, 2) := by decide +kernel
theorem dX0_findFrontier_7 : decode cX0_findFrontier 7 = .ok (.if_icmp .ge 61, 3) := by decide +kernel
theorem dX0_findFrontier_10 : decode cX0_findFrontier 10 = .ok (.aload_n 0, 1) := by decide +kernel
theorem dX0_findFrontier_11 : decode cX0_findFrontier 11 = .ok (.getfield 26, 3) := by decide +kernel
theorem dX0_findFrontier_14 : decode cX0_findFrontier 14 = .ok (.iload_n 3, 1) := by decide +kernel
theorem dX0_findFrontier_15 : decode cX0_findFrontier 15 = .ok (.iaload, 1) := by decide +kernel
theorem dX0_findFrontier_16 : decode cX0_findFrontier 16 = .ok (.aload_n 0, 1) := by decide +kernel
theorem dX0_findFrontier_17 : decode cX0_findFrontier 17 = .ok (.getfield 29, 3) := by decide +kernel
theorem dX0_findFrontier_20 : decode cX0_findFrontier 20 = .ok (.iload_n 1, 1) := by decide +kernel
theorem dX0_findFrontier_21 : decode cX0_findFrontier 21 = .ok (.iaload, 1) := by decide +kernel
theorem dX0_findFrontier_22 : decode cX0_findFrontier 22 = .ok (.iand, 1) := by decide +kernel
theorem dX0_findFrontier_23 : decode cX0_findFrontier 23 = .ok (.ifCond .eq 7, 3) := by decide +kernel
theorem dX0_findFrontier_26 : decode cX0_findFrontier 26 = .ok (.iconst 1, 1) := by decide +kernel
theorem dX0_findFrontier_27 : decode cX0_findFrontier 27 = .ok (.goto 4, 3) := by decide +kernel
theorem dX0_findFrontier_30 : decode cX0_findFrontier 30 = .ok (.iconst 0, 1) := by decide +kernel
theorem dX0_findFrontier_31 : decode cX0_findFrontier 31 = .ok (.istore 4, 2) := by decide +kernel
theorem dX0_findFrontier_33 : decode cX0_findFrontier 33 = .ok (.iload 4, 2) := by decide +kernel
theorem dX0_findFrontier_35 : decode cX0_findFrontier 35 = .ok (.ifCond .eq 27, 3) := by decide +kernel
theorem dX0_findFrontier_38 : decode cX0_findFrontier 38 = .ok (.iload_n 3, 1) := by decide +kernel
theorem dX0_findFrontier_39 : decode cX0_findFrontier 39 = .ok (.iload_n 1, 1) := by decide +kernel
theorem dX0_findFrontier_40 : decode cX0_findFrontier 40 = .ok (.if_icmp .eq 16, 3) := by decide +kernel
theorem dX0_findFrontier_43 : decode cX0_findFrontier 43 = .ok (.aload_n 0, 1) := by decide +kernel
theorem dX0_findFrontier_44 : decode cX0_findFrontier 44 = .ok (.getfield 29, 3) := by decide +kernel
theorem dX0_findFrontier_47 : decode cX0_findFrontier 47 = .ok (.iload_n 1, 1) := by decide +kernel
theorem dX0_findFrontier_48 : decode cX0_findFrontier 48 = .ok (.iaload, 1) := by decide +kernel
theorem dX0_findFrontier_49 : decode cX0_findFrontier 49 = .ok (.iload_n 3, 1) := by decide +kernel
theorem dX0_findFrontier_50 : decode cX0_findFrontier 50 = .ok (.invokestatic 85, 3) := by decide +kernel
theorem dX0_findFrontier_53 : decode cX0_findFrontier 53 = .ok (.ifCond .ne 9, 3) := by decide +kernel
theorem dX0_findFrontier_56 : decode cX0_findFrontier 56 = .ok (.iload_n 2, 1) := by decide +kernel
theorem dX0_findFrontier_57 : decode cX0_findFrontier 57 = .ok (.iconst 1, 1) := by decide +kernel
theorem dX0_findFrontier_58 : decode cX0_findFrontier 58 = .ok (.iload_n 3, 1) := by decide +kernel
theorem dX0_findFrontier_59 : decode cX0_findFrontier 59 = .ok (.ishl, 1) := by decide +kernel
theorem dX0_findFrontier_60 : decode cX0_findFrontier 60 = .ok (.ior, 1) := by decide +kernel
theorem dX0_findFrontier_61 : decode cX0_findFrontier 61 = .ok (.istore_n 2, 1) := by decide +kernel
theorem dX0_findFrontier_62 : decode cX0_findFrontier 62 = .ok (.iinc 3 1, 3) := by decide +kernel
theorem dX0_findFrontier_65 : decode cX0_findFrontier 65 = .ok (.goto (-61), 3) := by decide +kernel
theorem dX0_findFrontier_68 : decode cX0_findFrontier 68 = .ok (.iload_n 2, 1) := by decide +kernel
theorem dX0_findFrontier_69 : decode cX0_findFrontier 69 = .ok (.ireturn, 1) := by decide +kernel
theorem dX0_findDefining_0 : decode cX0_findDefining 0 = .ok (.iconst 0, 1) := by decide +kernel
theorem dX0_findDefining_1 : decode cX0_findDefining 1 = .ok (.istore_n 2, 1) := by decide +kernel
theorem dX0_findDefining_2 : decode cX0_findDefining 2 = .ok (.iconst 0, 1) := by decide +kernel
theorem dX0_findDefining_3 : decode cX0_findDefining 3 = .ok (.istore_n 3, 1) := by decide +kernel
theorem dX0_findDefining_4 : decode cX0_findDefining 4 = .ok (.iload_n 3, 1) := by decide +kernel
theorem dX0_findDefining_5 : decode cX0_findDefining 5 = .ok (.bipush 14, 2) := by decide +kernel
theorem dX0_findDefining_7 : decode cX0_findDefining 7 = .ok (.if_icmp .ge 69, 3) := by decide +kernel
theorem dX0_findDefining_10 : decode cX0_findDefining 10 = .ok (.aload_n 0, 1) := by decide +kernel
theorem dX0_findDefining_11 : decode cX0_findDefining 11 = .ok (.getfield 18, 3) := by decide +kernel
theorem dX0_findDefining_14 : decode cX0_findDefining 14 = .ok (.iload_n 3, 1) := by decide +kernel
theorem dX0_findDefining_15 : decode cX0_findDefining 15 = .ok (.invokestatic 85, 3) := by decide +kernel
theorem dX0_findDefining_18 : decode cX0_findDefining 18 = .ok (.ifCond .eq 24, 3) := by decide +kernel
theorem dX0_findDefining_21 : decode cX0_findDefining 21 = .ok (.aload_n 0, 1) := by decide +kernel
theorem dX0_findDefining_22 : decode cX0_findDefining 22 = .ok (.getfield 12, 3) := by decide +kernel
theorem dX0_findDefining_25 : decode cX0_findDefining 25 = .ok (.iload_n 3, 1) := by decide +kernel
theorem dX0_findDefining_26 : decode cX0_findDefining 26 = .ok (.iload_n 1, 1) := by decide +kernel
theorem dX0_findDefining_27 : decode cX0_findDefining 27 = .ok (.aload_n 0, 1) := by decide +kernel
theorem dX0_findDefining_28 : decode cX0_findDefining 28 = .ok (.getfield 12, 3) := by decide +kernel
theorem dX0_findDefining_31 : decode cX0_findDefining 31 = .ok (.getfield 95, 3) := by decide +kernel
theorem dX0_findDefining_34 : decode cX0_findDefining 34 = .ok (.iload_n 3, 1) := by decide +kernel
theorem dX0_findDefining_35 : decode cX0_findDefining 35 = .ok (.iaload, 1) := by decide +kernel
theorem dX0_findDefining_36 : decode cX0_findDefining 36 = .ok (.invokevirtual 98, 3) := by decide +kernel
theorem dX0_findDefining_39 : decode cX0_findDefining 39 = .ok (.goto 4, 3) := by decide +kernel
theorem dX0_findDefining_42 : decode cX0_findDefining 42 = .ok (.iconst (-1), 1) := by decide +kernel
theorem dX0_findDefining_43 : decode cX0_findDefining 43 = .ok (.istore 4, 2) := by decide +kernel
theorem dX0_findDefining_45 : decode cX0_findDefining 45 = .ok (.aload_n 0, 1) := by decide +kernel
theorem dX0_findDefining_46 : decode cX0_findDefining 46 = .ok (.getfield 41, 3) := by decide +kernel
theorem dX0_findDefining_49 : decode cX0_findDefining 49 = .ok (.iload_n 1, 1) := by decide +kernel
theorem dX0_findDefining_50 : decode cX0_findDefining 50 = .ok (.bipush 14, 2) := by decide +kernel
theorem dX0_findDefining_52 : decode cX0_findDefining 52 = .ok (.imul, 1) := by decide +kernel
theorem dX0_findDefining_53 : decode cX0_findDefining 53 = .ok (.iload_n 3, 1) := by decide +kernel
theorem dX0_findDefining_54 : decode cX0_findDefining 54 = .ok (.iadd, 1) := by decide +kernel
theorem dX0_findDefining_55 : decode cX0_findDefining 55 = .ok (.iload 4, 2) := by decide +kernel
theorem dX0_findDefining_57 : decode cX0_findDefining 57 = .ok (.iastore, 1) := by decide +kernel
theorem dX0_findDefining_58 : decode cX0_findDefining 58 = .ok (.iload 4, 2) := by decide +kernel
theorem dX0_findDefining_60 : decode cX0_findDefining 60 = .ok (.iconst (-1), 1) := by decide +kernel
theorem dX0_findDefining_61 : decode cX0_findDefining 61 = .ok (.if_icmp .eq 9, 3) := by decide +kernel
theorem dX0_findDefining_64 : decode cX0_findDefining 64 = .ok (.iload_n 2, 1) := by decide +kernel
theorem dX0_findDefining_65 : decode cX0_findDefining 65 = .ok (.iconst 1, 1) := by decide +kernel
theorem dX0_findDefining_66 : decode cX0_findDefining 66 = .ok (.iload_n 3, 1) := by decide +kernel
theorem dX0_findDefining_67 : decode cX0_findDefining 67 = .ok (.ishl, 1) := by decide +kernel
theorem dX0_findDefining_68 : decode cX0_findDefining 68 = .ok (.ior, 1) := by decide +kernel
theorem dX0_findDefining_69 : decode cX0_findDefining 69 = .ok (.istore_n 2, 1) := by decide +kernel
theorem dX0_findDefining_70 : decode cX0_findDefining 70 = .ok (.iinc 3 1, 3) := by decide +kernel
theorem dX0_findDefining_73 : decode cX0_findDefining 73 = .ok (.goto (-69), 3) := by decide +kernel
theorem dX0_findDefining_76 : decode cX0_findDefining 76 = .ok (.iload_n 2, 1) := by decide +kernel
theorem dX0_findDefining_77 : decode cX0_findDefining 77 = .ok (.ireturn, 1) := by decide +kernel
theorem dX0_findLive_0 : decode cX0_findLive 0 = .ok (.iconst 0, 1) := by decide +kernel
theorem dX0_findLive_1 : decode cX0_findLive 1 = .ok (.istore_n 2, 1) := by decide +kernel
theorem dX0_findLive_2 : decode cX0_findLive 2 = .ok (.iconst 0, 1) := by decide +kernel
theorem dX0_findLive_3 : decode cX0_findLive 3 = .ok (.istore_n 3, 1) := by decide +kernel
theorem dX0_findLive_4 : decode cX0_findLive 4 = .ok (.iload_n 3, 1) := by decide +kernel
theorem dX0_findLive_5 : decode cX0_findLive 5 = .ok (.bipush 14, 2) := by decide +kernel
theorem dX0_findLive_7 : decode cX0_findLive 7 = .ok (.if_icmp .gt 66, 3) := by decide +kernel
theorem dX0_findLive_10 : decode cX0_findLive 10 = .ok (.iload_n 2, 1) := by decide +kernel
theorem dX0_findLive_11 : decode cX0_findLive 11 = .ok (.istore 4, 2) := by decide +kernel
theorem dX0_findLive_13 : decode cX0_findLive 13 = .ok (.bipush 13, 2) := by decide +kernel
theorem dX0_findLive_15 : decode cX0_findLive 15 = .ok (.istore 5, 2) := by decide +kernel
theorem dX0_findLive_17 : decode cX0_findLive 17 = .ok (.iload 5, 2) := by decide +kernel
theorem dX0_findLive_19 : decode cX0_findLive 19 = .ok (.ifCond .lt 39, 3) := by decide +kernel
theorem dX0_findLive_22 : decode cX0_findLive 22 = .ok (.aload_n 0, 1) := by decide +kernel
theorem dX0_findLive_23 : decode cX0_findLive 23 = .ok (.getfield 18, 3) := by decide +kernel
theorem dX0_findLive_26 : decode cX0_findLive 26 = .ok (.iload 5, 2) := by decide +kernel
theorem dX0_findLive_28 : decode cX0_findLive 28 = .ok (.invokestatic 85, 3) := by decide +kernel
theorem dX0_findLive_31 : decode cX0_findLive 31 = .ok (.ifCond .eq 21, 3) := by decide +kernel
theorem dX0_findLive_34 : decode cX0_findLive 34 = .ok (.aload_n 0, 1) := by decide +kernel
theorem dX0_findLive_35 : decode cX0_findLive 35 = .ok (.iload_n 2, 1) := by decide +kernel
theorem dX0_findLive_36 : decode cX0_findLive 36 = .ok (.iload 5, 2) := by decide +kernel
theorem dX0_findLive_38 : decode cX0_findLive 38 = .ok (.iload_n 1, 1) := by decide +kernel
theorem dX0_findLive_39 : decode cX0_findLive 39 = .ok (.invokevirtual 102, 3) := by decide +kernel
theorem dX0_findLive_42 : decode cX0_findLive 42 = .ok (.ifCond .eq 10, 3) := by decide +kernel
theorem dX0_findLive_45 : decode cX0_findLive 45 = .ok (.iload_n 2, 1) := by decide +kernel
theorem dX0_findLive_46 : decode cX0_findLive 46 = .ok (.iconst 1, 1) := by decide +kernel
theorem dX0_findLive_47 : decode cX0_findLive 47 = .ok (.iload 5, 2) := by decide +kernel
theorem dX0_findLive_49 : decode cX0_findLive 49 = .ok (.ishl, 1) := by decide +kernel
theorem dX0_findLive_50 : decode cX0_findLive 50 = .ok (.ior, 1) := by decide +kernel
theorem dX0_findLive_51 : decode cX0_findLive 51 = .ok (.istore_n 2, 1) := by decide +kernel
theorem dX0_findLive_52 : decode cX0_findLive 52 = .ok (.iinc 5 (-1), 3) := by decide +kernel
theorem dX0_findLive_55 : decode cX0_findLive 55 = .ok (.goto (-38), 3) := by decide +kernel
theorem dX0_findLive_58 : decode cX0_findLive 58 = .ok (.iload_n 2, 1) := by decide +kernel
theorem dX0_findLive_59 : decode cX0_findLive 59 = .ok (.iload 4, 2) := by decide +kernel
theorem dX0_findLive_61 : decode cX0_findLive 61 = .ok (.if_icmp .ne 6, 3) := by decide +kernel
theorem dX0_findLive_64 : decode cX0_findLive 64 = .ok (.goto 9, 3) := by decide +kernel
theorem dX0_findLive_67 : decode cX0_findLive 67 = .ok (.iinc 3 1, 3) := by decide +kernel
theorem dX0_findLive_70 : decode cX0_findLive 70 = .ok (.goto (-66), 3) := by decide +kernel
theorem dX0_findLive_73 : decode cX0_findLive 73 = .ok (.iload_n 2, 1) := by decide +kernel
theorem dX0_findLive_74 : decode cX0_findLive 74 = .ok (.ireturn, 1) := by decide +kernel
theorem dX0_isLiveGiven_0 : decode cX0_isLiveGiven 0 = .ok (.aload_n 0, 1) := by decide +kernel
theorem dX0_isLiveGiven_1 : decode cX0_isLiveGiven 1 = .ok (.getfield 38, 3) := by decide +kernel
theorem dX0_isLiveGiven_4 : decode cX0_isLiveGiven 4 = .ok (.iload_n 3, 1) := by decide +kernel
theorem dX0_isLiveGiven_5 : decode cX0_isLiveGiven 5 = .ok (.iaload, 1) := by decide +kernel
theorem dX0_isLiveGiven_6 : decode cX0_isLiveGiven 6 = .ok (.iload_n 2, 1) := by decide +kernel
theorem dX0_isLiveGiven_7 : decode cX0_isLiveGiven 7 = .ok (.invokestatic 85, 3) := by decide +kernel
theorem dX0_isLiveGiven_10 : decode cX0_isLiveGiven 10 = .ok (.ifCond .ne 7, 3) := by decide +kernel
theorem dX0_isLiveGiven_13 : decode cX0_isLiveGiven 13 = .ok (.iconst 1, 1) := by decide +kernel
theorem dX0_isLiveGiven_14 : decode cX0_isLiveGiven 14 = .ok (.goto 4, 3) := by decide +kernel
theorem dX0_isLiveGiven_17 : decode cX0_isLiveGiven 17 = .ok (.iconst 0, 1) := by decide +kernel
theorem dX0_isLiveGiven_18 : decode cX0_isLiveGiven 18 = .ok (.istore 4, 2) := by decide +kernel
theorem dX0_isLiveGiven_20 : decode cX0_isLiveGiven 20 = .ok (.aload_n 0, 1) := by decide +kernel
theorem dX0_isLiveGiven_21 : decode cX0_isLiveGiven 21 = .ok (.getfield 12, 3) := by decide +kernel
theorem dX0_isLiveGiven_24 : decode cX0_isLiveGiven 24 = .ok (.iload_n 2, 1) := by decide +kernel
theorem dX0_isLiveGiven_25 : decode cX0_isLiveGiven 25 = .ok (.iload_n 3, 1) := by decide +kernel
theorem dX0_isLiveGiven_26 : decode cX0_isLiveGiven 26 = .ok (.invokevirtual 106, 3) := by decide +kernel
theorem dX0_isLiveGiven_29 : decode cX0_isLiveGiven 29 = .ok (.ifCond .ne 19, 3) := by decide +kernel
theorem dX0_isLiveGiven_32 : decode cX0_isLiveGiven 32 = .ok (.iload 4, 2) := by decide +kernel
theorem dX0_isLiveGiven_34 : decode cX0_isLiveGiven 34 = .ok (.ifCond .eq 18, 3) := by decide +kernel
theorem dX0_isLiveGiven_37 : decode cX0_isLiveGiven 37 = .ok (.aload_n 0, 1) := by decide +kernel
theorem dX0_isLiveGiven_38 : decode cX0_isLiveGiven 38 = .ok (.getfield 22, 3) := by decide +kernel
theorem dX0_isLiveGiven_41 : decode cX0_isLiveGiven 41 = .ok (.iload_n 2, 1) := by decide +kernel
theorem dX0_isLiveGiven_42 : decode cX0_isLiveGiven 42 = .ok (.iaload, 1) := by decide +kernel
theorem dX0_isLiveGiven_43 : decode cX0_isLiveGiven 43 = .ok (.iload_n 1, 1) := by decide +kernel
theorem dX0_isLiveGiven_44 : decode cX0_isLiveGiven 44 = .ok (.iand, 1) := by decide +kernel
theorem dX0_isLiveGiven_45 : decode cX0_isLiveGiven 45 = .ok (.ifCond .eq 7, 3) := by decide +kernel
theorem dX0_isLiveGiven_48 : decode cX0_isLiveGiven 48 = .ok (.iconst 1, 1) := by decide +kernel
theorem dX0_isLiveGiven_49 : decode cX0_isLiveGiven 49 = .ok (.goto 4, 3) := by decide +kernel
theorem dX0_isLiveGiven_52 : decode cX0_isLiveGiven 52 = .ok (.iconst 0, 1) := by decide +kernel
theorem dX0_isLiveGiven_53 : decode cX0_isLiveGiven 53 = .ok (.ireturn, 1) := by decide +kernel
theorem dX0_findMinimal_0 : decode cX0_findMinimal 0 = .ok (.aload_n 0, 1) := by decide +kernel
theorem dX0_findMinimal_1 : decode cX0_findMinimal 1 = .ok (.getfield 38, 3) := by decide +kernel
theorem dX0_findMinimal_4 : decode cX0_findMinimal 4 = .ok (.iload_n 1, 1) := by decide +kernel
theorem dX0_findMinimal_5 : decode cX0_findMinimal 5 = .ok (.iaload, 1) := by decide +kernel
theorem dX0_findMinimal_6 : decode cX0_findMinimal 6 = .ok (.iconst 1, 1) := by decide +kernel
theorem dX0_findMinimal_7 : decode cX0_findMinimal 7 = .ok (.ior, 1) := by decide +kernel
theorem dX0_findMinimal_8 : decode cX0_findMinimal 8 = .ok (.istore_n 2, 1) := by decide +kernel
theorem dX0_findMinimal_9 : decode cX0_findMinimal 9 = .ok (.iconst 0, 1) := by decide +kernel
theorem dX0_findMinimal_10 : decode cX0_findMinimal 10 = .ok (.istore_n 3, 1) := by decide +kernel
theorem dX0_findMinimal_11 : decode cX0_findMinimal 11 = .ok (.iconst 0, 1) := by decide +kernel
theorem dX0_findMinimal_12 : decode cX0_findMinimal 12 = .ok (.istore 4, 2) := by decide +kernel
theorem dX0_findMinimal_14 : decode cX0_findMinimal 14 = .ok (.iload 4, 2) := by decide +kernel
theorem dX0_findMinimal_16 : decode cX0_findMinimal 16 = .ok (.bipush 14, 2) := by decide +kernel
theorem dX0_findMinimal_18 : decode cX0_findMinimal 18 = .ok (.if_icmp .gt 58, 3) := by decide +kernel
theorem dX0_findMinimal_21 : decode cX0_findMinimal 21 = .ok (.iload_n 3, 1) := by decide +kernel
theorem dX0_findMinimal_22 : decode cX0_findMinimal 22 = .ok (.istore 5, 2) := by decide +kernel
theorem dX0_findMinimal_24 : decode cX0_findMinimal 24 = .ok (.iconst 0, 1) := by decide +kernel
theorem dX0_findMinimal_25 : decode cX0_findMinimal 25 = .ok (.istore 6, 2) := by decide +kernel
theorem dX0_findMinimal_27 : decode cX0_findMinimal 27 = .ok (.iload 6, 2) := by decide +kernel
theorem dX0_findMinimal_29 : decode cX0_findMinimal 29 = .ok (.bipush 14, 2) := by decide +kernel
theorem dX0_findMinimal_31 : decode cX0_findMinimal 31 = .ok (.if_icmp .ge 30, 3) := by decide +kernel
theorem dX0_findMinimal_34 : decode cX0_findMinimal 34 = .ok (.iload_n 2, 1) := by decide +kernel
theorem dX0_findMinimal_35 : decode cX0_findMinimal 35 = .ok (.iload_n 3, 1) := by decide +kernel
theorem dX0_findMinimal_36 : decode cX0_findMinimal 36 = .ok (.ior, 1) := by decide +kernel
theorem dX0_findMinimal_37 : decode cX0_findMinimal 37 = .ok (.iload 6, 2) := by decide +kernel
theorem dX0_findMinimal_39 : decode cX0_findMinimal 39 = .ok (.invokestatic 85, 3) := by decide +kernel
theorem dX0_findMinimal_42 : decode cX0_findMinimal 42 = .ok (.ifCond .eq 13, 3) := by decide +kernel
theorem dX0_findMinimal_45 : decode cX0_findMinimal 45 = .ok (.iload_n 3, 1) := by decide +kernel
theorem dX0_findMinimal_46 : decode cX0_findMinimal 46 = .ok (.aload_n 0, 1) := by decide +kernel
theorem dX0_findMinimal_47 : decode cX0_findMinimal 47 = .ok (.getfield 35, 3) := by decide +kernel
theorem dX0_findMinimal_50 : decode cX0_findMinimal 50 = .ok (.iload 6, 2) := by decide +kernel
theorem dX0_findMinimal_52 : decode cX0_findMinimal 52 = .ok (.iaload, 1) := by decide +kernel
theorem dX0_findMinimal_53 : decode cX0_findMinimal 53 = .ok (.ior, 1) := by decide +kernel
theorem dX0_findMinimal_54 : decode cX0_findMinimal 54 = .ok (.istore_n 3, 1) := by decide +kernel
theorem dX0_findMinimal_55 : decode cX0_findMinimal 55 = .ok (.iinc 6 1, 3) := by decide +kernel
theorem dX0_findMinimal_58 : decode cX0_findMinimal 58 = .ok (.goto (-31), 3) := by decide +kernel
theorem dX0_findMinimal_61 : decode cX0_findMinimal 61 = .ok (.iload_n 3, 1) := by decide +kernel
theorem dX0_findMinimal_62 : decode cX0_findMinimal 62 = .ok (.iload 5, 2) := by decide +kernel
theorem dX0_findMinimal_64 : decode cX0_findMinimal 64 = .ok (.if_icmp .ne 6, 3) := by decide +kernel
theorem dX0_findMinimal_67 : decode cX0_findMinimal 67 = .ok (.goto 9, 3) := by decide +kernel
theorem dX0_findMinimal_70 : decode cX0_findMinimal 70 = .ok (.iinc 4 1, 3) := by decide +kernel
theorem dX0_findMinimal_73 : decode cX0_findMinimal 73 = .ok (.goto (-59), 3) := by decide +kernel
theorem dX0_findMinimal_76 : decode cX0_findMinimal 76 = .ok (.iload_n 3, 1) := by decide +kernel
theorem dX0_findMinimal_77 : decode cX0_findMinimal 77 = .ok (.ireturn, 1) := by decide +kernel
theorem dX0_lastDefinition_0 : decode cX0_lastDefinition 0 = .ok (.aload_n 0, 1) := by decide +kernel
theorem dX0_lastDefinition_1 : decode cX0_lastDefinition 1 = .ok (.getfield 41, 3) := by decide +kernel
theorem dX0_lastDefinition_4 : decode cX0_lastDefinition 4 = .ok (.iload_n 2, 1) := by decide +kernel
theorem dX0_lastDefinition_5 : decode cX0_lastDefinition 5 = .ok (.bipush 14, 2) := by decide +kernel
theorem dX0_lastDefinition_7 : decode cX0_lastDefinition 7 = .ok (.imul, 1) := by decide +kernel
theorem dX0_lastDefinition_8 : decode cX0_lastDefinition 8 = .ok (.iload_n 1, 1) := by decide +kernel
theorem dX0_lastDefinition_9 : decode cX0_lastDefinition 9 = .ok (.iadd, 1) := by decide +kernel
theorem dX0_lastDefinition_10 : decode cX0_lastDefinition 10 = .ok (.iaload, 1) := by decide +kernel
theorem dX0_lastDefinition_11 : decode cX0_lastDefinition 11 = .ok (.ireturn, 1) := by decide +kernel
theorem dX0_countMerges_0 : decode cX0_countMerges 0 = .ok (.iconst 0, 1) := by decide +kernel
theorem dX0_countMerges_1 : decode cX0_countMerges 1 = .ok (.istore_n 1, 1) := by decide +kernel
theorem dX0_countMerges_2 : decode cX0_countMerges 2 = .ok (.iconst 0, 1) := by decide +kernel
theorem dX0_countMerges_3 : decode cX0_countMerges 3 = .ok (.istore_n 2, 1) := by decide +kernel
theorem dX0_countMerges_4 : decode cX0_countMerges 4 = .ok (.iload_n 2, 1) := by decide +kernel
theorem dX0_countMerges_5 : decode cX0_countMerges 5 = .ok (.iconst 4, 1) := by decide +kernel
theorem dX0_countMerges_6 : decode cX0_countMerges 6 = .ok (.if_icmp .ge 21, 3) := by decide +kernel
theorem dX0_countMerges_9 : decode cX0_countMerges 9 = .ok (.iload_n 1, 1) := by decide +kernel
theorem dX0_countMerges_10 : decode cX0_countMerges 10 = .ok (.aload_n 0, 1) := by decide +kernel
theorem dX0_countMerges_11 : decode cX0_countMerges 11 = .ok (.getfield 50, 3) := by decide +kernel
theorem dX0_countMerges_14 : decode cX0_countMerges 14 = .ok (.iload_n 2, 1) := by decide +kernel
theorem dX0_countMerges_15 : decode cX0_countMerges 15 = .ok (.iaload, 1) := by decide +kernel
theorem dX0_countMerges_16 : decode cX0_countMerges 16 = .ok (.invokestatic 109, 3) := by decide +kernel
theorem dX0_countMerges_19 : decode cX0_countMerges 19 = .ok (.iadd, 1) := by decide +kernel
theorem dX0_countMerges_20 : decode cX0_countMerges 20 = .ok (.istore_n 1, 1) := by decide +kernel
theorem dX0_countMerges_21 : decode cX0_countMerges 21 = .ok (.iinc 2 1, 3) := by decide +kernel
theorem dX0_countMerges_24 : decode cX0_countMerges 24 = .ok (.goto (-20), 3) := by decide +kernel
theorem dX0_countMerges_27 : decode cX0_countMerges 27 = .ok (.iload_n 1, 1) := by decide +kernel
theorem dX0_countMerges_28 : decode cX0_countMerges 28 = .ok (.ireturn, 1) := by decide +kernel
theorem dX0_sourceAtBeginning_0 : decode cX0_sourceAtBeginning 0 = .ok (.iload_n 1, 1) := by decide +kernel
theorem dX0_sourceAtBeginning_1 : decode cX0_sourceAtBeginning 1 = .ok (.istore_n 3, 1) := by decide +kernel
theorem dX0_sourceAtBeginning_2 : decode cX0_sourceAtBeginning 2 = .ok (.iconst 0, 1) := by decide +kernel
theorem dX0_sourceAtBeginning_3 : decode cX0_sourceAtBeginning 3 = .ok (.istore 4, 2) := by decide +kernel
theorem dX0_sourceAtBeginning_5 : decode cX0_sourceAtBeginning 5 = .ok (.iload 4, 2) := by decide +kernel
theorem dX0_sourceAtBeginning_7 : decode cX0_sourceAtBeginning 7 = .ok (.bipush 14, 2) := by decide +kernel
theorem dX0_sourceAtBeginning_9 : decode cX0_sourceAtBeginning 9 = .ok (.if_icmp .ge 60, 3) := by decide +kernel
theorem dX0_sourceAtBeginning_12 : decode cX0_sourceAtBeginning 12 = .ok (.aload_n 0, 1) := by decide +kernel
theorem dX0_sourceAtBeginning_13 : decode cX0_sourceAtBeginning 13 = .ok (.getfield 50, 3) := by decide +kernel
theorem dX0_sourceAtBeginning_16 : decode cX0_sourceAtBeginning 16 = .ok (.iload_n 2, 1) := by decide +kernel
theorem dX0_sourceAtBeginning_17 : decode cX0_sourceAtBeginning 17 = .ok (.iaload, 1) := by decide +kernel
theorem dX0_sourceAtBeginning_18 : decode cX0_sourceAtBeginning 18 = .ok (.iload_n 3, 1) := by decide +kernel
theorem dX0_sourceAtBeginning_19 : decode cX0_sourceAtBeginning 19 = .ok (.invokestatic 85, 3) := by decide +kernel
theorem dX0_sourceAtBeginning_22 : decode cX0_sourceAtBeginning 22 = .ok (.ifCond .eq 9, 3) := by decide +kernel
theorem dX0_sourceAtBeginning_25 : decode cX0_sourceAtBeginning 25 = .ok (.sipush 1000, 3) := by decide +kernel
theorem dX0_sourceAtBeginning_28 : decode cX0_sourceAtBeginning 28 = .ok (.iload_n 3, 1) := by decide +kernel
theorem dX0_sourceAtBeginning_29 : decode cX0_sourceAtBeginning 29 = .ok (.iadd, 1) := by decide +kernel
theorem dX0_sourceAtBeginning_30 : decode cX0_sourceAtBeginning 30 = .ok (.ireturn, 1) := by decide +kernel
theorem dX0_sourceAtBeginning_31 : decode cX0_sourceAtBeginning 31 = .ok (.iload_n 3, 1) := by decide +kernel
theorem dX0_sourceAtBeginning_32 : decode cX0_sourceAtBeginning 32 = .ok (.ifCond .ne 7, 3) := by decide +kernel
theorem dX0_sourceAtBeginning_35 : decode cX0_sourceAtBeginning 35 = .ok (.sipush 2000, 3) := by decide +kernel
theorem dX0_sourceAtBeginning_38 : decode cX0_sourceAtBeginning 38 = .ok (.ireturn, 1) := by decide +kernel
theorem dX0_sourceAtBeginning_39 : decode cX0_sourceAtBeginning 39 = .ok (.aload_n 0, 1) := by decide +kernel
theorem dX0_sourceAtBeginning_40 : decode cX0_sourceAtBeginning 40 = .ok (.getfield 32, 3) := by decide +kernel
theorem dX0_sourceAtBeginning_43 : decode cX0_sourceAtBeginning 43 = .ok (.iload_n 3, 1) := by decide +kernel
theorem dX0_sourceAtBeginning_44 : decode cX0_sourceAtBeginning 44 = .ok (.iaload, 1) := by decide +kernel
theorem dX0_sourceAtBeginning_45 : decode cX0_sourceAtBeginning 45 = .ok (.istore_n 3, 1) := by decide +kernel
theorem dX0_sourceAtBeginning_46 : decode cX0_sourceAtBeginning 46 = .ok (.aload_n 0, 1) := by decide +kernel
theorem dX0_sourceAtBeginning_47 : decode cX0_sourceAtBeginning 47 = .ok (.iload_n 3, 1) := by decide +kernel
theorem dX0_sourceAtBeginning_48 : decode cX0_sourceAtBeginning 48 = .ok (.iload_n 2, 1) := by decide +kernel
theorem dX0_sourceAtBeginning_49 : decode cX0_sourceAtBeginning 49 = .ok (.invokevirtual 114, 3) := by decide +kernel
theorem dX0_sourceAtBeginning_52 : decode cX0_sourceAtBeginning 52 = .ok (.istore 5, 2) := by decide +kernel
theorem dX0_sourceAtBeginning_54 : decode cX0_sourceAtBeginning 54 = .ok (.iload 5, 2) := by decide +kernel
theorem dX0_sourceAtBeginning_56 : decode cX0_sourceAtBeginning 56 = .ok (.iconst (-1), 1) := by decide +kernel
theorem dX0_sourceAtBeginning_57 : decode cX0_sourceAtBeginning 57 = .ok (.if_icmp .eq 6, 3) := by decide +kernel
theorem dX0_sourceAtBeginning_60 : decode cX0_sourceAtBeginning 60 = .ok (.iload 5, 2) := by decide +kernel
theorem dX0_sourceAtBeginning_62 : decode cX0_sourceAtBeginning 62 = .ok (.ireturn, 1) := by decide +kernel
theorem dX0_sourceAtBeginning_63 : decode cX0_sourceAtBeginning 63 = .ok (.iinc 4 1, 3) := by decide +kernel
theorem dX0_sourceAtBeginning_66 : decode cX0_sourceAtBeginning 66 = .ok (.goto (-61), 3) := by decide +kernel
theorem dX0_sourceAtBeginning_69 : decode cX0_sourceAtBeginning 69 = .ok (.sipush 2000, 3) := by decide +kernel
theorem dX0_sourceAtBeginning_72 : decode cX0_sourceAtBeginning 72 = .ok (.ireturn, 1) := by decide +kernel
theorem dX0_sourceAtEnd_0 : decode cX0_sourceAtEnd 0 = .ok (.aload_n 0, 1) := by decide +kernel
theorem dX0_sourceAtEnd_1 : decode cX0_sourceAtEnd 1 = .ok (.iload_n 1, 1) := by decide +kernel
theorem dX0_sourceAtEnd_2 : decode cX0_sourceAtEnd 2 = .ok (.iload_n 2, 1) := by decide +kernel
theorem dX0_sourceAtEnd_3 : decode cX0_sourceAtEnd 3 = .ok (.invokevirtual 114, 3) := by decide +kernel
theorem dX0_sourceAtEnd_6 : decode cX0_sourceAtEnd 6 = .ok (.istore_n 3, 1) := by decide +kernel
theorem dX0_sourceAtEnd_7 : decode cX0_sourceAtEnd 7 = .ok (.iload_n 3, 1) := by decide +kernel
theorem dX0_sourceAtEnd_8 : decode cX0_sourceAtEnd 8 = .ok (.iconst (-1), 1) := by decide +kernel
theorem dX0_sourceAtEnd_9 : decode cX0_sourceAtEnd 9 = .ok (.if_icmp .eq 7, 3) := by decide +kernel
theorem dX0_sourceAtEnd_12 : decode cX0_sourceAtEnd 12 = .ok (.iload_n 3, 1) := by decide +kernel
theorem dX0_sourceAtEnd_13 : decode cX0_sourceAtEnd 13 = .ok (.goto 9, 3) := by decide +kernel
theorem dX0_sourceAtEnd_16 : decode cX0_sourceAtEnd 16 = .ok (.aload_n 0, 1) := by decide +kernel
theorem dX0_sourceAtEnd_17 : decode cX0_sourceAtEnd 17 = .ok (.iload_n 1, 1) := by decide +kernel
theorem dX0_sourceAtEnd_18 : decode cX0_sourceAtEnd 18 = .ok (.iload_n 2, 1) := by decide +kernel
theorem dX0_sourceAtEnd_19 : decode cX0_sourceAtEnd 19 = .ok (.invokevirtual 118, 3) := by decide +kernel
theorem dX0_sourceAtEnd_22 : decode cX0_sourceAtEnd 22 = .ok (.ireturn, 1) := by decide +kernel
theorem dX0_sourceAtUse_0 : decode cX0_sourceAtUse 0 = .ok (.aload_n 0, 1) := by decide +kernel
theorem dX0_sourceAtUse_1 : decode cX0_sourceAtUse 1 = .ok (.getfield 12, 3) := by decide +kernel
theorem dX0_sourceAtUse_4 : decode cX0_sourceAtUse 4 = .ok (.iload_n 1, 1) := by decide +kernel
theorem dX0_sourceAtUse_5 : decode cX0_sourceAtUse 5 = .ok (.iload_n 2, 1) := by decide +kernel
theorem dX0_sourceAtUse_6 : decode cX0_sourceAtUse 6 = .ok (.invokevirtual 121, 3) := by decide +kernel
theorem dX0_sourceAtUse_9 : decode cX0_sourceAtUse 9 = .ok (.bipush 10, 2) := by decide +kernel
theorem dX0_sourceAtUse_11 : decode cX0_sourceAtUse 11 = .ok (.isub, 1) := by decide +kernel
theorem dX0_sourceAtUse_12 : decode cX0_sourceAtUse 12 = .ok (.istore_n 3, 1) := by decide +kernel
theorem dX0_sourceAtUse_13 : decode cX0_sourceAtUse 13 = .ok (.aload_n 0, 1) := by decide +kernel
theorem dX0_sourceAtUse_14 : decode cX0_sourceAtUse 14 = .ok (.getfield 12, 3) := by decide +kernel
theorem dX0_sourceAtUse_17 : decode cX0_sourceAtUse 17 = .ok (.iload_n 1, 1) := by decide +kernel
theorem dX0_sourceAtUse_18 : decode cX0_sourceAtUse 18 = .ok (.iload_n 3, 1) := by decide +kernel
theorem dX0_sourceAtUse_19 : decode cX0_sourceAtUse 19 = .ok (.iload_n 2, 1) := by decide +kernel
theorem dX0_sourceAtUse_20 : decode cX0_sourceAtUse 20 = .ok (.invokevirtual 98, 3) := by decide +kernel
theorem dX0_sourceAtUse_23 : decode cX0_sourceAtUse 23 = .ok (.istore 4, 2) := by decide +kernel
theorem dX0_sourceAtUse_25 : decode cX0_sourceAtUse 25 = .ok (.iload 4, 2) := by decide +kernel
theorem dX0_sourceAtUse_27 : decode cX0_sourceAtUse 27 = .ok (.iconst (-1), 1) := by decide +kernel
theorem dX0_sourceAtUse_28 : decode cX0_sourceAtUse 28 = .ok (.if_icmp .eq 8, 3) := by decide +kernel
theorem dX0_sourceAtUse_31 : decode cX0_sourceAtUse 31 = .ok (.iload 4, 2) := by decide +kernel
theorem dX0_sourceAtUse_33 : decode cX0_sourceAtUse 33 = .ok (.goto 9, 3) := by decide +kernel
theorem dX0_sourceAtUse_36 : decode cX0_sourceAtUse 36 = .ok (.aload_n 0, 1) := by decide +kernel
theorem dX0_sourceAtUse_37 : decode cX0_sourceAtUse 37 = .ok (.iload_n 1, 1) := by decide +kernel
theorem dX0_sourceAtUse_38 : decode cX0_sourceAtUse 38 = .ok (.iload_n 3, 1) := by decide +kernel
theorem dX0_sourceAtUse_39 : decode cX0_sourceAtUse 39 = .ok (.invokevirtual 118, 3) := by decide +kernel
theorem dX0_sourceAtUse_42 : decode cX0_sourceAtUse 42 = .ok (.ireturn, 1) := by decide +kernel
theorem dX0_countOperands_0 : decode cX0_countOperands 0 = .ok (.iconst 0, 1) := by decide +kernel
theorem dX0_countOperands_1 : decode cX0_countOperands 1 = .ok (.istore_n 3, 1) := by decide +kernel
theorem dX0_countOperands_2 : decode cX0_countOperands 2 = .ok (.iconst 0, 1) := by decide +kernel
theorem dX0_countOperands_3 : decode cX0_countOperands 3 = .ok (.istore 4, 2) := by decide +kernel
theorem dX0_countOperands_5 : decode cX0_countOperands 5 = .ok (.iload 4, 2) := by decide +kernel
theorem dX0_countOperands_7 : decode cX0_countOperands 7 = .ok (.bipush 14, 2) := by decide +kernel
theorem dX0_countOperands_9 : decode cX0_countOperands 9 = .ok (.if_icmp .ge 37, 3) := by decide +kernel
theorem dX0_countOperands_12 : decode cX0_countOperands 12 = .ok (.aload_n 0, 1) := by decide +kernel
theorem dX0_countOperands_13 : decode cX0_countOperands 13 = .ok (.getfield 26, 3) := by decide +kernel
theorem dX0_countOperands_16 : decode cX0_countOperands 16 = .ok (.iload_n 1, 1) := by decide +kernel
theorem dX0_countOperands_17 : decode cX0_countOperands 17 = .ok (.iaload, 1) := by decide +kernel
theorem dX0_countOperands_18 : decode cX0_countOperands 18 = .ok (.iload 4, 2) := by decide +kernel
theorem dX0_countOperands_20 : decode cX0_countOperands 20 = .ok (.invokestatic 85, 3) := by decide +kernel
theorem dX0_countOperands_23 : decode cX0_countOperands 23 = .ok (.ifCond .eq 17, 3) := by decide +kernel
theorem dX0_countOperands_26 : decode cX0_countOperands 26 = .ok (.aload_n 0, 1) := by decide +kernel
theorem dX0_countOperands_27 : decode cX0_countOperands 27 = .ok (.iload_n 1, 1) := by decide +kernel
theorem dX0_countOperands_28 : decode cX0_countOperands 28 = .ok (.iload_n 2, 1) := by decide +kernel
theorem dX0_countOperands_29 : decode cX0_countOperands 29 = .ok (.iload 4, 2) := by decide +kernel
theorem dX0_countOperands_31 : decode cX0_countOperands 31 = .ok (.invokevirtual 124, 3) := by decide +kernel
theorem dX0_countOperands_34 : decode cX0_countOperands 34 = .ok (.ifCond .eq 6, 3) := by decide +kernel
theorem dX0_countOperands_37 : decode cX0_countOperands 37 = .ok (.iinc 3 1, 3) := by decide +kernel
theorem dX0_countOperands_40 : decode cX0_countOperands 40 = .ok (.iinc 4 1, 3) := by decide +kernel
theorem dX0_countOperands_43 : decode cX0_countOperands 43 = .ok (.goto (-38), 3) := by decide +kernel
theorem dX0_countOperands_46 : decode cX0_countOperands 46 = .ok (.iload_n 3, 1) := by decide +kernel
theorem dX0_countOperands_47 : decode cX0_countOperands 47 = .ok (.ireturn, 1) := by decide +kernel
theorem dX0_isNewOperand_0 : decode cX0_isNewOperand 0 = .ok (.aload_n 0, 1) := by decide +kernel
theorem dX0_isNewOperand_1 : decode cX0_isNewOperand 1 = .ok (.iload_n 3, 1) := by decide +kernel
theorem dX0_isNewOperand_2 : decode cX0_isNewOperand 2 = .ok (.iload_n 2, 1) := by decide +kernel
theorem dX0_isNewOperand_3 : decode cX0_isNewOperand 3 = .ok (.invokevirtual 127, 3) := by decide +kernel
theorem dX0_isNewOperand_6 : decode cX0_isNewOperand 6 = .ok (.istore 4, 2) := by decide +kernel
theorem dX0_isNewOperand_8 : decode cX0_isNewOperand 8 = .ok (.iconst 0, 1) := by decide +kernel
theorem dX0_isNewOperand_9 : decode cX0_isNewOperand 9 = .ok (.istore 5, 2) := by decide +kernel
theorem dX0_isNewOperand_11 : decode cX0_isNewOperand 11 = .ok (.iload 5, 2) := by decide +kernel
theorem dX0_isNewOperand_13 : decode cX0_isNewOperand 13 = .ok (.iload_n 3, 1) := by decide +kernel
theorem dX0_isNewOperand_14 : decode cX0_isNewOperand 14 = .ok (.if_icmp .ge 37, 3) := by decide +kernel
theorem dX0_isNewOperand_17 : decode cX0_isNewOperand 17 = .ok (.aload_n 0, 1) := by decide +kernel
theorem dX0_isNewOperand_18 : decode cX0_isNewOperand 18 = .ok (.getfield 26, 3) := by decide +kernel
theorem dX0_isNewOperand_21 : decode cX0_isNewOperand 21 = .ok (.iload_n 1, 1) := by decide +kernel
theorem dX0_isNewOperand_22 : decode cX0_isNewOperand 22 = .ok (.iaload, 1) := by decide +kernel
theorem dX0_isNewOperand_23 : decode cX0_isNewOperand 23 = .ok (.iload 5, 2) := by decide +kernel
theorem dX0_isNewOperand_25 : decode cX0_isNewOperand 25 = .ok (.invokestatic 85, 3) := by decide +kernel
theorem dX0_isNewOperand_28 : decode cX0_isNewOperand 28 = .ok (.ifCond .eq 17, 3) := by decide +kernel
theorem dX0_isNewOperand_31 : decode cX0_isNewOperand 31 = .ok (.aload_n 0, 1) := by decide +kernel
theorem dX0_isNewOperand_32 : decode cX0_isNewOperand 32 = .ok (.iload 5, 2) := by decide +kernel
theorem dX0_isNewOperand_34 : decode cX0_isNewOperand 34 = .ok (.iload_n 2, 1) := by decide +kernel
theorem dX0_isNewOperand_35 : decode cX0_isNewOperand 35 = .ok (.invokevirtual 127, 3) := by decide +kernel
theorem dX0_isNewOperand_38 : decode cX0_isNewOperand 38 = .ok (.iload 4, 2) := by decide +kernel
theorem dX0_isNewOperand_40 : decode cX0_isNewOperand 40 = .ok (.if_icmp .ne 5, 3) := by decide +kernel
theorem dX0_isNewOperand_43 : decode cX0_isNewOperand 43 = .ok (.iconst 0, 1) := by decide +kernel
theorem dX0_isNewOperand_44 : decode cX0_isNewOperand 44 = .ok (.ireturn, 1) := by decide +kernel
theorem dX0_isNewOperand_45 : decode cX0_isNewOperand 45 = .ok (.iinc 5 1, 3) := by decide +kernel
theorem dX0_isNewOperand_48 : decode cX0_isNewOperand 48 = .ok (.goto (-37), 3) := by decide +kernel
theorem dX0_isNewOperand_51 : decode cX0_isNewOperand 51 = .ok (.iconst 1, 1) := by decide +kernel
theorem dX0_isNewOperand_52 : decode cX0_isNewOperand 52 = .ok (.ireturn, 1) := by decide +kernel
theorem dX0_countUses_0 : decode cX0_countUses 0 = .ok (.iconst 0, 1) := by decide +kernel
theorem dX0_countUses_1 : decode cX0_countUses 1 = .ok (.istore_n 3, 1) := by decide +kernel
theorem dX0_countUses_2 : decode cX0_countUses 2 = .ok (.iconst 0, 1) := by decide +kernel
theorem dX0_countUses_3 : decode cX0_countUses 3 = .ok (.istore 4, 2) := by decide +kernel
theorem dX0_countUses_5 : decode cX0_countUses 5 = .ok (.iload 4, 2) := by decide +kernel
theorem dX0_countUses_7 : decode cX0_countUses 7 = .ok (.bipush 14, 2) := by decide +kernel
theorem dX0_countUses_9 : decode cX0_countUses 9 = .ok (.if_icmp .ge 32, 3) := by decide +kernel
theorem dX0_countUses_12 : decode cX0_countUses 12 = .ok (.aload_n 0, 1) := by decide +kernel
theorem dX0_countUses_13 : decode cX0_countUses 13 = .ok (.getfield 18, 3) := by decide +kernel
theorem dX0_countUses_16 : decode cX0_countUses 16 = .ok (.iload 4, 2) := by decide +kernel
theorem dX0_countUses_18 : decode cX0_countUses 18 = .ok (.invokestatic 85, 3) := by decide +kernel
theorem dX0_countUses_21 : decode cX0_countUses 21 = .ok (.ifCond .eq 14, 3) := by decide +kernel
theorem dX0_countUses_24 : decode cX0_countUses 24 = .ok (.iload_n 3, 1) := by decide +kernel
theorem dX0_countUses_25 : decode cX0_countUses 25 = .ok (.aload_n 0, 1) := by decide +kernel
theorem dX0_countUses_26 : decode cX0_countUses 26 = .ok (.iload 4, 2) := by decide +kernel
theorem dX0_countUses_28 : decode cX0_countUses 28 = .ok (.iload_n 1, 1) := by decide +kernel
theorem dX0_countUses_29 : decode cX0_countUses 29 = .ok (.iload_n 2, 1) := by decide +kernel
theorem dX0_countUses_30 : decode cX0_countUses 30 = .ok (.invokevirtual 130, 3) := by decide +kernel
theorem dX0_countUses_33 : decode cX0_countUses 33 = .ok (.iadd, 1) := by decide +kernel
theorem dX0_countUses_34 : decode cX0_countUses 34 = .ok (.istore_n 3, 1) := by decide +kernel
theorem dX0_countUses_35 : decode cX0_countUses 35 = .ok (.iinc 4 1, 3) := by decide +kernel
theorem dX0_countUses_38 : decode cX0_countUses 38 = .ok (.goto (-33), 3) := by decide +kernel
theorem dX0_countUses_41 : decode cX0_countUses 41 = .ok (.iload_n 3, 1) := by decide +kernel
theorem dX0_countUses_42 : decode cX0_countUses 42 = .ok (.ireturn, 1) := by decide +kernel
theorem dX0_countUsesIn_0 : decode cX0_countUsesIn 0 = .ok (.iconst 0, 1) := by decide +kernel
theorem dX0_countUsesIn_1 : decode cX0_countUsesIn 1 = .ok (.istore 4, 2) := by decide +kernel
theorem dX0_countUsesIn_3 : decode cX0_countUsesIn 3 = .ok (.iconst 0, 1) := by decide +kernel
theorem dX0_countUsesIn_4 : decode cX0_countUsesIn 4 = .ok (.istore 5, 2) := by decide +kernel
theorem dX0_countUsesIn_6 : decode cX0_countUsesIn 6 = .ok (.iload 5, 2) := by decide +kernel
theorem dX0_countUsesIn_8 : decode cX0_countUsesIn 8 = .ok (.aload_n 0, 1) := by decide +kernel
theorem dX0_countUsesIn_9 : decode cX0_countUsesIn 9 = .ok (.getfield 12, 3) := by decide +kernel
theorem dX0_countUsesIn_12 : decode cX0_countUsesIn 12 = .ok (.getfield 95, 3) := by decide +kernel
theorem dX0_countUsesIn_15 : decode cX0_countUsesIn 15 = .ok (.iload_n 1, 1) := by decide +kernel
theorem dX0_countUsesIn_16 : decode cX0_countUsesIn 16 = .ok (.iaload, 1) := by decide +kernel
theorem dX0_countUsesIn_17 : decode cX0_countUsesIn 17 = .ok (.if_icmp .ge 40, 3) := by decide +kernel
theorem dX0_countUsesIn_20 : decode cX0_countUsesIn 20 = .ok (.aload_n 0, 1) := by decide +kernel
theorem dX0_countUsesIn_21 : decode cX0_countUsesIn 21 = .ok (.getfield 12, 3) := by decide +kernel
theorem dX0_countUsesIn_24 : decode cX0_countUsesIn 24 = .ok (.iload_n 1, 1) := by decide +kernel
theorem dX0_countUsesIn_25 : decode cX0_countUsesIn 25 = .ok (.iload 5, 2) := by decide +kernel
theorem dX0_countUsesIn_27 : decode cX0_countUsesIn 27 = .ok (.invokevirtual 121, 3) := by decide +kernel
theorem dX0_countUsesIn_30 : decode cX0_countUsesIn 30 = .ok (.bipush 10, 2) := by decide +kernel
theorem dX0_countUsesIn_32 : decode cX0_countUsesIn 32 = .ok (.iload_n 2, 1) := by decide +kernel
theorem dX0_countUsesIn_33 : decode cX0_countUsesIn 33 = .ok (.iadd, 1) := by decide +kernel
theorem dX0_countUsesIn_34 : decode cX0_countUsesIn 34 = .ok (.if_icmp .ne 17, 3) := by decide +kernel
theorem dX0_countUsesIn_37 : decode cX0_countUsesIn 37 = .ok (.aload_n 0, 1) := by decide +kernel
theorem dX0_countUsesIn_38 : decode cX0_countUsesIn 38 = .ok (.iload_n 1, 1) := by decide +kernel
theorem dX0_countUsesIn_39 : decode cX0_countUsesIn 39 = .ok (.iload 5, 2) := by decide +kernel
theorem dX0_countUsesIn_41 : decode cX0_countUsesIn 41 = .ok (.invokevirtual 133, 3) := by decide +kernel
theorem dX0_countUsesIn_44 : decode cX0_countUsesIn 44 = .ok (.iload_n 3, 1) := by decide +kernel
theorem dX0_countUsesIn_45 : decode cX0_countUsesIn 45 = .ok (.if_icmp .ne 6, 3) := by decide +kernel
theorem dX0_countUsesIn_48 : decode cX0_countUsesIn 48 = .ok (.iinc 4 1, 3) := by decide +kernel
theorem dX0_countUsesIn_51 : decode cX0_countUsesIn 51 = .ok (.iinc 5 1, 3) := by decide +kernel
theorem dX0_countUsesIn_54 : decode cX0_countUsesIn 54 = .ok (.goto (-48), 3) := by decide +kernel
theorem dX0_countUsesIn_57 : decode cX0_countUsesIn 57 = .ok (.iload 4, 2) := by decide +kernel
theorem dX0_countUsesIn_59 : decode cX0_countUsesIn 59 = .ok (.ireturn, 1) := by decide +kernel
theorem dX0_countUnneeded_0 : decode cX0_countUnneeded 0 = .ok (.iconst 0, 1) := by decide +kernel
theorem dX0_countUnneeded_1 : decode cX0_countUnneeded 1 = .ok (.istore_n 1, 1) := by decide +kernel
theorem dX0_countUnneeded_2 : decode cX0_countUnneeded 2 = .ok (.iload_n 1, 1) := by decide +kernel
theorem dX0_countUnneeded_3 : decode cX0_countUnneeded 3 = .ok (.bipush 14, 2) := by decide +kernel
theorem dX0_countUnneeded_5 : decode cX0_countUnneeded 5 = .ok (.if_icmp .ge 16, 3) := by decide +kernel
theorem dX0_countUnneeded_8 : decode cX0_countUnneeded 8 = .ok (.aload_n 0, 1) := by decide +kernel
theorem dX0_countUnneeded_9 : decode cX0_countUnneeded 9 = .ok (.getfield 53, 3) := by decide +kernel
theorem dX0_countUnneeded_12 : decode cX0_countUnneeded 12 = .ok (.iload_n 1, 1) := by decide +kernel
theorem dX0_countUnneeded_13 : decode cX0_countUnneeded 13 = .ok (.iconst 0, 1) := by decide +kernel
theorem dX0_countUnneeded_14 : decode cX0_countUnneeded 14 = .ok (.iastore, 1) := by decide +kernel
theorem dX0_countUnneeded_15 : decode cX0_countUnneeded 15 = .ok (.iinc 1 1, 3) := by decide +kernel
theorem dX0_countUnneeded_18 : decode cX0_countUnneeded 18 = .ok (.goto (-16), 3) := by decide +kernel
theorem dX0_countUnneeded_21 : decode cX0_countUnneeded 21 = .ok (.iconst 0, 1) := by decide +kernel
theorem dX0_countUnneeded_22 : decode cX0_countUnneeded 22 = .ok (.istore_n 1, 1) := by decide +kernel
theorem dX0_countUnneeded_23 : decode cX0_countUnneeded 23 = .ok (.iload_n 1, 1) := by decide +kernel
theorem dX0_countUnneeded_24 : decode cX0_countUnneeded 24 = .ok (.bipush 14, 2) := by decide +kernel
theorem dX0_countUnneeded_26 : decode cX0_countUnneeded 26 = .ok (.if_icmp .ge 30, 3) := by decide +kernel
theorem dX0_countUnneeded_29 : decode cX0_countUnneeded 29 = .ok (.aload_n 0, 1) := by decide +kernel
theorem dX0_countUnneeded_30 : decode cX0_countUnneeded 30 = .ok (.getfield 18, 3) := by decide +kernel
theorem dX0_countUnneeded_33 : decode cX0_countUnneeded 33 = .ok (.iload_n 1, 1) := by decide +kernel
theorem dX0_countUnneeded_34 : decode cX0_countUnneeded 34 = .ok (.invokestatic 85, 3) := by decide +kernel
theorem dX0_countUnneeded_37 : decode cX0_countUnneeded 37 = .ok (.ifCond .eq 13, 3) := by decide +kernel
theorem dX0_countUnneeded_40 : decode cX0_countUnneeded 40 = .ok (.aload_n 0, 1) := by decide +kernel
theorem dX0_countUnneeded_41 : decode cX0_countUnneeded 41 = .ok (.iload_n 1, 1) := by decide +kernel
theorem dX0_countUnneeded_42 : decode cX0_countUnneeded 42 = .ok (.invokevirtual 136, 3) := by decide +kernel
theorem dX0_countUnneeded_45 : decode cX0_countUnneeded 45 = .ok (.aload_n 0, 1) := by decide +kernel
theorem dX0_countUnneeded_46 : decode cX0_countUnneeded 46 = .ok (.iload_n 1, 1) := by decide +kernel
theorem dX0_countUnneeded_47 : decode cX0_countUnneeded 47 = .ok (.invokevirtual 140, 3) := by decide +kernel
theorem dX0_countUnneeded_50 : decode cX0_countUnneeded 50 = .ok (.iinc 1 1, 3) := by decide +kernel
theorem dX0_countUnneeded_53 : decode cX0_countUnneeded 53 = .ok (.goto (-30), 3) := by decide +kernel
theorem dX0_countUnneeded_56 : decode cX0_countUnneeded 56 = .ok (.iconst 0, 1) := by decide +kernel
theorem dX0_countUnneeded_57 : decode cX0_countUnneeded 57 = .ok (.istore_n 1, 1) := by decide +kernel
theorem dX0_countUnneeded_58 : decode cX0_countUnneeded 58 = .ok (.iconst 0, 1) := by decide +kernel
theorem dX0_countUnneeded_59 : decode cX0_countUnneeded 59 = .ok (.istore_n 2, 1) := by decide +kernel
theorem dX0_countUnneeded_60 : decode cX0_countUnneeded 60 = .ok (.iload_n 2, 1) := by decide +kernel
theorem dX0_countUnneeded_61 : decode cX0_countUnneeded 61 = .ok (.bipush 14, 2) := by decide +kernel
theorem dX0_countUnneeded_63 : decode cX0_countUnneeded 63 = .ok (.if_icmp .ge 28, 3) := by decide +kernel
theorem dX0_countUnneeded_66 : decode cX0_countUnneeded 66 = .ok (.aload_n 0, 1) := by decide +kernel
theorem dX0_countUnneeded_67 : decode cX0_countUnneeded 67 = .ok (.getfield 18, 3) := by decide +kernel
theorem dX0_countUnneeded_70 : decode cX0_countUnneeded 70 = .ok (.iload_n 2, 1) := by decide +kernel
theorem dX0_countUnneeded_71 : decode cX0_countUnneeded 71 = .ok (.invokestatic 85, 3) := by decide +kernel
theorem dX0_countUnneeded_74 : decode cX0_countUnneeded 74 = .ok (.ifCond .eq 11, 3) := by decide +kernel
theorem dX0_countUnneeded_77 : decode cX0_countUnneeded 77 = .ok (.iload_n 1, 1) := by decide +kernel
theorem dX0_countUnneeded_78 : decode cX0_countUnneeded 78 = .ok (.aload_n 0, 1) := by decide +kernel
theorem dX0_countUnneeded_79 : decode cX0_countUnneeded 79 = .ok (.iload_n 2, 1) := by decide +kernel
theorem dX0_countUnneeded_80 : decode cX0_countUnneeded 80 = .ok (.invokevirtual 143, 3) := by decide +kernel
theorem dX0_countUnneeded_83 : decode cX0_countUnneeded 83 = .ok (.iadd, 1) := by decide +kernel
theorem dX0_countUnneeded_84 : decode cX0_countUnneeded 84 = .ok (.istore_n 1, 1) := by decide +kernel
theorem dX0_countUnneeded_85 : decode cX0_countUnneeded 85 = .ok (.iinc 2 1, 3) := by decide +kernel
theorem dX0_countUnneeded_88 : decode cX0_countUnneeded 88 = .ok (.goto (-28), 3) := by decide +kernel
theorem dX0_countUnneeded_91 : decode cX0_countUnneeded 91 = .ok (.iload_n 1, 1) := by decide +kernel
theorem dX0_countUnneeded_92 : decode cX0_countUnneeded 92 = .ok (.ireturn, 1) := by decide +kernel
theorem dX0_noteUses_0 : decode cX0_noteUses 0 = .ok (.iconst 0, 1) := by decide +kernel
theorem dX0_noteUses_1 : decode cX0_noteUses 1 = .ok (.istore_n 2, 1) := by decide +kernel
theorem dX0_noteUses_2 : decode cX0_noteUses 2 = .ok (.iload_n 2, 1) := by decide +kernel
theorem dX0_noteUses_3 : decode cX0_noteUses 3 = .ok (.aload_n 0, 1) := by decide +kernel
theorem dX0_noteUses_4 : decode cX0_noteUses 4 = .ok (.getfield 12, 3) := by decide +kernel
theorem dX0_noteUses_7 : decode cX0_noteUses 7 = .ok (.getfield 95, 3) := by decide +kernel
theorem dX0_noteUses_10 : decode cX0_noteUses 10 = .ok (.iload_n 1, 1) := by decide +kernel
theorem dX0_noteUses_11 : decode cX0_noteUses 11 = .ok (.iaload, 1) := by decide +kernel
theorem dX0_noteUses_12 : decode cX0_noteUses 12 = .ok (.if_icmp .ge 34, 3) := by decide +kernel
theorem dX0_noteUses_15 : decode cX0_noteUses 15 = .ok (.aload_n 0, 1) := by decide +kernel
theorem dX0_noteUses_16 : decode cX0_noteUses 16 = .ok (.getfield 12, 3) := by decide +kernel
theorem dX0_noteUses_19 : decode cX0_noteUses 19 = .ok (.iload_n 1, 1) := by decide +kernel
theorem dX0_noteUses_20 : decode cX0_noteUses 20 = .ok (.iload_n 2, 1) := by decide +kernel
theorem dX0_noteUses_21 : decode cX0_noteUses 21 = .ok (.invokevirtual 121, 3) := by decide +kernel
theorem dX0_noteUses_24 : decode cX0_noteUses 24 = .ok (.invokestatic 146, 3) := by decide +kernel
theorem dX0_noteUses_27 : decode cX0_noteUses 27 = .ok (.ifCond .eq 13, 3) := by decide +kernel
theorem dX0_noteUses_30 : decode cX0_noteUses 30 = .ok (.aload_n 0, 1) := by decide +kernel
theorem dX0_noteUses_31 : decode cX0_noteUses 31 = .ok (.aload_n 0, 1) := by decide +kernel
theorem dX0_noteUses_32 : decode cX0_noteUses 32 = .ok (.iload_n 1, 1) := by decide +kernel
theorem dX0_noteUses_33 : decode cX0_noteUses 33 = .ok (.iload_n 2, 1) := by decide +kernel
theorem dX0_noteUses_34 : decode cX0_noteUses 34 = .ok (.invokevirtual 133, 3) := by decide +kernel
theorem dX0_noteUses_37 : decode cX0_noteUses 37 = .ok (.invokevirtual 149, 3) := by decide +kernel
theorem dX0_noteUses_40 : decode cX0_noteUses 40 = .ok (.iinc 2 1, 3) := by decide +kernel
theorem dX0_noteUses_43 : decode cX0_noteUses 43 = .ok (.goto (-41), 3) := by decide +kernel
theorem dX0_noteUses_46 : decode cX0_noteUses 46 = .ok (.return_, 1) := by decide +kernel
theorem dX0_noteOperands_0 : decode cX0_noteOperands 0 = .ok (.iconst 0, 1) := by decide +kernel
theorem dX0_noteOperands_1 : decode cX0_noteOperands 1 = .ok (.istore_n 2, 1) := by decide +kernel
theorem dX0_noteOperands_2 : decode cX0_noteOperands 2 = .ok (.iload_n 2, 1) := by decide +kernel
theorem dX0_noteOperands_3 : decode cX0_noteOperands 3 = .ok (.iconst 4, 1) := by decide +kernel
theorem dX0_noteOperands_4 : decode cX0_noteOperands 4 = .ok (.if_icmp .ge 35, 3) := by decide +kernel
theorem dX0_noteOperands_7 : decode cX0_noteOperands 7 = .ok (.aload_n 0, 1) := by decide +kernel
theorem dX0_noteOperands_8 : decode cX0_noteOperands 8 = .ok (.getfield 22, 3) := by decide +kernel
theorem dX0_noteOperands_11 : decode cX0_noteOperands 11 = .ok (.iload_n 1, 1) := by decide +kernel
theorem dX0_noteOperands_12 : decode cX0_noteOperands 12 = .ok (.iaload, 1) := by decide +kernel
theorem dX0_noteOperands_13 : decode cX0_noteOperands 13 = .ok (.aload_n 0, 1) := by decide +kernel
theorem dX0_noteOperands_14 : decode cX0_noteOperands 14 = .ok (.getfield 50, 3) := by decide +kernel
theorem dX0_noteOperands_17 : decode cX0_noteOperands 17 = .ok (.iload_n 2, 1) := by decide +kernel
theorem dX0_noteOperands_18 : decode cX0_noteOperands 18 = .ok (.iaload, 1) := by decide +kernel
theorem dX0_noteOperands_19 : decode cX0_noteOperands 19 = .ok (.iand, 1) := by decide +kernel
theorem dX0_noteOperands_20 : decode cX0_noteOperands 20 = .ok (.ifCond .eq 13, 3) := by decide +kernel
theorem dX0_noteOperands_23 : decode cX0_noteOperands 23 = .ok (.aload_n 0, 1) := by decide +kernel
theorem dX0_noteOperands_24 : decode cX0_noteOperands 24 = .ok (.aload_n 0, 1) := by decide +kernel
theorem dX0_noteOperands_25 : decode cX0_noteOperands 25 = .ok (.iload_n 1, 1) := by decide +kernel
theorem dX0_noteOperands_26 : decode cX0_noteOperands 26 = .ok (.iload_n 2, 1) := by decide +kernel
theorem dX0_noteOperands_27 : decode cX0_noteOperands 27 = .ok (.invokevirtual 127, 3) := by decide +kernel
theorem dX0_noteOperands_30 : decode cX0_noteOperands 30 = .ok (.invokevirtual 149, 3) := by decide +kernel
theorem dX0_noteOperands_33 : decode cX0_noteOperands 33 = .ok (.iinc 2 1, 3) := by decide +kernel
theorem dX0_noteOperands_36 : decode cX0_noteOperands 36 = .ok (.goto (-34), 3) := by decide +kernel
theorem dX0_noteOperands_39 : decode cX0_noteOperands 39 = .ok (.return_, 1) := by decide +kernel
theorem dX0_noteNeeded_0 : decode cX0_noteNeeded 0 = .ok (.iload_n 1, 1) := by decide +kernel
theorem dX0_noteNeeded_1 : decode cX0_noteNeeded 1 = .ok (.sipush 1000, 3) := by decide +kernel
theorem dX0_noteNeeded_4 : decode cX0_noteNeeded 4 = .ok (.if_icmp .ge 21, 3) := by decide +kernel
theorem dX0_noteNeeded_7 : decode cX0_noteNeeded 7 = .ok (.aload_n 0, 1) := by decide +kernel
theorem dX0_noteNeeded_8 : decode cX0_noteNeeded 8 = .ok (.getfield 53, 3) := by decide +kernel
theorem dX0_noteNeeded_11 : decode cX0_noteNeeded 11 = .ok (.iload_n 1, 1) := by decide +kernel
theorem dX0_noteNeeded_12 : decode cX0_noteNeeded 12 = .ok (.bipush 10, 2) := by decide +kernel
theorem dX0_noteNeeded_14 : decode cX0_noteNeeded 14 = .ok (.idiv, 1) := by decide +kernel
theorem dX0_noteNeeded_15 : decode cX0_noteNeeded 15 = .ok (.dup2, 1) := by decide +kernel
theorem dX0_noteNeeded_16 : decode cX0_noteNeeded 16 = .ok (.iaload, 1) := by decide +kernel
theorem dX0_noteNeeded_17 : decode cX0_noteNeeded 17 = .ok (.iconst 1, 1) := by decide +kernel
theorem dX0_noteNeeded_18 : decode cX0_noteNeeded 18 = .ok (.iload_n 1, 1) := by decide +kernel
theorem dX0_noteNeeded_19 : decode cX0_noteNeeded 19 = .ok (.bipush 10, 2) := by decide +kernel
theorem dX0_noteNeeded_21 : decode cX0_noteNeeded 21 = .ok (.irem, 1) := by decide +kernel
theorem dX0_noteNeeded_22 : decode cX0_noteNeeded 22 = .ok (.ishl, 1) := by decide +kernel
theorem dX0_noteNeeded_23 : decode cX0_noteNeeded 23 = .ok (.ior, 1) := by decide +kernel
theorem dX0_noteNeeded_24 : decode cX0_noteNeeded 24 = .ok (.iastore, 1) := by decide +kernel
theorem dX0_noteNeeded_25 : decode cX0_noteNeeded 25 = .ok (.return_, 1) := by decide +kernel
theorem dX0_countUnneededIn_0 : decode cX0_countUnneededIn 0 = .ok (.iconst 0, 1) := by decide +kernel
theorem dX0_countUnneededIn_1 : decode cX0_countUnneededIn 1 = .ok (.istore_n 2, 1) := by decide +kernel
theorem dX0_countUnneededIn_2 : decode cX0_countUnneededIn 2 = .ok (.iconst 0, 1) := by decide +kernel
theorem dX0_countUnneededIn_3 : decode cX0_countUnneededIn 3 = .ok (.istore_n 3, 1) := by decide +kernel
theorem dX0_countUnneededIn_4 : decode cX0_countUnneededIn 4 = .ok (.iload_n 3, 1) := by decide +kernel
theorem dX0_countUnneededIn_5 : decode cX0_countUnneededIn 5 = .ok (.aload_n 0, 1) := by decide +kernel
theorem dX0_countUnneededIn_6 : decode cX0_countUnneededIn 6 = .ok (.getfield 12, 3) := by decide +kernel
theorem dX0_countUnneededIn_9 : decode cX0_countUnneededIn 9 = .ok (.getfield 95, 3) := by decide +kernel
theorem dX0_countUnneededIn_12 : decode cX0_countUnneededIn 12 = .ok (.iload_n 1, 1) := by decide +kernel
theorem dX0_countUnneededIn_13 : decode cX0_countUnneededIn 13 = .ok (.iaload, 1) := by decide +kernel
theorem dX0_countUnneededIn_14 : decode cX0_countUnneededIn 14 = .ok (.if_icmp .ge 40, 3) := by decide +kernel
theorem dX0_countUnneededIn_17 : decode cX0_countUnneededIn 17 = .ok (.aload_n 0, 1) := by decide +kernel
theorem dX0_countUnneededIn_18 : decode cX0_countUnneededIn 18 = .ok (.getfield 12, 3) := by decide +kernel
theorem dX0_countUnneededIn_21 : decode cX0_countUnneededIn 21 = .ok (.iload_n 1, 1) := by decide +kernel
theorem dX0_countUnneededIn_22 : decode cX0_countUnneededIn 22 = .ok (.iload_n 3, 1) := by decide +kernel
theorem dX0_countUnneededIn_23 : decode cX0_countUnneededIn 23 = .ok (.invokevirtual 121, 3) := by decide +kernel
theorem dX0_countUnneededIn_26 : decode cX0_countUnneededIn 26 = .ok (.invokestatic 146, 3) := by decide +kernel
theorem dX0_countUnneededIn_29 : decode cX0_countUnneededIn 29 = .ok (.ifCond .ne 19, 3) := by decide +kernel
theorem dX0_countUnneededIn_32 : decode cX0_countUnneededIn 32 = .ok (.aload_n 0, 1) := by decide +kernel
theorem dX0_countUnneededIn_33 : decode cX0_countUnneededIn 33 = .ok (.getfield 53, 3) := by decide +kernel
theorem dX0_countUnneededIn_36 : decode cX0_countUnneededIn 36 = .ok (.iload_n 1, 1) := by decide +kernel
theorem dX0_countUnneededIn_37 : decode cX0_countUnneededIn 37 = .ok (.iaload, 1) := by decide +kernel
theorem dX0_countUnneededIn_38 : decode cX0_countUnneededIn 38 = .ok (.iload_n 3, 1) := by decide +kernel
theorem dX0_countUnneededIn_39 : decode cX0_countUnneededIn 39 = .ok (.ishr, 1) := by decide +kernel
theorem dX0_countUnneededIn_40 : decode cX0_countUnneededIn 40 = .ok (.iconst 1, 1) := by decide +kernel
theorem dX0_countUnneededIn_41 : decode cX0_countUnneededIn 41 = .ok (.iand, 1) := by decide +kernel
theorem dX0_countUnneededIn_42 : decode cX0_countUnneededIn 42 = .ok (.ifCond .ne 6, 3) := by decide +kernel
theorem dX0_countUnneededIn_45 : decode cX0_countUnneededIn 45 = .ok (.iinc 2 1, 3) := by decide +kernel
theorem dX0_countUnneededIn_48 : decode cX0_countUnneededIn 48 = .ok (.iinc 3 1, 3) := by decide +kernel
theorem dX0_countUnneededIn_51 : decode cX0_countUnneededIn 51 = .ok (.goto (-47), 3) := by decide +kernel
theorem dX0_countUnneededIn_54 : decode cX0_countUnneededIn 54 = .ok (.iload_n 2, 1) := by decide +kernel
theorem dX0_countUnneededIn_55 : decode cX0_countUnneededIn 55 = .ok (.ireturn, 1) := by decide +kernel
theorem dX0_openBefore_0 : decode cX0_openBefore 0 = .ok (.iconst 1, 1) := by decide +kernel
theorem dX0_openBefore_1 : decode cX0_openBefore 1 = .ok (.iload_n 1, 1) := by decide +kernel
theorem dX0_openBefore_2 : decode cX0_openBefore 2 = .ok (.ishl, 1) := by decide +kernel
theorem dX0_openBefore_3 : decode cX0_openBefore 3 = .ok (.istore_n 3, 1) := by decide +kernel
theorem dX0_openBefore_4 : decode cX0_openBefore 4 = .ok (.iconst 0, 1) := by decide +kernel
theorem dX0_openBefore_5 : decode cX0_openBefore 5 = .ok (.istore 4, 2) := by decide +kernel
theorem dX0_openBefore_7 : decode cX0_openBefore 7 = .ok (.iload 4, 2) := by decide +kernel
theorem dX0_openBefore_9 : decode cX0_openBefore 9 = .ok (.bipush 14, 2) := by decide +kernel
theorem dX0_openBefore_11 : decode cX0_openBefore 11 = .ok (.if_icmp .ge 38, 3) := by decide +kernel
theorem dX0_openBefore_14 : decode cX0_openBefore 14 = .ok (.iload_n 3, 1) := by decide +kernel
theorem dX0_openBefore_15 : decode cX0_openBefore 15 = .ok (.istore 5, 2) := by decide +kernel
theorem dX0_openBefore_17 : decode cX0_openBefore 17 = .ok (.iload_n 3, 1) := by decide +kernel
theorem dX0_openBefore_18 : decode cX0_openBefore 18 = .ok (.aload_n 0, 1) := by decide +kernel
theorem dX0_openBefore_19 : decode cX0_openBefore 19 = .ok (.iload_n 3, 1) := by decide +kernel
theorem dX0_openBefore_20 : decode cX0_openBefore 20 = .ok (.invokevirtual 152, 3) := by decide +kernel
theorem dX0_openBefore_23 : decode cX0_openBefore 23 = .ok (.aload_n 0, 1) := by decide +kernel
theorem dX0_openBefore_24 : decode cX0_openBefore 24 = .ok (.getfield 38, 3) := by decide +kernel
theorem dX0_openBefore_27 : decode cX0_openBefore 27 = .ok (.iload_n 2, 1) := by decide +kernel
theorem dX0_openBefore_28 : decode cX0_openBefore 28 = .ok (.iaload, 1) := by decide +kernel
theorem dX0_openBefore_29 : decode cX0_openBefore 29 = .ok (.iconst (-1), 1) := by decide +kernel
theorem dX0_openBefore_30 : decode cX0_openBefore 30 = .ok (.ixor, 1) := by decide +kernel
theorem dX0_openBefore_31 : decode cX0_openBefore 31 = .ok (.iand, 1) := by decide +kernel
theorem dX0_openBefore_32 : decode cX0_openBefore 32 = .ok (.ior, 1) := by decide +kernel
theorem dX0_openBefore_33 : decode cX0_openBefore 33 = .ok (.istore_n 3, 1) := by decide +kernel
theorem dX0_openBefore_34 : decode cX0_openBefore 34 = .ok (.iload_n 3, 1) := by decide +kernel
theorem dX0_openBefore_35 : decode cX0_openBefore 35 = .ok (.iload 5, 2) := by decide +kernel
theorem dX0_openBefore_37 : decode cX0_openBefore 37 = .ok (.if_icmp .ne 6, 3) := by decide +kernel
theorem dX0_openBefore_40 : decode cX0_openBefore 40 = .ok (.goto 9, 3) := by decide +kernel
theorem dX0_openBefore_43 : decode cX0_openBefore 43 = .ok (.iinc 4 1, 3) := by decide +kernel
theorem dX0_openBefore_46 : decode cX0_openBefore 46 = .ok (.goto (-39), 3) := by decide +kernel
theorem dX0_openBefore_49 : decode cX0_openBefore 49 = .ok (.iload_n 3, 1) := by decide +kernel
theorem dX0_openBefore_50 : decode cX0_openBefore 50 = .ok (.ireturn, 1) := by decide +kernel
theorem dX0_reachingBlocks_0 : decode cX0_reachingBlocks 0 = .ok (.aload_n 0, 1) := by decide +kernel
theorem dX0_reachingBlocks_1 : decode cX0_reachingBlocks 1 = .ok (.aload_n 0, 1) := by decide +kernel
theorem dX0_reachingBlocks_2 : decode cX0_reachingBlocks 2 = .ok (.iload_n 1, 1) := by decide +kernel
theorem dX0_reachingBlocks_3 : decode cX0_reachingBlocks 3 = .ok (.iload_n 2, 1) := by decide +kernel
theorem dX0_reachingBlocks_4 : decode cX0_reachingBlocks 4 = .ok (.invokevirtual 155, 3) := by decide +kernel
theorem dX0_reachingBlocks_7 : decode cX0_reachingBlocks 7 = .ok (.invokevirtual 152, 3) := by decide +kernel
theorem dX0_reachingBlocks_10 : decode cX0_reachingBlocks 10 = .ok (.aload_n 0, 1) := by decide +kernel
theorem dX0_reachingBlocks_11 : decode cX0_reachingBlocks 11 = .ok (.getfield 38, 3) := by decide +kernel
theorem dX0_reachingBlocks_14 : decode cX0_reachingBlocks 14 = .ok (.iload_n 2, 1) := by decide +kernel
theorem dX0_reachingBlocks_15 : decode cX0_reachingBlocks 15 = .ok (.iaload, 1) := by decide +kernel
theorem dX0_reachingBlocks_16 : decode cX0_reachingBlocks 16 = .ok (.iand, 1) := by decide +kernel
theorem dX0_reachingBlocks_17 : decode cX0_reachingBlocks 17 = .ok (.ireturn, 1) := by decide +kernel
theorem dX0_sourcesOfEdgesTo_0 : decode cX0_sourcesOfEdgesTo 0 = .ok (.iconst 0, 1) := by decide +kernel
theorem dX0_sourcesOfEdgesTo_1 : decode cX0_sourcesOfEdgesTo 1 = .ok (.istore_n 2, 1) := by decide +kernel
theorem dX0_sourcesOfEdgesTo_2 : decode cX0_sourcesOfEdgesTo 2 = .ok (.iconst 0, 1) := by decide +kernel
theorem dX0_sourcesOfEdgesTo_3 : decode cX0_sourcesOfEdgesTo 3 = .ok (.istore_n 3, 1) := by decide +kernel
theorem dX0_sourcesOfEdgesTo_4 : decode cX0_sourcesOfEdgesTo 4 = .ok (.iload_n 3, 1) := by decide +kernel
theorem dX0_sourcesOfEdgesTo_5 : decode cX0_sourcesOfEdgesTo 5 = .ok (.bipush 14, 2) := by decide +kernel
theorem dX0_sourcesOfEdgesTo_7 : decode cX0_sourcesOfEdgesTo 7 = .ok (.if_icmp .ge 26, 3) := by decide +kernel
theorem dX0_sourcesOfEdgesTo_10 : decode cX0_sourcesOfEdgesTo 10 = .ok (.iload_n 1, 1) := by decide +kernel
theorem dX0_sourcesOfEdgesTo_11 : decode cX0_sourcesOfEdgesTo 11 = .ok (.iload_n 3, 1) := by decide +kernel
theorem dX0_sourcesOfEdgesTo_12 : decode cX0_sourcesOfEdgesTo 12 = .ok (.invokestatic 85, 3) := by decide +kernel
theorem dX0_sourcesOfEdgesTo_15 : decode cX0_sourcesOfEdgesTo 15 = .ok (.ifCond .eq 12, 3) := by decide +kernel
theorem dX0_sourcesOfEdgesTo_18 : decode cX0_sourcesOfEdgesTo 18 = .ok (.iload_n 2, 1) := by decide +kernel
theorem dX0_sourcesOfEdgesTo_19 : decode cX0_sourcesOfEdgesTo 19 = .ok (.aload_n 0, 1) := by decide +kernel
theorem dX0_sourcesOfEdgesTo_20 : decode cX0_sourcesOfEdgesTo 20 = .ok (.getfield 26, 3) := by decide +kernel
theorem dX0_sourcesOfEdgesTo_23 : decode cX0_sourcesOfEdgesTo 23 = .ok (.iload_n 3, 1) := by decide +kernel
theorem dX0_sourcesOfEdgesTo_24 : decode cX0_sourcesOfEdgesTo 24 = .ok (.iaload, 1) := by decide +kernel
theorem dX0_sourcesOfEdgesTo_25 : decode cX0_sourcesOfEdgesTo 25 = .ok (.ior, 1) := by decide +kernel
theorem dX0_sourcesOfEdgesTo_26 : decode cX0_sourcesOfEdgesTo 26 = .ok (.istore_n 2, 1) := by decide +kernel
theorem dX0_sourcesOfEdgesTo_27 : decode cX0_sourcesOfEdgesTo 27 = .ok (.iinc 3 1, 3) := by decide +kernel
theorem dX0_sourcesOfEdgesTo_30 : decode cX0_sourcesOfEdgesTo 30 = .ok (.goto (-26), 3) := by decide +kernel
theorem dX0_sourcesOfEdgesTo_33 : decode cX0_sourcesOfEdgesTo 33 = .ok (.iload_n 2, 1) := by decide +kernel
theorem dX0_sourcesOfEdgesTo_34 : decode cX0_sourcesOfEdgesTo 34 = .ok (.ireturn, 1) := by decide +kernel
theorem dX1_init_0 : decode cX1_init 0 = .ok (.aload_n 0, 1) := by decide +kernel
theorem dX1_init_1 : decode cX1_init 1 = .ok (.invokespecial 3, 3) := by decide +kernel
theorem dX1_init_4 : decode cX1_init 4 = .ok (.aload_n 0, 1) := by decide +kernel
theorem dX1_init_5 : decode cX1_init 5 = .ok (.iconst 1, 1) := by decide +kernel
theorem dX1_init_6 : decode cX1_init 6 = .ok (.putfield 9, 3) := by decide +kernel
theorem dX1_init_9 : decode cX1_init 9 = .ok (.aload_n 0, 1) := by decide +kernel
theorem dX1_init_10 : decode cX1_init 10 = .ok (.bipush 14, 2) := by decide +kernel
theorem dX1_init_12 : decode cX1_init 12 = .ok (.newarray .int, 2) := by decide +kernel
theorem dX1_init_14 : decode cX1_init 14 = .ok (.putfield 15, 3) := by decide +kernel
theorem dX1_init_17 : decode cX1_init 17 = .ok (.aload_n 0, 1) := by decide +kernel
theorem dX1_init_18 : decode cX1_init 18 = .ok (.bipush 14, 2) := by decide +kernel
theorem dX1_init_20 : decode cX1_init 20 = .ok (.newarray .int, 2) := by decide +kernel
theorem dX1_init_22 : decode cX1_init 22 = .ok (.putfield 19, 3) := by decide +kernel
theorem dX1_init_25 : decode cX1_init 25 = .ok (.aload_n 0, 1) := by decide +kernel
theorem dX1_init_26 : decode cX1_init 26 = .ok (.bipush 84, 2) := by decide +kernel
theorem dX1_init_28 : decode cX1_init 28 = .ok (.newarray .int, 2) := by decide +kernel
theorem dX1_init_30 : decode cX1_init 30 = .ok (.putfield 22, 3) := by decide +kernel
theorem dX1_init_33 : decode cX1_init 33 = .ok (.aload_n 0, 1) := by decide +kernel
theorem dX1_init_34 : decode cX1_init 34 = .ok (.bipush 42, 2) := by decide +kernel
theorem dX1_init_36 : decode cX1_init 36 = .ok (.newarray .int, 2) := by decide +kernel
theorem dX1_init_38 : decode cX1_init 38 = .ok (.putfield 25, 3) := by decide +kernel
theorem dX1_init_41 : decode cX1_init 41 = .ok (.return_, 1) := by decide +kernel
theorem dX1_makeEmpty_0 : decode cX1_makeEmpty 0 = .ok (.aload_n 0, 1) := by decide +kernel
theorem dX1_makeEmpty_1 : decode cX1_makeEmpty 1 = .ok (.iload_n 1, 1) := by decide +kernel
theorem dX1_makeEmpty_2 : decode cX1_makeEmpty 2 = .ok (.putfield 9, 3) := by decide +kernel
theorem dX1_makeEmpty_5 : decode cX1_makeEmpty 5 = .ok (.iconst 0, 1) := by decide +kernel
theorem dX1_makeEmpty_6 : decode cX1_makeEmpty 6 = .ok (.istore_n 2, 1) := by decide +kernel
theorem dX1_makeEmpty_7 : decode cX1_makeEmpty 7 = .ok (.iload_n 2, 1) := by decide +kernel
theorem dX1_makeEmpty_8 : decode cX1_makeEmpty 8 = .ok (.bipush 14, 2) := by decide +kernel
theorem dX1_makeEmpty_10 : decode cX1_makeEmpty 10 = .ok (.if_icmp .ge 14, 3) := by decide +kernel
theorem dX1_makeEmpty_13 : decode cX1_makeEmpty 13 = .ok (.aload_n 0, 1) := by decide +kernel
theorem dX1_makeEmpty_14 : decode cX1_makeEmpty 14 = .ok (.iload_n 2, 1) := by decide +kernel
theorem dX1_makeEmpty_15 : decode cX1_makeEmpty 15 = .ok (.invokevirtual 28, 3) := by decide +kernel
theorem dX1_makeEmpty_18 : decode cX1_makeEmpty 18 = .ok (.iinc 2 1, 3) := by decide +kernel
theorem dX1_makeEmpty_21 : decode cX1_makeEmpty 21 = .ok (.goto (-14), 3) := by decide +kernel
theorem dX1_makeEmpty_24 : decode cX1_makeEmpty 24 = .ok (.return_, 1) := by decide +kernel
theorem dX1_become_0 : decode cX1_become 0 = .ok (.aload_n 0, 1) := by decide +kernel
theorem dX1_become_1 : decode cX1_become 1 = .ok (.aload_n 1, 1) := by decide +kernel
theorem dX1_become_2 : decode cX1_become 2 = .ok (.getfield 9, 3) := by decide +kernel
theorem dX1_become_5 : decode cX1_become 5 = .ok (.putfield 9, 3) := by decide +kernel
theorem dX1_become_8 : decode cX1_become 8 = .ok (.aload_n 1, 1) := by decide +kernel
theorem dX1_become_9 : decode cX1_become 9 = .ok (.getfield 15, 3) := by decide +kernel
theorem dX1_become_12 : decode cX1_become 12 = .ok (.iconst 0, 1) := by decide +kernel
theorem dX1_become_13 : decode cX1_become 13 = .ok (.aload_n 0, 1) := by decide +kernel
theorem dX1_become_14 : decode cX1_become 14 = .ok (.getfield 15, 3) := by decide +kernel
theorem dX1_become_17 : decode cX1_become 17 = .ok (.iconst 0, 1) := by decide +kernel
theorem dX1_become_18 : decode cX1_become 18 = .ok (.bipush 14, 2) := by decide +kernel
theorem dX1_become_20 : decode cX1_become 20 = .ok (.invokestatic 32, 3) := by decide +kernel
theorem dX1_become_23 : decode cX1_become 23 = .ok (.aload_n 1, 1) := by decide +kernel
theorem dX1_become_24 : decode cX1_become 24 = .ok (.getfield 19, 3) := by decide +kernel
theorem dX1_become_27 : decode cX1_become 27 = .ok (.iconst 0, 1) := by decide +kernel
theorem dX1_become_28 : decode cX1_become 28 = .ok (.aload_n 0, 1) := by decide +kernel
theorem dX1_become_29 : decode cX1_become 29 = .ok (.getfield 19, 3) := by decide +kernel
theorem dX1_become_32 : decode cX1_become 32 = .ok (.iconst 0, 1) := by decide +kernel
theorem dX1_become_33 : decode cX1_become 33 = .ok (.bipush 14, 2) := by decide +kernel
theorem dX1_become_35 : decode cX1_become 35 = .ok (.invokestatic 32, 3) := by decide +kernel
theorem dX1_become_38 : decode cX1_become 38 = .ok (.aload_n 1, 1) := by decide +kernel
theorem dX1_become_39 : decode cX1_become 39 = .ok (.getfield 22, 3) := by decide +kernel
theorem dX1_become_42 : decode cX1_become 42 = .ok (.iconst 0, 1) := by decide +kernel
theorem dX1_become_43 : decode cX1_become 43 = .ok (.aload_n 0, 1) := by decide +kernel
theorem dX1_become_44 : decode cX1_become 44 = .ok (.getfield 22, 3) := by decide +kernel
theorem dX1_become_47 : decode cX1_become 47 = .ok (.iconst 0, 1) := by decide +kernel
theorem dX1_become_48 : decode cX1_become 48 = .ok (.bipush 84, 2) := by decide +kernel
theorem dX1_become_50 : decode cX1_become 50 = .ok (.invokestatic 32, 3) := by decide +kernel
theorem dX1_become_53 : decode cX1_become 53 = .ok (.aload_n 1, 1) := by decide +kernel
theorem dX1_become_54 : decode cX1_become 54 = .ok (.getfield 25, 3) := by decide +kernel
theorem dX1_become_57 : decode cX1_become 57 = .ok (.iconst 0, 1) := by decide +kernel
theorem dX1_become_58 : decode cX1_become 58 = .ok (.aload_n 0, 1) := by decide +kernel
theorem dX1_become_59 : decode cX1_become 59 = .ok (.getfield 25, 3) := by decide +kernel
theorem dX1_become_62 : decode cX1_become 62 = .ok (.iconst 0, 1) := by decide +kernel
theorem dX1_become_63 : decode cX1_become 63 = .ok (.bipush 42, 2) := by decide +kernel
theorem dX1_become_65 : decode cX1_become 65 = .ok (.invokestatic 32, 3) := by decide +kernel
theorem dX1_become_68 : decode cX1_become 68 = .ok (.return_, 1) := by decide +kernel
theorem dX1_hasBlock_0 : decode cX1_hasBlock 0 = .ok (.iload_n 1, 1) := by decide +kernel
theorem dX1_hasBlock_1 : decode cX1_hasBlock 1 = .ok (.ifCond .lt 15, 3) := by decide +kernel
theorem dX1_hasBlock_4 : decode cX1_hasBlock 4 = .ok (.iload_n 1, 1) := by decide +kernel
theorem dX1_hasBlock_5 : decode cX1_hasBlock 5 = .ok (.aload_n 0, 1) := by decide +kernel
theorem dX1_hasBlock_6 : decode cX1_hasBlock 6 = .ok (.getfield 9, 3) := by decide +kernel
theorem dX1_hasBlock_9 : decode cX1_hasBlock 9 = .ok (.if_icmp .ge 7, 3) := by decide +kernel
theorem dX1_hasBlock_12 : decode cX1_hasBlock 12 = .ok (.iconst 1, 1) := by decide +kernel
theorem dX1_hasBlock_13 : decode cX1_hasBlock 13 = .ok (.goto 4, 3) := by decide +kernel
theorem dX1_hasBlock_16 : decode cX1_hasBlock 16 = .ok (.iconst 0, 1) := by decide +kernel
theorem dX1_hasBlock_17 : decode cX1_hasBlock 17 = .ok (.ireturn, 1) := by decide +kernel
theorem dX1_hasAction_0 : decode cX1_hasAction 0 = .ok (.aload_n 0, 1) := by decide +kernel
theorem dX1_hasAction_1 : decode cX1_hasAction 1 = .ok (.iload_n 1, 1) := by decide +kernel
theorem dX1_hasAction_2 : decode cX1_hasAction 2 = .ok (.invokevirtual 38, 3) := by decide +kernel
theorem dX1_hasAction_5 : decode cX1_hasAction 5 = .ok (.ifCond .eq 21, 3) := by decide +kernel
theorem dX1_hasAction_8 : decode cX1_hasAction 8 = .ok (.iload_n 2, 1) := by decide +kernel
theorem dX1_hasAction_9 : decode cX1_hasAction 9 = .ok (.ifCond .lt 17, 3) := by decide +kernel
theorem dX1_hasAction_12 : decode cX1_hasAction 12 = .ok (.iload_n 2, 1) := by decide +kernel
theorem dX1_hasAction_13 : decode cX1_hasAction 13 = .ok (.aload_n 0, 1) := by decide +kernel
theorem dX1_hasAction_14 : decode cX1_hasAction 14 = .ok (.getfield 15, 3) := by decide +kernel
theorem dX1_hasAction_17 : decode cX1_hasAction 17 = .ok (.iload_n 1, 1) := by decide +kernel
theorem dX1_hasAction_18 : decode cX1_hasAction 18 = .ok (.iaload, 1) := by decide +kernel
theorem dX1_hasAction_19 : decode cX1_hasAction 19 = .ok (.if_icmp .ge 7, 3) := by decide +kernel
theorem dX1_hasAction_22 : decode cX1_hasAction 22 = .ok (.iconst 1, 1) := by decide +kernel
theorem dX1_hasAction_23 : decode cX1_hasAction 23 = .ok (.goto 4, 3) := by decide +kernel
theorem dX1_hasAction_26 : decode cX1_hasAction 26 = .ok (.iconst 0, 1) := by decide +kernel
theorem dX1_hasAction_27 : decode cX1_hasAction 27 = .ok (.ireturn, 1) := by decide +kernel
theorem dX1_hasEdge_0 : decode cX1_hasEdge 0 = .ok (.aload_n 0, 1) := by decide +kernel
theorem dX1_hasEdge_1 : decode cX1_hasEdge 1 = .ok (.iload_n 1, 1) := by decide +kernel
theorem dX1_hasEdge_2 : decode cX1_hasEdge 2 = .ok (.invokevirtual 38, 3) := by decide +kernel
theorem dX1_hasEdge_5 : decode cX1_hasEdge 5 = .ok (.ifCond .eq 21, 3) := by decide +kernel
theorem dX1_hasEdge_8 : decode cX1_hasEdge 8 = .ok (.iload_n 2, 1) := by decide +kernel
theorem dX1_hasEdge_9 : decode cX1_hasEdge 9 = .ok (.ifCond .lt 17, 3) := by decide +kernel
theorem dX1_hasEdge_12 : decode cX1_hasEdge 12 = .ok (.iload_n 2, 1) := by decide +kernel
theorem dX1_hasEdge_13 : decode cX1_hasEdge 13 = .ok (.aload_n 0, 1) := by decide +kernel
theorem dX1_hasEdge_14 : decode cX1_hasEdge 14 = .ok (.getfield 19, 3) := by decide +kernel
theorem dX1_hasEdge_17 : decode cX1_hasEdge 17 = .ok (.iload_n 1, 1) := by decide +kernel
theorem dX1_hasEdge_18 : decode cX1_hasEdge 18 = .ok (.iaload, 1) := by decide +kernel
theorem dX1_hasEdge_19 : decode cX1_hasEdge 19 = .ok (.if_icmp .ge 7, 3) := by decide +kernel
theorem dX1_hasEdge_22 : decode cX1_hasEdge 22 = .ok (.iconst 1, 1) := by decide +kernel
theorem dX1_hasEdge_23 : decode cX1_hasEdge 23 = .ok (.goto 4, 3) := by decide +kernel
theorem dX1_hasEdge_26 : decode cX1_hasEdge 26 = .ok (.iconst 0, 1) := by decide +kernel
theorem dX1_hasEdge_27 : decode cX1_hasEdge 27 = .ok (.ireturn, 1) := by decide +kernel
theorem dX1_actionAt_0 : decode cX1_actionAt 0 = .ok (.aload_n 0, 1) := by decide +kernel
theorem dX1_actionAt_1 : decode cX1_actionAt 1 = .ok (.getfield 22, 3) := by decide +kernel
theorem dX1_actionAt_4 : decode cX1_actionAt 4 = .ok (.iload_n 1, 1) := by decide +kernel
theorem dX1_actionAt_5 : decode cX1_actionAt 5 = .ok (.bipush 6, 2) := by decide +kernel
theorem dX1_actionAt_7 : decode cX1_actionAt 7 = .ok (.imul, 1) := by decide +kernel
theorem dX1_actionAt_8 : decode cX1_actionAt 8 = .ok (.iload_n 2, 1) := by decide +kernel
theorem dX1_actionAt_9 : decode cX1_actionAt 9 = .ok (.iadd, 1) := by decide +kernel
theorem dX1_actionAt_10 : decode cX1_actionAt 10 = .ok (.iaload, 1) := by decide +kernel
theorem dX1_actionAt_11 : decode cX1_actionAt 11 = .ok (.ireturn, 1) := by decide +kernel
theorem dX1_targetAt_0 : decode cX1_targetAt 0 = .ok (.aload_n 0, 1) := by decide +kernel
theorem dX1_targetAt_1 : decode cX1_targetAt 1 = .ok (.getfield 25, 3) := by decide +kernel
theorem dX1_targetAt_4 : decode cX1_targetAt 4 = .ok (.iload_n 1, 1) := by decide +kernel
theorem dX1_targetAt_5 : decode cX1_targetAt 5 = .ok (.iconst 3, 1) := by decide +kernel
theorem dX1_targetAt_6 : decode cX1_targetAt 6 = .ok (.imul, 1) := by decide +kernel
theorem dX1_targetAt_7 : decode cX1_targetAt 7 = .ok (.iload_n 2, 1) := by decide +kernel
theorem dX1_targetAt_8 : decode cX1_targetAt 8 = .ok (.iadd, 1) := by decide +kernel
theorem dX1_targetAt_9 : decode cX1_targetAt 9 = .ok (.iaload, 1) := by decide +kernel
theorem dX1_targetAt_10 : decode cX1_targetAt 10 = .ok (.ireturn, 1) := by decide +kernel
theorem dX1_edgeBetween_0 : decode cX1_edgeBetween 0 = .ok (.iconst 0, 1) := by decide +kernel
theorem dX1_edgeBetween_1 : decode cX1_edgeBetween 1 = .ok (.istore_n 3, 1) := by decide +kernel
theorem dX1_edgeBetween_2 : decode cX1_edgeBetween 2 = .ok (.iload_n 3, 1) := by decide +kernel
theorem dX1_edgeBetween_3 : decode cX1_edgeBetween 3 = .ok (.aload_n 0, 1) := by decide +kernel
theorem dX1_edgeBetween_4 : decode cX1_edgeBetween 4 = .ok (.getfield 19, 3) := by decide +kernel
theorem dX1_edgeBetween_7 : decode cX1_edgeBetween 7 = .ok (.iload_n 1, 1) := by decide +kernel
theorem dX1_edgeBetween_8 : decode cX1_edgeBetween 8 = .ok (.iaload, 1) := by decide +kernel
theorem dX1_edgeBetween_9 : decode cX1_edgeBetween 9 = .ok (.if_icmp .ge 21, 3) := by decide +kernel
theorem dX1_edgeBetween_12 : decode cX1_edgeBetween 12 = .ok (.aload_n 0, 1) := by decide +kernel
theorem dX1_edgeBetween_13 : decode cX1_edgeBetween 13 = .ok (.iload_n 1, 1) := by decide +kernel
theorem dX1_edgeBetween_14 : decode cX1_edgeBetween 14 = .ok (.iload_n 3, 1) := by decide +kernel
theorem dX1_edgeBetween_15 : decode cX1_edgeBetween 15 = .ok (.invokevirtual 42, 3) := by decide +kernel
theorem dX1_edgeBetween_18 : decode cX1_edgeBetween 18 = .ok (.iload_n 2, 1) := by decide +kernel
theorem dX1_edgeBetween_19 : decode cX1_edgeBetween 19 = .ok (.if_icmp .ne 5, 3) := by decide +kernel
theorem dX1_edgeBetween_22 : decode cX1_edgeBetween 22 = .ok (.iload_n 3, 1) := by decide +kernel
theorem dX1_edgeBetween_23 : decode cX1_edgeBetween 23 = .ok (.ireturn, 1) := by decide +kernel
theorem dX1_edgeBetween_24 : decode cX1_edgeBetween 24 = .ok (.iinc 3 1, 3) := by decide +kernel
theorem dX1_edgeBetween_27 : decode cX1_edgeBetween 27 = .ok (.goto (-25), 3) := by decide +kernel
theorem dX1_edgeBetween_30 : decode cX1_edgeBetween 30 = .ok (.iconst (-1), 1) := by decide +kernel
theorem dX1_edgeBetween_31 : decode cX1_edgeBetween 31 = .ok (.ireturn, 1) := by decide +kernel
theorem dX1_targetSet_0 : decode cX1_targetSet 0 = .ok (.iconst 0, 1) := by decide +kernel
theorem dX1_targetSet_1 : decode cX1_targetSet 1 = .ok (.istore_n 2, 1) := by decide +kernel
theorem dX1_targetSet_2 : decode cX1_targetSet 2 = .ok (.iconst 0, 1) := by decide +kernel
theorem dX1_targetSet_3 : decode cX1_targetSet 3 = .ok (.istore_n 3, 1) := by decide +kernel
theorem dX1_targetSet_4 : decode cX1_targetSet 4 = .ok (.iload_n 3, 1) := by decide +kernel
theorem dX1_targetSet_5 : decode cX1_targetSet 5 = .ok (.aload_n 0, 1) := by decide +kernel
theorem dX1_targetSet_6 : decode cX1_targetSet 6 = .ok (.getfield 19, 3) := by decide +kernel
theorem dX1_targetSet_9 : decode cX1_targetSet 9 = .ok (.iload_n 1, 1) := by decide +kernel
theorem dX1_targetSet_10 : decode cX1_targetSet 10 = .ok (.iaload, 1) := by decide +kernel
theorem dX1_targetSet_11 : decode cX1_targetSet 11 = .ok (.if_icmp .ge 20, 3) := by decide +kernel
theorem dX1_targetSet_14 : decode cX1_targetSet 14 = .ok (.iload_n 2, 1) := by decide +kernel
theorem dX1_targetSet_15 : decode cX1_targetSet 15 = .ok (.iconst 1, 1) := by decide +kernel
theorem dX1_targetSet_16 : decode cX1_targetSet 16 = .ok (.aload_n 0, 1) := by decide +kernel
theorem dX1_targetSet_17 : decode cX1_targetSet 17 = .ok (.iload_n 1, 1) := by decide +kernel
theorem dX1_targetSet_18 : decode cX1_targetSet 18 = .ok (.iload_n 3, 1) := by decide +kernel
theorem dX1_targetSet_19 : decode cX1_targetSet 19 = .ok (.invokevirtual 42, 3) := by decide +kernel
theorem dX1_targetSet_22 : decode cX1_targetSet 22 = .ok (.ishl, 1) := by decide +kernel
theorem dX1_targetSet_23 : decode cX1_targetSet 23 = .ok (.ior, 1) := by decide +kernel
theorem dX1_targetSet_24 : decode cX1_targetSet 24 = .ok (.istore_n 2, 1) := by decide +kernel
theorem dX1_targetSet_25 : decode cX1_targetSet 25 = .ok (.iinc 3 1, 3) := by decide +kernel
theorem dX1_targetSet_28 : decode cX1_targetSet 28 = .ok (.goto (-24), 3) := by decide +kernel
theorem dX1_targetSet_31 : decode cX1_targetSet 31 = .ok (.iload_n 2, 1) := by decide +kernel
theorem dX1_targetSet_32 : decode cX1_targetSet 32 = .ok (.ireturn, 1) := by decide +kernel
theorem dX1_emptyBlock_0 : decode cX1_emptyBlock 0 = .ok (.aload_n 0, 1) := by decide +kernel
theorem dX1_emptyBlock_1 : decode cX1_emptyBlock 1 = .ok (.getfield 15, 3) := by decide +kernel
theorem dX1_emptyBlock_4 : decode cX1_emptyBlock 4 = .ok (.iload_n 1, 1) := by decide +kernel
theorem dX1_emptyBlock_5 : decode cX1_emptyBlock 5 = .ok (.iconst 0, 1) := by decide +kernel
theorem dX1_emptyBlock_6 : decode cX1_emptyBlock 6 = .ok (.iastore, 1) := by decide +kernel
theorem dX1_emptyBlock_7 : decode cX1_emptyBlock 7 = .ok (.aload_n 0, 1) := by decide +kernel
theorem dX1_emptyBlock_8 : decode cX1_emptyBlock 8 = .ok (.getfield 19, 3) := by decide +kernel
theorem dX1_emptyBlock_11 : decode cX1_emptyBlock 11 = .ok (.iload_n 1, 1) := by decide +kernel
theorem dX1_emptyBlock_12 : decode cX1_emptyBlock 12 = .ok (.iconst 0, 1) := by decide +kernel
theorem dX1_emptyBlock_13 : decode cX1_emptyBlock 13 = .ok (.iastore, 1) := by decide +kernel
theorem dX1_emptyBlock_14 : decode cX1_emptyBlock 14 = .ok (.return_, 1) := by decide +kernel
theorem dX1_putAction_0 : decode cX1_putAction 0 = .ok (.aload_n 0, 1) := by decide +kernel
theorem dX1_putAction_1 : decode cX1_putAction 1 = .ok (.getfield 15, 3) := by decide +kernel
theorem dX1_putAction_4 : decode cX1_putAction 4 = .ok (.iload_n 1, 1) := by decide +kernel
theorem dX1_putAction_5 : decode cX1_putAction 5 = .ok (.iaload, 1) := by decide +kernel
theorem dX1_putAction_6 : decode cX1_putAction 6 = .ok (.bipush 6, 2) := by decide +kernel
theorem dX1_putAction_8 : decode cX1_putAction 8 = .ok (.if_icmp .ge 30, 3) := by decide +kernel
theorem dX1_putAction_11 : decode cX1_putAction 11 = .ok (.aload_n 0, 1) := by decide +kernel
theorem dX1_putAction_12 : decode cX1_putAction 12 = .ok (.getfield 22, 3) := by decide +kernel
theorem dX1_putAction_15 : decode cX1_putAction 15 = .ok (.iload_n 1, 1) := by decide +kernel
theorem dX1_putAction_16 : decode cX1_putAction 16 = .ok (.bipush 6, 2) := by decide +kernel
theorem dX1_putAction_18 : decode cX1_putAction 18 = .ok (.imul, 1) := by decide +kernel
theorem dX1_putAction_19 : decode cX1_putAction 19 = .ok (.aload_n 0, 1) := by decide +kernel
theorem dX1_putAction_20 : decode cX1_putAction 20 = .ok (.getfield 15, 3) := by decide +kernel
theorem dX1_putAction_23 : decode cX1_putAction 23 = .ok (.iload_n 1, 1) := by decide +kernel
theorem dX1_putAction_24 : decode cX1_putAction 24 = .ok (.iaload, 1) := by decide +kernel
theorem dX1_putAction_25 : decode cX1_putAction 25 = .ok (.iadd, 1) := by decide +kernel
theorem dX1_putAction_26 : decode cX1_putAction 26 = .ok (.iload_n 2, 1) := by decide +kernel
theorem dX1_putAction_27 : decode cX1_putAction 27 = .ok (.iastore, 1) := by decide +kernel
theorem dX1_putAction_28 : decode cX1_putAction 28 = .ok (.aload_n 0, 1) := by decide +kernel
theorem dX1_putAction_29 : decode cX1_putAction 29 = .ok (.getfield 15, 3) := by decide +kernel
theorem dX1_putAction_32 : decode cX1_putAction 32 = .ok (.iload_n 1, 1) := by decide +kernel
theorem dX1_putAction_33 : decode cX1_putAction 33 = .ok (.dup2, 1) := by decide +kernel
theorem dX1_putAction_34 : decode cX1_putAction 34 = .ok (.iaload, 1) := by decide +kernel
theorem dX1_putAction_35 : decode cX1_putAction 35 = .ok (.iconst 1, 1) := by decide +kernel
theorem dX1_putAction_36 : decode cX1_putAction 36 = .ok (.iadd, 1) := by decide +kernel
theorem dX1_putAction_37 : decode cX1_putAction 37 = .ok (.iastore, 1) := by decide +kernel
theorem dX1_putAction_38 : decode cX1_putAction 38 = .ok (.return_, 1) := by decide +kernel
theorem dX1_putEdge_0 : decode cX1_putEdge 0 = .ok (.aload_n 0, 1) := by decide +kernel
theorem dX1_putEdge_1 : decode cX1_putEdge 1 = .ok (.getfield 19, 3) := by decide +kernel
theorem dX1_putEdge_4 : decode cX1_putEdge 4 = .ok (.iload_n 1, 1) := by decide +kernel
theorem dX1_putEdge_5 : decode cX1_putEdge 5 = .ok (.iaload, 1) := by decide +kernel
theorem dX1_putEdge_6 : decode cX1_putEdge 6 = .ok (.iconst 3, 1) := by decide +kernel
theorem dX1_putEdge_7 : decode cX1_putEdge 7 = .ok (.if_icmp .ge 29, 3) := by decide +kernel
theorem dX1_putEdge_10 : decode cX1_putEdge 10 = .ok (.aload_n 0, 1) := by decide +kernel
theorem dX1_putEdge_11 : decode cX1_putEdge 11 = .ok (.getfield 25, 3) := by decide +kernel
theorem dX1_putEdge_14 : decode cX1_putEdge 14 = .ok (.iload_n 1, 1) := by decide +kernel
theorem dX1_putEdge_15 : decode cX1_putEdge 15 = .ok (.iconst 3, 1) := by decide +kernel
theorem dX1_putEdge_16 : decode cX1_putEdge 16 = .ok (.imul, 1) := by decide +kernel
theorem dX1_putEdge_17 : decode cX1_putEdge 17 = .ok (.aload_n 0, 1) := by decide +kernel
theorem dX1_putEdge_18 : decode cX1_putEdge 18 = .ok (.getfield 19, 3) := by decide +kernel
theorem dX1_putEdge_21 : decode cX1_putEdge 21 = .ok (.iload_n 1, 1) := by decide +kernel
theorem dX1_putEdge_22 : decode cX1_putEdge 22 = .ok (.iaload, 1) := by decide +kernel
theorem dX1_putEdge_23 : decode cX1_putEdge 23 = .ok (.iadd, 1) := by decide +kernel
theorem dX1_putEdge_24 : decode cX1_putEdge 24 = .ok (.iload_n 2, 1) := by decide +kernel
theorem dX1_putEdge_25 : decode cX1_putEdge 25 = .ok (.iastore, 1) := by decide +kernel
theorem dX1_putEdge_26 : decode cX1_putEdge 26 = .ok (.aload_n 0, 1) := by decide +kernel
theorem dX1_putEdge_27 : decode cX1_putEdge 27 = .ok (.getfield 19, 3) := by decide +kernel
theorem dX1_putEdge_30 : decode cX1_putEdge 30 = .ok (.iload_n 1, 1) := by decide +kernel
theorem dX1_putEdge_31 : decode cX1_putEdge 31 = .ok (.dup2, 1) := by decide +kernel
theorem dX1_putEdge_32 : decode cX1_putEdge 32 = .ok (.iaload, 1) := by decide +kernel
theorem dX1_putEdge_33 : decode cX1_putEdge 33 = .ok (.iconst 1, 1) := by decide +kernel
theorem dX1_putEdge_34 : decode cX1_putEdge 34 = .ok (.iadd, 1) := by decide +kernel
theorem dX1_putEdge_35 : decode cX1_putEdge 35 = .ok (.iastore, 1) := by decide +kernel
theorem dX1_putEdge_36 : decode cX1_putEdge 36 = .ok (.return_, 1) := by decide +kernel
theorem dX1_redirect_0 : decode cX1_redirect 0 = .ok (.aload_n 0, 1) := by decide +kernel
theorem dX1_redirect_1 : decode cX1_redirect 1 = .ok (.getfield 25, 3) := by decide +kernel
theorem dX1_redirect_4 : decode cX1_redirect 4 = .ok (.iload_n 1, 1) := by decide +kernel
theorem dX1_redirect_5 : decode cX1_redirect 5 = .ok (.iconst 3, 1) := by decide +kernel
theorem dX1_redirect_6 : decode cX1_redirect 6 = .ok (.imul, 1) := by decide +kernel
theorem dX1_redirect_7 : decode cX1_redirect 7 = .ok (.iload_n 2, 1) := by decide +kernel
theorem dX1_redirect_8 : decode cX1_redirect 8 = .ok (.iadd, 1) := by decide +kernel
theorem dX1_redirect_9 : decode cX1_redirect 9 = .ok (.iload_n 3, 1) := by decide +kernel
theorem dX1_redirect_10 : decode cX1_redirect 10 = .ok (.iastore, 1) := by decide +kernel
theorem dX1_redirect_11 : decode cX1_redirect 11 = .ok (.return_, 1) := by decide +kernel
theorem dX1_dropAction_0 : decode cX1_dropAction 0 = .ok (.aload_n 0, 1) := by decide +kernel
theorem dX1_dropAction_1 : decode cX1_dropAction 1 = .ok (.getfield 15, 3) := by decide +kernel
theorem dX1_dropAction_4 : decode cX1_dropAction 4 = .ok (.iload_n 1, 1) := by decide +kernel
theorem dX1_dropAction_5 : decode cX1_dropAction 5 = .ok (.iaload, 1) := by decide +kernel
theorem dX1_dropAction_6 : decode cX1_dropAction 6 = .ok (.iconst 1, 1) := by decide +kernel
theorem dX1_dropAction_7 : decode cX1_dropAction 7 = .ok (.isub, 1) := by decide +kernel
theorem dX1_dropAction_8 : decode cX1_dropAction 8 = .ok (.istore_n 3, 1) := by decide +kernel
theorem dX1_dropAction_9 : decode cX1_dropAction 9 = .ok (.iload_n 2, 1) := by decide +kernel
theorem dX1_dropAction_10 : decode cX1_dropAction 10 = .ok (.istore 4, 2) := by decide +kernel
theorem dX1_dropAction_12 : decode cX1_dropAction 12 = .ok (.iload 4, 2) := by decide +kernel
theorem dX1_dropAction_14 : decode cX1_dropAction 14 = .ok (.iload_n 3, 1) := by decide +kernel
theorem dX1_dropAction_15 : decode cX1_dropAction 15 = .ok (.if_icmp .ge 30, 3) := by decide +kernel
theorem dX1_dropAction_18 : decode cX1_dropAction 18 = .ok (.aload_n 0, 1) := by decide +kernel
theorem dX1_dropAction_19 : decode cX1_dropAction 19 = .ok (.getfield 22, 3) := by decide +kernel
theorem dX1_dropAction_22 : decode cX1_dropAction 22 = .ok (.iload_n 1, 1) := by decide +kernel
theorem dX1_dropAction_23 : decode cX1_dropAction 23 = .ok (.bipush 6, 2) := by decide +kernel
theorem dX1_dropAction_25 : decode cX1_dropAction 25 = .ok (.imul, 1) := by decide +kernel
theorem dX1_dropAction_26 : decode cX1_dropAction 26 = .ok (.iload 4, 2) := by decide +kernel
theorem dX1_dropAction_28 : decode cX1_dropAction 28 = .ok (.iadd, 1) := by decide +kernel
theorem dX1_dropAction_29 : decode cX1_dropAction 29 = .ok (.aload_n 0, 1) := by decide +kernel
theorem dX1_dropAction_30 : decode cX1_dropAction 30 = .ok (.iload_n 1, 1) := by decide +kernel
theorem dX1_dropAction_31 : decode cX1_dropAction 31 = .ok (.iload 4, 2) := by decide +kernel
theorem dX1_dropAction_33 : decode cX1_dropAction 33 = .ok (.iconst 1, 1) := by decide +kernel
theorem dX1_dropAction_34 : decode cX1_dropAction 34 = .ok (.iadd, 1) := by decide +kernel
theorem dX1_dropAction_35 : decode cX1_dropAction 35 = .ok (.invokevirtual 46, 3) := by decide +kernel
theorem dX1_dropAction_38 : decode cX1_dropAction 38 = .ok (.iastore, 1) := by decide +kernel
theorem dX1_dropAction_39 : decode cX1_dropAction 39 = .ok (.iinc 4 1, 3) := by decide +kernel
theorem dX1_dropAction_42 : decode cX1_dropAction 42 = .ok (.goto (-30), 3) := by decide +kernel
theorem dX1_dropAction_45 : decode cX1_dropAction 45 = .ok (.aload_n 0, 1) := by decide +kernel
theorem dX1_dropAction_46 : decode cX1_dropAction 46 = .ok (.getfield 15, 3) := by decide +kernel
theorem dX1_dropAction_49 : decode cX1_dropAction 49 = .ok (.iload_n 1, 1) := by decide +kernel
theorem dX1_dropAction_50 : decode cX1_dropAction 50 = .ok (.iload_n 3, 1) := by decide +kernel
theorem dX1_dropAction_51 : decode cX1_dropAction 51 = .ok (.iastore, 1) := by decide +kernel
theorem dX1_dropAction_52 : decode cX1_dropAction 52 = .ok (.return_, 1) := by decide +kernel
theorem dX1_dropEdge_0 : decode cX1_dropEdge 0 = .ok (.aload_n 0, 1) := by decide +kernel
theorem dX1_dropEdge_1 : decode cX1_dropEdge 1 = .ok (.getfield 19, 3) := by decide +kernel
theorem dX1_dropEdge_4 : decode cX1_dropEdge 4 = .ok (.iload_n 1, 1) := by decide +kernel
theorem dX1_dropEdge_5 : decode cX1_dropEdge 5 = .ok (.iaload, 1) := by decide +kernel
theorem dX1_dropEdge_6 : decode cX1_dropEdge 6 = .ok (.iconst 1, 1) := by decide +kernel
theorem dX1_dropEdge_7 : decode cX1_dropEdge 7 = .ok (.isub, 1) := by decide +kernel
theorem dX1_dropEdge_8 : decode cX1_dropEdge 8 = .ok (.istore_n 3, 1) := by decide +kernel
theorem dX1_dropEdge_9 : decode cX1_dropEdge 9 = .ok (.iload_n 2, 1) := by decide +kernel
theorem dX1_dropEdge_10 : decode cX1_dropEdge 10 = .ok (.istore 4, 2) := by decide +kernel
theorem dX1_dropEdge_12 : decode cX1_dropEdge 12 = .ok (.iload 4, 2) := by decide +kernel
theorem dX1_dropEdge_14 : decode cX1_dropEdge 14 = .ok (.iload_n 3, 1) := by decide +kernel
theorem dX1_dropEdge_15 : decode cX1_dropEdge 15 = .ok (.if_icmp .ge 29, 3) := by decide +kernel
theorem dX1_dropEdge_18 : decode cX1_dropEdge 18 = .ok (.aload_n 0, 1) := by decide +kernel
theorem dX1_dropEdge_19 : decode cX1_dropEdge 19 = .ok (.getfield 25, 3) := by decide +kernel
theorem dX1_dropEdge_22 : decode cX1_dropEdge 22 = .ok (.iload_n 1, 1) := by decide +kernel
theorem dX1_dropEdge_23 : decode cX1_dropEdge 23 = .ok (.iconst 3, 1) := by decide +kernel
theorem dX1_dropEdge_24 : decode cX1_dropEdge 24 = .ok (.imul, 1) := by decide +kernel
theorem dX1_dropEdge_25 : decode cX1_dropEdge 25 = .ok (.iload 4, 2) := by decide +kernel
theorem dX1_dropEdge_27 : decode cX1_dropEdge 27 = .ok (.iadd, 1) := by decide +kernel
theorem dX1_dropEdge_28 : decode cX1_dropEdge 28 = .ok (.aload_n 0, 1) := by decide +kernel
theorem dX1_dropEdge_29 : decode cX1_dropEdge 29 = .ok (.iload_n 1, 1) := by decide +kernel
theorem dX1_dropEdge_30 : decode cX1_dropEdge 30 = .ok (.iload 4, 2) := by decide +kernel
theorem dX1_dropEdge_32 : decode cX1_dropEdge 32 = .ok (.iconst 1, 1) := by decide +kernel
theorem dX1_dropEdge_33 : decode cX1_dropEdge 33 = .ok (.iadd, 1) := by decide +kernel
theorem dX1_dropEdge_34 : decode cX1_dropEdge 34 = .ok (.invokevirtual 42, 3) := by decide +kernel
theorem dX1_dropEdge_37 : decode cX1_dropEdge 37 = .ok (.iastore, 1) := by decide +kernel
theorem dX1_dropEdge_38 : decode cX1_dropEdge 38 = .ok (.iinc 4 1, 3) := by decide +kernel
theorem dX1_dropEdge_41 : decode cX1_dropEdge 41 = .ok (.goto (-29), 3) := by decide +kernel
theorem dX1_dropEdge_44 : decode cX1_dropEdge 44 = .ok (.aload_n 0, 1) := by decide +kernel
theorem dX1_dropEdge_45 : decode cX1_dropEdge 45 = .ok (.getfield 19, 3) := by decide +kernel
theorem dX1_dropEdge_48 : decode cX1_dropEdge 48 = .ok (.iload_n 1, 1) := by decide +kernel
theorem dX1_dropEdge_49 : decode cX1_dropEdge 49 = .ok (.iload_n 3, 1) := by decide +kernel
theorem dX1_dropEdge_50 : decode cX1_dropEdge 50 = .ok (.iastore, 1) := by decide +kernel
theorem dX1_dropEdge_51 : decode cX1_dropEdge 51 = .ok (.return_, 1) := by decide +kernel
theorem dX1_replaceBlock_0 : decode cX1_replaceBlock 0 = .ok (.aload_n 0, 1) := by decide +kernel
theorem dX1_replaceBlock_1 : decode cX1_replaceBlock 1 = .ok (.aload_n 1, 1) := by decide +kernel
theorem dX1_replaceBlock_2 : decode cX1_replaceBlock 2 = .ok (.getfield 49, 3) := by decide +kernel
theorem dX1_replaceBlock_5 : decode cX1_replaceBlock 5 = .ok (.invokevirtual 28, 3) := by decide +kernel
theorem dX1_replaceBlock_8 : decode cX1_replaceBlock 8 = .ok (.iconst 0, 1) := by decide +kernel
theorem dX1_replaceBlock_9 : decode cX1_replaceBlock 9 = .ok (.istore_n 2, 1) := by decide +kernel
theorem dX1_replaceBlock_10 : decode cX1_replaceBlock 10 = .ok (.iload_n 2, 1) := by decide +kernel
theorem dX1_replaceBlock_11 : decode cX1_replaceBlock 11 = .ok (.aload_n 1, 1) := by decide +kernel
theorem dX1_replaceBlock_12 : decode cX1_replaceBlock 12 = .ok (.getfield 54, 3) := by decide +kernel
theorem dX1_replaceBlock_15 : decode cX1_replaceBlock 15 = .ok (.if_icmp .ge 23, 3) := by decide +kernel
theorem dX1_replaceBlock_18 : decode cX1_replaceBlock 18 = .ok (.aload_n 0, 1) := by decide +kernel
theorem dX1_replaceBlock_19 : decode cX1_replaceBlock 19 = .ok (.aload_n 1, 1) := by decide +kernel
theorem dX1_replaceBlock_20 : decode cX1_replaceBlock 20 = .ok (.getfield 49, 3) := by decide +kernel
theorem dX1_replaceBlock_23 : decode cX1_replaceBlock 23 = .ok (.aload_n 1, 1) := by decide +kernel
theorem dX1_replaceBlock_24 : decode cX1_replaceBlock 24 = .ok (.getfield 57, 3) := by decide +kernel
theorem dX1_replaceBlock_27 : decode cX1_replaceBlock 27 = .ok (.iload_n 2, 1) := by decide +kernel
theorem dX1_replaceBlock_28 : decode cX1_replaceBlock 28 = .ok (.iaload, 1) := by decide +kernel
theorem dX1_replaceBlock_29 : decode cX1_replaceBlock 29 = .ok (.invokevirtual 58, 3) := by decide +kernel
theorem dX1_replaceBlock_32 : decode cX1_replaceBlock 32 = .ok (.iinc 2 1, 3) := by decide +kernel
theorem dX1_replaceBlock_35 : decode cX1_replaceBlock 35 = .ok (.goto (-25), 3) := by decide +kernel
theorem dX1_replaceBlock_38 : decode cX1_replaceBlock 38 = .ok (.iconst 0, 1) := by decide +kernel
theorem dX1_replaceBlock_39 : decode cX1_replaceBlock 39 = .ok (.istore_n 2, 1) := by decide +kernel
theorem dX1_replaceBlock_40 : decode cX1_replaceBlock 40 = .ok (.iload_n 2, 1) := by decide +kernel
theorem dX1_replaceBlock_41 : decode cX1_replaceBlock 41 = .ok (.aload_n 1, 1) := by decide +kernel
theorem dX1_replaceBlock_42 : decode cX1_replaceBlock 42 = .ok (.getfield 62, 3) := by decide +kernel
theorem dX1_replaceBlock_45 : decode cX1_replaceBlock 45 = .ok (.if_icmp .ge 23, 3) := by decide +kernel
theorem dX1_replaceBlock_48 : decode cX1_replaceBlock 48 = .ok (.aload_n 0, 1) := by decide +kernel
theorem dX1_replaceBlock_49 : decode cX1_replaceBlock 49 = .ok (.aload_n 1, 1) := by decide +kernel
theorem dX1_replaceBlock_50 : decode cX1_replaceBlock 50 = .ok (.getfield 49, 3) := by decide +kernel
theorem dX1_replaceBlock_53 : decode cX1_replaceBlock 53 = .ok (.aload_n 1, 1) := by decide +kernel
theorem dX1_replaceBlock_54 : decode cX1_replaceBlock 54 = .ok (.getfield 65, 3) := by decide +kernel
theorem dX1_replaceBlock_57 : decode cX1_replaceBlock 57 = .ok (.iload_n 2, 1) := by decide +kernel
theorem dX1_replaceBlock_58 : decode cX1_replaceBlock 58 = .ok (.iaload, 1) := by decide +kernel
theorem dX1_replaceBlock_59 : decode cX1_replaceBlock 59 = .ok (.invokevirtual 66, 3) := by decide +kernel
theorem dX1_replaceBlock_62 : decode cX1_replaceBlock 62 = .ok (.iinc 2 1, 3) := by decide +kernel
theorem dX1_replaceBlock_65 : decode cX1_replaceBlock 65 = .ok (.goto (-25), 3) := by decide +kernel
theorem dX1_replaceBlock_68 : decode cX1_replaceBlock 68 = .ok (.return_, 1) := by decide +kernel
theorem dX1_addCopy_0 : decode cX1_addCopy 0 = .ok (.aload_n 0, 1) := by decide +kernel
theorem dX1_addCopy_1 : decode cX1_addCopy 1 = .ok (.getfield 9, 3) := by decide +kernel
theorem dX1_addCopy_4 : decode cX1_addCopy 4 = .ok (.istore_n 3, 1) := by decide +kernel
theorem dX1_addCopy_5 : decode cX1_addCopy 5 = .ok (.aload_n 0, 1) := by decide +kernel
theorem dX1_addCopy_6 : decode cX1_addCopy 6 = .ok (.dup, 1) := by decide +kernel
theorem dX1_addCopy_7 : decode cX1_addCopy 7 = .ok (.getfield 9, 3) := by decide +kernel
theorem dX1_addCopy_10 : decode cX1_addCopy 10 = .ok (.iconst 1, 1) := by decide +kernel
theorem dX1_addCopy_11 : decode cX1_addCopy 11 = .ok (.iadd, 1) := by decide +kernel
theorem dX1_addCopy_12 : decode cX1_addCopy 12 = .ok (.putfield 9, 3) := by decide +kernel
theorem dX1_addCopy_15 : decode cX1_addCopy 15 = .ok (.aload_n 0, 1) := by decide +kernel
theorem dX1_addCopy_16 : decode cX1_addCopy 16 = .ok (.iload_n 3, 1) := by decide +kernel
theorem dX1_addCopy_17 : decode cX1_addCopy 17 = .ok (.invokevirtual 28, 3) := by decide +kernel
theorem dX1_addCopy_20 : decode cX1_addCopy 20 = .ok (.iconst 0, 1) := by decide +kernel
theorem dX1_addCopy_21 : decode cX1_addCopy 21 = .ok (.istore 4, 2) := by decide +kernel
theorem dX1_addCopy_23 : decode cX1_addCopy 23 = .ok (.iload 4, 2) := by decide +kernel
theorem dX1_addCopy_25 : decode cX1_addCopy 25 = .ok (.aload_n 0, 1) := by decide +kernel
theorem dX1_addCopy_26 : decode cX1_addCopy 26 = .ok (.getfield 15, 3) := by decide +kernel
theorem dX1_addCopy_29 : decode cX1_addCopy 29 = .ok (.iload_n 1, 1) := by decide +kernel
theorem dX1_addCopy_30 : decode cX1_addCopy 30 = .ok (.iaload, 1) := by decide +kernel
theorem dX1_addCopy_31 : decode cX1_addCopy 31 = .ok (.if_icmp .ge 21, 3) := by decide +kernel
theorem dX1_addCopy_34 : decode cX1_addCopy 34 = .ok (.aload_n 0, 1) := by decide +kernel
theorem dX1_addCopy_35 : decode cX1_addCopy 35 = .ok (.iload_n 3, 1) := by decide +kernel
theorem dX1_addCopy_36 : decode cX1_addCopy 36 = .ok (.aload_n 0, 1) := by decide +kernel
theorem dX1_addCopy_37 : decode cX1_addCopy 37 = .ok (.iload_n 1, 1) := by decide +kernel
theorem dX1_addCopy_38 : decode cX1_addCopy 38 = .ok (.iload 4, 2) := by decide +kernel
theorem dX1_addCopy_40 : decode cX1_addCopy 40 = .ok (.invokevirtual 46, 3) := by decide +kernel
theorem dX1_addCopy_43 : decode cX1_addCopy 43 = .ok (.invokevirtual 58, 3) := by decide +kernel
theorem dX1_addCopy_46 : decode cX1_addCopy 46 = .ok (.iinc 4 1, 3) := by decide +kernel
theorem dX1_addCopy_49 : decode cX1_addCopy 49 = .ok (.goto (-26), 3) := by decide +kernel
theorem dX1_addCopy_52 : decode cX1_addCopy 52 = .ok (.aload_n 0, 1) := by decide +kernel
theorem dX1_addCopy_53 : decode cX1_addCopy 53 = .ok (.iload_n 3, 1) := by decide +kernel
theorem dX1_addCopy_54 : decode cX1_addCopy 54 = .ok (.iload_n 2, 1) := by decide +kernel
theorem dX1_addCopy_55 : decode cX1_addCopy 55 = .ok (.invokevirtual 66, 3) := by decide +kernel
theorem dX1_addCopy_58 : decode cX1_addCopy 58 = .ok (.iload_n 3, 1) := by decide +kernel
theorem dX1_addCopy_59 : decode cX1_addCopy 59 = .ok (.ireturn, 1) := by decide +kernel
theorem dX1_definitionBefore_0 : decode cX1_definitionBefore 0 = .ok (.iload_n 3, 1) := by decide +kernel
theorem dX1_definitionBefore_1 : decode cX1_definitionBefore 1 = .ok (.iconst 1, 1) := by decide +kernel
theorem dX1_definitionBefore_2 : decode cX1_definitionBefore 2 = .ok (.isub, 1) := by decide +kernel
theorem dX1_definitionBefore_3 : decode cX1_definitionBefore 3 = .ok (.istore 4, 2) := by decide +kernel
theorem dX1_definitionBefore_5 : decode cX1_definitionBefore 5 = .ok (.iload 4, 2) := by decide +kernel
theorem dX1_definitionBefore_7 : decode cX1_definitionBefore 7 = .ok (.ifCond .lt 28, 3) := by decide +kernel
theorem dX1_definitionBefore_10 : decode cX1_definitionBefore 10 = .ok (.aload_n 0, 1) := by decide +kernel
theorem dX1_definitionBefore_11 : decode cX1_definitionBefore 11 = .ok (.iload_n 1, 1) := by decide +kernel
theorem dX1_definitionBefore_12 : decode cX1_definitionBefore 12 = .ok (.iload 4, 2) := by decide +kernel
theorem dX1_definitionBefore_14 : decode cX1_definitionBefore 14 = .ok (.invokevirtual 46, 3) := by decide +kernel
theorem dX1_definitionBefore_17 : decode cX1_definitionBefore 17 = .ok (.iload_n 2, 1) := by decide +kernel
theorem dX1_definitionBefore_18 : decode cX1_definitionBefore 18 = .ok (.if_icmp .ne 11, 3) := by decide +kernel
theorem dX1_definitionBefore_21 : decode cX1_definitionBefore 21 = .ok (.bipush 10, 2) := by decide +kernel
theorem dX1_definitionBefore_23 : decode cX1_definitionBefore 23 = .ok (.iload_n 1, 1) := by decide +kernel
theorem dX1_definitionBefore_24 : decode cX1_definitionBefore 24 = .ok (.imul, 1) := by decide +kernel
theorem dX1_definitionBefore_25 : decode cX1_definitionBefore 25 = .ok (.iload 4, 2) := by decide +kernel
theorem dX1_definitionBefore_27 : decode cX1_definitionBefore 27 = .ok (.iadd, 1) := by decide +kernel
theorem dX1_definitionBefore_28 : decode cX1_definitionBefore 28 = .ok (.ireturn, 1) := by decide +kernel
theorem dX1_definitionBefore_29 : decode cX1_definitionBefore 29 = .ok (.iinc 4 (-1), 3) := by decide +kernel
theorem dX1_definitionBefore_32 : decode cX1_definitionBefore 32 = .ok (.goto (-27), 3) := by decide +kernel
theorem dX1_definitionBefore_35 : decode cX1_definitionBefore 35 = .ok (.iconst (-1), 1) := by decide +kernel
theorem dX1_definitionBefore_36 : decode cX1_definitionBefore 36 = .ok (.ireturn, 1) := by decide +kernel
theorem dX1_usesFirst_0 : decode cX1_usesFirst 0 = .ok (.iconst 0, 1) := by decide +kernel
theorem dX1_usesFirst_1 : decode cX1_usesFirst 1 = .ok (.istore_n 3, 1) := by decide +kernel
theorem dX1_usesFirst_2 : decode cX1_usesFirst 2 = .ok (.iload_n 3, 1) := by decide +kernel
theorem dX1_usesFirst_3 : decode cX1_usesFirst 3 = .ok (.aload_n 0, 1) := by decide +kernel
theorem dX1_usesFirst_4 : decode cX1_usesFirst 4 = .ok (.getfield 15, 3) := by decide +kernel
theorem dX1_usesFirst_7 : decode cX1_usesFirst 7 = .ok (.iload_n 1, 1) := by decide +kernel
theorem dX1_usesFirst_8 : decode cX1_usesFirst 8 = .ok (.iaload, 1) := by decide +kernel
theorem dX1_usesFirst_9 : decode cX1_usesFirst 9 = .ok (.if_icmp .ge 36, 3) := by decide +kernel
theorem dX1_usesFirst_12 : decode cX1_usesFirst 12 = .ok (.aload_n 0, 1) := by decide +kernel
theorem dX1_usesFirst_13 : decode cX1_usesFirst 13 = .ok (.iload_n 1, 1) := by decide +kernel
theorem dX1_usesFirst_14 : decode cX1_usesFirst 14 = .ok (.iload_n 3, 1) := by decide +kernel
theorem dX1_usesFirst_15 : decode cX1_usesFirst 15 = .ok (.invokevirtual 46, 3) := by decide +kernel
theorem dX1_usesFirst_18 : decode cX1_usesFirst 18 = .ok (.istore 4, 2) := by decide +kernel
theorem dX1_usesFirst_20 : decode cX1_usesFirst 20 = .ok (.iload 4, 2) := by decide +kernel
theorem dX1_usesFirst_22 : decode cX1_usesFirst 22 = .ok (.iload_n 2, 1) := by decide +kernel
theorem dX1_usesFirst_23 : decode cX1_usesFirst 23 = .ok (.if_icmp .ne 5, 3) := by decide +kernel
theorem dX1_usesFirst_26 : decode cX1_usesFirst 26 = .ok (.iconst 0, 1) := by decide +kernel
theorem dX1_usesFirst_27 : decode cX1_usesFirst 27 = .ok (.ireturn, 1) := by decide +kernel
theorem dX1_usesFirst_28 : decode cX1_usesFirst 28 = .ok (.iload 4, 2) := by decide +kernel
theorem dX1_usesFirst_30 : decode cX1_usesFirst 30 = .ok (.bipush 10, 2) := by decide +kernel
theorem dX1_usesFirst_32 : decode cX1_usesFirst 32 = .ok (.iload_n 2, 1) := by decide +kernel
theorem dX1_usesFirst_33 : decode cX1_usesFirst 33 = .ok (.iadd, 1) := by decide +kernel
theorem dX1_usesFirst_34 : decode cX1_usesFirst 34 = .ok (.if_icmp .ne 5, 3) := by decide +kernel
theorem dX1_usesFirst_37 : decode cX1_usesFirst 37 = .ok (.iconst 1, 1) := by decide +kernel
theorem dX1_usesFirst_38 : decode cX1_usesFirst 38 = .ok (.ireturn, 1) := by decide +kernel
theorem dX1_usesFirst_39 : decode cX1_usesFirst 39 = .ok (.iinc 3 1, 3) := by decide +kernel
theorem dX1_usesFirst_42 : decode cX1_usesFirst 42 = .ok (.goto (-40), 3) := by decide +kernel
theorem dX1_usesFirst_45 : decode cX1_usesFirst 45 = .ok (.iconst 0, 1) := by decide +kernel
theorem dX1_usesFirst_46 : decode cX1_usesFirst 46 = .ok (.ireturn, 1) := by decide +kernel
theorem dX2_init_0 : decode cX2_init 0 = .ok (.aload_n 0, 1) := by decide +kernel
theorem dX2_init_1 : decode cX2_init 1 = .ok (.invokespecial 3, 3) := by decide +kernel
theorem dX2_init_4 : decode cX2_init 4 = .ok (.aload_n 0, 1) := by decide +kernel
theorem dX2_init_5 : decode cX2_init 5 = .ok (.bipush 8, 2) := by decide +kernel
theorem dX2_init_7 : decode cX2_init 7 = .ok (.anewarray 9, 3) := by decide +kernel
theorem dX2_init_10 : decode cX2_init 10 = .ok (.putfield 11, 3) := by decide +kernel
theorem dX2_init_13 : decode cX2_init 13 = .ok (.aload_n 0, 1) := by decide +kernel
theorem dX2_init_14 : decode cX2_init 14 = .ok (.iconst 0, 1) := by decide +kernel
theorem dX2_init_15 : decode cX2_init 15 = .ok (.putfield 17, 3) := by decide +kernel
theorem dX2_init_18 : decode cX2_init 18 = .ok (.aload_n 0, 1) := by decide +kernel
theorem dX2_init_19 : decode cX2_init 19 = .ok (.iconst 0, 1) := by decide +kernel
theorem dX2_init_20 : decode cX2_init 20 = .ok (.putfield 21, 3) := by decide +kernel
theorem dX2_init_23 : decode cX2_init 23 = .ok (.iconst 0, 1) := by decide +kernel
theorem dX2_init_24 : decode cX2_init 24 = .ok (.istore_n 1, 1) := by decide +kernel
theorem dX2_init_25 : decode cX2_init 25 = .ok (.iload_n 1, 1) := by decide +kernel
theorem dX2_init_26 : decode cX2_init 26 = .ok (.bipush 8, 2) := by decide +kernel
theorem dX2_init_28 : decode cX2_init 28 = .ok (.if_icmp .ge 22, 3) := by decide +kernel
theorem dX2_init_31 : decode cX2_init 31 = .ok (.aload_n 0, 1) := by decide +kernel
theorem dX2_init_32 : decode cX2_init 32 = .ok (.getfield 11, 3) := by decide +kernel
theorem dX2_init_35 : decode cX2_init 35 = .ok (.iload_n 1, 1) := by decide +kernel
theorem dX2_init_36 : decode cX2_init 36 = .ok (.new 9, 3) := by decide +kernel
theorem dX2_init_39 : decode cX2_init 39 = .ok (.dup, 1) := by decide +kernel
theorem dX2_init_40 : decode cX2_init 40 = .ok (.invokespecial 24, 3) := by decide +kernel
theorem dX2_init_43 : decode cX2_init 43 = .ok (.aastore, 1) := by decide +kernel
theorem dX2_init_44 : decode cX2_init 44 = .ok (.iinc 1 1, 3) := by decide +kernel
theorem dX2_init_47 : decode cX2_init 47 = .ok (.goto (-22), 3) := by decide +kernel
theorem dX2_init_50 : decode cX2_init 50 = .ok (.return_, 1) := by decide +kernel
theorem dX2_remember_0 : decode cX2_remember 0 = .ok (.aload_n 0, 1) := by decide +kernel
theorem dX2_remember_1 : decode cX2_remember 1 = .ok (.aload_n 0, 1) := by decide +kernel
theorem dX2_remember_2 : decode cX2_remember 2 = .ok (.getfield 17, 3) := by decide +kernel
theorem dX2_remember_5 : decode cX2_remember 5 = .ok (.iconst 1, 1) := by decide +kernel
theorem dX2_remember_6 : decode cX2_remember 6 = .ok (.iadd, 1) := by decide +kernel
theorem dX2_remember_7 : decode cX2_remember 7 = .ok (.bipush 8, 2) := by decide +kernel
theorem dX2_remember_9 : decode cX2_remember 9 = .ok (.irem, 1) := by decide +kernel
theorem dX2_remember_10 : decode cX2_remember 10 = .ok (.putfield 17, 3) := by decide +kernel
theorem dX2_remember_13 : decode cX2_remember 13 = .ok (.aload_n 0, 1) := by decide +kernel
theorem dX2_remember_14 : decode cX2_remember 14 = .ok (.getfield 11, 3) := by decide +kernel
theorem dX2_remember_17 : decode cX2_remember 17 = .ok (.aload_n 0, 1) := by decide +kernel
theorem dX2_remember_18 : decode cX2_remember 18 = .ok (.getfield 17, 3) := by decide +kernel
theorem dX2_remember_21 : decode cX2_remember 21 = .ok (.aaload, 1) := by decide +kernel
theorem dX2_remember_22 : decode cX2_remember 22 = .ok (.aload_n 1, 1) := by decide +kernel
theorem dX2_remember_23 : decode cX2_remember 23 = .ok (.invokevirtual 25, 3) := by decide +kernel
theorem dX2_remember_26 : decode cX2_remember 26 = .ok (.aload_n 0, 1) := by decide +kernel
theorem dX2_remember_27 : decode cX2_remember 27 = .ok (.aload_n 0, 1) := by decide +kernel
theorem dX2_remember_28 : decode cX2_remember 28 = .ok (.getfield 21, 3) := by decide +kernel
theorem dX2_remember_31 : decode cX2_remember 31 = .ok (.iconst 1, 1) := by decide +kernel
theorem dX2_remember_32 : decode cX2_remember 32 = .ok (.iadd, 1) := by decide +kernel
theorem dX2_remember_33 : decode cX2_remember 33 = .ok (.bipush 8, 2) := by decide +kernel
theorem dX2_remember_35 : decode cX2_remember 35 = .ok (.invokestatic 29, 3) := by decide +kernel
theorem dX2_remember_38 : decode cX2_remember 38 = .ok (.putfield 21, 3) := by decide +kernel
theorem dX2_remember_41 : decode cX2_remember 41 = .ok (.return_, 1) := by decide +kernel
theorem dX2_copyLatest_0 : decode cX2_copyLatest 0 = .ok (.aload_n 1, 1) := by decide +kernel
theorem dX2_copyLatest_1 : decode cX2_copyLatest 1 = .ok (.aload_n 0, 1) := by decide +kernel
theorem dX2_copyLatest_2 : decode cX2_copyLatest 2 = .ok (.getfield 11, 3) := by decide +kernel
theorem dX2_copyLatest_5 : decode cX2_copyLatest 5 = .ok (.aload_n 0, 1) := by decide +kernel
theorem dX2_copyLatest_6 : decode cX2_copyLatest 6 = .ok (.getfield 17, 3) := by decide +kernel
theorem dX2_copyLatest_9 : decode cX2_copyLatest 9 = .ok (.aaload, 1) := by decide +kernel
theorem dX2_copyLatest_10 : decode cX2_copyLatest 10 = .ok (.invokevirtual 25, 3) := by decide +kernel
theorem dX2_copyLatest_13 : decode cX2_copyLatest 13 = .ok (.return_, 1) := by decide +kernel
theorem dX2_takeBack_0 : decode cX2_takeBack 0 = .ok (.aload_n 0, 1) := by decide +kernel
theorem dX2_takeBack_1 : decode cX2_takeBack 1 = .ok (.aload_n 1, 1) := by decide +kernel
theorem dX2_takeBack_2 : decode cX2_takeBack 2 = .ok (.invokevirtual 35, 3) := by decide +kernel
theorem dX2_takeBack_5 : decode cX2_takeBack 5 = .ok (.aload_n 0, 1) := by decide +kernel
theorem dX2_takeBack_6 : decode cX2_takeBack 6 = .ok (.aload_n 0, 1) := by decide +kernel
theorem dX2_takeBack_7 : decode cX2_takeBack 7 = .ok (.getfield 17, 3) := by decide +kernel
theorem dX2_takeBack_10 : decode cX2_takeBack 10 = .ok (.bipush 8, 2) := by decide +kernel
theorem dX2_takeBack_12 : decode cX2_takeBack 12 = .ok (.iadd, 1) := by decide +kernel
theorem dX2_takeBack_13 : decode cX2_takeBack 13 = .ok (.iconst 1, 1) := by decide +kernel
theorem dX2_takeBack_14 : decode cX2_takeBack 14 = .ok (.isub, 1) := by decide +kernel
theorem dX2_takeBack_15 : decode cX2_takeBack 15 = .ok (.bipush 8, 2) := by decide +kernel
theorem dX2_takeBack_17 : decode cX2_takeBack 17 = .ok (.irem, 1) := by decide +kernel
theorem dX2_takeBack_18 : decode cX2_takeBack 18 = .ok (.putfield 17, 3) := by decide +kernel
theorem dX2_takeBack_21 : decode cX2_takeBack 21 = .ok (.aload_n 0, 1) := by decide +kernel
theorem dX2_takeBack_22 : decode cX2_takeBack 22 = .ok (.dup, 1) := by decide +kernel
theorem dX2_takeBack_23 : decode cX2_takeBack 23 = .ok (.getfield 21, 3) := by decide +kernel
theorem dX2_takeBack_26 : decode cX2_takeBack 26 = .ok (.iconst 1, 1) := by decide +kernel
theorem dX2_takeBack_27 : decode cX2_takeBack 27 = .ok (.isub, 1) := by decide +kernel
theorem dX2_takeBack_28 : decode cX2_takeBack 28 = .ok (.putfield 21, 3) := by decide +kernel
theorem dX2_takeBack_31 : decode cX2_takeBack 31 = .ok (.return_, 1) := by decide +kernel
theorem dX2_forgetAll_0 : decode cX2_forgetAll 0 = .ok (.aload_n 0, 1) := by decide +kernel
theorem dX2_forgetAll_1 : decode cX2_forgetAll 1 = .ok (.iconst 0, 1) := by decide +kernel
theorem dX2_forgetAll_2 : decode cX2_forgetAll 2 = .ok (.putfield 21, 3) := by decide +kernel
theorem dX2_forgetAll_5 : decode cX2_forgetAll 5 = .ok (.return_, 1) := by decide +kernel
theorem dX3_init_0 : decode cX3_init 0 = .ok (.aload_n 0, 1) := by decide +kernel
theorem dX3_init_1 : decode cX3_init 1 = .ok (.invokespecial 3, 3) := by decide +kernel
theorem dX3_init_4 : decode cX3_init 4 = .ok (.aload_n 0, 1) := by decide +kernel
theorem dX3_init_5 : decode cX3_init 5 = .ok (.bipush 30, 2) := by decide +kernel
theorem dX3_init_7 : decode cX3_init 7 = .ok (.newarray .char, 2) := by decide +kernel
theorem dX3_init_9 : decode cX3_init 9 = .ok (.putfield 9, 3) := by decide +kernel
theorem dX3_init_12 : decode cX3_init 12 = .ok (.aload_n 0, 1) := by decide +kernel
theorem dX3_init_13 : decode cX3_init 13 = .ok (.iconst 0, 1) := by decide +kernel
theorem dX3_init_14 : decode cX3_init 14 = .ok (.putfield 15, 3) := by decide +kernel
theorem dX3_init_17 : decode cX3_init 17 = .ok (.aload_n 0, 1) := by decide +kernel
theorem dX3_init_18 : decode cX3_init 18 = .ok (.iconst 0, 1) := by decide +kernel
theorem dX3_init_19 : decode cX3_init 19 = .ok (.putfield 19, 3) := by decide +kernel
theorem dX3_init_22 : decode cX3_init 22 = .ok (.aload_n 0, 1) := by decide +kernel
theorem dX3_init_23 : decode cX3_init 23 = .ok (.bipush 6, 2) := by decide +kernel
theorem dX3_init_25 : decode cX3_init 25 = .ok (.newarray .int, 2) := by decide +kernel
theorem dX3_init_27 : decode cX3_init 27 = .ok (.putfield 22, 3) := by decide +kernel
theorem dX3_init_30 : decode cX3_init 30 = .ok (.aload_n 0, 1) := by decide +kernel
theorem dX3_init_31 : decode cX3_init 31 = .ok (.iconst 0, 1) := by decide +kernel
theorem dX3_init_32 : decode cX3_init 32 = .ok (.putfield 26, 3) := by decide +kernel
theorem dX3_init_35 : decode cX3_init 35 = .ok (.aload_n 0, 1) := by decide +kernel
theorem dX3_init_36 : decode cX3_init 36 = .ok (.iconst 3, 1) := by decide +kernel
theorem dX3_init_37 : decode cX3_init 37 = .ok (.newarray .int, 2) := by decide +kernel
theorem dX3_init_39 : decode cX3_init 39 = .ok (.putfield 29, 3) := by decide +kernel
theorem dX3_init_42 : decode cX3_init 42 = .ok (.aload_n 0, 1) := by decide +kernel
theorem dX3_init_43 : decode cX3_init 43 = .ok (.iconst 0, 1) := by decide +kernel
theorem dX3_init_44 : decode cX3_init 44 = .ok (.putfield 32, 3) := by decide +kernel
theorem dX3_init_47 : decode cX3_init 47 = .ok (.return_, 1) := by decide +kernel
theorem dX3_put_0 : decode cX3_put 0 = .ok (.aload_n 0, 1) := by decide +kernel
theorem dX3_put_1 : decode cX3_put 1 = .ok (.getfield 15, 3) := by decide +kernel
theorem dX3_put_4 : decode cX3_put 4 = .ok (.bipush 30, 2) := by decide +kernel
theorem dX3_put_6 : decode cX3_put 6 = .ok (.if_icmp .ge 23, 3) := by decide +kernel
theorem dX3_put_9 : decode cX3_put 9 = .ok (.aload_n 0, 1) := by decide +kernel
theorem dX3_put_10 : decode cX3_put 10 = .ok (.getfield 9, 3) := by decide +kernel
theorem dX3_put_13 : decode cX3_put 13 = .ok (.aload_n 0, 1) := by decide +kernel
theorem dX3_put_14 : decode cX3_put 14 = .ok (.getfield 15, 3) := by decide +kernel
theorem dX3_put_17 : decode cX3_put 17 = .ok (.iload_n 1, 1) := by decide +kernel
theorem dX3_put_18 : decode cX3_put 18 = .ok (.castore, 1) := by decide +kernel
theorem dX3_put_19 : decode cX3_put 19 = .ok (.aload_n 0, 1) := by decide +kernel
theorem dX3_put_20 : decode cX3_put 20 = .ok (.dup, 1) := by decide +kernel
theorem dX3_put_21 : decode cX3_put 21 = .ok (.getfield 15, 3) := by decide +kernel
theorem dX3_put_24 : decode cX3_put 24 = .ok (.iconst 1, 1) := by decide +kernel
theorem dX3_put_25 : decode cX3_put 25 = .ok (.iadd, 1) := by decide +kernel
theorem dX3_put_26 : decode cX3_put 26 = .ok (.putfield 15, 3) := by decide +kernel
theorem dX3_put_29 : decode cX3_put 29 = .ok (.return_, 1) := by decide +kernel
theorem dX3_read_0 : decode cX3_read 0 = .ok (.aload_n 0, 1) := by decide +kernel
theorem dX3_read_1 : decode cX3_read 1 = .ok (.aload_n 0, 1) := by decide +kernel
theorem dX3_read_2 : decode cX3_read 2 = .ok (.iconst 0, 1) := by decide +kernel
theorem dX3_read_3 : decode cX3_read 3 = .ok (.invokevirtual 35, 3) := by decide +kernel
theorem dX3_read_6 : decode cX3_read 6 = .ok (.bipush 97, 2) := by decide +kernel
theorem dX3_read_8 : decode cX3_read 8 = .ok (.isub, 1) := by decide +kernel
theorem dX3_read_9 : decode cX3_read 9 = .ok (.putfield 19, 3) := by decide +kernel
theorem dX3_read_12 : decode cX3_read 12 = .ok (.aload_n 0, 1) := by decide +kernel
theorem dX3_read_13 : decode cX3_read 13 = .ok (.iconst 0, 1) := by decide +kernel
theorem dX3_read_14 : decode cX3_read 14 = .ok (.putfield 26, 3) := by decide +kernel
theorem dX3_read_17 : decode cX3_read 17 = .ok (.aload_n 0, 1) := by decide +kernel
theorem dX3_read_18 : decode cX3_read 18 = .ok (.iconst 0, 1) := by decide +kernel
theorem dX3_read_19 : decode cX3_read 19 = .ok (.putfield 32, 3) := by decide +kernel
theorem dX3_read_22 : decode cX3_read 22 = .ok (.aload_n 0, 1) := by decide +kernel
theorem dX3_read_23 : decode cX3_read 23 = .ok (.getfield 19, 3) := by decide +kernel
theorem dX3_read_26 : decode cX3_read 26 = .ok (.ifCond .lt 11, 3) := by decide +kernel
theorem dX3_read_29 : decode cX3_read 29 = .ok (.aload_n 0, 1) := by decide +kernel
theorem dX3_read_30 : decode cX3_read 30 = .ok (.getfield 19, 3) := by decide +kernel
theorem dX3_read_33 : decode cX3_read 33 = .ok (.iload_n 1, 1) := by decide +kernel
theorem dX3_read_34 : decode cX3_read 34 = .ok (.if_icmp .lt 5, 3) := by decide +kernel
theorem dX3_read_37 : decode cX3_read 37 = .ok (.iconst 0, 1) := by decide +kernel
theorem dX3_read_38 : decode cX3_read 38 = .ok (.ireturn, 1) := by decide +kernel
theorem dX3_read_39 : decode cX3_read 39 = .ok (.aload_n 0, 1) := by decide +kernel
theorem dX3_read_40 : decode cX3_read 40 = .ok (.iconst 1, 1) := by decide +kernel
theorem dX3_read_41 : decode cX3_read 41 = .ok (.invokevirtual 35, 3) := by decide +kernel
theorem dX3_read_44 : decode cX3_read 44 = .ok (.bipush 58, 2) := by decide +kernel
theorem dX3_read_46 : decode cX3_read 46 = .ok (.if_icmp .eq 5, 3) := by decide +kernel
theorem dX3_read_49 : decode cX3_read 49 = .ok (.iconst 1, 1) := by decide +kernel
theorem dX3_read_50 : decode cX3_read 50 = .ok (.ireturn, 1) := by decide +kernel
theorem dX3_read_51 : decode cX3_read 51 = .ok (.aload_n 0, 1) := by decide +kernel
theorem dX3_read_52 : decode cX3_read 52 = .ok (.invokevirtual 39, 3) := by decide +kernel
theorem dX3_read_55 : decode cX3_read 55 = .ok (.iconst 2, 1) := by decide +kernel
theorem dX3_read_56 : decode cX3_read 56 = .ok (.iconst 2, 1) := by decide +kernel
theorem dX3_read_57 : decode cX3_read 57 = .ok (.aload_n 0, 1) := by decide +kernel
theorem dX3_read_58 : decode cX3_read 58 = .ok (.getfield 26, 3) := by decide +kernel
theorem dX3_read_61 : decode cX3_read 61 = .ok (.imul, 1) := by decide +kernel
theorem dX3_read_62 : decode cX3_read 62 = .ok (.iadd, 1) := by decide +kernel
theorem dX3_read_63 : decode cX3_read 63 = .ok (.istore_n 2, 1) := by decide +kernel
theorem dX3_read_64 : decode cX3_read 64 = .ok (.iload_n 2, 1) := by decide +kernel
theorem dX3_read_65 : decode cX3_read 65 = .ok (.aload_n 0, 1) := by decide +kernel
theorem dX3_read_66 : decode cX3_read 66 = .ok (.getfield 15, 3) := by decide +kernel
theorem dX3_read_69 : decode cX3_read 69 = .ok (.if_icmp .ne 5, 3) := by decide +kernel
theorem dX3_read_72 : decode cX3_read 72 = .ok (.iconst (-1), 1) := by decide +kernel
theorem dX3_read_73 : decode cX3_read 73 = .ok (.ireturn, 1) := by decide +kernel
theorem dX3_read_74 : decode cX3_read 74 = .ok (.aload_n 0, 1) := by decide +kernel
theorem dX3_read_75 : decode cX3_read 75 = .ok (.getfield 26, 3) := by decide +kernel
theorem dX3_read_78 : decode cX3_read 78 = .ok (.bipush 6, 2) := by decide +kernel
theorem dX3_read_80 : decode cX3_read 80 = .ok (.if_icmp .ge 18, 3) := by decide +kernel
theorem dX3_read_83 : decode cX3_read 83 = .ok (.aload_n 0, 1) := by decide +kernel
theorem dX3_read_84 : decode cX3_read 84 = .ok (.iload_n 2, 1) := by decide +kernel
theorem dX3_read_85 : decode cX3_read 85 = .ok (.invokevirtual 35, 3) := by decide +kernel
theorem dX3_read_88 : decode cX3_read 88 = .ok (.invokestatic 42, 3) := by decide +kernel
theorem dX3_read_91 : decode cX3_read 91 = .ok (.ifCond .eq 7, 3) := by decide +kernel
theorem dX3_read_94 : decode cX3_read 94 = .ok (.iload_n 2, 1) := by decide +kernel
theorem dX3_read_95 : decode cX3_read 95 = .ok (.iconst 1, 1) := by decide +kernel
theorem dX3_read_96 : decode cX3_read 96 = .ok (.iadd, 1) := by decide +kernel
theorem dX3_read_97 : decode cX3_read 97 = .ok (.ireturn, 1) := by decide +kernel
theorem dX3_read_98 : decode cX3_read 98 = .ok (.aload_n 0, 1) := by decide +kernel
theorem dX3_read_99 : decode cX3_read 99 = .ok (.iload_n 2, 1) := by decide +kernel
theorem dX3_read_100 : decode cX3_read 100 = .ok (.invokevirtual 35, 3) := by decide +kernel
theorem dX3_read_103 : decode cX3_read 103 = .ok (.bipush 62, 2) := by decide +kernel
theorem dX3_read_105 : decode cX3_read 105 = .ok (.if_icmp .ne 8, 3) := by decide +kernel
theorem dX3_read_108 : decode cX3_read 108 = .ok (.iload_n 1, 1) := by decide +kernel
theorem dX3_read_109 : decode cX3_read 109 = .ok (.iconst 2, 1) := by decide +kernel
theorem dX3_read_110 : decode cX3_read 110 = .ok (.if_icmp .ge 5, 3) := by decide +kernel
theorem dX3_read_113 : decode cX3_read 113 = .ok (.iload_n 2, 1) := by decide +kernel
theorem dX3_read_114 : decode cX3_read 114 = .ok (.ireturn, 1) := by decide +kernel
theorem dX3_read_115 : decode cX3_read 115 = .ok (.aload_n 0, 1) := by decide +kernel
theorem dX3_read_116 : decode cX3_read 116 = .ok (.iload_n 2, 1) := by decide +kernel
theorem dX3_read_117 : decode cX3_read 117 = .ok (.iconst 1, 1) := by decide +kernel
theorem dX3_read_118 : decode cX3_read 118 = .ok (.iadd, 1) := by decide +kernel
theorem dX3_read_119 : decode cX3_read 119 = .ok (.iload_n 1, 1) := by decide +kernel
theorem dX3_read_120 : decode cX3_read 120 = .ok (.invokevirtual 46, 3) := by decide +kernel
theorem dX3_read_123 : decode cX3_read 123 = .ok (.iload_n 2, 1) := by decide +kernel
theorem dX3_read_124 : decode cX3_read 124 = .ok (.iconst 1, 1) := by decide +kernel
theorem dX3_read_125 : decode cX3_read 125 = .ok (.iadd, 1) := by decide +kernel
theorem dX3_read_126 : decode cX3_read 126 = .ok (.aload_n 0, 1) := by decide +kernel
theorem dX3_read_127 : decode cX3_read 127 = .ok (.getfield 32, 3) := by decide +kernel
theorem dX3_read_130 : decode cX3_read 130 = .ok (.iadd, 1) := by decide +kernel
theorem dX3_read_131 : decode cX3_read 131 = .ok (.istore_n 3, 1) := by decide +kernel
theorem dX3_read_132 : decode cX3_read 132 = .ok (.aload_n 0, 1) := by decide +kernel
theorem dX3_read_133 : decode cX3_read 133 = .ok (.getfield 32, 3) := by decide +kernel
theorem dX3_read_136 : decode cX3_read 136 = .ok (.ifCond .le 15, 3) := by decide +kernel
theorem dX3_read_139 : decode cX3_read 139 = .ok (.iload_n 3, 1) := by decide +kernel
theorem dX3_read_140 : decode cX3_read 140 = .ok (.aload_n 0, 1) := by decide +kernel
theorem dX3_read_141 : decode cX3_read 141 = .ok (.getfield 15, 3) := by decide +kernel
theorem dX3_read_144 : decode cX3_read 144 = .ok (.if_icmp .ne 7, 3) := by decide +kernel
theorem dX3_read_147 : decode cX3_read 147 = .ok (.iconst (-1), 1) := by decide +kernel
theorem dX3_read_148 : decode cX3_read 148 = .ok (.goto 4, 3) := by decide +kernel
theorem dX3_read_151 : decode cX3_read 151 = .ok (.iload_n 3, 1) := by decide +kernel
theorem dX3_read_152 : decode cX3_read 152 = .ok (.ireturn, 1) := by decide +kernel
theorem dX3_readActions_0 : decode cX3_readActions 0 = .ok (.iconst 0, 1) := by decide +kernel
theorem dX3_readActions_1 : decode cX3_readActions 1 = .ok (.istore_n 1, 1) := by decide +kernel
theorem dX3_readActions_2 : decode cX3_readActions 2 = .ok (.iload_n 1, 1) := by decide +kernel
theorem dX3_readActions_3 : decode cX3_readActions 3 = .ok (.bipush 6, 2) := by decide +kernel
theorem dX3_readActions_5 : decode cX3_readActions 5 = .ok (.if_icmp .ge 81, 3) := by decide +kernel
theorem dX3_readActions_8 : decode cX3_readActions 8 = .ok (.aload_n 0, 1) := by decide +kernel
theorem dX3_readActions_9 : decode cX3_readActions 9 = .ok (.iconst 2, 1) := by decide +kernel
theorem dX3_readActions_10 : decode cX3_readActions 10 = .ok (.iconst 2, 1) := by decide +kernel
theorem dX3_readActions_11 : decode cX3_readActions 11 = .ok (.iload_n 1, 1) := by decide +kernel
theorem dX3_readActions_12 : decode cX3_readActions 12 = .ok (.imul, 1) := by decide +kernel
theorem dX3_readActions_13 : decode cX3_readActions 13 = .ok (.iadd, 1) := by decide +kernel
theorem dX3_readActions_14 : decode cX3_readActions 14 = .ok (.invokevirtual 35, 3) := by decide +kernel
theorem dX3_readActions_17 : decode cX3_readActions 17 = .ok (.istore_n 2, 1) := by decide +kernel
theorem dX3_readActions_18 : decode cX3_readActions 18 = .ok (.aload_n 0, 1) := by decide +kernel
theorem dX3_readActions_19 : decode cX3_readActions 19 = .ok (.iconst 3, 1) := by decide +kernel
theorem dX3_readActions_20 : decode cX3_readActions 20 = .ok (.iconst 2, 1) := by decide +kernel
theorem dX3_readActions_21 : decode cX3_readActions 21 = .ok (.iload_n 1, 1) := by decide +kernel
theorem dX3_readActions_22 : decode cX3_readActions 22 = .ok (.imul, 1) := by decide +kernel
theorem dX3_readActions_23 : decode cX3_readActions 23 = .ok (.iadd, 1) := by decide +kernel
theorem dX3_readActions_24 : decode cX3_readActions 24 = .ok (.invokevirtual 35, 3) := by decide +kernel
theorem dX3_readActions_27 : decode cX3_readActions 27 = .ok (.bipush 48, 2) := by decide +kernel
theorem dX3_readActions_29 : decode cX3_readActions 29 = .ok (.isub, 1) := by decide +kernel
theorem dX3_readActions_30 : decode cX3_readActions 30 = .ok (.istore_n 3, 1) := by decide +kernel
theorem dX3_readActions_31 : decode cX3_readActions 31 = .ok (.iload_n 2, 1) := by decide +kernel
theorem dX3_readActions_32 : decode cX3_readActions 32 = .ok (.invokestatic 42, 3) := by decide +kernel
theorem dX3_readActions_35 : decode cX3_readActions 35 = .ok (.ifCond .eq 51, 3) := by decide +kernel
theorem dX3_readActions_38 : decode cX3_readActions 38 = .ok (.iload_n 3, 1) := by decide +kernel
theorem dX3_readActions_39 : decode cX3_readActions 39 = .ok (.ifCond .lt 47, 3) := by decide +kernel
theorem dX3_readActions_42 : decode cX3_readActions 42 = .ok (.iload_n 3, 1) := by decide +kernel
theorem dX3_readActions_43 : decode cX3_readActions 43 = .ok (.iconst 4, 1) := by decide +kernel
theorem dX3_readActions_44 : decode cX3_readActions 44 = .ok (.if_icmp .lt 6, 3) := by decide +kernel
theorem dX3_readActions_47 : decode cX3_readActions 47 = .ok (.goto 39, 3) := by decide +kernel
theorem dX3_readActions_50 : decode cX3_readActions 50 = .ok (.aload_n 0, 1) := by decide +kernel
theorem dX3_readActions_51 : decode cX3_readActions 51 = .ok (.getfield 22, 3) := by decide +kernel
theorem dX3_readActions_54 : decode cX3_readActions 54 = .ok (.iload_n 1, 1) := by decide +kernel
theorem dX3_readActions_55 : decode cX3_readActions 55 = .ok (.iload_n 2, 1) := by decide +kernel
theorem dX3_readActions_56 : decode cX3_readActions 56 = .ok (.bipush 117, 2) := by decide +kernel
theorem dX3_readActions_58 : decode cX3_readActions 58 = .ok (.if_icmp .ne 10, 3) := by decide +kernel
theorem dX3_readActions_61 : decode cX3_readActions 61 = .ok (.bipush 10, 2) := by decide +kernel
theorem dX3_readActions_63 : decode cX3_readActions 63 = .ok (.iload_n 3, 1) := by decide +kernel
theorem dX3_readActions_64 : decode cX3_readActions 64 = .ok (.iadd, 1) := by decide +kernel
theorem dX3_readActions_65 : decode cX3_readActions 65 = .ok (.goto 4, 3) := by decide +kernel
theorem dX3_readActions_68 : decode cX3_readActions 68 = .ok (.iload_n 3, 1) := by decide +kernel
theorem dX3_readActions_69 : decode cX3_readActions 69 = .ok (.iastore, 1) := by decide +kernel
theorem dX3_readActions_70 : decode cX3_readActions 70 = .ok (.aload_n 0, 1) := by decide +kernel
theorem dX3_readActions_71 : decode cX3_readActions 71 = .ok (.dup, 1) := by decide +kernel
theorem dX3_readActions_72 : decode cX3_readActions 72 = .ok (.getfield 26, 3) := by decide +kernel
theorem dX3_readActions_75 : decode cX3_readActions 75 = .ok (.iconst 1, 1) := by decide +kernel
theorem dX3_readActions_76 : decode cX3_readActions 76 = .ok (.iadd, 1) := by decide +kernel
theorem dX3_readActions_77 : decode cX3_readActions 77 = .ok (.putfield 26, 3) := by decide +kernel
theorem dX3_readActions_80 : decode cX3_readActions 80 = .ok (.iinc 1 1, 3) := by decide +kernel
theorem dX3_readActions_83 : decode cX3_readActions 83 = .ok (.goto (-81), 3) := by decide +kernel
theorem dX3_readActions_86 : decode cX3_readActions 86 = .ok (.return_, 1) := by decide +kernel
theorem dX3_readTargets_0 : decode cX3_readTargets 0 = .ok (.iconst 0, 1) := by decide +kernel
theorem dX3_readTargets_1 : decode cX3_readTargets 1 = .ok (.istore_n 3, 1) := by decide +kernel
theorem dX3_readTargets_2 : decode cX3_readTargets 2 = .ok (.iload_n 3, 1) := by decide +kernel
theorem dX3_readTargets_3 : decode cX3_readTargets 3 = .ok (.iconst 3, 1) := by decide +kernel
theorem dX3_readTargets_4 : decode cX3_readTargets 4 = .ok (.if_icmp .ge 63, 3) := by decide +kernel
theorem dX3_readTargets_7 : decode cX3_readTargets 7 = .ok (.aload_n 0, 1) := by decide +kernel
theorem dX3_readTargets_8 : decode cX3_readTargets 8 = .ok (.iload_n 1, 1) := by decide +kernel
theorem dX3_readTargets_9 : decode cX3_readTargets 9 = .ok (.iload_n 3, 1) := by decide +kernel
theorem dX3_readTargets_10 : decode cX3_readTargets 10 = .ok (.iadd, 1) := by decide +kernel
theorem dX3_readTargets_11 : decode cX3_readTargets 11 = .ok (.invokevirtual 35, 3) := by decide +kernel
theorem dX3_readTargets_14 : decode cX3_readTargets 14 = .ok (.bipush 97, 2) := by decide +kernel
theorem dX3_readTargets_16 : decode cX3_readTargets 16 = .ok (.isub, 1) := by decide +kernel
theorem dX3_readTargets_17 : decode cX3_readTargets 17 = .ok (.istore 4, 2) := by decide +kernel
theorem dX3_readTargets_19 : decode cX3_readTargets 19 = .ok (.iload 4, 2) := by decide +kernel
theorem dX3_readTargets_21 : decode cX3_readTargets 21 = .ok (.iconst 1, 1) := by decide +kernel
theorem dX3_readTargets_22 : decode cX3_readTargets 22 = .ok (.if_icmp .lt 45, 3) := by decide +kernel
theorem dX3_readTargets_25 : decode cX3_readTargets 25 = .ok (.iload 4, 2) := by decide +kernel
theorem dX3_readTargets_27 : decode cX3_readTargets 27 = .ok (.iload_n 2, 1) := by decide +kernel
theorem dX3_readTargets_28 : decode cX3_readTargets 28 = .ok (.if_icmp .ge 39, 3) := by decide +kernel
theorem dX3_readTargets_31 : decode cX3_readTargets 31 = .ok (.aload_n 0, 1) := by decide +kernel
theorem dX3_readTargets_32 : decode cX3_readTargets 32 = .ok (.iload 4, 2) := by decide +kernel
theorem dX3_readTargets_34 : decode cX3_readTargets 34 = .ok (.invokevirtual 50, 3) := by decide +kernel
theorem dX3_readTargets_37 : decode cX3_readTargets 37 = .ok (.ifCond .eq 6, 3) := by decide +kernel
theorem dX3_readTargets_40 : decode cX3_readTargets 40 = .ok (.goto 27, 3) := by decide +kernel
theorem dX3_readTargets_43 : decode cX3_readTargets 43 = .ok (.aload_n 0, 1) := by decide +kernel
theorem dX3_readTargets_44 : decode cX3_readTargets 44 = .ok (.getfield 29, 3) := by decide +kernel
theorem dX3_readTargets_47 : decode cX3_readTargets 47 = .ok (.iload_n 3, 1) := by decide +kernel
theorem dX3_readTargets_48 : decode cX3_readTargets 48 = .ok (.iload 4, 2) := by decide +kernel
theorem dX3_readTargets_50 : decode cX3_readTargets 50 = .ok (.iastore, 1) := by decide +kernel
theorem dX3_readTargets_51 : decode cX3_readTargets 51 = .ok (.aload_n 0, 1) := by decide +kernel
theorem dX3_readTargets_52 : decode cX3_readTargets 52 = .ok (.dup, 1) := by decide +kernel
theorem dX3_readTargets_53 : decode cX3_readTargets 53 = .ok (.getfield 32, 3) := by decide +kernel
theorem dX3_readTargets_56 : decode cX3_readTargets 56 = .ok (.iconst 1, 1) := by decide +kernel
theorem dX3_readTargets_57 : decode cX3_readTargets 57 = .ok (.iadd, 1) := by decide +kernel
theorem dX3_readTargets_58 : decode cX3_readTargets 58 = .ok (.putfield 32, 3) := by decide +kernel
theorem dX3_readTargets_61 : decode cX3_readTargets 61 = .ok (.iinc 3 1, 3) := by decide +kernel
theorem dX3_readTargets_64 : decode cX3_readTargets 64 = .ok (.goto (-62), 3) := by decide +kernel
theorem dX3_readTargets_67 : decode cX3_readTargets 67 = .ok (.return_, 1) := by decide +kernel
theorem dX3_isTarget_0 : decode cX3_isTarget 0 = .ok (.iconst 0, 1) := by decide +kernel
theorem dX3_isTarget_1 : decode cX3_isTarget 1 = .ok (.istore_n 2, 1) := by decide +kernel
theorem dX3_isTarget_2 : decode cX3_isTarget 2 = .ok (.iload_n 2, 1) := by decide +kernel
theorem dX3_isTarget_3 : decode cX3_isTarget 3 = .ok (.aload_n 0, 1) := by decide +kernel
theorem dX3_isTarget_4 : decode cX3_isTarget 4 = .ok (.getfield 32, 3) := by decide +kernel
theorem dX3_isTarget_7 : decode cX3_isTarget 7 = .ok (.if_icmp .ge 21, 3) := by decide +kernel
theorem dX3_isTarget_10 : decode cX3_isTarget 10 = .ok (.aload_n 0, 1) := by decide +kernel
theorem dX3_isTarget_11 : decode cX3_isTarget 11 = .ok (.getfield 29, 3) := by decide +kernel
theorem dX3_isTarget_14 : decode cX3_isTarget 14 = .ok (.iload_n 2, 1) := by decide +kernel
theorem dX3_isTarget_15 : decode cX3_isTarget 15 = .ok (.iaload, 1) := by decide +kernel
theorem dX3_isTarget_16 : decode cX3_isTarget 16 = .ok (.iload_n 1, 1) := by decide +kernel
theorem dX3_isTarget_17 : decode cX3_isTarget 17 = .ok (.if_icmp .ne 5, 3) := by decide +kernel
theorem dX3_isTarget_20 : decode cX3_isTarget 20 = .ok (.iconst 1, 1) := by decide +kernel
theorem dX3_isTarget_21 : decode cX3_isTarget 21 = .ok (.ireturn, 1) := by decide +kernel
theorem dX3_isTarget_22 : decode cX3_isTarget 22 = .ok (.iinc 2 1, 3) := by decide +kernel
theorem dX3_isTarget_25 : decode cX3_isTarget 25 = .ok (.goto (-23), 3) := by decide +kernel
theorem dX3_isTarget_28 : decode cX3_isTarget 28 = .ok (.iconst 0, 1) := by decide +kernel
theorem dX3_isTarget_29 : decode cX3_isTarget 29 = .ok (.ireturn, 1) := by decide +kernel
theorem dX3_isActionLetter_0 : decode cX3_isActionLetter 0 = .ok (.iload_n 0, 1) := by decide +kernel
theorem dX3_isActionLetter_1 : decode cX3_isActionLetter 1 = .ok (.bipush 100, 2) := by decide +kernel
theorem dX3_isActionLetter_3 : decode cX3_isActionLetter 3 = .ok (.if_icmp .eq 9, 3) := by decide +kernel
theorem dX3_isActionLetter_6 : decode cX3_isActionLetter 6 = .ok (.iload_n 0, 1) := by decide +kernel
theorem dX3_isActionLetter_7 : decode cX3_isActionLetter 7 = .ok (.bipush 117, 2) := by decide +kernel
theorem dX3_isActionLetter_9 : decode cX3_isActionLetter 9 = .ok (.if_icmp .ne 7, 3) := by decide +kernel
theorem dX3_isActionLetter_12 : decode cX3_isActionLetter 12 = .ok (.iconst 1, 1) := by decide +kernel
theorem dX3_isActionLetter_13 : decode cX3_isActionLetter 13 = .ok (.goto 4, 3) := by decide +kernel
theorem dX3_isActionLetter_16 : decode cX3_isActionLetter 16 = .ok (.iconst 0, 1) := by decide +kernel
theorem dX3_isActionLetter_17 : decode cX3_isActionLetter 17 = .ok (.ireturn, 1) := by decide +kernel
theorem dX3_letterAt_0 : decode cX3_letterAt 0 = .ok (.iload_n 1, 1) := by decide +kernel
theorem dX3_letterAt_1 : decode cX3_letterAt 1 = .ok (.ifCond .lt 20, 3) := by decide +kernel
theorem dX3_letterAt_4 : decode cX3_letterAt 4 = .ok (.iload_n 1, 1) := by decide +kernel
theorem dX3_letterAt_5 : decode cX3_letterAt 5 = .ok (.aload_n 0, 1) := by decide +kernel
theorem dX3_letterAt_6 : decode cX3_letterAt 6 = .ok (.getfield 15, 3) := by decide +kernel
theorem dX3_letterAt_9 : decode cX3_letterAt 9 = .ok (.if_icmp .ge 12, 3) := by decide +kernel
theorem dX3_letterAt_12 : decode cX3_letterAt 12 = .ok (.aload_n 0, 1) := by decide +kernel
theorem dX3_letterAt_13 : decode cX3_letterAt 13 = .ok (.getfield 9, 3) := by decide +kernel
theorem dX3_letterAt_16 : decode cX3_letterAt 16 = .ok (.iload_n 1, 1) := by decide +kernel
theorem dX3_letterAt_17 : decode cX3_letterAt 17 = .ok (.caload, 1) := by decide +kernel
theorem dX3_letterAt_18 : decode cX3_letterAt 18 = .ok (.goto 4, 3) := by decide +kernel
theorem dX3_letterAt_21 : decode cX3_letterAt 21 = .ok (.iconst 0, 1) := by decide +kernel
theorem dX3_letterAt_22 : decode cX3_letterAt 22 = .ok (.ireturn, 1) := by decide +kernel
theorem dX4_init_0 : decode cX4_init 0 = .ok (.aload_n 0, 1) := by decide +kernel
theorem dX4_init_1 : decode cX4_init 1 = .ok (.invokespecial 3, 3) := by decide +kernel
theorem dX4_init_4 : decode cX4_init 4 = .ok (.aload_n 0, 1) := by decide +kernel
theorem dX4_init_5 : decode cX4_init 5 = .ok (.bipush 31, 2) := by decide +kernel
theorem dX4_init_7 : decode cX4_init 7 = .ok (.newarray .int, 2) := by decide +kernel
theorem dX4_init_9 : decode cX4_init 9 = .ok (.putfield 9, 3) := by decide +kernel
theorem dX4_init_12 : decode cX4_init 12 = .ok (.aload_n 0, 1) := by decide +kernel
theorem dX4_init_13 : decode cX4_init 13 = .ok (.iconst 0, 1) := by decide +kernel
theorem dX4_init_14 : decode cX4_init 14 = .ok (.putfield 15, 3) := by decide +kernel
theorem dX4_init_17 : decode cX4_init 17 = .ok (.aload_n 0, 1) := by decide +kernel
theorem dX4_init_18 : decode cX4_init 18 = .ok (.bipush 14, 2) := by decide +kernel
theorem dX4_init_20 : decode cX4_init 20 = .ok (.newarray .long, 2) := by decide +kernel
theorem dX4_init_22 : decode cX4_init 22 = .ok (.putfield 19, 3) := by decide +kernel
theorem dX4_init_25 : decode cX4_init 25 = .ok (.aload_n 0, 1) := by decide +kernel
theorem dX4_init_26 : decode cX4_init 26 = .ok (.bipush 14, 2) := by decide +kernel
theorem dX4_init_28 : decode cX4_init 28 = .ok (.newarray .long, 2) := by decide +kernel
theorem dX4_init_30 : decode cX4_init 30 = .ok (.putfield 23, 3) := by decide +kernel
theorem dX4_init_33 : decode cX4_init 33 = .ok (.return_, 1) := by decide +kernel
theorem dX4_end_0 : decode cX4_end 0 = .ok (.aload_n 0, 1) := by decide +kernel
theorem dX4_end_1 : decode cX4_end 1 = .ok (.getfield 9, 3) := by decide +kernel
theorem dX4_end_4 : decode cX4_end 4 = .ok (.aload_n 0, 1) := by decide +kernel
theorem dX4_end_5 : decode cX4_end 5 = .ok (.getfield 15, 3) := by decide +kernel
theorem dX4_end_8 : decode cX4_end 8 = .ok (.iaload, 1) := by decide +kernel
theorem dX4_end_9 : decode cX4_end 9 = .ok (.ireturn, 1) := by decide +kernel
theorem dX4_goTo_0 : decode cX4_goTo 0 = .ok (.aload_n 0, 1) := by decide +kernel
theorem dX4_goTo_1 : decode cX4_goTo 1 = .ok (.getfield 15, 3) := by decide +kernel
theorem dX4_goTo_4 : decode cX4_goTo 4 = .ok (.bipush 30, 2) := by decide +kernel
theorem dX4_goTo_6 : decode cX4_goTo 6 = .ok (.if_icmp .ge 23, 3) := by decide +kernel
theorem dX4_goTo_9 : decode cX4_goTo 9 = .ok (.aload_n 0, 1) := by decide +kernel
theorem dX4_goTo_10 : decode cX4_goTo 10 = .ok (.dup, 1) := by decide +kernel
theorem dX4_goTo_11 : decode cX4_goTo 11 = .ok (.getfield 15, 3) := by decide +kernel
theorem dX4_goTo_14 : decode cX4_goTo 14 = .ok (.iconst 1, 1) := by decide +kernel
theorem dX4_goTo_15 : decode cX4_goTo 15 = .ok (.iadd, 1) := by decide +kernel
theorem dX4_goTo_16 : decode cX4_goTo 16 = .ok (.putfield 15, 3) := by decide +kernel
theorem dX4_goTo_19 : decode cX4_goTo 19 = .ok (.aload_n 0, 1) := by decide +kernel
theorem dX4_goTo_20 : decode cX4_goTo 20 = .ok (.getfield 9, 3) := by decide +kernel
theorem dX4_goTo_23 : decode cX4_goTo 23 = .ok (.aload_n 0, 1) := by decide +kernel
theorem dX4_goTo_24 : decode cX4_goTo 24 = .ok (.getfield 15, 3) := by decide +kernel
theorem dX4_goTo_27 : decode cX4_goTo 27 = .ok (.iload_n 1, 1) := by decide +kernel
theorem dX4_goTo_28 : decode cX4_goTo 28 = .ok (.iastore, 1) := by decide +kernel
theorem dX4_goTo_29 : decode cX4_goTo 29 = .ok (.return_, 1) := by decide +kernel
theorem dX4_countWalks_0 : decode cX4_countWalks 0 = .ok (.iconst 0, 1) := by decide +kernel
theorem dX4_countWalks_1 : decode cX4_countWalks 1 = .ok (.istore_n 3, 1) := by decide +kernel
theorem dX4_countWalks_2 : decode cX4_countWalks 2 = .ok (.iload_n 3, 1) := by decide +kernel
theorem dX4_countWalks_3 : decode cX4_countWalks 3 = .ok (.bipush 14, 2) := by decide +kernel
theorem dX4_countWalks_5 : decode cX4_countWalks 5 = .ok (.if_icmp .ge 24, 3) := by decide +kernel
theorem dX4_countWalks_8 : decode cX4_countWalks 8 = .ok (.aload_n 0, 1) := by decide +kernel
theorem dX4_countWalks_9 : decode cX4_countWalks 9 = .ok (.getfield 19, 3) := by decide +kernel
theorem dX4_countWalks_12 : decode cX4_countWalks 12 = .ok (.iload_n 3, 1) := by decide +kernel
theorem dX4_countWalks_13 : decode cX4_countWalks 13 = .ok (.iload_n 3, 1) := by decide +kernel
theorem dX4_countWalks_14 : decode cX4_countWalks 14 = .ok (.ifCond .ne 7, 3) := by decide +kernel
theorem dX4_countWalks_17 : decode cX4_countWalks 17 = .ok (.lconst 1, 1) := by decide +kernel
theorem dX4_countWalks_18 : decode cX4_countWalks 18 = .ok (.goto 4, 3) := by decide +kernel
theorem dX4_countWalks_21 : decode cX4_countWalks 21 = .ok (.lconst 0, 1) := by decide +kernel
theorem dX4_countWalks_22 : decode cX4_countWalks 22 = .ok (.lastore, 1) := by decide +kernel
theorem dX4_countWalks_23 : decode cX4_countWalks 23 = .ok (.iinc 3 1, 3) := by decide +kernel
theorem dX4_countWalks_26 : decode cX4_countWalks 26 = .ok (.goto (-24), 3) := by decide +kernel
theorem dX4_countWalks_29 : decode cX4_countWalks 29 = .ok (.iconst 0, 1) := by decide +kernel
theorem dX4_countWalks_30 : decode cX4_countWalks 30 = .ok (.istore_n 3, 1) := by decide +kernel
theorem dX4_countWalks_31 : decode cX4_countWalks 31 = .ok (.iload_n 3, 1) := by decide +kernel
theorem dX4_countWalks_32 : decode cX4_countWalks 32 = .ok (.iload_n 2, 1) := by decide +kernel
theorem dX4_countWalks_33 : decode cX4_countWalks 33 = .ok (.if_icmp .ge 14, 3) := by decide +kernel
theorem dX4_countWalks_36 : decode cX4_countWalks 36 = .ok (.aload_n 0, 1) := by decide +kernel
theorem dX4_countWalks_37 : decode cX4_countWalks 37 = .ok (.aload_n 1, 1) := by decide +kernel
theorem dX4_countWalks_38 : decode cX4_countWalks 38 = .ok (.invokevirtual 26, 3) := by decide +kernel
theorem dX4_countWalks_41 : decode cX4_countWalks 41 = .ok (.iinc 3 1, 3) := by decide +kernel
theorem dX4_countWalks_44 : decode cX4_countWalks 44 = .ok (.goto (-13), 3) := by decide +kernel
theorem dX4_countWalks_47 : decode cX4_countWalks 47 = .ok (.return_, 1) := by decide +kernel
theorem dX4_lengthen_0 : decode cX4_lengthen 0 = .ok (.iconst 0, 1) := by decide +kernel
theorem dX4_lengthen_1 : decode cX4_lengthen 1 = .ok (.istore_n 2, 1) := by decide +kernel
theorem dX4_lengthen_2 : decode cX4_lengthen 2 = .ok (.iload_n 2, 1) := by decide +kernel
theorem dX4_lengthen_3 : decode cX4_lengthen 3 = .ok (.bipush 14, 2) := by decide +kernel
theorem dX4_lengthen_5 : decode cX4_lengthen 5 = .ok (.if_icmp .ge 16, 3) := by decide +kernel
theorem dX4_lengthen_8 : decode cX4_lengthen 8 = .ok (.aload_n 0, 1) := by decide +kernel
theorem dX4_lengthen_9 : decode cX4_lengthen 9 = .ok (.getfield 23, 3) := by decide +kernel
theorem dX4_lengthen_12 : decode cX4_lengthen 12 = .ok (.iload_n 2, 1) := by decide +kernel
theorem dX4_lengthen_13 : decode cX4_lengthen 13 = .ok (.lconst 0, 1) := by decide +kernel
theorem dX4_lengthen_14 : decode cX4_lengthen 14 = .ok (.lastore, 1) := by decide +kernel
theorem dX4_lengthen_15 : decode cX4_lengthen 15 = .ok (.iinc 2 1, 3) := by decide +kernel
theorem dX4_lengthen_18 : decode cX4_lengthen 18 = .ok (.goto (-16), 3) := by decide +kernel
theorem dX4_lengthen_21 : decode cX4_lengthen 21 = .ok (.iconst 0, 1) := by decide +kernel
theorem dX4_lengthen_22 : decode cX4_lengthen 22 = .ok (.istore_n 2, 1) := by decide +kernel
theorem dX4_lengthen_23 : decode cX4_lengthen 23 = .ok (.iload_n 2, 1) := by decide +kernel
theorem dX4_lengthen_24 : decode cX4_lengthen 24 = .ok (.aload_n 1, 1) := by decide +kernel
theorem dX4_lengthen_25 : decode cX4_lengthen 25 = .ok (.getfield 30, 3) := by decide +kernel
theorem dX4_lengthen_28 : decode cX4_lengthen 28 = .ok (.if_icmp .ge 47, 3) := by decide +kernel
theorem dX4_lengthen_31 : decode cX4_lengthen 31 = .ok (.iconst 0, 1) := by decide +kernel
theorem dX4_lengthen_32 : decode cX4_lengthen 32 = .ok (.istore_n 3, 1) := by decide +kernel
theorem dX4_lengthen_33 : decode cX4_lengthen 33 = .ok (.iload_n 3, 1) := by decide +kernel
theorem dX4_lengthen_34 : decode cX4_lengthen 34 = .ok (.aload_n 1, 1) := by decide +kernel
theorem dX4_lengthen_35 : decode cX4_lengthen 35 = .ok (.getfield 34, 3) := by decide +kernel
theorem dX4_lengthen_38 : decode cX4_lengthen 38 = .ok (.iload_n 2, 1) := by decide +kernel
theorem dX4_lengthen_39 : decode cX4_lengthen 39 = .ok (.iaload, 1) := by decide +kernel
theorem dX4_lengthen_40 : decode cX4_lengthen 40 = .ok (.if_icmp .ge 29, 3) := by decide +kernel
theorem dX4_lengthen_43 : decode cX4_lengthen 43 = .ok (.aload_n 0, 1) := by decide +kernel
theorem dX4_lengthen_44 : decode cX4_lengthen 44 = .ok (.getfield 23, 3) := by decide +kernel
theorem dX4_lengthen_47 : decode cX4_lengthen 47 = .ok (.aload_n 1, 1) := by decide +kernel
theorem dX4_lengthen_48 : decode cX4_lengthen 48 = .ok (.iload_n 2, 1) := by decide +kernel
theorem dX4_lengthen_49 : decode cX4_lengthen 49 = .ok (.iload_n 3, 1) := by decide +kernel
theorem dX4_lengthen_50 : decode cX4_lengthen 50 = .ok (.invokevirtual 37, 3) := by decide +kernel
theorem dX4_lengthen_53 : decode cX4_lengthen 53 = .ok (.dup2, 1) := by decide +kernel
theorem dX4_lengthen_54 : decode cX4_lengthen 54 = .ok (.laload, 1) := by decide +kernel
theorem dX4_lengthen_55 : decode cX4_lengthen 55 = .ok (.aload_n 0, 1) := by decide +kernel
theorem dX4_lengthen_56 : decode cX4_lengthen 56 = .ok (.getfield 19, 3) := by decide +kernel
theorem dX4_lengthen_59 : decode cX4_lengthen 59 = .ok (.iload_n 2, 1) := by decide +kernel
theorem dX4_lengthen_60 : decode cX4_lengthen 60 = .ok (.laload, 1) := by decide +kernel
theorem dX4_lengthen_61 : decode cX4_lengthen 61 = .ok (.ladd, 1) := by decide +kernel
theorem dX4_lengthen_62 : decode cX4_lengthen 62 = .ok (.lastore, 1) := by decide +kernel
theorem dX4_lengthen_63 : decode cX4_lengthen 63 = .ok (.iinc 3 1, 3) := by decide +kernel
theorem dX4_lengthen_66 : decode cX4_lengthen 66 = .ok (.goto (-33), 3) := by decide +kernel
theorem dX4_lengthen_69 : decode cX4_lengthen 69 = .ok (.iinc 2 1, 3) := by decide +kernel
theorem dX4_lengthen_72 : decode cX4_lengthen 72 = .ok (.goto (-49), 3) := by decide +kernel
theorem dX4_lengthen_75 : decode cX4_lengthen 75 = .ok (.aload_n 0, 1) := by decide +kernel
theorem dX4_lengthen_76 : decode cX4_lengthen 76 = .ok (.getfield 23, 3) := by decide +kernel
theorem dX4_lengthen_79 : decode cX4_lengthen 79 = .ok (.iconst 0, 1) := by decide +kernel
theorem dX4_lengthen_80 : decode cX4_lengthen 80 = .ok (.aload_n 0, 1) := by decide +kernel
theorem dX4_lengthen_81 : decode cX4_lengthen 81 = .ok (.getfield 19, 3) := by decide +kernel
theorem dX4_lengthen_84 : decode cX4_lengthen 84 = .ok (.iconst 0, 1) := by decide +kernel
theorem dX4_lengthen_85 : decode cX4_lengthen 85 = .ok (.bipush 14, 2) := by decide +kernel
theorem dX4_lengthen_87 : decode cX4_lengthen 87 = .ok (.invokestatic 41, 3) := by decide +kernel
theorem dX4_lengthen_90 : decode cX4_lengthen 90 = .ok (.return_, 1) := by decide +kernel
theorem dX5_init_0 : decode cX5_init 0 = .ok (.aload_n 0, 1) := by decide +kernel
theorem dX5_init_1 : decode cX5_init 1 = .ok (.invokespecial 1, 3) := by decide +kernel
theorem dX5_init_4 : decode cX5_init 4 = .ok (.aload_n 0, 1) := by decide +kernel
theorem dX5_init_5 : decode cX5_init 5 = .ok (.new 7, 3) := by decide +kernel
theorem dX5_init_8 : decode cX5_init 8 = .ok (.dup, 1) := by decide +kernel
theorem dX5_init_9 : decode cX5_init 9 = .ok (.invokespecial 9, 3) := by decide +kernel
theorem dX5_init_12 : decode cX5_init 12 = .ok (.putfield 10, 3) := by decide +kernel
theorem dX5_init_15 : decode cX5_init 15 = .ok (.aload_n 0, 1) := by decide +kernel
theorem dX5_init_16 : decode cX5_init 16 = .ok (.aload_n 0, 1) := by decide +kernel
theorem dX5_init_17 : decode cX5_init 17 = .ok (.getfield 10, 3) := by decide +kernel
theorem dX5_init_20 : decode cX5_init 20 = .ok (.getfield 16, 3) := by decide +kernel
theorem dX5_init_23 : decode cX5_init 23 = .ok (.putfield 20, 3) := by decide +kernel
theorem dX5_init_26 : decode cX5_init 26 = .ok (.aload_n 0, 1) := by decide +kernel
theorem dX5_init_27 : decode cX5_init 27 = .ok (.new 7, 3) := by decide +kernel
theorem dX5_init_30 : decode cX5_init 30 = .ok (.dup, 1) := by decide +kernel
theorem dX5_init_31 : decode cX5_init 31 = .ok (.invokespecial 9, 3) := by decide +kernel
theorem dX5_init_34 : decode cX5_init 34 = .ok (.putfield 21, 3) := by decide +kernel
theorem dX5_init_37 : decode cX5_init 37 = .ok (.aload_n 0, 1) := by decide +kernel
theorem dX5_init_38 : decode cX5_init 38 = .ok (.aload_n 0, 1) := by decide +kernel
theorem dX5_init_39 : decode cX5_init 39 = .ok (.getfield 21, 3) := by decide +kernel
theorem dX5_init_42 : decode cX5_init 42 = .ok (.getfield 16, 3) := by decide +kernel
theorem dX5_init_45 : decode cX5_init 45 = .ok (.putfield 24, 3) := by decide +kernel
theorem dX5_init_48 : decode cX5_init 48 = .ok (.aload_n 0, 1) := by decide +kernel
theorem dX5_init_49 : decode cX5_init 49 = .ok (.new 27, 3) := by decide +kernel
theorem dX5_init_52 : decode cX5_init 52 = .ok (.dup, 1) := by decide +kernel
theorem dX5_init_53 : decode cX5_init 53 = .ok (.invokespecial 29, 3) := by decide +kernel
theorem dX5_init_56 : decode cX5_init 56 = .ok (.putfield 30, 3) := by decide +kernel
theorem dX5_init_59 : decode cX5_init 59 = .ok (.aload_n 0, 1) := by decide +kernel
theorem dX5_init_60 : decode cX5_init 60 = .ok (.iconst 0, 1) := by decide +kernel
theorem dX5_init_61 : decode cX5_init 61 = .ok (.putfield 33, 3) := by decide +kernel
theorem dX5_init_64 : decode cX5_init 64 = .ok (.aload_n 0, 1) := by decide +kernel
theorem dX5_init_65 : decode cX5_init 65 = .ok (.new 37, 3) := by decide +kernel
theorem dX5_init_68 : decode cX5_init 68 = .ok (.dup, 1) := by decide +kernel
theorem dX5_init_69 : decode cX5_init 69 = .ok (.invokespecial 39, 3) := by decide +kernel
theorem dX5_init_72 : decode cX5_init 72 = .ok (.putfield 40, 3) := by decide +kernel
theorem dX5_init_75 : decode cX5_init 75 = .ok (.aload_n 0, 1) := by decide +kernel
theorem dX5_init_76 : decode cX5_init 76 = .ok (.new 44, 3) := by decide +kernel
theorem dX5_init_79 : decode cX5_init 79 = .ok (.dup, 1) := by decide +kernel
theorem dX5_init_80 : decode cX5_init 80 = .ok (.invokespecial 46, 3) := by decide +kernel
theorem dX5_init_83 : decode cX5_init 83 = .ok (.putfield 47, 3) := by decide +kernel
theorem dX5_init_86 : decode cX5_init 86 = .ok (.aload_n 0, 1) := by decide +kernel
theorem dX5_init_87 : decode cX5_init 87 = .ok (.iconst (-1), 1) := by decide +kernel
theorem dX5_init_88 : decode cX5_init 88 = .ok (.putfield 51, 3) := by decide +kernel
theorem dX5_init_91 : decode cX5_init 91 = .ok (.aload_n 0, 1) := by decide +kernel
theorem dX5_init_92 : decode cX5_init 92 = .ok (.new 55, 3) := by decide +kernel
theorem dX5_init_95 : decode cX5_init 95 = .ok (.dup, 1) := by decide +kernel
theorem dX5_init_96 : decode cX5_init 96 = .ok (.invokespecial 57, 3) := by decide +kernel
theorem dX5_init_99 : decode cX5_init 99 = .ok (.putfield 58, 3) := by decide +kernel
theorem dX5_init_102 : decode cX5_init 102 = .ok (.aload_n 0, 1) := by decide +kernel
theorem dX5_init_103 : decode cX5_init 103 = .ok (.getfield 10, 3) := by decide +kernel
theorem dX5_init_106 : decode cX5_init 106 = .ok (.invokevirtual 62, 3) := by decide +kernel
theorem dX5_init_109 : decode cX5_init 109 = .ok (.return_, 1) := by decide +kernel
theorem dX5_reset_0 : decode cX5_reset 0 = .ok (.iload_n 1, 1) := by decide +kernel
theorem dX5_reset_1 : decode cX5_reset 1 = .ok (.iconst 1, 1) := by decide +kernel
theorem dX5_reset_2 : decode cX5_reset 2 = .ok (.if_icmp .lt 9, 3) := by decide +kernel
theorem dX5_reset_5 : decode cX5_reset 5 = .ok (.iload_n 1, 1) := by decide +kernel
theorem dX5_reset_6 : decode cX5_reset 6 = .ok (.bipush 14, 2) := by decide +kernel
theorem dX5_reset_8 : decode cX5_reset 8 = .ok (.if_icmp .le 13, 3) := by decide +kernel
theorem dX5_reset_11 : decode cX5_reset 11 = .ok (.new 65, 3) := by decide +kernel
theorem dX5_reset_14 : decode cX5_reset 14 = .ok (.dup, 1) := by decide +kernel
theorem dX5_reset_15 : decode cX5_reset 15 = .ok (.ldc 67, 2) := by decide +kernel
theorem dX5_reset_17 : decode cX5_reset 17 = .ok (.invokespecial 69, 3) := by decide +kernel
theorem dX5_reset_20 : decode cX5_reset 20 = .ok (.athrow, 1) := by decide +kernel
theorem dX5_reset_21 : decode cX5_reset 21 = .ok (.aload_n 0, 1) := by decide +kernel
theorem dX5_reset_22 : decode cX5_reset 22 = .ok (.getfield 20, 3) := by decide +kernel
theorem dX5_reset_25 : decode cX5_reset 25 = .ok (.getfield 72, 3) := by decide +kernel
theorem dX5_reset_28 : decode cX5_reset 28 = .ok (.istore_n 2, 1) := by decide +kernel
theorem dX5_reset_29 : decode cX5_reset 29 = .ok (.aload_n 0, 1) := by decide +kernel
theorem dX5_reset_30 : decode cX5_reset 30 = .ok (.getfield 20, 3) := by decide +kernel
theorem dX5_reset_33 : decode cX5_reset 33 = .ok (.iload_n 1, 1) := by decide +kernel
theorem dX5_reset_34 : decode cX5_reset 34 = .ok (.invokevirtual 75, 3) := by decide +kernel
theorem dX5_reset_37 : decode cX5_reset 37 = .ok (.aload_n 0, 1) := by decide +kernel
theorem dX5_reset_38 : decode cX5_reset 38 = .ok (.getfield 40, 3) := by decide +kernel
theorem dX5_reset_41 : decode cX5_reset 41 = .ok (.invokevirtual 79, 3) := by decide +kernel
theorem dX5_reset_44 : decode cX5_reset 44 = .ok (.aload_n 0, 1) := by decide +kernel
theorem dX5_reset_45 : decode cX5_reset 45 = .ok (.invokevirtual 82, 3) := by decide +kernel
theorem dX5_reset_48 : decode cX5_reset 48 = .ok (.iload_n 2, 1) := by decide +kernel
theorem dX5_reset_49 : decode cX5_reset 49 = .ok (.ireturn, 1) := by decide +kernel
theorem dX5_blockCount_0 : decode cX5_blockCount 0 = .ok (.aload_n 0, 1) := by decide +kernel
theorem dX5_blockCount_1 : decode cX5_blockCount 1 = .ok (.getfield 20, 3) := by decide +kernel
theorem dX5_blockCount_4 : decode cX5_blockCount 4 = .ok (.getfield 72, 3) := by decide +kernel
theorem dX5_blockCount_7 : decode cX5_blockCount 7 = .ok (.ireturn, 1) := by decide +kernel
theorem dX5_append_0 : decode cX5_append 0 = .ok (.iload_n 1, 1) := by decide +kernel
theorem dX5_append_1 : decode cX5_append 1 = .ok (.bipush 32, 2) := by decide +kernel
theorem dX5_append_3 : decode cX5_append 3 = .ok (.if_icmp .lt 9, 3) := by decide +kernel
theorem dX5_append_6 : decode cX5_append 6 = .ok (.iload_n 1, 1) := by decide +kernel
theorem dX5_append_7 : decode cX5_append 7 = .ok (.bipush 126, 2) := by decide +kernel
theorem dX5_append_9 : decode cX5_append 9 = .ok (.if_icmp .le 13, 3) := by decide +kernel
theorem dX5_append_12 : decode cX5_append 12 = .ok (.new 65, 3) := by decide +kernel
theorem dX5_append_15 : decode cX5_append 15 = .ok (.dup, 1) := by decide +kernel
theorem dX5_append_16 : decode cX5_append 16 = .ok (.ldc 85, 2) := by decide +kernel
theorem dX5_append_18 : decode cX5_append 18 = .ok (.invokespecial 69, 3) := by decide +kernel
theorem dX5_append_21 : decode cX5_append 21 = .ok (.athrow, 1) := by decide +kernel
theorem dX5_append_22 : decode cX5_append 22 = .ok (.aload_n 0, 1) := by decide +kernel
theorem dX5_append_23 : decode cX5_append 23 = .ok (.getfield 47, 3) := by decide +kernel
theorem dX5_append_26 : decode cX5_append 26 = .ok (.getfield 87, 3) := by decide +kernel
theorem dX5_append_29 : decode cX5_append 29 = .ok (.bipush 30, 2) := by decide +kernel
theorem dX5_append_31 : decode cX5_append 31 = .ok (.if_icmp .lt 13, 3) := by decide +kernel
theorem dX5_append_34 : decode cX5_append 34 = .ok (.new 90, 3) := by decide +kernel
theorem dX5_append_37 : decode cX5_append 37 = .ok (.dup, 1) := by decide +kernel
theorem dX5_append_38 : decode cX5_append 38 = .ok (.ldc 92, 2) := by decide +kernel
theorem dX5_append_40 : decode cX5_append 40 = .ok (.invokespecial 94, 3) := by decide +kernel
theorem dX5_append_43 : decode cX5_append 43 = .ok (.athrow, 1) := by decide +kernel
theorem dX5_append_44 : decode cX5_append 44 = .ok (.aload_n 0, 1) := by decide +kernel
theorem dX5_append_45 : decode cX5_append 45 = .ok (.getfield 47, 3) := by decide +kernel
theorem dX5_append_48 : decode cX5_append 48 = .ok (.iload_n 1, 1) := by decide +kernel
theorem dX5_append_49 : decode cX5_append 49 = .ok (.invokevirtual 95, 3) := by decide +kernel
theorem dX5_append_52 : decode cX5_append 52 = .ok (.aload_n 0, 1) := by decide +kernel
theorem dX5_append_53 : decode cX5_append 53 = .ok (.getfield 47, 3) := by decide +kernel
theorem dX5_append_56 : decode cX5_append 56 = .ok (.getfield 87, 3) := by decide +kernel
theorem dX5_append_59 : decode cX5_append 59 = .ok (.ireturn, 1) := by decide +kernel
theorem dX5_define_0 : decode cX5_define 0 = .ok (.aload_n 0, 1) := by decide +kernel
theorem dX5_define_1 : decode cX5_define 1 = .ok (.getfield 47, 3) := by decide +kernel
theorem dX5_define_4 : decode cX5_define 4 = .ok (.aload_n 0, 1) := by decide +kernel
theorem dX5_define_5 : decode cX5_define 5 = .ok (.getfield 20, 3) := by decide +kernel
theorem dX5_define_8 : decode cX5_define 8 = .ok (.getfield 72, 3) := by decide +kernel
theorem dX5_define_11 : decode cX5_define 11 = .ok (.invokevirtual 99, 3) := by decide +kernel
theorem dX5_define_14 : decode cX5_define 14 = .ok (.istore_n 1, 1) := by decide +kernel
theorem dX5_define_15 : decode cX5_define 15 = .ok (.aload_n 0, 1) := by decide +kernel
theorem dX5_define_16 : decode cX5_define 16 = .ok (.getfield 47, 3) := by decide +kernel
theorem dX5_define_19 : decode cX5_define 19 = .ok (.iconst 0, 1) := by decide +kernel
theorem dX5_define_20 : decode cX5_define 20 = .ok (.putfield 87, 3) := by decide +kernel
theorem dX5_define_23 : decode cX5_define 23 = .ok (.iload_n 1, 1) := by decide +kernel
theorem dX5_define_24 : decode cX5_define 24 = .ok (.iconst (-1), 1) := by decide +kernel
theorem dX5_define_25 : decode cX5_define 25 = .ok (.if_icmp .eq 18, 3) := by decide +kernel
theorem dX5_define_28 : decode cX5_define 28 = .ok (.aload_n 0, 1) := by decide +kernel
theorem dX5_define_29 : decode cX5_define 29 = .ok (.iload_n 1, 1) := by decide +kernel
theorem dX5_define_30 : decode cX5_define 30 = .ok (.putfield 51, 3) := by decide +kernel
theorem dX5_define_33 : decode cX5_define 33 = .ok (.new 65, 3) := by decide +kernel
theorem dX5_define_36 : decode cX5_define 36 = .ok (.dup, 1) := by decide +kernel
theorem dX5_define_37 : decode cX5_define 37 = .ok (.ldc 103, 2) := by decide +kernel
theorem dX5_define_39 : decode cX5_define 39 = .ok (.invokespecial 69, 3) := by decide +kernel
theorem dX5_define_42 : decode cX5_define 42 = .ok (.athrow, 1) := by decide +kernel
theorem dX5_define_43 : decode cX5_define 43 = .ok (.aload_n 0, 1) := by decide +kernel
theorem dX5_define_44 : decode cX5_define 44 = .ok (.getfield 40, 3) := by decide +kernel
theorem dX5_define_47 : decode cX5_define 47 = .ok (.aload_n 0, 1) := by decide +kernel
theorem dX5_define_48 : decode cX5_define 48 = .ok (.getfield 20, 3) := by decide +kernel
theorem dX5_define_51 : decode cX5_define 51 = .ok (.invokevirtual 105, 3) := by decide +kernel
theorem dX5_define_54 : decode cX5_define 54 = .ok (.aload_n 0, 1) := by decide +kernel
theorem dX5_define_55 : decode cX5_define 55 = .ok (.getfield 20, 3) := by decide +kernel
theorem dX5_define_58 : decode cX5_define 58 = .ok (.aload_n 0, 1) := by decide +kernel
theorem dX5_define_59 : decode cX5_define 59 = .ok (.getfield 47, 3) := by decide +kernel
theorem dX5_define_62 : decode cX5_define 62 = .ok (.invokevirtual 109, 3) := by decide +kernel
theorem dX5_define_65 : decode cX5_define 65 = .ok (.aload_n 0, 1) := by decide +kernel
theorem dX5_define_66 : decode cX5_define 66 = .ok (.invokevirtual 82, 3) := by decide +kernel
theorem dX5_define_69 : decode cX5_define 69 = .ok (.aload_n 0, 1) := by decide +kernel
theorem dX5_define_70 : decode cX5_define 70 = .ok (.getfield 47, 3) := by decide +kernel
theorem dX5_define_73 : decode cX5_define 73 = .ok (.getfield 113, 3) := by decide +kernel
theorem dX5_define_76 : decode cX5_define 76 = .ok (.ireturn, 1) := by decide +kernel
theorem dX5_errorPosition_0 : decode cX5_errorPosition 0 = .ok (.aload_n 0, 1) := by decide +kernel
theorem dX5_errorPosition_1 : decode cX5_errorPosition 1 = .ok (.getfield 51, 3) := by decide +kernel
theorem dX5_errorPosition_4 : decode cX5_errorPosition 4 = .ok (.iconst (-1), 1) := by decide +kernel
theorem dX5_errorPosition_5 : decode cX5_errorPosition 5 = .ok (.if_icmp .ne 13, 3) := by decide +kernel
theorem dX5_errorPosition_8 : decode cX5_errorPosition 8 = .ok (.new 116, 3) := by decide +kernel
theorem dX5_errorPosition_11 : decode cX5_errorPosition 11 = .ok (.dup, 1) := by decide +kernel
theorem dX5_errorPosition_12 : decode cX5_errorPosition 12 = .ok (.ldc 118, 2) := by decide +kernel
theorem dX5_errorPosition_14 : decode cX5_errorPosition 14 = .ok (.invokespecial 120, 3) := by decide +kernel
theorem dX5_errorPosition_17 : decode cX5_errorPosition 17 = .ok (.athrow, 1) := by decide +kernel
theorem dX5_errorPosition_18 : decode cX5_errorPosition 18 = .ok (.aload_n 0, 1) := by decide +kernel
theorem dX5_errorPosition_19 : decode cX5_errorPosition 19 = .ok (.getfield 51, 3) := by decide +kernel
theorem dX5_errorPosition_22 : decode cX5_errorPosition 22 = .ok (.ireturn, 1) := by decide +kernel
theorem dX5_removeAction_0 : decode cX5_removeAction 0 = .ok (.aload_n 0, 1) := by decide +kernel
theorem dX5_removeAction_1 : decode cX5_removeAction 1 = .ok (.iload_n 1, 1) := by decide +kernel
theorem dX5_removeAction_2 : decode cX5_removeAction 2 = .ok (.iload_n 2, 1) := by decide +kernel
theorem dX5_removeAction_3 : decode cX5_removeAction 3 = .ok (.invokevirtual 121, 3) := by decide +kernel
theorem dX5_removeAction_6 : decode cX5_removeAction 6 = .ok (.aload_n 0, 1) := by decide +kernel
theorem dX5_removeAction_7 : decode cX5_removeAction 7 = .ok (.getfield 40, 3) := by decide +kernel
theorem dX5_removeAction_10 : decode cX5_removeAction 10 = .ok (.aload_n 0, 1) := by decide +kernel
theorem dX5_removeAction_11 : decode cX5_removeAction 11 = .ok (.getfield 20, 3) := by decide +kernel
theorem dX5_removeAction_14 : decode cX5_removeAction 14 = .ok (.invokevirtual 105, 3) := by decide +kernel
theorem dX5_removeAction_17 : decode cX5_removeAction 17 = .ok (.aload_n 0, 1) := by decide +kernel
theorem dX5_removeAction_18 : decode cX5_removeAction 18 = .ok (.getfield 20, 3) := by decide +kernel
theorem dX5_removeAction_21 : decode cX5_removeAction 21 = .ok (.iload_n 1, 1) := by decide +kernel
theorem dX5_removeAction_22 : decode cX5_removeAction 22 = .ok (.iload_n 2, 1) := by decide +kernel
theorem dX5_removeAction_23 : decode cX5_removeAction 23 = .ok (.invokevirtual 125, 3) := by decide +kernel
theorem dX5_removeAction_26 : decode cX5_removeAction 26 = .ok (.aload_n 0, 1) := by decide +kernel
theorem dX5_removeAction_27 : decode cX5_removeAction 27 = .ok (.invokevirtual 82, 3) := by decide +kernel
theorem dX5_removeAction_30 : decode cX5_removeAction 30 = .ok (.aload_n 0, 1) := by decide +kernel
theorem dX5_removeAction_31 : decode cX5_removeAction 31 = .ok (.getfield 20, 3) := by decide +kernel
theorem dX5_removeAction_34 : decode cX5_removeAction 34 = .ok (.getfield 128, 3) := by decide +kernel
theorem dX5_removeAction_37 : decode cX5_removeAction 37 = .ok (.iload_n 1, 1) := by decide +kernel
theorem dX5_removeAction_38 : decode cX5_removeAction 38 = .ok (.iaload, 1) := by decide +kernel
theorem dX5_removeAction_39 : decode cX5_removeAction 39 = .ok (.ireturn, 1) := by decide +kernel
theorem dX5_addEdge_0 : decode cX5_addEdge 0 = .ok (.aload_n 0, 1) := by decide +kernel
theorem dX5_addEdge_1 : decode cX5_addEdge 1 = .ok (.iload_n 1, 1) := by decide +kernel
theorem dX5_addEdge_2 : decode cX5_addEdge 2 = .ok (.invokevirtual 132, 3) := by decide +kernel
theorem dX5_addEdge_5 : decode cX5_addEdge 5 = .ok (.aload_n 0, 1) := by decide +kernel
theorem dX5_addEdge_6 : decode cX5_addEdge 6 = .ok (.iload_n 2, 1) := by decide +kernel
theorem dX5_addEdge_7 : decode cX5_addEdge 7 = .ok (.invokevirtual 132, 3) := by decide +kernel
theorem dX5_addEdge_10 : decode cX5_addEdge 10 = .ok (.iload_n 2, 1) := by decide +kernel
theorem dX5_addEdge_11 : decode cX5_addEdge 11 = .ok (.ifCond .eq 16, 3) := by decide +kernel
theorem dX5_addEdge_14 : decode cX5_addEdge 14 = .ok (.aload_n 0, 1) := by decide +kernel
theorem dX5_addEdge_15 : decode cX5_addEdge 15 = .ok (.getfield 20, 3) := by decide +kernel
theorem dX5_addEdge_18 : decode cX5_addEdge 18 = .ok (.iload_n 1, 1) := by decide +kernel
theorem dX5_addEdge_19 : decode cX5_addEdge 19 = .ok (.iload_n 2, 1) := by decide +kernel
theorem dX5_addEdge_20 : decode cX5_addEdge 20 = .ok (.invokevirtual 135, 3) := by decide +kernel
theorem dX5_addEdge_23 : decode cX5_addEdge 23 = .ok (.iconst (-1), 1) := by decide +kernel
theorem dX5_addEdge_24 : decode cX5_addEdge 24 = .ok (.if_icmp .eq 13, 3) := by decide +kernel
theorem dX5_addEdge_27 : decode cX5_addEdge 27 = .ok (.new 65, 3) := by decide +kernel
theorem dX5_addEdge_30 : decode cX5_addEdge 30 = .ok (.dup, 1) := by decide +kernel
theorem dX5_addEdge_31 : decode cX5_addEdge 31 = .ok (.ldc 139, 2) := by decide +kernel
theorem dX5_addEdge_33 : decode cX5_addEdge 33 = .ok (.invokespecial 69, 3) := by decide +kernel
theorem dX5_addEdge_36 : decode cX5_addEdge 36 = .ok (.athrow, 1) := by decide +kernel
theorem dX5_addEdge_37 : decode cX5_addEdge 37 = .ok (.aload_n 0, 1) := by decide +kernel
theorem dX5_addEdge_38 : decode cX5_addEdge 38 = .ok (.getfield 20, 3) := by decide +kernel
theorem dX5_addEdge_41 : decode cX5_addEdge 41 = .ok (.getfield 141, 3) := by decide +kernel
theorem dX5_addEdge_44 : decode cX5_addEdge 44 = .ok (.iload_n 1, 1) := by decide +kernel
theorem dX5_addEdge_45 : decode cX5_addEdge 45 = .ok (.iaload, 1) := by decide +kernel
theorem dX5_addEdge_46 : decode cX5_addEdge 46 = .ok (.iconst 3, 1) := by decide +kernel
theorem dX5_addEdge_47 : decode cX5_addEdge 47 = .ok (.if_icmp .lt 13, 3) := by decide +kernel
theorem dX5_addEdge_50 : decode cX5_addEdge 50 = .ok (.new 90, 3) := by decide +kernel
theorem dX5_addEdge_53 : decode cX5_addEdge 53 = .ok (.dup, 1) := by decide +kernel
theorem dX5_addEdge_54 : decode cX5_addEdge 54 = .ok (.ldc 144, 2) := by decide +kernel
theorem dX5_addEdge_56 : decode cX5_addEdge 56 = .ok (.invokespecial 94, 3) := by decide +kernel
theorem dX5_addEdge_59 : decode cX5_addEdge 59 = .ok (.athrow, 1) := by decide +kernel
theorem dX5_addEdge_60 : decode cX5_addEdge 60 = .ok (.aload_n 0, 1) := by decide +kernel
theorem dX5_addEdge_61 : decode cX5_addEdge 61 = .ok (.getfield 40, 3) := by decide +kernel
theorem dX5_addEdge_64 : decode cX5_addEdge 64 = .ok (.aload_n 0, 1) := by decide +kernel
theorem dX5_addEdge_65 : decode cX5_addEdge 65 = .ok (.getfield 20, 3) := by decide +kernel
theorem dX5_addEdge_68 : decode cX5_addEdge 68 = .ok (.invokevirtual 105, 3) := by decide +kernel
theorem dX5_addEdge_71 : decode cX5_addEdge 71 = .ok (.aload_n 0, 1) := by decide +kernel
theorem dX5_addEdge_72 : decode cX5_addEdge 72 = .ok (.getfield 20, 3) := by decide +kernel
theorem dX5_addEdge_75 : decode cX5_addEdge 75 = .ok (.iload_n 1, 1) := by decide +kernel
theorem dX5_addEdge_76 : decode cX5_addEdge 76 = .ok (.iload_n 2, 1) := by decide +kernel
theorem dX5_addEdge_77 : decode cX5_addEdge 77 = .ok (.invokevirtual 146, 3) := by decide +kernel
theorem dX5_addEdge_80 : decode cX5_addEdge 80 = .ok (.aload_n 0, 1) := by decide +kernel
theorem dX5_addEdge_81 : decode cX5_addEdge 81 = .ok (.invokevirtual 82, 3) := by decide +kernel
theorem dX5_addEdge_84 : decode cX5_addEdge 84 = .ok (.aload_n 0, 1) := by decide +kernel
theorem dX5_addEdge_85 : decode cX5_addEdge 85 = .ok (.getfield 20, 3) := by decide +kernel
theorem dX5_addEdge_88 : decode cX5_addEdge 88 = .ok (.getfield 141, 3) := by decide +kernel
theorem dX5_addEdge_91 : decode cX5_addEdge 91 = .ok (.iload_n 1, 1) := by decide +kernel
theorem dX5_addEdge_92 : decode cX5_addEdge 92 = .ok (.iaload, 1) := by decide +kernel
theorem dX5_addEdge_93 : decode cX5_addEdge 93 = .ok (.iconst 1, 1) := by decide +kernel
theorem dX5_addEdge_94 : decode cX5_addEdge 94 = .ok (.isub, 1) := by decide +kernel
theorem dX5_addEdge_95 : decode cX5_addEdge 95 = .ok (.ireturn, 1) := by decide +kernel
theorem dX5_removeEdge_0 : decode cX5_removeEdge 0 = .ok (.aload_n 0, 1) := by decide +kernel
theorem dX5_removeEdge_1 : decode cX5_removeEdge 1 = .ok (.iload_n 1, 1) := by decide +kernel
theorem dX5_removeEdge_2 : decode cX5_removeEdge 2 = .ok (.invokevirtual 132, 3) := by decide +kernel
theorem dX5_removeEdge_5 : decode cX5_removeEdge 5 = .ok (.aload_n 0, 1) := by decide +kernel
theorem dX5_removeEdge_6 : decode cX5_removeEdge 6 = .ok (.iload_n 2, 1) := by decide +kernel
theorem dX5_removeEdge_7 : decode cX5_removeEdge 7 = .ok (.invokevirtual 132, 3) := by decide +kernel
theorem dX5_removeEdge_10 : decode cX5_removeEdge 10 = .ok (.aload_n 0, 1) := by decide +kernel
theorem dX5_removeEdge_11 : decode cX5_removeEdge 11 = .ok (.getfield 20, 3) := by decide +kernel
theorem dX5_removeEdge_14 : decode cX5_removeEdge 14 = .ok (.iload_n 1, 1) := by decide +kernel
theorem dX5_removeEdge_15 : decode cX5_removeEdge 15 = .ok (.iload_n 2, 1) := by decide +kernel
theorem dX5_removeEdge_16 : decode cX5_removeEdge 16 = .ok (.invokevirtual 135, 3) := by decide +kernel
theorem dX5_removeEdge_19 : decode cX5_removeEdge 19 = .ok (.istore_n 3, 1) := by decide +kernel
theorem dX5_removeEdge_20 : decode cX5_removeEdge 20 = .ok (.iload_n 3, 1) := by decide +kernel
theorem dX5_removeEdge_21 : decode cX5_removeEdge 21 = .ok (.iconst (-1), 1) := by decide +kernel
theorem dX5_removeEdge_22 : decode cX5_removeEdge 22 = .ok (.if_icmp .ne 13, 3) := by decide +kernel
theorem dX5_removeEdge_25 : decode cX5_removeEdge 25 = .ok (.new 116, 3) := by decide +kernel
theorem dX5_removeEdge_28 : decode cX5_removeEdge 28 = .ok (.dup, 1) := by decide +kernel
theorem dX5_removeEdge_29 : decode cX5_removeEdge 29 = .ok (.ldc 149, 2) := by decide +kernel
theorem dX5_removeEdge_31 : decode cX5_removeEdge 31 = .ok (.invokespecial 120, 3) := by decide +kernel
theorem dX5_removeEdge_34 : decode cX5_removeEdge 34 = .ok (.athrow, 1) := by decide +kernel
theorem dX5_removeEdge_35 : decode cX5_removeEdge 35 = .ok (.aload_n 0, 1) := by decide +kernel
theorem dX5_removeEdge_36 : decode cX5_removeEdge 36 = .ok (.getfield 40, 3) := by decide +kernel
theorem dX5_removeEdge_39 : decode cX5_removeEdge 39 = .ok (.aload_n 0, 1) := by decide +kernel
theorem dX5_removeEdge_40 : decode cX5_removeEdge 40 = .ok (.getfield 20, 3) := by decide +kernel
theorem dX5_removeEdge_43 : decode cX5_removeEdge 43 = .ok (.invokevirtual 105, 3) := by decide +kernel
theorem dX5_removeEdge_46 : decode cX5_removeEdge 46 = .ok (.aload_n 0, 1) := by decide +kernel
theorem dX5_removeEdge_47 : decode cX5_removeEdge 47 = .ok (.getfield 20, 3) := by decide +kernel
theorem dX5_removeEdge_50 : decode cX5_removeEdge 50 = .ok (.iload_n 1, 1) := by decide +kernel
theorem dX5_removeEdge_51 : decode cX5_removeEdge 51 = .ok (.iload_n 3, 1) := by decide +kernel
theorem dX5_removeEdge_52 : decode cX5_removeEdge 52 = .ok (.invokevirtual 151, 3) := by decide +kernel
theorem dX5_removeEdge_55 : decode cX5_removeEdge 55 = .ok (.aload_n 0, 1) := by decide +kernel
theorem dX5_removeEdge_56 : decode cX5_removeEdge 56 = .ok (.invokevirtual 82, 3) := by decide +kernel
theorem dX5_removeEdge_59 : decode cX5_removeEdge 59 = .ok (.aload_n 0, 1) := by decide +kernel
theorem dX5_removeEdge_60 : decode cX5_removeEdge 60 = .ok (.getfield 20, 3) := by decide +kernel
theorem dX5_removeEdge_63 : decode cX5_removeEdge 63 = .ok (.getfield 141, 3) := by decide +kernel
theorem dX5_removeEdge_66 : decode cX5_removeEdge 66 = .ok (.iload_n 1, 1) := by decide +kernel
theorem dX5_removeEdge_67 : decode cX5_removeEdge 67 = .ok (.iaload, 1) := by decide +kernel
theorem dX5_removeEdge_68 : decode cX5_removeEdge 68 = .ok (.ireturn, 1) := by decide +kernel
theorem dX5_thread_0 : decode cX5_thread 0 = .ok (.aload_n 0, 1) := by decide +kernel
theorem dX5_thread_1 : decode cX5_thread 1 = .ok (.iload_n 1, 1) := by decide +kernel
theorem dX5_thread_2 : decode cX5_thread 2 = .ok (.invokevirtual 132, 3) := by decide +kernel
theorem dX5_thread_5 : decode cX5_thread 5 = .ok (.aload_n 0, 1) := by decide +kernel
theorem dX5_thread_6 : decode cX5_thread 6 = .ok (.iload_n 2, 1) := by decide +kernel
theorem dX5_thread_7 : decode cX5_thread 7 = .ok (.invokevirtual 132, 3) := by decide +kernel
theorem dX5_thread_10 : decode cX5_thread 10 = .ok (.aload_n 0, 1) := by decide +kernel
theorem dX5_thread_11 : decode cX5_thread 11 = .ok (.iload_n 3, 1) := by decide +kernel
theorem dX5_thread_12 : decode cX5_thread 12 = .ok (.invokevirtual 132, 3) := by decide +kernel
theorem dX5_thread_15 : decode cX5_thread 15 = .ok (.aload_n 0, 1) := by decide +kernel
theorem dX5_thread_16 : decode cX5_thread 16 = .ok (.getfield 20, 3) := by decide +kernel
theorem dX5_thread_19 : decode cX5_thread 19 = .ok (.iload_n 1, 1) := by decide +kernel
theorem dX5_thread_20 : decode cX5_thread 20 = .ok (.iload_n 2, 1) := by decide +kernel
theorem dX5_thread_21 : decode cX5_thread 21 = .ok (.invokevirtual 135, 3) := by decide +kernel
theorem dX5_thread_24 : decode cX5_thread 24 = .ok (.istore 4, 2) := by decide +kernel
theorem dX5_thread_26 : decode cX5_thread 26 = .ok (.iload 4, 2) := by decide +kernel
theorem dX5_thread_28 : decode cX5_thread 28 = .ok (.iconst (-1), 1) := by decide +kernel
theorem dX5_thread_29 : decode cX5_thread 29 = .ok (.if_icmp .eq 16, 3) := by decide +kernel
theorem dX5_thread_32 : decode cX5_thread 32 = .ok (.aload_n 0, 1) := by decide +kernel
theorem dX5_thread_33 : decode cX5_thread 33 = .ok (.getfield 20, 3) := by decide +kernel
theorem dX5_thread_36 : decode cX5_thread 36 = .ok (.iload_n 2, 1) := by decide +kernel
theorem dX5_thread_37 : decode cX5_thread 37 = .ok (.iload_n 3, 1) := by decide +kernel
theorem dX5_thread_38 : decode cX5_thread 38 = .ok (.invokevirtual 135, 3) := by decide +kernel
theorem dX5_thread_41 : decode cX5_thread 41 = .ok (.iconst (-1), 1) := by decide +kernel
theorem dX5_thread_42 : decode cX5_thread 42 = .ok (.if_icmp .ne 13, 3) := by decide +kernel
theorem dX5_thread_45 : decode cX5_thread 45 = .ok (.new 116, 3) := by decide +kernel
theorem dX5_thread_48 : decode cX5_thread 48 = .ok (.dup, 1) := by decide +kernel
theorem dX5_thread_49 : decode cX5_thread 49 = .ok (.ldc 154, 2) := by decide +kernel
theorem dX5_thread_51 : decode cX5_thread 51 = .ok (.invokespecial 120, 3) := by decide +kernel
theorem dX5_thread_54 : decode cX5_thread 54 = .ok (.athrow, 1) := by decide +kernel
theorem dX5_thread_55 : decode cX5_thread 55 = .ok (.aload_n 0, 1) := by decide +kernel
theorem dX5_thread_56 : decode cX5_thread 56 = .ok (.getfield 20, 3) := by decide +kernel
theorem dX5_thread_59 : decode cX5_thread 59 = .ok (.getfield 72, 3) := by decide +kernel
theorem dX5_thread_62 : decode cX5_thread 62 = .ok (.bipush 14, 2) := by decide +kernel
theorem dX5_thread_64 : decode cX5_thread 64 = .ok (.if_icmp .lt 13, 3) := by decide +kernel
theorem dX5_thread_67 : decode cX5_thread 67 = .ok (.new 90, 3) := by decide +kernel
theorem dX5_thread_70 : decode cX5_thread 70 = .ok (.dup, 1) := by decide +kernel
theorem dX5_thread_71 : decode cX5_thread 71 = .ok (.ldc 156, 2) := by decide +kernel
theorem dX5_thread_73 : decode cX5_thread 73 = .ok (.invokespecial 94, 3) := by decide +kernel
theorem dX5_thread_76 : decode cX5_thread 76 = .ok (.athrow, 1) := by decide +kernel
theorem dX5_thread_77 : decode cX5_thread 77 = .ok (.aload_n 0, 1) := by decide +kernel
theorem dX5_thread_78 : decode cX5_thread 78 = .ok (.getfield 40, 3) := by decide +kernel
theorem dX5_thread_81 : decode cX5_thread 81 = .ok (.aload_n 0, 1) := by decide +kernel
theorem dX5_thread_82 : decode cX5_thread 82 = .ok (.getfield 20, 3) := by decide +kernel
theorem dX5_thread_85 : decode cX5_thread 85 = .ok (.invokevirtual 105, 3) := by decide +kernel
theorem dX5_thread_88 : decode cX5_thread 88 = .ok (.aload_n 0, 1) := by decide +kernel
theorem dX5_thread_89 : decode cX5_thread 89 = .ok (.getfield 20, 3) := by decide +kernel
theorem dX5_thread_92 : decode cX5_thread 92 = .ok (.iload_n 2, 1) := by decide +kernel
theorem dX5_thread_93 : decode cX5_thread 93 = .ok (.iload_n 3, 1) := by decide +kernel
theorem dX5_thread_94 : decode cX5_thread 94 = .ok (.invokevirtual 158, 3) := by decide +kernel
theorem dX5_thread_97 : decode cX5_thread 97 = .ok (.istore 5, 2) := by decide +kernel
theorem dX5_thread_99 : decode cX5_thread 99 = .ok (.aload_n 0, 1) := by decide +kernel
theorem dX5_thread_100 : decode cX5_thread 100 = .ok (.getfield 20, 3) := by decide +kernel
theorem dX5_thread_103 : decode cX5_thread 103 = .ok (.iload_n 1, 1) := by decide +kernel
theorem dX5_thread_104 : decode cX5_thread 104 = .ok (.iload 4, 2) := by decide +kernel
theorem dX5_thread_106 : decode cX5_thread 106 = .ok (.iload 5, 2) := by decide +kernel
theorem dX5_thread_108 : decode cX5_thread 108 = .ok (.invokevirtual 161, 3) := by decide +kernel
theorem dX5_thread_111 : decode cX5_thread 111 = .ok (.aload_n 0, 1) := by decide +kernel
theorem dX5_thread_112 : decode cX5_thread 112 = .ok (.invokevirtual 82, 3) := by decide +kernel
theorem dX5_thread_115 : decode cX5_thread 115 = .ok (.iload 5, 2) := by decide +kernel
theorem dX5_thread_117 : decode cX5_thread 117 = .ok (.ireturn, 1) := by decide +kernel
theorem dX5_actionCount_0 : decode cX5_actionCount 0 = .ok (.aload_n 0, 1) := by decide +kernel
theorem dX5_actionCount_1 : decode cX5_actionCount 1 = .ok (.iload_n 1, 1) := by decide +kernel
theorem dX5_actionCount_2 : decode cX5_actionCount 2 = .ok (.invokevirtual 132, 3) := by decide +kernel
theorem dX5_actionCount_5 : decode cX5_actionCount 5 = .ok (.aload_n 0, 1) := by decide +kernel
theorem dX5_actionCount_6 : decode cX5_actionCount 6 = .ok (.getfield 20, 3) := by decide +kernel
theorem dX5_actionCount_9 : decode cX5_actionCount 9 = .ok (.getfield 128, 3) := by decide +kernel
theorem dX5_actionCount_12 : decode cX5_actionCount 12 = .ok (.iload_n 1, 1) := by decide +kernel
theorem dX5_actionCount_13 : decode cX5_actionCount 13 = .ok (.iaload, 1) := by decide +kernel
theorem dX5_actionCount_14 : decode cX5_actionCount 14 = .ok (.ireturn, 1) := by decide +kernel
theorem dX5_action_0 : decode cX5_action 0 = .ok (.aload_n 0, 1) := by decide +kernel
theorem dX5_action_1 : decode cX5_action 1 = .ok (.iload_n 1, 1) := by decide +kernel
theorem dX5_action_2 : decode cX5_action 2 = .ok (.iload_n 2, 1) := by decide +kernel
theorem dX5_action_3 : decode cX5_action 3 = .ok (.invokevirtual 121, 3) := by decide +kernel
theorem dX5_action_6 : decode cX5_action 6 = .ok (.aload_n 0, 1) := by decide +kernel
theorem dX5_action_7 : decode cX5_action 7 = .ok (.getfield 20, 3) := by decide +kernel
theorem dX5_action_10 : decode cX5_action 10 = .ok (.iload_n 1, 1) := by decide +kernel
theorem dX5_action_11 : decode cX5_action 11 = .ok (.iload_n 2, 1) := by decide +kernel
theorem dX5_action_12 : decode cX5_action 12 = .ok (.invokevirtual 165, 3) := by decide +kernel
theorem dX5_action_15 : decode cX5_action 15 = .ok (.ireturn, 1) := by decide +kernel
theorem dX5_edgeCount_0 : decode cX5_edgeCount 0 = .ok (.aload_n 0, 1) := by decide +kernel
theorem dX5_edgeCount_1 : decode cX5_edgeCount 1 = .ok (.iload_n 1, 1) := by decide +kernel
theorem dX5_edgeCount_2 : decode cX5_edgeCount 2 = .ok (.invokevirtual 132, 3) := by decide +kernel
theorem dX5_edgeCount_5 : decode cX5_edgeCount 5 = .ok (.aload_n 0, 1) := by decide +kernel
theorem dX5_edgeCount_6 : decode cX5_edgeCount 6 = .ok (.getfield 20, 3) := by decide +kernel
theorem dX5_edgeCount_9 : decode cX5_edgeCount 9 = .ok (.getfield 141, 3) := by decide +kernel
theorem dX5_edgeCount_12 : decode cX5_edgeCount 12 = .ok (.iload_n 1, 1) := by decide +kernel
theorem dX5_edgeCount_13 : decode cX5_edgeCount 13 = .ok (.iaload, 1) := by decide +kernel
theorem dX5_edgeCount_14 : decode cX5_edgeCount 14 = .ok (.ireturn, 1) := by decide +kernel
theorem dX5_target_0 : decode cX5_target 0 = .ok (.aload_n 0, 1) := by decide +kernel
theorem dX5_target_1 : decode cX5_target 1 = .ok (.getfield 20, 3) := by decide +kernel
theorem dX5_target_4 : decode cX5_target 4 = .ok (.iload_n 1, 1) := by decide +kernel
theorem dX5_target_5 : decode cX5_target 5 = .ok (.iload_n 2, 1) := by decide +kernel
theorem dX5_target_6 : decode cX5_target 6 = .ok (.invokevirtual 168, 3) := by decide +kernel
theorem dX5_target_9 : decode cX5_target 9 = .ok (.ifCond .ne 13, 3) := by decide +kernel
theorem dX5_target_12 : decode cX5_target 12 = .ok (.new 172, 3) := by decide +kernel
theorem dX5_target_15 : decode cX5_target 15 = .ok (.dup, 1) := by decide +kernel
theorem dX5_target_16 : decode cX5_target 16 = .ok (.ldc 174, 2) := by decide +kernel
theorem dX5_target_18 : decode cX5_target 18 = .ok (.invokespecial 176, 3) := by decide +kernel
theorem dX5_target_21 : decode cX5_target 21 = .ok (.athrow, 1) := by decide +kernel
theorem dX5_target_22 : decode cX5_target 22 = .ok (.aload_n 0, 1) := by decide +kernel
theorem dX5_target_23 : decode cX5_target 23 = .ok (.getfield 20, 3) := by decide +kernel
theorem dX5_target_26 : decode cX5_target 26 = .ok (.iload_n 1, 1) := by decide +kernel
theorem dX5_target_27 : decode cX5_target 27 = .ok (.iload_n 2, 1) := by decide +kernel
theorem dX5_target_28 : decode cX5_target 28 = .ok (.invokevirtual 177, 3) := by decide +kernel
theorem dX5_target_31 : decode cX5_target 31 = .ok (.ireturn, 1) := by decide +kernel
theorem dX5_isReachable_0 : decode cX5_isReachable 0 = .ok (.aload_n 0, 1) := by decide +kernel
theorem dX5_isReachable_1 : decode cX5_isReachable 1 = .ok (.iload_n 1, 1) := by decide +kernel
theorem dX5_isReachable_2 : decode cX5_isReachable 2 = .ok (.invokevirtual 132, 3) := by decide +kernel
theorem dX5_isReachable_5 : decode cX5_isReachable 5 = .ok (.aload_n 0, 1) := by decide +kernel
theorem dX5_isReachable_6 : decode cX5_isReachable 6 = .ok (.getfield 10, 3) := by decide +kernel
theorem dX5_isReachable_9 : decode cX5_isReachable 9 = .ok (.getfield 180, 3) := by decide +kernel
theorem dX5_isReachable_12 : decode cX5_isReachable 12 = .ok (.iload_n 1, 1) := by decide +kernel
theorem dX5_isReachable_13 : decode cX5_isReachable 13 = .ok (.invokestatic 183, 3) := by decide +kernel
theorem dX5_isReachable_16 : decode cX5_isReachable 16 = .ok (.ireturn, 1) := by decide +kernel
theorem dX5_predecessors_0 : decode cX5_predecessors 0 = .ok (.aload_n 0, 1) := by decide +kernel
theorem dX5_predecessors_1 : decode cX5_predecessors 1 = .ok (.iload_n 1, 1) := by decide +kernel
theorem dX5_predecessors_2 : decode cX5_predecessors 2 = .ok (.invokevirtual 186, 3) := by decide +kernel
theorem dX5_predecessors_5 : decode cX5_predecessors 5 = .ok (.aload_n 0, 1) := by decide +kernel
theorem dX5_predecessors_6 : decode cX5_predecessors 6 = .ok (.getfield 10, 3) := by decide +kernel
theorem dX5_predecessors_9 : decode cX5_predecessors 9 = .ok (.getfield 189, 3) := by decide +kernel
theorem dX5_predecessors_12 : decode cX5_predecessors 12 = .ok (.iload_n 1, 1) := by decide +kernel
theorem dX5_predecessors_13 : decode cX5_predecessors 13 = .ok (.iaload, 1) := by decide +kernel
theorem dX5_predecessors_14 : decode cX5_predecessors 14 = .ok (.ireturn, 1) := by decide +kernel
theorem dX5_dominates_0 : decode cX5_dominates 0 = .ok (.aload_n 0, 1) := by decide +kernel
theorem dX5_dominates_1 : decode cX5_dominates 1 = .ok (.iload_n 1, 1) := by decide +kernel
theorem dX5_dominates_2 : decode cX5_dominates 2 = .ok (.invokevirtual 132, 3) := by decide +kernel
theorem dX5_dominates_5 : decode cX5_dominates 5 = .ok (.aload_n 0, 1) := by decide +kernel
theorem dX5_dominates_6 : decode cX5_dominates 6 = .ok (.iload_n 2, 1) := by decide +kernel
theorem dX5_dominates_7 : decode cX5_dominates 7 = .ok (.invokevirtual 132, 3) := by decide +kernel
theorem dX5_dominates_10 : decode cX5_dominates 10 = .ok (.aload_n 0, 1) := by decide +kernel
theorem dX5_dominates_11 : decode cX5_dominates 11 = .ok (.iload_n 1, 1) := by decide +kernel
theorem dX5_dominates_12 : decode cX5_dominates 12 = .ok (.invokevirtual 186, 3) := by decide +kernel
theorem dX5_dominates_15 : decode cX5_dominates 15 = .ok (.aload_n 0, 1) := by decide +kernel
theorem dX5_dominates_16 : decode cX5_dominates 16 = .ok (.iload_n 2, 1) := by decide +kernel
theorem dX5_dominates_17 : decode cX5_dominates 17 = .ok (.invokevirtual 186, 3) := by decide +kernel
theorem dX5_dominates_20 : decode cX5_dominates 20 = .ok (.aload_n 0, 1) := by decide +kernel
theorem dX5_dominates_21 : decode cX5_dominates 21 = .ok (.getfield 10, 3) := by decide +kernel
theorem dX5_dominates_24 : decode cX5_dominates 24 = .ok (.getfield 192, 3) := by decide +kernel
theorem dX5_dominates_27 : decode cX5_dominates 27 = .ok (.iload_n 1, 1) := by decide +kernel
theorem dX5_dominates_28 : decode cX5_dominates 28 = .ok (.iaload, 1) := by decide +kernel
theorem dX5_dominates_29 : decode cX5_dominates 29 = .ok (.iload_n 2, 1) := by decide +kernel
theorem dX5_dominates_30 : decode cX5_dominates 30 = .ok (.invokestatic 183, 3) := by decide +kernel
theorem dX5_dominates_33 : decode cX5_dominates 33 = .ok (.ireturn, 1) := by decide +kernel
theorem dX5_parent_0 : decode cX5_parent 0 = .ok (.aload_n 0, 1) := by decide +kernel
theorem dX5_parent_1 : decode cX5_parent 1 = .ok (.iload_n 1, 1) := by decide +kernel
theorem dX5_parent_2 : decode cX5_parent 2 = .ok (.invokevirtual 186, 3) := by decide +kernel
theorem dX5_parent_5 : decode cX5_parent 5 = .ok (.iload_n 1, 1) := by decide +kernel
theorem dX5_parent_6 : decode cX5_parent 6 = .ok (.ifCond .ne 13, 3) := by decide +kernel
theorem dX5_parent_9 : decode cX5_parent 9 = .ok (.new 116, 3) := by decide +kernel
theorem dX5_parent_12 : decode cX5_parent 12 = .ok (.dup, 1) := by decide +kernel
theorem dX5_parent_13 : decode cX5_parent 13 = .ok (.ldc 195, 2) := by decide +kernel
theorem dX5_parent_15 : decode cX5_parent 15 = .ok (.invokespecial 120, 3) := by decide +kernel
theorem dX5_parent_18 : decode cX5_parent 18 = .ok (.athrow, 1) := by decide +kernel
theorem dX5_parent_19 : decode cX5_parent 19 = .ok (.aload_n 0, 1) := by decide +kernel
theorem dX5_parent_20 : decode cX5_parent 20 = .ok (.getfield 10, 3) := by decide +kernel
theorem dX5_parent_23 : decode cX5_parent 23 = .ok (.getfield 197, 3) := by decide +kernel
theorem dX5_parent_26 : decode cX5_parent 26 = .ok (.iload_n 1, 1) := by decide +kernel
theorem dX5_parent_27 : decode cX5_parent 27 = .ok (.iaload, 1) := by decide +kernel
theorem dX5_parent_28 : decode cX5_parent 28 = .ok (.ireturn, 1) := by decide +kernel
theorem dX5_frontier_0 : decode cX5_frontier 0 = .ok (.aload_n 0, 1) := by decide +kernel
theorem dX5_frontier_1 : decode cX5_frontier 1 = .ok (.iload_n 1, 1) := by decide +kernel
theorem dX5_frontier_2 : decode cX5_frontier 2 = .ok (.invokevirtual 186, 3) := by decide +kernel
theorem dX5_frontier_5 : decode cX5_frontier 5 = .ok (.aload_n 0, 1) := by decide +kernel
theorem dX5_frontier_6 : decode cX5_frontier 6 = .ok (.getfield 10, 3) := by decide +kernel
theorem dX5_frontier_9 : decode cX5_frontier 9 = .ok (.getfield 200, 3) := by decide +kernel
theorem dX5_frontier_12 : decode cX5_frontier 12 = .ok (.iload_n 1, 1) := by decide +kernel
theorem dX5_frontier_13 : decode cX5_frontier 13 = .ok (.iaload, 1) := by decide +kernel
theorem dX5_frontier_14 : decode cX5_frontier 14 = .ok (.ireturn, 1) := by decide +kernel
theorem dX5_isLive_0 : decode cX5_isLive 0 = .ok (.aload_n 0, 1) := by decide +kernel
theorem dX5_isLive_1 : decode cX5_isLive 1 = .ok (.iload_n 2, 1) := by decide +kernel
theorem dX5_isLive_2 : decode cX5_isLive 2 = .ok (.invokevirtual 203, 3) := by decide +kernel
theorem dX5_isLive_5 : decode cX5_isLive 5 = .ok (.aload_n 0, 1) := by decide +kernel
theorem dX5_isLive_6 : decode cX5_isLive 6 = .ok (.iload_n 1, 1) := by decide +kernel
theorem dX5_isLive_7 : decode cX5_isLive 7 = .ok (.invokevirtual 186, 3) := by decide +kernel
theorem dX5_isLive_10 : decode cX5_isLive 10 = .ok (.aload_n 0, 1) := by decide +kernel
theorem dX5_isLive_11 : decode cX5_isLive 11 = .ok (.getfield 10, 3) := by decide +kernel
theorem dX5_isLive_14 : decode cX5_isLive 14 = .ok (.getfield 206, 3) := by decide +kernel
theorem dX5_isLive_17 : decode cX5_isLive 17 = .ok (.iload_n 2, 1) := by decide +kernel
theorem dX5_isLive_18 : decode cX5_isLive 18 = .ok (.iaload, 1) := by decide +kernel
theorem dX5_isLive_19 : decode cX5_isLive 19 = .ok (.iload_n 1, 1) := by decide +kernel
theorem dX5_isLive_20 : decode cX5_isLive 20 = .ok (.invokestatic 183, 3) := by decide +kernel
theorem dX5_isLive_23 : decode cX5_isLive 23 = .ok (.ireturn, 1) := by decide +kernel
theorem dX5_minimalMerges_0 : decode cX5_minimalMerges 0 = .ok (.aload_n 0, 1) := by decide +kernel
theorem dX5_minimalMerges_1 : decode cX5_minimalMerges 1 = .ok (.iload_n 1, 1) := by decide +kernel
theorem dX5_minimalMerges_2 : decode cX5_minimalMerges 2 = .ok (.invokevirtual 203, 3) := by decide +kernel
theorem dX5_minimalMerges_5 : decode cX5_minimalMerges 5 = .ok (.aload_n 0, 1) := by decide +kernel
theorem dX5_minimalMerges_6 : decode cX5_minimalMerges 6 = .ok (.getfield 10, 3) := by decide +kernel
theorem dX5_minimalMerges_9 : decode cX5_minimalMerges 9 = .ok (.getfield 209, 3) := by decide +kernel
theorem dX5_minimalMerges_12 : decode cX5_minimalMerges 12 = .ok (.iload_n 1, 1) := by decide +kernel
theorem dX5_minimalMerges_13 : decode cX5_minimalMerges 13 = .ok (.iaload, 1) := by decide +kernel
theorem dX5_minimalMerges_14 : decode cX5_minimalMerges 14 = .ok (.ireturn, 1) := by decide +kernel
theorem dX5_merges_0 : decode cX5_merges 0 = .ok (.aload_n 0, 1) := by decide +kernel
theorem dX5_merges_1 : decode cX5_merges 1 = .ok (.iload_n 1, 1) := by decide +kernel
theorem dX5_merges_2 : decode cX5_merges 2 = .ok (.invokevirtual 203, 3) := by decide +kernel
theorem dX5_merges_5 : decode cX5_merges 5 = .ok (.aload_n 0, 1) := by decide +kernel
theorem dX5_merges_6 : decode cX5_merges 6 = .ok (.getfield 10, 3) := by decide +kernel
theorem dX5_merges_9 : decode cX5_merges 9 = .ok (.getfield 212, 3) := by decide +kernel
theorem dX5_merges_12 : decode cX5_merges 12 = .ok (.iload_n 1, 1) := by decide +kernel
theorem dX5_merges_13 : decode cX5_merges 13 = .ok (.iaload, 1) := by decide +kernel
theorem dX5_merges_14 : decode cX5_merges 14 = .ok (.ireturn, 1) := by decide +kernel
theorem dX5_mergeCount_0 : decode cX5_mergeCount 0 = .ok (.aload_n 0, 1) := by decide +kernel
theorem dX5_mergeCount_1 : decode cX5_mergeCount 1 = .ok (.getfield 10, 3) := by decide +kernel
theorem dX5_mergeCount_4 : decode cX5_mergeCount 4 = .ok (.invokevirtual 215, 3) := by decide +kernel
theorem dX5_mergeCount_7 : decode cX5_mergeCount 7 = .ok (.ireturn, 1) := by decide +kernel
theorem dX5_source_0 : decode cX5_source 0 = .ok (.aload_n 0, 1) := by decide +kernel
theorem dX5_source_1 : decode cX5_source 1 = .ok (.iload_n 2, 1) := by decide +kernel
theorem dX5_source_2 : decode cX5_source 2 = .ok (.invokevirtual 203, 3) := by decide +kernel
theorem dX5_source_5 : decode cX5_source 5 = .ok (.aload_n 0, 1) := by decide +kernel
theorem dX5_source_6 : decode cX5_source 6 = .ok (.iload_n 1, 1) := by decide +kernel
theorem dX5_source_7 : decode cX5_source 7 = .ok (.invokevirtual 186, 3) := by decide +kernel
theorem dX5_source_10 : decode cX5_source 10 = .ok (.iload_n 3, 1) := by decide +kernel
theorem dX5_source_11 : decode cX5_source 11 = .ok (.ifCond .eq 15, 3) := by decide +kernel
theorem dX5_source_14 : decode cX5_source 14 = .ok (.aload_n 0, 1) := by decide +kernel
theorem dX5_source_15 : decode cX5_source 15 = .ok (.getfield 10, 3) := by decide +kernel
theorem dX5_source_18 : decode cX5_source 18 = .ok (.iload_n 1, 1) := by decide +kernel
theorem dX5_source_19 : decode cX5_source 19 = .ok (.iload_n 2, 1) := by decide +kernel
theorem dX5_source_20 : decode cX5_source 20 = .ok (.invokevirtual 219, 3) := by decide +kernel
theorem dX5_source_23 : decode cX5_source 23 = .ok (.goto 12, 3) := by decide +kernel
theorem dX5_source_26 : decode cX5_source 26 = .ok (.aload_n 0, 1) := by decide +kernel
theorem dX5_source_27 : decode cX5_source 27 = .ok (.getfield 10, 3) := by decide +kernel
theorem dX5_source_30 : decode cX5_source 30 = .ok (.iload_n 1, 1) := by decide +kernel
theorem dX5_source_31 : decode cX5_source 31 = .ok (.iload_n 2, 1) := by decide +kernel
theorem dX5_source_32 : decode cX5_source 32 = .ok (.invokevirtual 222, 3) := by decide +kernel
theorem dX5_source_35 : decode cX5_source 35 = .ok (.ireturn, 1) := by decide +kernel
theorem dX5_sourceOfUse_0 : decode cX5_sourceOfUse 0 = .ok (.aload_n 0, 1) := by decide +kernel
theorem dX5_sourceOfUse_1 : decode cX5_sourceOfUse 1 = .ok (.iload_n 1, 1) := by decide +kernel
theorem dX5_sourceOfUse_2 : decode cX5_sourceOfUse 2 = .ok (.iload_n 2, 1) := by decide +kernel
theorem dX5_sourceOfUse_3 : decode cX5_sourceOfUse 3 = .ok (.invokevirtual 121, 3) := by decide +kernel
theorem dX5_sourceOfUse_6 : decode cX5_sourceOfUse 6 = .ok (.aload_n 0, 1) := by decide +kernel
theorem dX5_sourceOfUse_7 : decode cX5_sourceOfUse 7 = .ok (.iload_n 1, 1) := by decide +kernel
theorem dX5_sourceOfUse_8 : decode cX5_sourceOfUse 8 = .ok (.invokevirtual 186, 3) := by decide +kernel
theorem dX5_sourceOfUse_11 : decode cX5_sourceOfUse 11 = .ok (.aload_n 0, 1) := by decide +kernel
theorem dX5_sourceOfUse_12 : decode cX5_sourceOfUse 12 = .ok (.getfield 20, 3) := by decide +kernel
theorem dX5_sourceOfUse_15 : decode cX5_sourceOfUse 15 = .ok (.iload_n 1, 1) := by decide +kernel
theorem dX5_sourceOfUse_16 : decode cX5_sourceOfUse 16 = .ok (.iload_n 2, 1) := by decide +kernel
theorem dX5_sourceOfUse_17 : decode cX5_sourceOfUse 17 = .ok (.invokevirtual 165, 3) := by decide +kernel
theorem dX5_sourceOfUse_20 : decode cX5_sourceOfUse 20 = .ok (.invokestatic 225, 3) := by decide +kernel
theorem dX5_sourceOfUse_23 : decode cX5_sourceOfUse 23 = .ok (.ifCond .ne 13, 3) := by decide +kernel
theorem dX5_sourceOfUse_26 : decode cX5_sourceOfUse 26 = .ok (.new 116, 3) := by decide +kernel
theorem dX5_sourceOfUse_29 : decode cX5_sourceOfUse 29 = .ok (.dup, 1) := by decide +kernel
theorem dX5_sourceOfUse_30 : decode cX5_sourceOfUse 30 = .ok (.ldc 229, 2) := by decide +kernel
theorem dX5_sourceOfUse_32 : decode cX5_sourceOfUse 32 = .ok (.invokespecial 120, 3) := by decide +kernel
theorem dX5_sourceOfUse_35 : decode cX5_sourceOfUse 35 = .ok (.athrow, 1) := by decide +kernel
theorem dX5_sourceOfUse_36 : decode cX5_sourceOfUse 36 = .ok (.aload_n 0, 1) := by decide +kernel
theorem dX5_sourceOfUse_37 : decode cX5_sourceOfUse 37 = .ok (.getfield 10, 3) := by decide +kernel
theorem dX5_sourceOfUse_40 : decode cX5_sourceOfUse 40 = .ok (.iload_n 1, 1) := by decide +kernel
theorem dX5_sourceOfUse_41 : decode cX5_sourceOfUse 41 = .ok (.iload_n 2, 1) := by decide +kernel
theorem dX5_sourceOfUse_42 : decode cX5_sourceOfUse 42 = .ok (.invokevirtual 231, 3) := by decide +kernel
theorem dX5_sourceOfUse_45 : decode cX5_sourceOfUse 45 = .ok (.ireturn, 1) := by decide +kernel
theorem dX5_operand_0 : decode cX5_operand 0 = .ok (.aload_n 0, 1) := by decide +kernel
theorem dX5_operand_1 : decode cX5_operand 1 = .ok (.iload_n 1, 1) := by decide +kernel
theorem dX5_operand_2 : decode cX5_operand 2 = .ok (.iload_n 2, 1) := by decide +kernel
theorem dX5_operand_3 : decode cX5_operand 3 = .ok (.invokevirtual 234, 3) := by decide +kernel
theorem dX5_operand_6 : decode cX5_operand 6 = .ok (.aload_n 0, 1) := by decide +kernel
theorem dX5_operand_7 : decode cX5_operand 7 = .ok (.getfield 20, 3) := by decide +kernel
theorem dX5_operand_10 : decode cX5_operand 10 = .ok (.iload_n 3, 1) := by decide +kernel
theorem dX5_operand_11 : decode cX5_operand 11 = .ok (.invokevirtual 237, 3) := by decide +kernel
theorem dX5_operand_14 : decode cX5_operand 14 = .ok (.ifCond .eq 19, 3) := by decide +kernel
theorem dX5_operand_17 : decode cX5_operand 17 = .ok (.aload_n 0, 1) := by decide +kernel
theorem dX5_operand_18 : decode cX5_operand 18 = .ok (.getfield 10, 3) := by decide +kernel
theorem dX5_operand_21 : decode cX5_operand 21 = .ok (.getfield 189, 3) := by decide +kernel
theorem dX5_operand_24 : decode cX5_operand 24 = .ok (.iload_n 1, 1) := by decide +kernel
theorem dX5_operand_25 : decode cX5_operand 25 = .ok (.iaload, 1) := by decide +kernel
theorem dX5_operand_26 : decode cX5_operand 26 = .ok (.iload_n 3, 1) := by decide +kernel
theorem dX5_operand_27 : decode cX5_operand 27 = .ok (.invokestatic 183, 3) := by decide +kernel
theorem dX5_operand_30 : decode cX5_operand 30 = .ok (.ifCond .ne 13, 3) := by decide +kernel
theorem dX5_operand_33 : decode cX5_operand 33 = .ok (.new 116, 3) := by decide +kernel
theorem dX5_operand_36 : decode cX5_operand 36 = .ok (.dup, 1) := by decide +kernel
theorem dX5_operand_37 : decode cX5_operand 37 = .ok (.ldc 240, 2) := by decide +kernel
theorem dX5_operand_39 : decode cX5_operand 39 = .ok (.invokespecial 120, 3) := by decide +kernel
theorem dX5_operand_42 : decode cX5_operand 42 = .ok (.athrow, 1) := by decide +kernel
theorem dX5_operand_43 : decode cX5_operand 43 = .ok (.aload_n 0, 1) := by decide +kernel
theorem dX5_operand_44 : decode cX5_operand 44 = .ok (.getfield 10, 3) := by decide +kernel
theorem dX5_operand_47 : decode cX5_operand 47 = .ok (.iload_n 3, 1) := by decide +kernel
theorem dX5_operand_48 : decode cX5_operand 48 = .ok (.iload_n 2, 1) := by decide +kernel
theorem dX5_operand_49 : decode cX5_operand 49 = .ok (.invokevirtual 219, 3) := by decide +kernel
theorem dX5_operand_52 : decode cX5_operand 52 = .ok (.ireturn, 1) := by decide +kernel
theorem dX5_differentOperands_0 : decode cX5_differentOperands 0 = .ok (.aload_n 0, 1) := by decide +kernel
theorem dX5_differentOperands_1 : decode cX5_differentOperands 1 = .ok (.iload_n 1, 1) := by decide +kernel
theorem dX5_differentOperands_2 : decode cX5_differentOperands 2 = .ok (.iload_n 2, 1) := by decide +kernel
theorem dX5_differentOperands_3 : decode cX5_differentOperands 3 = .ok (.invokevirtual 234, 3) := by decide +kernel
theorem dX5_differentOperands_6 : decode cX5_differentOperands 6 = .ok (.aload_n 0, 1) := by decide +kernel
theorem dX5_differentOperands_7 : decode cX5_differentOperands 7 = .ok (.getfield 10, 3) := by decide +kernel
theorem dX5_differentOperands_10 : decode cX5_differentOperands 10 = .ok (.iload_n 1, 1) := by decide +kernel
theorem dX5_differentOperands_11 : decode cX5_differentOperands 11 = .ok (.iload_n 2, 1) := by decide +kernel
theorem dX5_differentOperands_12 : decode cX5_differentOperands 12 = .ok (.invokevirtual 242, 3) := by decide +kernel
theorem dX5_differentOperands_15 : decode cX5_differentOperands 15 = .ok (.ireturn, 1) := by decide +kernel
theorem dX5_usesOf_0 : decode cX5_usesOf 0 = .ok (.aload_n 0, 1) := by decide +kernel
theorem dX5_usesOf_1 : decode cX5_usesOf 1 = .ok (.iload_n 1, 1) := by decide +kernel
theorem dX5_usesOf_2 : decode cX5_usesOf 2 = .ok (.invokevirtual 203, 3) := by decide +kernel
theorem dX5_usesOf_5 : decode cX5_usesOf 5 = .ok (.aload_n 0, 1) := by decide +kernel
theorem dX5_usesOf_6 : decode cX5_usesOf 6 = .ok (.getfield 10, 3) := by decide +kernel
theorem dX5_usesOf_9 : decode cX5_usesOf 9 = .ok (.iload_n 1, 1) := by decide +kernel
theorem dX5_usesOf_10 : decode cX5_usesOf 10 = .ok (.iload_n 2, 1) := by decide +kernel
theorem dX5_usesOf_11 : decode cX5_usesOf 11 = .ok (.invokevirtual 245, 3) := by decide +kernel
theorem dX5_usesOf_14 : decode cX5_usesOf 14 = .ok (.ireturn, 1) := by decide +kernel
theorem dX5_unneeded_0 : decode cX5_unneeded 0 = .ok (.aload_n 0, 1) := by decide +kernel
theorem dX5_unneeded_1 : decode cX5_unneeded 1 = .ok (.getfield 10, 3) := by decide +kernel
theorem dX5_unneeded_4 : decode cX5_unneeded 4 = .ok (.invokevirtual 248, 3) := by decide +kernel
theorem dX5_unneeded_7 : decode cX5_unneeded 7 = .ok (.ireturn, 1) := by decide +kernel
theorem dX5_reachingCount_0 : decode cX5_reachingCount 0 = .ok (.aload_n 0, 1) := by decide +kernel
theorem dX5_reachingCount_1 : decode cX5_reachingCount 1 = .ok (.iload_n 2, 1) := by decide +kernel
theorem dX5_reachingCount_2 : decode cX5_reachingCount 2 = .ok (.invokevirtual 203, 3) := by decide +kernel
theorem dX5_reachingCount_5 : decode cX5_reachingCount 5 = .ok (.aload_n 0, 1) := by decide +kernel
theorem dX5_reachingCount_6 : decode cX5_reachingCount 6 = .ok (.iload_n 1, 1) := by decide +kernel
theorem dX5_reachingCount_7 : decode cX5_reachingCount 7 = .ok (.invokevirtual 186, 3) := by decide +kernel
theorem dX5_reachingCount_10 : decode cX5_reachingCount 10 = .ok (.aload_n 0, 1) := by decide +kernel
theorem dX5_reachingCount_11 : decode cX5_reachingCount 11 = .ok (.getfield 10, 3) := by decide +kernel
theorem dX5_reachingCount_14 : decode cX5_reachingCount 14 = .ok (.iload_n 1, 1) := by decide +kernel
theorem dX5_reachingCount_15 : decode cX5_reachingCount 15 = .ok (.iload_n 2, 1) := by decide +kernel
theorem dX5_reachingCount_16 : decode cX5_reachingCount 16 = .ok (.invokevirtual 251, 3) := by decide +kernel
theorem dX5_reachingCount_19 : decode cX5_reachingCount 19 = .ok (.invokestatic 254, 3) := by decide +kernel
theorem dX5_reachingCount_22 : decode cX5_reachingCount 22 = .ok (.ireturn, 1) := by decide +kernel
theorem dX5_reaching_0 : decode cX5_reaching 0 = .ok (.aload_n 0, 1) := by decide +kernel
theorem dX5_reaching_1 : decode cX5_reaching 1 = .ok (.iload_n 2, 1) := by decide +kernel
theorem dX5_reaching_2 : decode cX5_reaching 2 = .ok (.invokevirtual 203, 3) := by decide +kernel
theorem dX5_reaching_5 : decode cX5_reaching 5 = .ok (.aload_n 0, 1) := by decide +kernel
theorem dX5_reaching_6 : decode cX5_reaching 6 = .ok (.iload_n 1, 1) := by decide +kernel
theorem dX5_reaching_7 : decode cX5_reaching 7 = .ok (.invokevirtual 186, 3) := by decide +kernel
theorem dX5_reaching_10 : decode cX5_reaching 10 = .ok (.aload_n 0, 1) := by decide +kernel
theorem dX5_reaching_11 : decode cX5_reaching 11 = .ok (.getfield 10, 3) := by decide +kernel
theorem dX5_reaching_14 : decode cX5_reaching 14 = .ok (.iload_n 1, 1) := by decide +kernel
theorem dX5_reaching_15 : decode cX5_reaching 15 = .ok (.iload_n 2, 1) := by decide +kernel
theorem dX5_reaching_16 : decode cX5_reaching 16 = .ok (.invokevirtual 251, 3) := by decide +kernel
theorem dX5_reaching_19 : decode cX5_reaching 19 = .ok (.iload_n 3, 1) := by decide +kernel
theorem dX5_reaching_20 : decode cX5_reaching 20 = .ok (.invokestatic 259, 3) := by decide +kernel
theorem dX5_reaching_23 : decode cX5_reaching 23 = .ok (.istore 4, 2) := by decide +kernel
theorem dX5_reaching_25 : decode cX5_reaching 25 = .ok (.iload 4, 2) := by decide +kernel
theorem dX5_reaching_27 : decode cX5_reaching 27 = .ok (.iconst (-1), 1) := by decide +kernel
theorem dX5_reaching_28 : decode cX5_reaching 28 = .ok (.if_icmp .ne 14, 3) := by decide +kernel
theorem dX5_reaching_31 : decode cX5_reaching 31 = .ok (.new 116, 3) := by decide +kernel
theorem dX5_reaching_34 : decode cX5_reaching 34 = .ok (.dup, 1) := by decide +kernel
theorem dX5_reaching_35 : decode cX5_reaching 35 = .ok (.ldc_w 262, 3) := by decide +kernel
theorem dX5_reaching_38 : decode cX5_reaching 38 = .ok (.invokespecial 120, 3) := by decide +kernel
theorem dX5_reaching_41 : decode cX5_reaching 41 = .ok (.athrow, 1) := by decide +kernel
theorem dX5_reaching_42 : decode cX5_reaching 42 = .ok (.aload_n 0, 1) := by decide +kernel
theorem dX5_reaching_43 : decode cX5_reaching 43 = .ok (.getfield 10, 3) := by decide +kernel
theorem dX5_reaching_46 : decode cX5_reaching 46 = .ok (.iload 4, 2) := by decide +kernel
theorem dX5_reaching_48 : decode cX5_reaching 48 = .ok (.iload_n 2, 1) := by decide +kernel
theorem dX5_reaching_49 : decode cX5_reaching 49 = .ok (.invokevirtual 219, 3) := by decide +kernel
theorem dX5_reaching_52 : decode cX5_reaching 52 = .ok (.ireturn, 1) := by decide +kernel
theorem dX5_isInitialReaching_0 : decode cX5_isInitialReaching 0 = .ok (.aload_n 0, 1) := by decide +kernel
theorem dX5_isInitialReaching_1 : decode cX5_isInitialReaching 1 = .ok (.iload_n 2, 1) := by decide +kernel
theorem dX5_isInitialReaching_2 : decode cX5_isInitialReaching 2 = .ok (.invokevirtual 203, 3) := by decide +kernel
theorem dX5_isInitialReaching_5 : decode cX5_isInitialReaching 5 = .ok (.aload_n 0, 1) := by decide +kernel
theorem dX5_isInitialReaching_6 : decode cX5_isInitialReaching 6 = .ok (.iload_n 1, 1) := by decide +kernel
theorem dX5_isInitialReaching_7 : decode cX5_isInitialReaching 7 = .ok (.invokevirtual 186, 3) := by decide +kernel
theorem dX5_isInitialReaching_10 : decode cX5_isInitialReaching 10 = .ok (.aload_n 0, 1) := by decide +kernel
theorem dX5_isInitialReaching_11 : decode cX5_isInitialReaching 11 = .ok (.getfield 10, 3) := by decide +kernel
theorem dX5_isInitialReaching_14 : decode cX5_isInitialReaching 14 = .ok (.iload_n 1, 1) := by decide +kernel
theorem dX5_isInitialReaching_15 : decode cX5_isInitialReaching 15 = .ok (.iload_n 2, 1) := by decide +kernel
theorem dX5_isInitialReaching_16 : decode cX5_isInitialReaching 16 = .ok (.invokevirtual 264, 3) := by decide +kernel
theorem dX5_isInitialReaching_19 : decode cX5_isInitialReaching 19 = .ok (.iconst 0, 1) := by decide +kernel
theorem dX5_isInitialReaching_20 : decode cX5_isInitialReaching 20 = .ok (.invokestatic 183, 3) := by decide +kernel
theorem dX5_isInitialReaching_23 : decode cX5_isInitialReaching 23 = .ok (.ireturn, 1) := by decide +kernel
theorem dX5_addedMerges_0 : decode cX5_addedMerges 0 = .ok (.aload_n 0, 1) := by decide +kernel
theorem dX5_addedMerges_1 : decode cX5_addedMerges 1 = .ok (.invokevirtual 267, 3) := by decide +kernel
theorem dX5_addedMerges_4 : decode cX5_addedMerges 4 = .ok (.ifCond .eq 17, 3) := by decide +kernel
theorem dX5_addedMerges_7 : decode cX5_addedMerges 7 = .ok (.aload_n 0, 1) := by decide +kernel
theorem dX5_addedMerges_8 : decode cX5_addedMerges 8 = .ok (.getfield 10, 3) := by decide +kernel
theorem dX5_addedMerges_11 : decode cX5_addedMerges 11 = .ok (.aload_n 0, 1) := by decide +kernel
theorem dX5_addedMerges_12 : decode cX5_addedMerges 12 = .ok (.getfield 21, 3) := by decide +kernel
theorem dX5_addedMerges_15 : decode cX5_addedMerges 15 = .ok (.invokestatic 271, 3) := by decide +kernel
theorem dX5_addedMerges_18 : decode cX5_addedMerges 18 = .ok (.goto 4, 3) := by decide +kernel
theorem dX5_addedMerges_21 : decode cX5_addedMerges 21 = .ok (.iconst 0, 1) := by decide +kernel
theorem dX5_addedMerges_22 : decode cX5_addedMerges 22 = .ok (.ireturn, 1) := by decide +kernel
theorem dX5_removedMerges_0 : decode cX5_removedMerges 0 = .ok (.aload_n 0, 1) := by decide +kernel
theorem dX5_removedMerges_1 : decode cX5_removedMerges 1 = .ok (.invokevirtual 267, 3) := by decide +kernel
theorem dX5_removedMerges_4 : decode cX5_removedMerges 4 = .ok (.ifCond .eq 17, 3) := by decide +kernel
theorem dX5_removedMerges_7 : decode cX5_removedMerges 7 = .ok (.aload_n 0, 1) := by decide +kernel
theorem dX5_removedMerges_8 : decode cX5_removedMerges 8 = .ok (.getfield 21, 3) := by decide +kernel
theorem dX5_removedMerges_11 : decode cX5_removedMerges 11 = .ok (.aload_n 0, 1) := by decide +kernel
theorem dX5_removedMerges_12 : decode cX5_removedMerges 12 = .ok (.getfield 10, 3) := by decide +kernel
theorem dX5_removedMerges_15 : decode cX5_removedMerges 15 = .ok (.invokestatic 271, 3) := by decide +kernel
theorem dX5_removedMerges_18 : decode cX5_removedMerges 18 = .ok (.goto 4, 3) := by decide +kernel
theorem dX5_removedMerges_21 : decode cX5_removedMerges 21 = .ok (.iconst 0, 1) := by decide +kernel
theorem dX5_removedMerges_22 : decode cX5_removedMerges 22 = .ok (.ireturn, 1) := by decide +kernel
theorem dX5_changedUses_0 : decode cX5_changedUses 0 = .ok (.aload_n 0, 1) := by decide +kernel
theorem dX5_changedUses_1 : decode cX5_changedUses 1 = .ok (.invokevirtual 267, 3) := by decide +kernel
theorem dX5_changedUses_4 : decode cX5_changedUses 4 = .ok (.ifCond .ne 5, 3) := by decide +kernel
theorem dX5_changedUses_7 : decode cX5_changedUses 7 = .ok (.iconst 0, 1) := by decide +kernel
theorem dX5_changedUses_8 : decode cX5_changedUses 8 = .ok (.ireturn, 1) := by decide +kernel
theorem dX5_changedUses_9 : decode cX5_changedUses 9 = .ok (.aload_n 0, 1) := by decide +kernel
theorem dX5_changedUses_10 : decode cX5_changedUses 10 = .ok (.getfield 10, 3) := by decide +kernel
theorem dX5_changedUses_13 : decode cX5_changedUses 13 = .ok (.getfield 180, 3) := by decide +kernel
theorem dX5_changedUses_16 : decode cX5_changedUses 16 = .ok (.aload_n 0, 1) := by decide +kernel
theorem dX5_changedUses_17 : decode cX5_changedUses 17 = .ok (.getfield 21, 3) := by decide +kernel
theorem dX5_changedUses_20 : decode cX5_changedUses 20 = .ok (.getfield 180, 3) := by decide +kernel
theorem dX5_changedUses_23 : decode cX5_changedUses 23 = .ok (.iand, 1) := by decide +kernel
theorem dX5_changedUses_24 : decode cX5_changedUses 24 = .ok (.istore_n 1, 1) := by decide +kernel
theorem dX5_changedUses_25 : decode cX5_changedUses 25 = .ok (.iconst 0, 1) := by decide +kernel
theorem dX5_changedUses_26 : decode cX5_changedUses 26 = .ok (.istore_n 2, 1) := by decide +kernel
theorem dX5_changedUses_27 : decode cX5_changedUses 27 = .ok (.iconst 0, 1) := by decide +kernel
theorem dX5_changedUses_28 : decode cX5_changedUses 28 = .ok (.istore_n 3, 1) := by decide +kernel
theorem dX5_changedUses_29 : decode cX5_changedUses 29 = .ok (.iload_n 3, 1) := by decide +kernel
theorem dX5_changedUses_30 : decode cX5_changedUses 30 = .ok (.bipush 14, 2) := by decide +kernel
theorem dX5_changedUses_32 : decode cX5_changedUses 32 = .ok (.if_icmp .ge 25, 3) := by decide +kernel
theorem dX5_changedUses_35 : decode cX5_changedUses 35 = .ok (.iload_n 1, 1) := by decide +kernel
theorem dX5_changedUses_36 : decode cX5_changedUses 36 = .ok (.iload_n 3, 1) := by decide +kernel
theorem dX5_changedUses_37 : decode cX5_changedUses 37 = .ok (.invokestatic 183, 3) := by decide +kernel
theorem dX5_changedUses_40 : decode cX5_changedUses 40 = .ok (.ifCond .eq 11, 3) := by decide +kernel
theorem dX5_changedUses_43 : decode cX5_changedUses 43 = .ok (.iload_n 2, 1) := by decide +kernel
theorem dX5_changedUses_44 : decode cX5_changedUses 44 = .ok (.aload_n 0, 1) := by decide +kernel
theorem dX5_changedUses_45 : decode cX5_changedUses 45 = .ok (.iload_n 3, 1) := by decide +kernel
theorem dX5_changedUses_46 : decode cX5_changedUses 46 = .ok (.invokevirtual 275, 3) := by decide +kernel
theorem dX5_changedUses_49 : decode cX5_changedUses 49 = .ok (.iadd, 1) := by decide +kernel
theorem dX5_changedUses_50 : decode cX5_changedUses 50 = .ok (.istore_n 2, 1) := by decide +kernel
theorem dX5_changedUses_51 : decode cX5_changedUses 51 = .ok (.iinc 3 1, 3) := by decide +kernel
theorem dX5_changedUses_54 : decode cX5_changedUses 54 = .ok (.goto (-25), 3) := by decide +kernel
theorem dX5_changedUses_57 : decode cX5_changedUses 57 = .ok (.iload_n 2, 1) := by decide +kernel
theorem dX5_changedUses_58 : decode cX5_changedUses 58 = .ok (.ireturn, 1) := by decide +kernel
theorem dX5_newlyReachable_0 : decode cX5_newlyReachable 0 = .ok (.aload_n 0, 1) := by decide +kernel
theorem dX5_newlyReachable_1 : decode cX5_newlyReachable 1 = .ok (.invokevirtual 267, 3) := by decide +kernel
theorem dX5_newlyReachable_4 : decode cX5_newlyReachable 4 = .ok (.ifCond .eq 23, 3) := by decide +kernel
theorem dX5_newlyReachable_7 : decode cX5_newlyReachable 7 = .ok (.aload_n 0, 1) := by decide +kernel
theorem dX5_newlyReachable_8 : decode cX5_newlyReachable 8 = .ok (.getfield 10, 3) := by decide +kernel
theorem dX5_newlyReachable_11 : decode cX5_newlyReachable 11 = .ok (.getfield 180, 3) := by decide +kernel
theorem dX5_newlyReachable_14 : decode cX5_newlyReachable 14 = .ok (.aload_n 0, 1) := by decide +kernel
theorem dX5_newlyReachable_15 : decode cX5_newlyReachable 15 = .ok (.getfield 21, 3) := by decide +kernel
theorem dX5_newlyReachable_18 : decode cX5_newlyReachable 18 = .ok (.getfield 180, 3) := by decide +kernel
theorem dX5_newlyReachable_21 : decode cX5_newlyReachable 21 = .ok (.iconst (-1), 1) := by decide +kernel
theorem dX5_newlyReachable_22 : decode cX5_newlyReachable 22 = .ok (.ixor, 1) := by decide +kernel
theorem dX5_newlyReachable_23 : decode cX5_newlyReachable 23 = .ok (.iand, 1) := by decide +kernel
theorem dX5_newlyReachable_24 : decode cX5_newlyReachable 24 = .ok (.goto 4, 3) := by decide +kernel
theorem dX5_newlyReachable_27 : decode cX5_newlyReachable 27 = .ok (.iconst 0, 1) := by decide +kernel
theorem dX5_newlyReachable_28 : decode cX5_newlyReachable 28 = .ok (.ireturn, 1) := by decide +kernel
theorem dX5_undo_0 : decode cX5_undo 0 = .ok (.aload_n 0, 1) := by decide +kernel
theorem dX5_undo_1 : decode cX5_undo 1 = .ok (.getfield 40, 3) := by decide +kernel
theorem dX5_undo_4 : decode cX5_undo 4 = .ok (.getfield 278, 3) := by decide +kernel
theorem dX5_undo_7 : decode cX5_undo 7 = .ok (.ifCond .ne 14, 3) := by decide +kernel
theorem dX5_undo_10 : decode cX5_undo 10 = .ok (.new 116, 3) := by decide +kernel
theorem dX5_undo_13 : decode cX5_undo 13 = .ok (.dup, 1) := by decide +kernel
theorem dX5_undo_14 : decode cX5_undo 14 = .ok (.ldc_w 281, 3) := by decide +kernel
theorem dX5_undo_17 : decode cX5_undo 17 = .ok (.invokespecial 120, 3) := by decide +kernel
theorem dX5_undo_20 : decode cX5_undo 20 = .ok (.athrow, 1) := by decide +kernel
theorem dX5_undo_21 : decode cX5_undo 21 = .ok (.aload_n 0, 1) := by decide +kernel
theorem dX5_undo_22 : decode cX5_undo 22 = .ok (.getfield 40, 3) := by decide +kernel
theorem dX5_undo_25 : decode cX5_undo 25 = .ok (.aload_n 0, 1) := by decide +kernel
theorem dX5_undo_26 : decode cX5_undo 26 = .ok (.getfield 20, 3) := by decide +kernel
theorem dX5_undo_29 : decode cX5_undo 29 = .ok (.invokevirtual 283, 3) := by decide +kernel
theorem dX5_undo_32 : decode cX5_undo 32 = .ok (.aload_n 0, 1) := by decide +kernel
theorem dX5_undo_33 : decode cX5_undo 33 = .ok (.invokevirtual 82, 3) := by decide +kernel
theorem dX5_undo_36 : decode cX5_undo 36 = .ok (.aload_n 0, 1) := by decide +kernel
theorem dX5_undo_37 : decode cX5_undo 37 = .ok (.getfield 40, 3) := by decide +kernel
theorem dX5_undo_40 : decode cX5_undo 40 = .ok (.getfield 278, 3) := by decide +kernel
theorem dX5_undo_43 : decode cX5_undo 43 = .ok (.ireturn, 1) := by decide +kernel
theorem dX5_walk_0 : decode cX5_walk 0 = .ok (.aload_n 0, 1) := by decide +kernel
theorem dX5_walk_1 : decode cX5_walk 1 = .ok (.getfield 58, 3) := by decide +kernel
theorem dX5_walk_4 : decode cX5_walk 4 = .ok (.getfield 286, 3) := by decide +kernel
theorem dX5_walk_7 : decode cX5_walk 7 = .ok (.bipush 30, 2) := by decide +kernel
theorem dX5_walk_9 : decode cX5_walk 9 = .ok (.if_icmp .lt 14, 3) := by decide +kernel
theorem dX5_walk_12 : decode cX5_walk 12 = .ok (.new 90, 3) := by decide +kernel
theorem dX5_walk_15 : decode cX5_walk 15 = .ok (.dup, 1) := by decide +kernel
theorem dX5_walk_16 : decode cX5_walk 16 = .ok (.ldc_w 289, 3) := by decide +kernel
theorem dX5_walk_19 : decode cX5_walk 19 = .ok (.invokespecial 94, 3) := by decide +kernel
theorem dX5_walk_22 : decode cX5_walk 22 = .ok (.athrow, 1) := by decide +kernel
theorem dX5_walk_23 : decode cX5_walk 23 = .ok (.aload_n 0, 1) := by decide +kernel
theorem dX5_walk_24 : decode cX5_walk 24 = .ok (.getfield 20, 3) := by decide +kernel
theorem dX5_walk_27 : decode cX5_walk 27 = .ok (.aload_n 0, 1) := by decide +kernel
theorem dX5_walk_28 : decode cX5_walk 28 = .ok (.getfield 58, 3) := by decide +kernel
theorem dX5_walk_31 : decode cX5_walk 31 = .ok (.invokevirtual 291, 3) := by decide +kernel
theorem dX5_walk_34 : decode cX5_walk 34 = .ok (.iload_n 1, 1) := by decide +kernel
theorem dX5_walk_35 : decode cX5_walk 35 = .ok (.invokevirtual 168, 3) := by decide +kernel
theorem dX5_walk_38 : decode cX5_walk 38 = .ok (.ifCond .ne 14, 3) := by decide +kernel
theorem dX5_walk_41 : decode cX5_walk 41 = .ok (.new 116, 3) := by decide +kernel
theorem dX5_walk_44 : decode cX5_walk 44 = .ok (.dup, 1) := by decide +kernel
theorem dX5_walk_45 : decode cX5_walk 45 = .ok (.ldc_w 294, 3) := by decide +kernel
theorem dX5_walk_48 : decode cX5_walk 48 = .ok (.invokespecial 120, 3) := by decide +kernel
theorem dX5_walk_51 : decode cX5_walk 51 = .ok (.athrow, 1) := by decide +kernel
theorem dX5_walk_52 : decode cX5_walk 52 = .ok (.aload_n 0, 1) := by decide +kernel
theorem dX5_walk_53 : decode cX5_walk 53 = .ok (.getfield 58, 3) := by decide +kernel
theorem dX5_walk_56 : decode cX5_walk 56 = .ok (.aload_n 0, 1) := by decide +kernel
theorem dX5_walk_57 : decode cX5_walk 57 = .ok (.getfield 20, 3) := by decide +kernel
theorem dX5_walk_60 : decode cX5_walk 60 = .ok (.aload_n 0, 1) := by decide +kernel
theorem dX5_walk_61 : decode cX5_walk 61 = .ok (.getfield 58, 3) := by decide +kernel
theorem dX5_walk_64 : decode cX5_walk 64 = .ok (.invokevirtual 291, 3) := by decide +kernel
theorem dX5_walk_67 : decode cX5_walk 67 = .ok (.iload_n 1, 1) := by decide +kernel
theorem dX5_walk_68 : decode cX5_walk 68 = .ok (.invokevirtual 177, 3) := by decide +kernel
theorem dX5_walk_71 : decode cX5_walk 71 = .ok (.invokevirtual 296, 3) := by decide +kernel
theorem dX5_walk_74 : decode cX5_walk 74 = .ok (.aload_n 0, 1) := by decide +kernel
theorem dX5_walk_75 : decode cX5_walk 75 = .ok (.getfield 58, 3) := by decide +kernel
theorem dX5_walk_78 : decode cX5_walk 78 = .ok (.invokevirtual 291, 3) := by decide +kernel
theorem dX5_walk_81 : decode cX5_walk 81 = .ok (.ireturn, 1) := by decide +kernel
theorem dX5_clearWalk_0 : decode cX5_clearWalk 0 = .ok (.aload_n 0, 1) := by decide +kernel
theorem dX5_clearWalk_1 : decode cX5_clearWalk 1 = .ok (.getfield 58, 3) := by decide +kernel
theorem dX5_clearWalk_4 : decode cX5_clearWalk 4 = .ok (.getfield 286, 3) := by decide +kernel
theorem dX5_clearWalk_7 : decode cX5_clearWalk 7 = .ok (.istore_n 1, 1) := by decide +kernel
theorem dX5_clearWalk_8 : decode cX5_clearWalk 8 = .ok (.aload_n 0, 1) := by decide +kernel
theorem dX5_clearWalk_9 : decode cX5_clearWalk 9 = .ok (.getfield 58, 3) := by decide +kernel
theorem dX5_clearWalk_12 : decode cX5_clearWalk 12 = .ok (.iconst 0, 1) := by decide +kernel
theorem dX5_clearWalk_13 : decode cX5_clearWalk 13 = .ok (.putfield 286, 3) := by decide +kernel
theorem dX5_clearWalk_16 : decode cX5_clearWalk 16 = .ok (.iload_n 1, 1) := by decide +kernel
theorem dX5_clearWalk_17 : decode cX5_clearWalk 17 = .ok (.ireturn, 1) := by decide +kernel
theorem dX5_walkEnd_0 : decode cX5_walkEnd 0 = .ok (.aload_n 0, 1) := by decide +kernel
theorem dX5_walkEnd_1 : decode cX5_walkEnd 1 = .ok (.getfield 58, 3) := by decide +kernel
theorem dX5_walkEnd_4 : decode cX5_walkEnd 4 = .ok (.invokevirtual 291, 3) := by decide +kernel
theorem dX5_walkEnd_7 : decode cX5_walkEnd 7 = .ok (.ireturn, 1) := by decide +kernel
theorem dX5_lastOnWalk_0 : decode cX5_lastOnWalk 0 = .ok (.aload_n 0, 1) := by decide +kernel
theorem dX5_lastOnWalk_1 : decode cX5_lastOnWalk 1 = .ok (.iload_n 1, 1) := by decide +kernel
theorem dX5_lastOnWalk_2 : decode cX5_lastOnWalk 2 = .ok (.invokevirtual 203, 3) := by decide +kernel
theorem dX5_lastOnWalk_5 : decode cX5_lastOnWalk 5 = .ok (.aload_n 0, 1) := by decide +kernel
theorem dX5_lastOnWalk_6 : decode cX5_lastOnWalk 6 = .ok (.getfield 58, 3) := by decide +kernel
theorem dX5_lastOnWalk_9 : decode cX5_lastOnWalk 9 = .ok (.getfield 286, 3) := by decide +kernel
theorem dX5_lastOnWalk_12 : decode cX5_lastOnWalk 12 = .ok (.iconst 1, 1) := by decide +kernel
theorem dX5_lastOnWalk_13 : decode cX5_lastOnWalk 13 = .ok (.isub, 1) := by decide +kernel
theorem dX5_lastOnWalk_14 : decode cX5_lastOnWalk 14 = .ok (.istore_n 2, 1) := by decide +kernel
theorem dX5_lastOnWalk_15 : decode cX5_lastOnWalk 15 = .ok (.iload_n 2, 1) := by decide +kernel
theorem dX5_lastOnWalk_16 : decode cX5_lastOnWalk 16 = .ok (.ifCond .lt 34, 3) := by decide +kernel
theorem dX5_lastOnWalk_19 : decode cX5_lastOnWalk 19 = .ok (.aload_n 0, 1) := by decide +kernel
theorem dX5_lastOnWalk_20 : decode cX5_lastOnWalk 20 = .ok (.getfield 10, 3) := by decide +kernel
theorem dX5_lastOnWalk_23 : decode cX5_lastOnWalk 23 = .ok (.aload_n 0, 1) := by decide +kernel
theorem dX5_lastOnWalk_24 : decode cX5_lastOnWalk 24 = .ok (.getfield 58, 3) := by decide +kernel
theorem dX5_lastOnWalk_27 : decode cX5_lastOnWalk 27 = .ok (.getfield 299, 3) := by decide +kernel
theorem dX5_lastOnWalk_30 : decode cX5_lastOnWalk 30 = .ok (.iload_n 2, 1) := by decide +kernel
theorem dX5_lastOnWalk_31 : decode cX5_lastOnWalk 31 = .ok (.iaload, 1) := by decide +kernel
theorem dX5_lastOnWalk_32 : decode cX5_lastOnWalk 32 = .ok (.iload_n 1, 1) := by decide +kernel
theorem dX5_lastOnWalk_33 : decode cX5_lastOnWalk 33 = .ok (.invokevirtual 301, 3) := by decide +kernel
theorem dX5_lastOnWalk_36 : decode cX5_lastOnWalk 36 = .ok (.istore_n 3, 1) := by decide +kernel
theorem dX5_lastOnWalk_37 : decode cX5_lastOnWalk 37 = .ok (.iload_n 3, 1) := by decide +kernel
theorem dX5_lastOnWalk_38 : decode cX5_lastOnWalk 38 = .ok (.iconst (-1), 1) := by decide +kernel
theorem dX5_lastOnWalk_39 : decode cX5_lastOnWalk 39 = .ok (.if_icmp .eq 5, 3) := by decide +kernel
theorem dX5_lastOnWalk_42 : decode cX5_lastOnWalk 42 = .ok (.iload_n 3, 1) := by decide +kernel
theorem dX5_lastOnWalk_43 : decode cX5_lastOnWalk 43 = .ok (.ireturn, 1) := by decide +kernel
theorem dX5_lastOnWalk_44 : decode cX5_lastOnWalk 44 = .ok (.iinc 2 (-1), 3) := by decide +kernel
theorem dX5_lastOnWalk_47 : decode cX5_lastOnWalk 47 = .ok (.goto (-32), 3) := by decide +kernel
theorem dX5_lastOnWalk_50 : decode cX5_lastOnWalk 50 = .ok (.sipush 2000, 3) := by decide +kernel
theorem dX5_lastOnWalk_53 : decode cX5_lastOnWalk 53 = .ok (.ireturn, 1) := by decide +kernel
theorem dX5_mergesOnWalk_0 : decode cX5_mergesOnWalk 0 = .ok (.aload_n 0, 1) := by decide +kernel
theorem dX5_mergesOnWalk_1 : decode cX5_mergesOnWalk 1 = .ok (.iload_n 1, 1) := by decide +kernel
theorem dX5_mergesOnWalk_2 : decode cX5_mergesOnWalk 2 = .ok (.invokevirtual 203, 3) := by decide +kernel
theorem dX5_mergesOnWalk_5 : decode cX5_mergesOnWalk 5 = .ok (.iconst 0, 1) := by decide +kernel
theorem dX5_mergesOnWalk_6 : decode cX5_mergesOnWalk 6 = .ok (.istore_n 2, 1) := by decide +kernel
theorem dX5_mergesOnWalk_7 : decode cX5_mergesOnWalk 7 = .ok (.iconst 0, 1) := by decide +kernel
theorem dX5_mergesOnWalk_8 : decode cX5_mergesOnWalk 8 = .ok (.istore_n 3, 1) := by decide +kernel
theorem dX5_mergesOnWalk_9 : decode cX5_mergesOnWalk 9 = .ok (.iload_n 3, 1) := by decide +kernel
theorem dX5_mergesOnWalk_10 : decode cX5_mergesOnWalk 10 = .ok (.aload_n 0, 1) := by decide +kernel
theorem dX5_mergesOnWalk_11 : decode cX5_mergesOnWalk 11 = .ok (.getfield 58, 3) := by decide +kernel
theorem dX5_mergesOnWalk_14 : decode cX5_mergesOnWalk 14 = .ok (.getfield 286, 3) := by decide +kernel
theorem dX5_mergesOnWalk_17 : decode cX5_mergesOnWalk 17 = .ok (.if_icmp .gt 36, 3) := by decide +kernel
theorem dX5_mergesOnWalk_20 : decode cX5_mergesOnWalk 20 = .ok (.aload_n 0, 1) := by decide +kernel
theorem dX5_mergesOnWalk_21 : decode cX5_mergesOnWalk 21 = .ok (.getfield 10, 3) := by decide +kernel
theorem dX5_mergesOnWalk_24 : decode cX5_mergesOnWalk 24 = .ok (.getfield 212, 3) := by decide +kernel
theorem dX5_mergesOnWalk_27 : decode cX5_mergesOnWalk 27 = .ok (.iload_n 1, 1) := by decide +kernel
theorem dX5_mergesOnWalk_28 : decode cX5_mergesOnWalk 28 = .ok (.iaload, 1) := by decide +kernel
theorem dX5_mergesOnWalk_29 : decode cX5_mergesOnWalk 29 = .ok (.aload_n 0, 1) := by decide +kernel
theorem dX5_mergesOnWalk_30 : decode cX5_mergesOnWalk 30 = .ok (.getfield 58, 3) := by decide +kernel
theorem dX5_mergesOnWalk_33 : decode cX5_mergesOnWalk 33 = .ok (.getfield 299, 3) := by decide +kernel
theorem dX5_mergesOnWalk_36 : decode cX5_mergesOnWalk 36 = .ok (.iload_n 3, 1) := by decide +kernel
theorem dX5_mergesOnWalk_37 : decode cX5_mergesOnWalk 37 = .ok (.iaload, 1) := by decide +kernel
theorem dX5_mergesOnWalk_38 : decode cX5_mergesOnWalk 38 = .ok (.invokestatic 183, 3) := by decide +kernel
theorem dX5_mergesOnWalk_41 : decode cX5_mergesOnWalk 41 = .ok (.ifCond .eq 6, 3) := by decide +kernel
theorem dX5_mergesOnWalk_44 : decode cX5_mergesOnWalk 44 = .ok (.iinc 2 1, 3) := by decide +kernel
theorem dX5_mergesOnWalk_47 : decode cX5_mergesOnWalk 47 = .ok (.iinc 3 1, 3) := by decide +kernel
theorem dX5_mergesOnWalk_50 : decode cX5_mergesOnWalk 50 = .ok (.goto (-41), 3) := by decide +kernel
theorem dX5_mergesOnWalk_53 : decode cX5_mergesOnWalk 53 = .ok (.iload_n 2, 1) := by decide +kernel
theorem dX5_mergesOnWalk_54 : decode cX5_mergesOnWalk 54 = .ok (.ireturn, 1) := by decide +kernel
theorem dX5_walks_0 : decode cX5_walks 0 = .ok (.aload_n 0, 1) := by decide +kernel
theorem dX5_walks_1 : decode cX5_walks 1 = .ok (.iload_n 1, 1) := by decide +kernel
theorem dX5_walks_2 : decode cX5_walks 2 = .ok (.invokevirtual 132, 3) := by decide +kernel
theorem dX5_walks_5 : decode cX5_walks 5 = .ok (.iload_n 2, 1) := by decide +kernel
theorem dX5_walks_6 : decode cX5_walks 6 = .ok (.ifCond .lt 9, 3) := by decide +kernel
theorem dX5_walks_9 : decode cX5_walks 9 = .ok (.iload_n 2, 1) := by decide +kernel
theorem dX5_walks_10 : decode cX5_walks 10 = .ok (.bipush 30, 2) := by decide +kernel
theorem dX5_walks_12 : decode cX5_walks 12 = .ok (.if_icmp .le 14, 3) := by decide +kernel
theorem dX5_walks_15 : decode cX5_walks 15 = .ok (.new 65, 3) := by decide +kernel
theorem dX5_walks_18 : decode cX5_walks 18 = .ok (.dup, 1) := by decide +kernel
theorem dX5_walks_19 : decode cX5_walks 19 = .ok (.ldc_w 304, 3) := by decide +kernel
theorem dX5_walks_22 : decode cX5_walks 22 = .ok (.invokespecial 69, 3) := by decide +kernel
theorem dX5_walks_25 : decode cX5_walks 25 = .ok (.athrow, 1) := by decide +kernel
theorem dX5_walks_26 : decode cX5_walks 26 = .ok (.aload_n 0, 1) := by decide +kernel
theorem dX5_walks_27 : decode cX5_walks 27 = .ok (.getfield 58, 3) := by decide +kernel
theorem dX5_walks_30 : decode cX5_walks 30 = .ok (.aload_n 0, 1) := by decide +kernel
theorem dX5_walks_31 : decode cX5_walks 31 = .ok (.getfield 20, 3) := by decide +kernel
theorem dX5_walks_34 : decode cX5_walks 34 = .ok (.iload_n 2, 1) := by decide +kernel
theorem dX5_walks_35 : decode cX5_walks 35 = .ok (.invokevirtual 306, 3) := by decide +kernel
theorem dX5_walks_38 : decode cX5_walks 38 = .ok (.aload_n 0, 1) := by decide +kernel
theorem dX5_walks_39 : decode cX5_walks 39 = .ok (.getfield 58, 3) := by decide +kernel
theorem dX5_walks_42 : decode cX5_walks 42 = .ok (.getfield 310, 3) := by decide +kernel
theorem dX5_walks_45 : decode cX5_walks 45 = .ok (.iload_n 1, 1) := by decide +kernel
theorem dX5_walks_46 : decode cX5_walks 46 = .ok (.laload, 1) := by decide +kernel
theorem dX5_walks_47 : decode cX5_walks 47 = .ok (.lreturn, 1) := by decide +kernel
theorem dX5_mergeDensity_0 : decode cX5_mergeDensity 0 = .ok (.iconst 1, 1) := by decide +kernel
theorem dX5_mergeDensity_1 : decode cX5_mergeDensity 1 = .ok (.aload_n 0, 1) := by decide +kernel
theorem dX5_mergeDensity_2 : decode cX5_mergeDensity 2 = .ok (.getfield 10, 3) := by decide +kernel
theorem dX5_mergeDensity_5 : decode cX5_mergeDensity 5 = .ok (.getfield 180, 3) := by decide +kernel
theorem dX5_mergeDensity_8 : decode cX5_mergeDensity 8 = .ok (.invokestatic 254, 3) := by decide +kernel
theorem dX5_mergeDensity_11 : decode cX5_mergeDensity 11 = .ok (.invokestatic 314, 3) := by decide +kernel
theorem dX5_mergeDensity_14 : decode cX5_mergeDensity 14 = .ok (.istore_n 1, 1) := by decide +kernel
theorem dX5_mergeDensity_15 : decode cX5_mergeDensity 15 = .ok (.aload_n 0, 1) := by decide +kernel
theorem dX5_mergeDensity_16 : decode cX5_mergeDensity 16 = .ok (.getfield 10, 3) := by decide +kernel
theorem dX5_mergeDensity_19 : decode cX5_mergeDensity 19 = .ok (.invokevirtual 215, 3) := by decide +kernel
theorem dX5_mergeDensity_22 : decode cX5_mergeDensity 22 = .ok (.i2d, 1) := by decide +kernel
theorem dX5_mergeDensity_23 : decode cX5_mergeDensity 23 = .ok (.iconst 4, 1) := by decide +kernel
theorem dX5_mergeDensity_24 : decode cX5_mergeDensity 24 = .ok (.iload_n 1, 1) := by decide +kernel
theorem dX5_mergeDensity_25 : decode cX5_mergeDensity 25 = .ok (.imul, 1) := by decide +kernel
theorem dX5_mergeDensity_26 : decode cX5_mergeDensity 26 = .ok (.i2d, 1) := by decide +kernel
theorem dX5_mergeDensity_27 : decode cX5_mergeDensity 27 = .ok (.ddiv, 1) := by decide +kernel
theorem dX5_mergeDensity_28 : decode cX5_mergeDensity 28 = .ok (.dreturn, 1) := by decide +kernel
theorem dX5_save_0 : decode cX5_save 0 = .ok (.aload_n 0, 1) := by decide +kernel
theorem dX5_save_1 : decode cX5_save 1 = .ok (.getfield 30, 3) := by decide +kernel
theorem dX5_save_4 : decode cX5_save 4 = .ok (.aload_n 0, 1) := by decide +kernel
theorem dX5_save_5 : decode cX5_save 5 = .ok (.getfield 20, 3) := by decide +kernel
theorem dX5_save_8 : decode cX5_save 8 = .ok (.invokevirtual 319, 3) := by decide +kernel
theorem dX5_save_11 : decode cX5_save 11 = .ok (.aload_n 0, 1) := by decide +kernel
theorem dX5_save_12 : decode cX5_save 12 = .ok (.iconst 1, 1) := by decide +kernel
theorem dX5_save_13 : decode cX5_save 13 = .ok (.putfield 33, 3) := by decide +kernel
theorem dX5_save_16 : decode cX5_save 16 = .ok (.aload_n 0, 1) := by decide +kernel
theorem dX5_save_17 : decode cX5_save 17 = .ok (.getfield 20, 3) := by decide +kernel
theorem dX5_save_20 : decode cX5_save 20 = .ok (.getfield 72, 3) := by decide +kernel
theorem dX5_save_23 : decode cX5_save 23 = .ok (.ireturn, 1) := by decide +kernel
theorem dX5_restore_0 : decode cX5_restore 0 = .ok (.aload_n 0, 1) := by decide +kernel
theorem dX5_restore_1 : decode cX5_restore 1 = .ok (.getfield 33, 3) := by decide +kernel
theorem dX5_restore_4 : decode cX5_restore 4 = .ok (.ifCond .ne 14, 3) := by decide +kernel
theorem dX5_restore_7 : decode cX5_restore 7 = .ok (.new 90, 3) := by decide +kernel
theorem dX5_restore_10 : decode cX5_restore 10 = .ok (.dup, 1) := by decide +kernel
theorem dX5_restore_11 : decode cX5_restore 11 = .ok (.ldc_w 322, 3) := by decide +kernel
theorem dX5_restore_14 : decode cX5_restore 14 = .ok (.invokespecial 94, 3) := by decide +kernel
theorem dX5_restore_17 : decode cX5_restore 17 = .ok (.athrow, 1) := by decide +kernel
theorem dX5_restore_18 : decode cX5_restore 18 = .ok (.aload_n 0, 1) := by decide +kernel
theorem dX5_restore_19 : decode cX5_restore 19 = .ok (.getfield 20, 3) := by decide +kernel
theorem dX5_restore_22 : decode cX5_restore 22 = .ok (.aload_n 0, 1) := by decide +kernel
theorem dX5_restore_23 : decode cX5_restore 23 = .ok (.getfield 30, 3) := by decide +kernel
theorem dX5_restore_26 : decode cX5_restore 26 = .ok (.invokevirtual 319, 3) := by decide +kernel
theorem dX5_restore_29 : decode cX5_restore 29 = .ok (.aload_n 0, 1) := by decide +kernel
theorem dX5_restore_30 : decode cX5_restore 30 = .ok (.getfield 40, 3) := by decide +kernel
theorem dX5_restore_33 : decode cX5_restore 33 = .ok (.invokevirtual 79, 3) := by decide +kernel
theorem dX5_restore_36 : decode cX5_restore 36 = .ok (.aload_n 0, 1) := by decide +kernel
theorem dX5_restore_37 : decode cX5_restore 37 = .ok (.invokevirtual 82, 3) := by decide +kernel
theorem dX5_restore_40 : decode cX5_restore 40 = .ok (.aload_n 0, 1) := by decide +kernel
theorem dX5_restore_41 : decode cX5_restore 41 = .ok (.getfield 20, 3) := by decide +kernel
theorem dX5_restore_44 : decode cX5_restore 44 = .ok (.getfield 72, 3) := by decide +kernel
theorem dX5_restore_47 : decode cX5_restore 47 = .ok (.ireturn, 1) := by decide +kernel
theorem dX5_followGraph_0 : decode cX5_followGraph 0 = .ok (.aload_n 0, 1) := by decide +kernel
theorem dX5_followGraph_1 : decode cX5_followGraph 1 = .ok (.getfield 58, 3) := by decide +kernel
theorem dX5_followGraph_4 : decode cX5_followGraph 4 = .ok (.iconst 0, 1) := by decide +kernel
theorem dX5_followGraph_5 : decode cX5_followGraph 5 = .ok (.putfield 286, 3) := by decide +kernel
theorem dX5_followGraph_8 : decode cX5_followGraph 8 = .ok (.aload_n 0, 1) := by decide +kernel
theorem dX5_followGraph_9 : decode cX5_followGraph 9 = .ok (.getfield 10, 3) := by decide +kernel
theorem dX5_followGraph_12 : decode cX5_followGraph 12 = .ok (.invokevirtual 62, 3) := by decide +kernel
theorem dX5_followGraph_15 : decode cX5_followGraph 15 = .ok (.return_, 1) := by decide +kernel
theorem dX5_requireBlock_0 : decode cX5_requireBlock 0 = .ok (.aload_n 0, 1) := by decide +kernel
theorem dX5_requireBlock_1 : decode cX5_requireBlock 1 = .ok (.getfield 20, 3) := by decide +kernel
theorem dX5_requireBlock_4 : decode cX5_requireBlock 4 = .ok (.iload_n 1, 1) := by decide +kernel
theorem dX5_requireBlock_5 : decode cX5_requireBlock 5 = .ok (.invokevirtual 237, 3) := by decide +kernel
theorem dX5_requireBlock_8 : decode cX5_requireBlock 8 = .ok (.ifCond .ne 14, 3) := by decide +kernel
theorem dX5_requireBlock_11 : decode cX5_requireBlock 11 = .ok (.new 172, 3) := by decide +kernel
theorem dX5_requireBlock_14 : decode cX5_requireBlock 14 = .ok (.dup, 1) := by decide +kernel
theorem dX5_requireBlock_15 : decode cX5_requireBlock 15 = .ok (.ldc_w 324, 3) := by decide +kernel
theorem dX5_requireBlock_18 : decode cX5_requireBlock 18 = .ok (.invokespecial 176, 3) := by decide +kernel
theorem dX5_requireBlock_21 : decode cX5_requireBlock 21 = .ok (.athrow, 1) := by decide +kernel
theorem dX5_requireBlock_22 : decode cX5_requireBlock 22 = .ok (.return_, 1) := by decide +kernel
theorem dX5_requireAction_0 : decode cX5_requireAction 0 = .ok (.aload_n 0, 1) := by decide +kernel
theorem dX5_requireAction_1 : decode cX5_requireAction 1 = .ok (.getfield 20, 3) := by decide +kernel
theorem dX5_requireAction_4 : decode cX5_requireAction 4 = .ok (.iload_n 1, 1) := by decide +kernel
theorem dX5_requireAction_5 : decode cX5_requireAction 5 = .ok (.iload_n 2, 1) := by decide +kernel
theorem dX5_requireAction_6 : decode cX5_requireAction 6 = .ok (.invokevirtual 326, 3) := by decide +kernel
theorem dX5_requireAction_9 : decode cX5_requireAction 9 = .ok (.ifCond .ne 14, 3) := by decide +kernel
theorem dX5_requireAction_12 : decode cX5_requireAction 12 = .ok (.new 172, 3) := by decide +kernel
theorem dX5_requireAction_15 : decode cX5_requireAction 15 = .ok (.dup, 1) := by decide +kernel
theorem dX5_requireAction_16 : decode cX5_requireAction 16 = .ok (.ldc_w 329, 3) := by decide +kernel
theorem dX5_requireAction_19 : decode cX5_requireAction 19 = .ok (.invokespecial 176, 3) := by decide +kernel
theorem dX5_requireAction_22 : decode cX5_requireAction 22 = .ok (.athrow, 1) := by decide +kernel
theorem dX5_requireAction_23 : decode cX5_requireAction 23 = .ok (.return_, 1) := by decide +kernel
theorem dX5_requireVariable_0 : decode cX5_requireVariable 0 = .ok (.iload_n 1, 1) := by decide +kernel
theorem dX5_requireVariable_1 : decode cX5_requireVariable 1 = .ok (.ifCond .lt 8, 3) := by decide +kernel
theorem dX5_requireVariable_4 : decode cX5_requireVariable 4 = .ok (.iload_n 1, 1) := by decide +kernel
theorem dX5_requireVariable_5 : decode cX5_requireVariable 5 = .ok (.iconst 4, 1) := by decide +kernel
theorem dX5_requireVariable_6 : decode cX5_requireVariable 6 = .ok (.if_icmp .lt 14, 3) := by decide +kernel
theorem dX5_requireVariable_9 : decode cX5_requireVariable 9 = .ok (.new 172, 3) := by decide +kernel
theorem dX5_requireVariable_12 : decode cX5_requireVariable 12 = .ok (.dup, 1) := by decide +kernel
theorem dX5_requireVariable_13 : decode cX5_requireVariable 13 = .ok (.ldc_w 331, 3) := by decide +kernel
theorem dX5_requireVariable_16 : decode cX5_requireVariable 16 = .ok (.invokespecial 176, 3) := by decide +kernel
theorem dX5_requireVariable_19 : decode cX5_requireVariable 19 = .ok (.athrow, 1) := by decide +kernel
theorem dX5_requireVariable_20 : decode cX5_requireVariable 20 = .ok (.return_, 1) := by decide +kernel
theorem dX5_requireReachable_0 : decode cX5_requireReachable 0 = .ok (.aload_n 0, 1) := by decide +kernel
theorem dX5_requireReachable_1 : decode cX5_requireReachable 1 = .ok (.iload_n 1, 1) := by decide +kernel
theorem dX5_requireReachable_2 : decode cX5_requireReachable 2 = .ok (.invokevirtual 132, 3) := by decide +kernel
theorem dX5_requireReachable_5 : decode cX5_requireReachable 5 = .ok (.aload_n 0, 1) := by decide +kernel
theorem dX5_requireReachable_6 : decode cX5_requireReachable 6 = .ok (.getfield 10, 3) := by decide +kernel
theorem dX5_requireReachable_9 : decode cX5_requireReachable 9 = .ok (.getfield 180, 3) := by decide +kernel
theorem dX5_requireReachable_12 : decode cX5_requireReachable 12 = .ok (.iload_n 1, 1) := by decide +kernel
theorem dX5_requireReachable_13 : decode cX5_requireReachable 13 = .ok (.invokestatic 183, 3) := by decide +kernel
theorem dX5_requireReachable_16 : decode cX5_requireReachable 16 = .ok (.ifCond .ne 14, 3) := by decide +kernel
theorem dX5_requireReachable_19 : decode cX5_requireReachable 19 = .ok (.new 90, 3) := by decide +kernel
theorem dX5_requireReachable_22 : decode cX5_requireReachable 22 = .ok (.dup, 1) := by decide +kernel
theorem dX5_requireReachable_23 : decode cX5_requireReachable 23 = .ok (.ldc_w 333, 3) := by decide +kernel
theorem dX5_requireReachable_26 : decode cX5_requireReachable 26 = .ok (.invokespecial 94, 3) := by decide +kernel
theorem dX5_requireReachable_29 : decode cX5_requireReachable 29 = .ok (.athrow, 1) := by decide +kernel
theorem dX5_requireReachable_30 : decode cX5_requireReachable 30 = .ok (.return_, 1) := by decide +kernel
theorem dX5_requireMerge_0 : decode cX5_requireMerge 0 = .ok (.aload_n 0, 1) := by decide +kernel
theorem dX5_requireMerge_1 : decode cX5_requireMerge 1 = .ok (.iload_n 2, 1) := by decide +kernel
theorem dX5_requireMerge_2 : decode cX5_requireMerge 2 = .ok (.invokevirtual 203, 3) := by decide +kernel
theorem dX5_requireMerge_5 : decode cX5_requireMerge 5 = .ok (.aload_n 0, 1) := by decide +kernel
theorem dX5_requireMerge_6 : decode cX5_requireMerge 6 = .ok (.iload_n 1, 1) := by decide +kernel
theorem dX5_requireMerge_7 : decode cX5_requireMerge 7 = .ok (.invokevirtual 186, 3) := by decide +kernel
theorem dX5_requireMerge_10 : decode cX5_requireMerge 10 = .ok (.aload_n 0, 1) := by decide +kernel
theorem dX5_requireMerge_11 : decode cX5_requireMerge 11 = .ok (.getfield 10, 3) := by decide +kernel
theorem dX5_requireMerge_14 : decode cX5_requireMerge 14 = .ok (.getfield 212, 3) := by decide +kernel
theorem dX5_requireMerge_17 : decode cX5_requireMerge 17 = .ok (.iload_n 2, 1) := by decide +kernel
theorem dX5_requireMerge_18 : decode cX5_requireMerge 18 = .ok (.iaload, 1) := by decide +kernel
theorem dX5_requireMerge_19 : decode cX5_requireMerge 19 = .ok (.iload_n 1, 1) := by decide +kernel
theorem dX5_requireMerge_20 : decode cX5_requireMerge 20 = .ok (.invokestatic 183, 3) := by decide +kernel
theorem dX5_requireMerge_23 : decode cX5_requireMerge 23 = .ok (.ifCond .ne 14, 3) := by decide +kernel
theorem dX5_requireMerge_26 : decode cX5_requireMerge 26 = .ok (.new 116, 3) := by decide +kernel
theorem dX5_requireMerge_29 : decode cX5_requireMerge 29 = .ok (.dup, 1) := by decide +kernel
theorem dX5_requireMerge_30 : decode cX5_requireMerge 30 = .ok (.ldc_w 335, 3) := by decide +kernel
theorem dX5_requireMerge_33 : decode cX5_requireMerge 33 = .ok (.invokespecial 120, 3) := by decide +kernel
theorem dX5_requireMerge_36 : decode cX5_requireMerge 36 = .ok (.athrow, 1) := by decide +kernel
theorem dX5_requireMerge_37 : decode cX5_requireMerge 37 = .ok (.return_, 1) := by decide +kernel
theorem dX5_readPrevious_0 : decode cX5_readPrevious 0 = .ok (.aload_n 0, 1) := by decide +kernel
theorem dX5_readPrevious_1 : decode cX5_readPrevious 1 = .ok (.getfield 40, 3) := by decide +kernel
theorem dX5_readPrevious_4 : decode cX5_readPrevious 4 = .ok (.getfield 278, 3) := by decide +kernel
theorem dX5_readPrevious_7 : decode cX5_readPrevious 7 = .ok (.ifCond .ne 5, 3) := by decide +kernel
theorem dX5_readPrevious_10 : decode cX5_readPrevious 10 = .ok (.iconst 0, 1) := by decide +kernel
theorem dX5_readPrevious_11 : decode cX5_readPrevious 11 = .ok (.ireturn, 1) := by decide +kernel
theorem dX5_readPrevious_12 : decode cX5_readPrevious 12 = .ok (.aload_n 0, 1) := by decide +kernel
theorem dX5_readPrevious_13 : decode cX5_readPrevious 13 = .ok (.getfield 40, 3) := by decide +kernel
theorem dX5_readPrevious_16 : decode cX5_readPrevious 16 = .ok (.aload_n 0, 1) := by decide +kernel
theorem dX5_readPrevious_17 : decode cX5_readPrevious 17 = .ok (.getfield 24, 3) := by decide +kernel
theorem dX5_readPrevious_20 : decode cX5_readPrevious 20 = .ok (.invokevirtual 337, 3) := by decide +kernel
theorem dX5_readPrevious_23 : decode cX5_readPrevious 23 = .ok (.aload_n 0, 1) := by decide +kernel
theorem dX5_readPrevious_24 : decode cX5_readPrevious 24 = .ok (.getfield 21, 3) := by decide +kernel
theorem dX5_readPrevious_27 : decode cX5_readPrevious 27 = .ok (.invokevirtual 62, 3) := by decide +kernel
theorem dX5_readPrevious_30 : decode cX5_readPrevious 30 = .ok (.iconst 1, 1) := by decide +kernel
theorem dX5_readPrevious_31 : decode cX5_readPrevious 31 = .ok (.ireturn, 1) := by decide +kernel
theorem dX5_changedUsesIn_0 : decode cX5_changedUsesIn 0 = .ok (.aload_n 0, 1) := by decide +kernel
theorem dX5_changedUsesIn_1 : decode cX5_changedUsesIn 1 = .ok (.getfield 20, 3) := by decide +kernel
theorem dX5_changedUsesIn_4 : decode cX5_changedUsesIn 4 = .ok (.getfield 128, 3) := by decide +kernel
theorem dX5_changedUsesIn_7 : decode cX5_changedUsesIn 7 = .ok (.iload_n 1, 1) := by decide +kernel
theorem dX5_changedUsesIn_8 : decode cX5_changedUsesIn 8 = .ok (.iaload, 1) := by decide +kernel
theorem dX5_changedUsesIn_9 : decode cX5_changedUsesIn 9 = .ok (.aload_n 0, 1) := by decide +kernel
theorem dX5_changedUsesIn_10 : decode cX5_changedUsesIn 10 = .ok (.getfield 24, 3) := by decide +kernel
theorem dX5_changedUsesIn_13 : decode cX5_changedUsesIn 13 = .ok (.getfield 128, 3) := by decide +kernel
theorem dX5_changedUsesIn_16 : decode cX5_changedUsesIn 16 = .ok (.iload_n 1, 1) := by decide +kernel
theorem dX5_changedUsesIn_17 : decode cX5_changedUsesIn 17 = .ok (.iaload, 1) := by decide +kernel
theorem dX5_changedUsesIn_18 : decode cX5_changedUsesIn 18 = .ok (.invokestatic 340, 3) := by decide +kernel
theorem dX5_changedUsesIn_21 : decode cX5_changedUsesIn 21 = .ok (.istore_n 2, 1) := by decide +kernel
theorem dX5_changedUsesIn_22 : decode cX5_changedUsesIn 22 = .ok (.iconst 0, 1) := by decide +kernel
theorem dX5_changedUsesIn_23 : decode cX5_changedUsesIn 23 = .ok (.istore_n 3, 1) := by decide +kernel
theorem dX5_changedUsesIn_24 : decode cX5_changedUsesIn 24 = .ok (.iconst 0, 1) := by decide +kernel
theorem dX5_changedUsesIn_25 : decode cX5_changedUsesIn 25 = .ok (.istore 4, 2) := by decide +kernel
theorem dX5_changedUsesIn_27 : decode cX5_changedUsesIn 27 = .ok (.iload 4, 2) := by decide +kernel
theorem dX5_changedUsesIn_29 : decode cX5_changedUsesIn 29 = .ok (.iload_n 2, 1) := by decide +kernel
theorem dX5_changedUsesIn_30 : decode cX5_changedUsesIn 30 = .ok (.if_icmp .ge 70, 3) := by decide +kernel
theorem dX5_changedUsesIn_33 : decode cX5_changedUsesIn 33 = .ok (.aload_n 0, 1) := by decide +kernel
theorem dX5_changedUsesIn_34 : decode cX5_changedUsesIn 34 = .ok (.getfield 20, 3) := by decide +kernel
theorem dX5_changedUsesIn_37 : decode cX5_changedUsesIn 37 = .ok (.iload_n 1, 1) := by decide +kernel
theorem dX5_changedUsesIn_38 : decode cX5_changedUsesIn 38 = .ok (.iload 4, 2) := by decide +kernel
theorem dX5_changedUsesIn_40 : decode cX5_changedUsesIn 40 = .ok (.invokevirtual 165, 3) := by decide +kernel
theorem dX5_changedUsesIn_43 : decode cX5_changedUsesIn 43 = .ok (.istore 5, 2) := by decide +kernel
theorem dX5_changedUsesIn_45 : decode cX5_changedUsesIn 45 = .ok (.iload 5, 2) := by decide +kernel
theorem dX5_changedUsesIn_47 : decode cX5_changedUsesIn 47 = .ok (.invokestatic 225, 3) := by decide +kernel
theorem dX5_changedUsesIn_50 : decode cX5_changedUsesIn 50 = .ok (.ifCond .eq 44, 3) := by decide +kernel
theorem dX5_changedUsesIn_53 : decode cX5_changedUsesIn 53 = .ok (.iload 5, 2) := by decide +kernel
theorem dX5_changedUsesIn_55 : decode cX5_changedUsesIn 55 = .ok (.aload_n 0, 1) := by decide +kernel
theorem dX5_changedUsesIn_56 : decode cX5_changedUsesIn 56 = .ok (.getfield 24, 3) := by decide +kernel
theorem dX5_changedUsesIn_59 : decode cX5_changedUsesIn 59 = .ok (.iload_n 1, 1) := by decide +kernel
theorem dX5_changedUsesIn_60 : decode cX5_changedUsesIn 60 = .ok (.iload 4, 2) := by decide +kernel
theorem dX5_changedUsesIn_62 : decode cX5_changedUsesIn 62 = .ok (.invokevirtual 165, 3) := by decide +kernel
theorem dX5_changedUsesIn_65 : decode cX5_changedUsesIn 65 = .ok (.if_icmp .ne 29, 3) := by decide +kernel
theorem dX5_changedUsesIn_68 : decode cX5_changedUsesIn 68 = .ok (.aload_n 0, 1) := by decide +kernel
theorem dX5_changedUsesIn_69 : decode cX5_changedUsesIn 69 = .ok (.getfield 10, 3) := by decide +kernel
theorem dX5_changedUsesIn_72 : decode cX5_changedUsesIn 72 = .ok (.iload_n 1, 1) := by decide +kernel
theorem dX5_changedUsesIn_73 : decode cX5_changedUsesIn 73 = .ok (.iload 4, 2) := by decide +kernel
theorem dX5_changedUsesIn_75 : decode cX5_changedUsesIn 75 = .ok (.invokevirtual 231, 3) := by decide +kernel
theorem dX5_changedUsesIn_78 : decode cX5_changedUsesIn 78 = .ok (.aload_n 0, 1) := by decide +kernel
theorem dX5_changedUsesIn_79 : decode cX5_changedUsesIn 79 = .ok (.getfield 21, 3) := by decide +kernel
theorem dX5_changedUsesIn_82 : decode cX5_changedUsesIn 82 = .ok (.iload_n 1, 1) := by decide +kernel
theorem dX5_changedUsesIn_83 : decode cX5_changedUsesIn 83 = .ok (.iload 4, 2) := by decide +kernel
theorem dX5_changedUsesIn_85 : decode cX5_changedUsesIn 85 = .ok (.invokevirtual 231, 3) := by decide +kernel
theorem dX5_changedUsesIn_88 : decode cX5_changedUsesIn 88 = .ok (.if_icmp .eq 6, 3) := by decide +kernel
theorem dX5_changedUsesIn_91 : decode cX5_changedUsesIn 91 = .ok (.iinc 3 1, 3) := by decide +kernel
theorem dX5_changedUsesIn_94 : decode cX5_changedUsesIn 94 = .ok (.iinc 4 1, 3) := by decide +kernel
theorem dX5_changedUsesIn_97 : decode cX5_changedUsesIn 97 = .ok (.goto (-70), 3) := by decide +kernel
theorem dX5_changedUsesIn_100 : decode cX5_changedUsesIn 100 = .ok (.iload_n 3, 1) := by decide +kernel
theorem dX5_changedUsesIn_101 : decode cX5_changedUsesIn 101 = .ok (.ireturn, 1) := by decide +kernel
theorem dX5_mergesMissing_0 : decode cX5_mergesMissing 0 = .ok (.iconst 0, 1) := by decide +kernel
theorem dX5_mergesMissing_1 : decode cX5_mergesMissing 1 = .ok (.istore_n 2, 1) := by decide +kernel
theorem dX5_mergesMissing_2 : decode cX5_mergesMissing 2 = .ok (.iconst 0, 1) := by decide +kernel
theorem dX5_mergesMissing_3 : decode cX5_mergesMissing 3 = .ok (.istore_n 3, 1) := by decide +kernel
theorem dX5_mergesMissing_4 : decode cX5_mergesMissing 4 = .ok (.iload_n 3, 1) := by decide +kernel
theorem dX5_mergesMissing_5 : decode cX5_mergesMissing 5 = .ok (.iconst 4, 1) := by decide +kernel
theorem dX5_mergesMissing_6 : decode cX5_mergesMissing 6 = .ok (.if_icmp .ge 30, 3) := by decide +kernel
theorem dX5_mergesMissing_9 : decode cX5_mergesMissing 9 = .ok (.iload_n 2, 1) := by decide +kernel
theorem dX5_mergesMissing_10 : decode cX5_mergesMissing 10 = .ok (.aload_n 0, 1) := by decide +kernel
theorem dX5_mergesMissing_11 : decode cX5_mergesMissing 11 = .ok (.getfield 212, 3) := by decide +kernel
theorem dX5_mergesMissing_14 : decode cX5_mergesMissing 14 = .ok (.iload_n 3, 1) := by decide +kernel
theorem dX5_mergesMissing_15 : decode cX5_mergesMissing 15 = .ok (.iaload, 1) := by decide +kernel
theorem dX5_mergesMissing_16 : decode cX5_mergesMissing 16 = .ok (.aload_n 1, 1) := by decide +kernel
theorem dX5_mergesMissing_17 : decode cX5_mergesMissing 17 = .ok (.getfield 212, 3) := by decide +kernel
theorem dX5_mergesMissing_20 : decode cX5_mergesMissing 20 = .ok (.iload_n 3, 1) := by decide +kernel
theorem dX5_mergesMissing_21 : decode cX5_mergesMissing 21 = .ok (.iaload, 1) := by decide +kernel
theorem dX5_mergesMissing_22 : decode cX5_mergesMissing 22 = .ok (.iconst (-1), 1) := by decide +kernel
theorem dX5_mergesMissing_23 : decode cX5_mergesMissing 23 = .ok (.ixor, 1) := by decide +kernel
theorem dX5_mergesMissing_24 : decode cX5_mergesMissing 24 = .ok (.iand, 1) := by decide +kernel
theorem dX5_mergesMissing_25 : decode cX5_mergesMissing 25 = .ok (.invokestatic 254, 3) := by decide +kernel
theorem dX5_mergesMissing_28 : decode cX5_mergesMissing 28 = .ok (.iadd, 1) := by decide +kernel
theorem dX5_mergesMissing_29 : decode cX5_mergesMissing 29 = .ok (.istore_n 2, 1) := by decide +kernel
theorem dX5_mergesMissing_30 : decode cX5_mergesMissing 30 = .ok (.iinc 3 1, 3) := by decide +kernel
theorem dX5_mergesMissing_33 : decode cX5_mergesMissing 33 = .ok (.goto (-29), 3) := by decide +kernel
theorem dX5_mergesMissing_36 : decode cX5_mergesMissing 36 = .ok (.iload_n 2, 1) := by decide +kernel
theorem dX5_mergesMissing_37 : decode cX5_mergesMissing 37 = .ok (.ireturn, 1) := by decide +kernel
theorem dX5_has_0 : decode cX5_has 0 = .ok (.iload_n 0, 1) := by decide +kernel
theorem dX5_has_1 : decode cX5_has 1 = .ok (.iload_n 1, 1) := by decide +kernel
theorem dX5_has_2 : decode cX5_has 2 = .ok (.ishr, 1) := by decide +kernel
theorem dX5_has_3 : decode cX5_has 3 = .ok (.iconst 1, 1) := by decide +kernel
theorem dX5_has_4 : decode cX5_has 4 = .ok (.iand, 1) := by decide +kernel
theorem dX5_has_5 : decode cX5_has 5 = .ok (.ifCond .eq 7, 3) := by decide +kernel
theorem dX5_has_8 : decode cX5_has 8 = .ok (.iconst 1, 1) := by decide +kernel
theorem dX5_has_9 : decode cX5_has 9 = .ok (.goto 4, 3) := by decide +kernel
theorem dX5_has_12 : decode cX5_has 12 = .ok (.iconst 0, 1) := by decide +kernel
theorem dX5_has_13 : decode cX5_has 13 = .ok (.ireturn, 1) := by decide +kernel
theorem dX5_memberAt_0 : decode cX5_memberAt 0 = .ok (.iload_n 1, 1) := by decide +kernel
theorem dX5_memberAt_1 : decode cX5_memberAt 1 = .ok (.istore_n 2, 1) := by decide +kernel
theorem dX5_memberAt_2 : decode cX5_memberAt 2 = .ok (.iconst 0, 1) := by decide +kernel
theorem dX5_memberAt_3 : decode cX5_memberAt 3 = .ok (.istore_n 3, 1) := by decide +kernel
theorem dX5_memberAt_4 : decode cX5_memberAt 4 = .ok (.iload_n 3, 1) := by decide +kernel
theorem dX5_memberAt_5 : decode cX5_memberAt 5 = .ok (.bipush 14, 2) := by decide +kernel
theorem dX5_memberAt_7 : decode cX5_memberAt 7 = .ok (.if_icmp .ge 26, 3) := by decide +kernel
theorem dX5_memberAt_10 : decode cX5_memberAt 10 = .ok (.iload_n 0, 1) := by decide +kernel
theorem dX5_memberAt_11 : decode cX5_memberAt 11 = .ok (.iload_n 3, 1) := by decide +kernel
theorem dX5_memberAt_12 : decode cX5_memberAt 12 = .ok (.invokestatic 183, 3) := by decide +kernel
theorem dX5_memberAt_15 : decode cX5_memberAt 15 = .ok (.ifCond .eq 12, 3) := by decide +kernel
theorem dX5_memberAt_18 : decode cX5_memberAt 18 = .ok (.iload_n 2, 1) := by decide +kernel
theorem dX5_memberAt_19 : decode cX5_memberAt 19 = .ok (.ifCond .ne 5, 3) := by decide +kernel
theorem dX5_memberAt_22 : decode cX5_memberAt 22 = .ok (.iload_n 3, 1) := by decide +kernel
theorem dX5_memberAt_23 : decode cX5_memberAt 23 = .ok (.ireturn, 1) := by decide +kernel
theorem dX5_memberAt_24 : decode cX5_memberAt 24 = .ok (.iinc 2 (-1), 3) := by decide +kernel
theorem dX5_memberAt_27 : decode cX5_memberAt 27 = .ok (.iinc 3 1, 3) := by decide +kernel
theorem dX5_memberAt_30 : decode cX5_memberAt 30 = .ok (.goto (-26), 3) := by decide +kernel
theorem dX5_memberAt_33 : decode cX5_memberAt 33 = .ok (.iconst (-1), 1) := by decide +kernel
theorem dX5_memberAt_34 : decode cX5_memberAt 34 = .ok (.ireturn, 1) := by decide +kernel
theorem dX5_isUse_0 : decode cX5_isUse 0 = .ok (.iload_n 0, 1) := by decide +kernel
theorem dX5_isUse_1 : decode cX5_isUse 1 = .ok (.bipush 10, 2) := by decide +kernel
theorem dX5_isUse_3 : decode cX5_isUse 3 = .ok (.if_icmp .lt 7, 3) := by decide +kernel
theorem dX5_isUse_6 : decode cX5_isUse 6 = .ok (.iconst 1, 1) := by decide +kernel
theorem dX5_isUse_7 : decode cX5_isUse 7 = .ok (.goto 4, 3) := by decide +kernel
theorem dX5_isUse_10 : decode cX5_isUse 10 = .ok (.iconst 0, 1) := by decide +kernel
theorem dX5_isUse_11 : decode cX5_isUse 11 = .ok (.ireturn, 1) := by decide +kernel
theorem dJ6_bitCount_0f7a4_0 : decode cJ6_bitCount_0f7a4 0 = .ok (.iload_n 0, 1) := by decide +kernel
theorem dJ6_bitCount_0f7a4_1 : decode cJ6_bitCount_0f7a4 1 = .ok (.iload_n 0, 1) := by decide +kernel
theorem dJ6_bitCount_0f7a4_2 : decode cJ6_bitCount_0f7a4 2 = .ok (.iconst 1, 1) := by decide +kernel
theorem dJ6_bitCount_0f7a4_3 : decode cJ6_bitCount_0f7a4 3 = .ok (.iushr, 1) := by decide +kernel
theorem dJ6_bitCount_0f7a4_4 : decode cJ6_bitCount_0f7a4 4 = .ok (.ldc_w 265, 3) := by decide +kernel
theorem dJ6_bitCount_0f7a4_7 : decode cJ6_bitCount_0f7a4 7 = .ok (.iand, 1) := by decide +kernel
theorem dJ6_bitCount_0f7a4_8 : decode cJ6_bitCount_0f7a4 8 = .ok (.isub, 1) := by decide +kernel
theorem dJ6_bitCount_0f7a4_9 : decode cJ6_bitCount_0f7a4 9 = .ok (.istore_n 0, 1) := by decide +kernel
theorem dJ6_bitCount_0f7a4_10 : decode cJ6_bitCount_0f7a4 10 = .ok (.iload_n 0, 1) := by decide +kernel
theorem dJ6_bitCount_0f7a4_11 : decode cJ6_bitCount_0f7a4 11 = .ok (.ldc_w 266, 3) := by decide +kernel
theorem dJ6_bitCount_0f7a4_14 : decode cJ6_bitCount_0f7a4 14 = .ok (.iand, 1) := by decide +kernel
theorem dJ6_bitCount_0f7a4_15 : decode cJ6_bitCount_0f7a4 15 = .ok (.iload_n 0, 1) := by decide +kernel
theorem dJ6_bitCount_0f7a4_16 : decode cJ6_bitCount_0f7a4 16 = .ok (.iconst 2, 1) := by decide +kernel
theorem dJ6_bitCount_0f7a4_17 : decode cJ6_bitCount_0f7a4 17 = .ok (.iushr, 1) := by decide +kernel
theorem dJ6_bitCount_0f7a4_18 : decode cJ6_bitCount_0f7a4 18 = .ok (.ldc_w 266, 3) := by decide +kernel
theorem dJ6_bitCount_0f7a4_21 : decode cJ6_bitCount_0f7a4 21 = .ok (.iand, 1) := by decide +kernel
theorem dJ6_bitCount_0f7a4_22 : decode cJ6_bitCount_0f7a4 22 = .ok (.iadd, 1) := by decide +kernel
theorem dJ6_bitCount_0f7a4_23 : decode cJ6_bitCount_0f7a4 23 = .ok (.istore_n 0, 1) := by decide +kernel
theorem dJ6_bitCount_0f7a4_24 : decode cJ6_bitCount_0f7a4 24 = .ok (.iload_n 0, 1) := by decide +kernel
theorem dJ6_bitCount_0f7a4_25 : decode cJ6_bitCount_0f7a4 25 = .ok (.iload_n 0, 1) := by decide +kernel
theorem dJ6_bitCount_0f7a4_26 : decode cJ6_bitCount_0f7a4 26 = .ok (.iconst 4, 1) := by decide +kernel
theorem dJ6_bitCount_0f7a4_27 : decode cJ6_bitCount_0f7a4 27 = .ok (.iushr, 1) := by decide +kernel
theorem dJ6_bitCount_0f7a4_28 : decode cJ6_bitCount_0f7a4 28 = .ok (.iadd, 1) := by decide +kernel
theorem dJ6_bitCount_0f7a4_29 : decode cJ6_bitCount_0f7a4 29 = .ok (.ldc_w 267, 3) := by decide +kernel
theorem dJ6_bitCount_0f7a4_32 : decode cJ6_bitCount_0f7a4 32 = .ok (.iand, 1) := by decide +kernel
theorem dJ6_bitCount_0f7a4_33 : decode cJ6_bitCount_0f7a4 33 = .ok (.istore_n 0, 1) := by decide +kernel
theorem dJ6_bitCount_0f7a4_34 : decode cJ6_bitCount_0f7a4 34 = .ok (.iload_n 0, 1) := by decide +kernel
theorem dJ6_bitCount_0f7a4_35 : decode cJ6_bitCount_0f7a4 35 = .ok (.iload_n 0, 1) := by decide +kernel
theorem dJ6_bitCount_0f7a4_36 : decode cJ6_bitCount_0f7a4 36 = .ok (.bipush 8, 2) := by decide +kernel
theorem dJ6_bitCount_0f7a4_38 : decode cJ6_bitCount_0f7a4 38 = .ok (.iushr, 1) := by decide +kernel
theorem dJ6_bitCount_0f7a4_39 : decode cJ6_bitCount_0f7a4 39 = .ok (.iadd, 1) := by decide +kernel
theorem dJ6_bitCount_0f7a4_40 : decode cJ6_bitCount_0f7a4 40 = .ok (.istore_n 0, 1) := by decide +kernel
theorem dJ6_bitCount_0f7a4_41 : decode cJ6_bitCount_0f7a4 41 = .ok (.iload_n 0, 1) := by decide +kernel
theorem dJ6_bitCount_0f7a4_42 : decode cJ6_bitCount_0f7a4 42 = .ok (.iload_n 0, 1) := by decide +kernel
theorem dJ6_bitCount_0f7a4_43 : decode cJ6_bitCount_0f7a4 43 = .ok (.bipush 16, 2) := by decide +kernel
theorem dJ6_bitCount_0f7a4_45 : decode cJ6_bitCount_0f7a4 45 = .ok (.iushr, 1) := by decide +kernel
theorem dJ6_bitCount_0f7a4_46 : decode cJ6_bitCount_0f7a4 46 = .ok (.iadd, 1) := by decide +kernel
theorem dJ6_bitCount_0f7a4_47 : decode cJ6_bitCount_0f7a4 47 = .ok (.istore_n 0, 1) := by decide +kernel
theorem dJ6_bitCount_0f7a4_48 : decode cJ6_bitCount_0f7a4 48 = .ok (.iload_n 0, 1) := by decide +kernel
theorem dJ6_bitCount_0f7a4_49 : decode cJ6_bitCount_0f7a4 49 = .ok (.bipush 63, 2) := by decide +kernel
theorem dJ6_bitCount_0f7a4_51 : decode cJ6_bitCount_0f7a4 51 = .ok (.iand, 1) := by decide +kernel
theorem dJ6_bitCount_0f7a4_52 : decode cJ6_bitCount_0f7a4 52 = .ok (.ireturn, 1) := by decide +kernel
theorem dJ9_max_7cf53_0 : decode cJ9_max_7cf53 0 = .ok (.iload_n 0, 1) := by decide +kernel
theorem dJ9_max_7cf53_1 : decode cJ9_max_7cf53 1 = .ok (.iload_n 1, 1) := by decide +kernel
theorem dJ9_max_7cf53_2 : decode cJ9_max_7cf53 2 = .ok (.if_icmp .lt 7, 3) := by decide +kernel
theorem dJ9_max_7cf53_5 : decode cJ9_max_7cf53 5 = .ok (.iload_n 0, 1) := by decide +kernel
theorem dJ9_max_7cf53_6 : decode cJ9_max_7cf53 6 = .ok (.goto 4, 3) := by decide +kernel
theorem dJ9_max_7cf53_9 : decode cJ9_max_7cf53 9 = .ok (.iload_n 1, 1) := by decide +kernel
theorem dJ9_max_7cf53_10 : decode cJ9_max_7cf53 10 = .ok (.ireturn, 1) := by decide +kernel
theorem dJ9_min_7cf53_0 : decode cJ9_min_7cf53 0 = .ok (.iload_n 0, 1) := by decide +kernel
theorem dJ9_min_7cf53_1 : decode cJ9_min_7cf53 1 = .ok (.iload_n 1, 1) := by decide +kernel
theorem dJ9_min_7cf53_2 : decode cJ9_min_7cf53 2 = .ok (.if_icmp .gt 7, 3) := by decide +kernel
theorem dJ9_min_7cf53_5 : decode cJ9_min_7cf53 5 = .ok (.iload_n 0, 1) := by decide +kernel
theorem dJ9_min_7cf53_6 : decode cJ9_min_7cf53 6 = .ok (.goto 4, 3) := by decide +kernel
theorem dJ9_min_7cf53_9 : decode cJ9_min_7cf53 9 = .ok (.iload_n 1, 1) := by decide +kernel
theorem dJ9_min_7cf53_10 : decode cJ9_min_7cf53 10 = .ok (.ireturn, 1) := by decide +kernel
