theorem dX0_init_0 : decode cX0_init 0 = .ok (.aload_n 0, 1) := by decide +kernel
theorem dX0_init_1 : decode cX0_init 1 = .ok (.invokespecial 3, 3) := by decide +kernel
theorem dX0_init_4 : decode cX0_init 4 = .ok (.aload_n 0, 1) := by decide +kernel
theorem dX0_init_5 : decode cX0_init 5 = .ok (.bipush 7, 2) := by decide +kernel
theorem dX0_init_7 : decode cX0_init 7 = .ok (.newarray .int, 2) := by decide +kernel
theorem dX0_init_9 : decode cX0_init 9 = .ok (.putfield 9, 3) := by decide +kernel
theorem dX0_init_12 : decode cX0_init 12 = .ok (.aload_n 0, 1) := by decide +kernel
theorem dX0_init_13 : decode cX0_init 13 = .ok (.bipush 6, 2) := by decide +kernel
theorem dX0_init_15 : decode cX0_init 15 = .ok (.newarray .int, 2) := by decide +kernel
theorem dX0_init_17 : decode cX0_init 17 = .ok (.putfield 15, 3) := by decide +kernel
theorem dX0_init_20 : decode cX0_init 20 = .ok (.aload_n 0, 1) := by decide +kernel
theorem dX0_init_21 : decode cX0_init 21 = .ok (.sipush 512, 3) := by decide +kernel
theorem dX0_init_24 : decode cX0_init 24 = .ok (.newarray .int, 2) := by decide +kernel
theorem dX0_init_26 : decode cX0_init 26 = .ok (.putfield 18, 3) := by decide +kernel
theorem dX0_init_29 : decode cX0_init 29 = .ok (.return_, 1) := by decide +kernel
theorem dX0_make_0 : decode cX0_make 0 = .ok (.iconst 1, 1) := by decide +kernel
theorem dX0_make_1 : decode cX0_make 1 = .ok (.aload_n 1, 1) := by decide +kernel
theorem dX0_make_2 : decode cX0_make 2 = .ok (.getfield 21, 3) := by decide +kernel
theorem dX0_make_5 : decode cX0_make 5 = .ok (.ishl, 1) := by decide +kernel
theorem dX0_make_6 : decode cX0_make 6 = .ok (.istore_n 3, 1) := by decide +kernel
theorem dX0_make_7 : decode cX0_make 7 = .ok (.iconst 0, 1) := by decide +kernel
theorem dX0_make_8 : decode cX0_make 8 = .ok (.istore 4, 2) := by decide +kernel
theorem dX0_make_10 : decode cX0_make 10 = .ok (.iload 4, 2) := by decide +kernel
theorem dX0_make_12 : decode cX0_make 12 = .ok (.iload_n 3, 1) := by decide +kernel
theorem dX0_make_13 : decode cX0_make 13 = .ok (.if_icmp .ge 25, 3) := by decide +kernel
theorem dX0_make_16 : decode cX0_make 16 = .ok (.aload_n 0, 1) := by decide +kernel
theorem dX0_make_17 : decode cX0_make 17 = .ok (.getfield 18, 3) := by decide +kernel
theorem dX0_make_20 : decode cX0_make 20 = .ok (.aload_n 1, 1) := by decide +kernel
theorem dX0_make_21 : decode cX0_make 21 = .ok (.getfield 27, 3) := by decide +kernel
theorem dX0_make_24 : decode cX0_make 24 = .ok (.bipush 64, 2) := by decide +kernel
theorem dX0_make_26 : decode cX0_make 26 = .ok (.imul, 1) := by decide +kernel
theorem dX0_make_27 : decode cX0_make 27 = .ok (.iload 4, 2) := by decide +kernel
theorem dX0_make_29 : decode cX0_make 29 = .ok (.iadd, 1) := by decide +kernel
theorem dX0_make_30 : decode cX0_make 30 = .ok (.iconst 0, 1) := by decide +kernel
theorem dX0_make_31 : decode cX0_make 31 = .ok (.iastore, 1) := by decide +kernel
theorem dX0_make_32 : decode cX0_make 32 = .ok (.iinc 4 1, 3) := by decide +kernel
theorem dX0_make_35 : decode cX0_make 35 = .ok (.goto (-25), 3) := by decide +kernel
theorem dX0_make_38 : decode cX0_make 38 = .ok (.aload_n 1, 1) := by decide +kernel
theorem dX0_make_39 : decode cX0_make 39 = .ok (.getfield 27, 3) := by decide +kernel
theorem dX0_make_42 : decode cX0_make 42 = .ok (.iconst 1, 1) := by decide +kernel
theorem dX0_make_43 : decode cX0_make 43 = .ok (.isub, 1) := by decide +kernel
theorem dX0_make_44 : decode cX0_make 44 = .ok (.istore 4, 2) := by decide +kernel
theorem dX0_make_46 : decode cX0_make 46 = .ok (.iload 4, 2) := by decide +kernel
theorem dX0_make_48 : decode cX0_make 48 = .ok (.ifCond .lt 54, 3) := by decide +kernel
theorem dX0_make_51 : decode cX0_make 51 = .ok (.aload_n 0, 1) := by decide +kernel
theorem dX0_make_52 : decode cX0_make 52 = .ok (.aload_n 1, 1) := by decide +kernel
theorem dX0_make_53 : decode cX0_make 53 = .ok (.aload_n 2, 1) := by decide +kernel
theorem dX0_make_54 : decode cX0_make 54 = .ok (.iload 4, 2) := by decide +kernel
theorem dX0_make_56 : decode cX0_make 56 = .ok (.invokevirtual 30, 3) := by decide +kernel
theorem dX0_make_59 : decode cX0_make 59 = .ok (.iconst 0, 1) := by decide +kernel
theorem dX0_make_60 : decode cX0_make 60 = .ok (.istore 5, 2) := by decide +kernel
theorem dX0_make_62 : decode cX0_make 62 = .ok (.iload 5, 2) := by decide +kernel
theorem dX0_make_64 : decode cX0_make 64 = .ok (.iload_n 3, 1) := by decide +kernel
theorem dX0_make_65 : decode cX0_make 65 = .ok (.if_icmp .ge 31, 3) := by decide +kernel
theorem dX0_make_68 : decode cX0_make 68 = .ok (.aload_n 0, 1) := by decide +kernel
theorem dX0_make_69 : decode cX0_make 69 = .ok (.getfield 18, 3) := by decide +kernel
theorem dX0_make_72 : decode cX0_make 72 = .ok (.iload 4, 2) := by decide +kernel
theorem dX0_make_74 : decode cX0_make 74 = .ok (.bipush 64, 2) := by decide +kernel
theorem dX0_make_76 : decode cX0_make 76 = .ok (.imul, 1) := by decide +kernel
theorem dX0_make_77 : decode cX0_make 77 = .ok (.iload 5, 2) := by decide +kernel
theorem dX0_make_79 : decode cX0_make 79 = .ok (.iadd, 1) := by decide +kernel
theorem dX0_make_80 : decode cX0_make 80 = .ok (.aload_n 0, 1) := by decide +kernel
theorem dX0_make_81 : decode cX0_make 81 = .ok (.aload_n 1, 1) := by decide +kernel
theorem dX0_make_82 : decode cX0_make 82 = .ok (.iload 4, 2) := by decide +kernel
theorem dX0_make_84 : decode cX0_make 84 = .ok (.iload 5, 2) := by decide +kernel
theorem dX0_make_86 : decode cX0_make 86 = .ok (.invokevirtual 34, 3) := by decide +kernel
theorem dX0_make_89 : decode cX0_make 89 = .ok (.iastore, 1) := by decide +kernel
theorem dX0_make_90 : decode cX0_make 90 = .ok (.iinc 5 1, 3) := by decide +kernel
theorem dX0_make_93 : decode cX0_make 93 = .ok (.goto (-31), 3) := by decide +kernel
theorem dX0_make_96 : decode cX0_make 96 = .ok (.iinc 4 (-1), 3) := by decide +kernel
theorem dX0_make_99 : decode cX0_make 99 = .ok (.goto (-53), 3) := by decide +kernel
theorem dX0_make_102 : decode cX0_make 102 = .ok (.aload_n 0, 1) := by decide +kernel
theorem dX0_make_103 : decode cX0_make 103 = .ok (.aload_n 0, 1) := by decide +kernel
theorem dX0_make_104 : decode cX0_make 104 = .ok (.getfield 18, 3) := by decide +kernel
theorem dX0_make_107 : decode cX0_make 107 = .ok (.aload_n 2, 1) := by decide +kernel
theorem dX0_make_108 : decode cX0_make 108 = .ok (.getfield 38, 3) := by decide +kernel
theorem dX0_make_111 : decode cX0_make 111 = .ok (.iaload, 1) := by decide +kernel
theorem dX0_make_112 : decode cX0_make 112 = .ok (.putfield 43, 3) := by decide +kernel
theorem dX0_make_115 : decode cX0_make 115 = .ok (.aload_n 0, 1) := by decide +kernel
theorem dX0_make_116 : decode cX0_make 116 = .ok (.aload_n 1, 1) := by decide +kernel
theorem dX0_make_117 : decode cX0_make 117 = .ok (.aload_n 2, 1) := by decide +kernel
theorem dX0_make_118 : decode cX0_make 118 = .ok (.invokevirtual 46, 3) := by decide +kernel
theorem dX0_make_121 : decode cX0_make 121 = .ok (.return_, 1) := by decide +kernel
theorem dX0_follow_0 : decode cX0_follow 0 = .ok (.aload_n 2, 1) := by decide +kernel
theorem dX0_follow_1 : decode cX0_follow 1 = .ok (.getfield 38, 3) := by decide +kernel
theorem dX0_follow_4 : decode cX0_follow 4 = .ok (.istore_n 3, 1) := by decide +kernel
theorem dX0_follow_5 : decode cX0_follow 5 = .ok (.iconst 0, 1) := by decide +kernel
theorem dX0_follow_6 : decode cX0_follow 6 = .ok (.istore 4, 2) := by decide +kernel
theorem dX0_follow_8 : decode cX0_follow 8 = .ok (.iload 4, 2) := by decide +kernel
theorem dX0_follow_10 : decode cX0_follow 10 = .ok (.aload_n 1, 1) := by decide +kernel
theorem dX0_follow_11 : decode cX0_follow 11 = .ok (.getfield 27, 3) := by decide +kernel
theorem dX0_follow_14 : decode cX0_follow 14 = .ok (.if_icmp .ge 55, 3) := by decide +kernel
theorem dX0_follow_17 : decode cX0_follow 17 = .ok (.aload_n 0, 1) := by decide +kernel
theorem dX0_follow_18 : decode cX0_follow 18 = .ok (.aload_n 1, 1) := by decide +kernel
theorem dX0_follow_19 : decode cX0_follow 19 = .ok (.aload_n 2, 1) := by decide +kernel
theorem dX0_follow_20 : decode cX0_follow 20 = .ok (.iload 4, 2) := by decide +kernel
theorem dX0_follow_22 : decode cX0_follow 22 = .ok (.invokevirtual 30, 3) := by decide +kernel
theorem dX0_follow_25 : decode cX0_follow 25 = .ok (.aload_n 0, 1) := by decide +kernel
theorem dX0_follow_26 : decode cX0_follow 26 = .ok (.getfield 9, 3) := by decide +kernel
theorem dX0_follow_29 : decode cX0_follow 29 = .ok (.iload 4, 2) := by decide +kernel
theorem dX0_follow_31 : decode cX0_follow 31 = .ok (.aload_n 0, 1) := by decide +kernel
theorem dX0_follow_32 : decode cX0_follow 32 = .ok (.aload_n 1, 1) := by decide +kernel
theorem dX0_follow_33 : decode cX0_follow 33 = .ok (.iload 4, 2) := by decide +kernel
theorem dX0_follow_35 : decode cX0_follow 35 = .ok (.iload_n 3, 1) := by decide +kernel
theorem dX0_follow_36 : decode cX0_follow 36 = .ok (.invokevirtual 50, 3) := by decide +kernel
theorem dX0_follow_39 : decode cX0_follow 39 = .ok (.iastore, 1) := by decide +kernel
theorem dX0_follow_40 : decode cX0_follow 40 = .ok (.aload_n 0, 1) := by decide +kernel
theorem dX0_follow_41 : decode cX0_follow 41 = .ok (.getfield 9, 3) := by decide +kernel
theorem dX0_follow_44 : decode cX0_follow 44 = .ok (.iload 4, 2) := by decide +kernel
theorem dX0_follow_46 : decode cX0_follow 46 = .ok (.iaload, 1) := by decide +kernel
theorem dX0_follow_47 : decode cX0_follow 47 = .ok (.iconst (-1), 1) := by decide +kernel
theorem dX0_follow_48 : decode cX0_follow 48 = .ok (.if_icmp .eq 15, 3) := by decide +kernel
theorem dX0_follow_51 : decode cX0_follow 51 = .ok (.iload_n 3, 1) := by decide +kernel
theorem dX0_follow_52 : decode cX0_follow 52 = .ok (.iconst 1, 1) := by decide +kernel
theorem dX0_follow_53 : decode cX0_follow 53 = .ok (.aload_n 0, 1) := by decide +kernel
theorem dX0_follow_54 : decode cX0_follow 54 = .ok (.getfield 9, 3) := by decide +kernel
theorem dX0_follow_57 : decode cX0_follow 57 = .ok (.iload 4, 2) := by decide +kernel
theorem dX0_follow_59 : decode cX0_follow 59 = .ok (.iaload, 1) := by decide +kernel
theorem dX0_follow_60 : decode cX0_follow 60 = .ok (.ishl, 1) := by decide +kernel
theorem dX0_follow_61 : decode cX0_follow 61 = .ok (.ior, 1) := by decide +kernel
theorem dX0_follow_62 : decode cX0_follow 62 = .ok (.istore_n 3, 1) := by decide +kernel
theorem dX0_follow_63 : decode cX0_follow 63 = .ok (.iinc 4 1, 3) := by decide +kernel
theorem dX0_follow_66 : decode cX0_follow 66 = .ok (.goto (-58), 3) := by decide +kernel
theorem dX0_follow_69 : decode cX0_follow 69 = .ok (.aload_n 0, 1) := by decide +kernel
theorem dX0_follow_70 : decode cX0_follow 70 = .ok (.iload_n 3, 1) := by decide +kernel
theorem dX0_follow_71 : decode cX0_follow 71 = .ok (.aload_n 2, 1) := by decide +kernel
theorem dX0_follow_72 : decode cX0_follow 72 = .ok (.getfield 38, 3) := by decide +kernel
theorem dX0_follow_75 : decode cX0_follow 75 = .ok (.iconst (-1), 1) := by decide +kernel
theorem dX0_follow_76 : decode cX0_follow 76 = .ok (.ixor, 1) := by decide +kernel
theorem dX0_follow_77 : decode cX0_follow 77 = .ok (.iand, 1) := by decide +kernel
theorem dX0_follow_78 : decode cX0_follow 78 = .ok (.putfield 53, 3) := by decide +kernel
theorem dX0_follow_81 : decode cX0_follow 81 = .ok (.return_, 1) := by decide +kernel
theorem dX0_bestFrom_0 : decode cX0_bestFrom 0 = .ok (.aload_n 0, 1) := by decide +kernel
theorem dX0_bestFrom_1 : decode cX0_bestFrom 1 = .ok (.getfield 18, 3) := by decide +kernel
theorem dX0_bestFrom_4 : decode cX0_bestFrom 4 = .ok (.iload_n 2, 1) := by decide +kernel
theorem dX0_bestFrom_5 : decode cX0_bestFrom 5 = .ok (.iconst 1, 1) := by decide +kernel
theorem dX0_bestFrom_6 : decode cX0_bestFrom 6 = .ok (.iadd, 1) := by decide +kernel
theorem dX0_bestFrom_7 : decode cX0_bestFrom 7 = .ok (.bipush 64, 2) := by decide +kernel
theorem dX0_bestFrom_9 : decode cX0_bestFrom 9 = .ok (.imul, 1) := by decide +kernel
theorem dX0_bestFrom_10 : decode cX0_bestFrom 10 = .ok (.iload_n 3, 1) := by decide +kernel
theorem dX0_bestFrom_11 : decode cX0_bestFrom 11 = .ok (.iadd, 1) := by decide +kernel
theorem dX0_bestFrom_12 : decode cX0_bestFrom 12 = .ok (.iaload, 1) := by decide +kernel
theorem dX0_bestFrom_13 : decode cX0_bestFrom 13 = .ok (.istore 4, 2) := by decide +kernel
theorem dX0_bestFrom_15 : decode cX0_bestFrom 15 = .ok (.iconst 0, 1) := by decide +kernel
theorem dX0_bestFrom_16 : decode cX0_bestFrom 16 = .ok (.istore 5, 2) := by decide +kernel
theorem dX0_bestFrom_18 : decode cX0_bestFrom 18 = .ok (.iload 5, 2) := by decide +kernel
theorem dX0_bestFrom_20 : decode cX0_bestFrom 20 = .ok (.aload_n 1, 1) := by decide +kernel
theorem dX0_bestFrom_21 : decode cX0_bestFrom 21 = .ok (.getfield 21, 3) := by decide +kernel
theorem dX0_bestFrom_24 : decode cX0_bestFrom 24 = .ok (.if_icmp .ge 24, 3) := by decide +kernel
theorem dX0_bestFrom_27 : decode cX0_bestFrom 27 = .ok (.iload 4, 2) := by decide +kernel
theorem dX0_bestFrom_29 : decode cX0_bestFrom 29 = .ok (.aload_n 0, 1) := by decide +kernel
theorem dX0_bestFrom_30 : decode cX0_bestFrom 30 = .ok (.iload_n 2, 1) := by decide +kernel
theorem dX0_bestFrom_31 : decode cX0_bestFrom 31 = .ok (.iload 5, 2) := by decide +kernel
theorem dX0_bestFrom_33 : decode cX0_bestFrom 33 = .ok (.iload_n 3, 1) := by decide +kernel
theorem dX0_bestFrom_34 : decode cX0_bestFrom 34 = .ok (.invokevirtual 56, 3) := by decide +kernel
theorem dX0_bestFrom_37 : decode cX0_bestFrom 37 = .ok (.invokestatic 60, 3) := by decide +kernel
theorem dX0_bestFrom_40 : decode cX0_bestFrom 40 = .ok (.istore 4, 2) := by decide +kernel
theorem dX0_bestFrom_42 : decode cX0_bestFrom 42 = .ok (.iinc 5 1, 3) := by decide +kernel
theorem dX0_bestFrom_45 : decode cX0_bestFrom 45 = .ok (.goto (-27), 3) := by decide +kernel
theorem dX0_bestFrom_48 : decode cX0_bestFrom 48 = .ok (.iload 4, 2) := by decide +kernel
theorem dX0_bestFrom_50 : decode cX0_bestFrom 50 = .ok (.ireturn, 1) := by decide +kernel
theorem dX0_firstBed_0 : decode cX0_firstBed 0 = .ok (.aload_n 0, 1) := by decide +kernel
theorem dX0_firstBed_1 : decode cX0_firstBed 1 = .ok (.getfield 18, 3) := by decide +kernel
theorem dX0_firstBed_4 : decode cX0_firstBed 4 = .ok (.iload_n 2, 1) := by decide +kernel
theorem dX0_firstBed_5 : decode cX0_firstBed 5 = .ok (.bipush 64, 2) := by decide +kernel
theorem dX0_firstBed_7 : decode cX0_firstBed 7 = .ok (.imul, 1) := by decide +kernel
theorem dX0_firstBed_8 : decode cX0_firstBed 8 = .ok (.iload_n 3, 1) := by decide +kernel
theorem dX0_firstBed_9 : decode cX0_firstBed 9 = .ok (.iadd, 1) := by decide +kernel
theorem dX0_firstBed_10 : decode cX0_firstBed 10 = .ok (.iaload, 1) := by decide +kernel
theorem dX0_firstBed_11 : decode cX0_firstBed 11 = .ok (.istore 4, 2) := by decide +kernel
theorem dX0_firstBed_13 : decode cX0_firstBed 13 = .ok (.aload_n 0, 1) := by decide +kernel
theorem dX0_firstBed_14 : decode cX0_firstBed 14 = .ok (.getfield 18, 3) := by decide +kernel
theorem dX0_firstBed_17 : decode cX0_firstBed 17 = .ok (.iload_n 2, 1) := by decide +kernel
theorem dX0_firstBed_18 : decode cX0_firstBed 18 = .ok (.iconst 1, 1) := by decide +kernel
theorem dX0_firstBed_19 : decode cX0_firstBed 19 = .ok (.iadd, 1) := by decide +kernel
theorem dX0_firstBed_20 : decode cX0_firstBed 20 = .ok (.bipush 64, 2) := by decide +kernel
theorem dX0_firstBed_22 : decode cX0_firstBed 22 = .ok (.imul, 1) := by decide +kernel
theorem dX0_firstBed_23 : decode cX0_firstBed 23 = .ok (.iload_n 3, 1) := by decide +kernel
theorem dX0_firstBed_24 : decode cX0_firstBed 24 = .ok (.iadd, 1) := by decide +kernel
theorem dX0_firstBed_25 : decode cX0_firstBed 25 = .ok (.iaload, 1) := by decide +kernel
theorem dX0_firstBed_26 : decode cX0_firstBed 26 = .ok (.iload 4, 2) := by decide +kernel
theorem dX0_firstBed_28 : decode cX0_firstBed 28 = .ok (.if_icmp .ne 5, 3) := by decide +kernel
theorem dX0_firstBed_31 : decode cX0_firstBed 31 = .ok (.iconst (-1), 1) := by decide +kernel
theorem dX0_firstBed_32 : decode cX0_firstBed 32 = .ok (.ireturn, 1) := by decide +kernel
theorem dX0_firstBed_33 : decode cX0_firstBed 33 = .ok (.iconst 0, 1) := by decide +kernel
theorem dX0_firstBed_34 : decode cX0_firstBed 34 = .ok (.istore 5, 2) := by decide +kernel
theorem dX0_firstBed_36 : decode cX0_firstBed 36 = .ok (.iload 5, 2) := by decide +kernel
theorem dX0_firstBed_38 : decode cX0_firstBed 38 = .ok (.aload_n 1, 1) := by decide +kernel
theorem dX0_firstBed_39 : decode cX0_firstBed 39 = .ok (.getfield 21, 3) := by decide +kernel
theorem dX0_firstBed_42 : decode cX0_firstBed 42 = .ok (.if_icmp .ge 25, 3) := by decide +kernel
theorem dX0_firstBed_45 : decode cX0_firstBed 45 = .ok (.aload_n 0, 1) := by decide +kernel
theorem dX0_firstBed_46 : decode cX0_firstBed 46 = .ok (.iload_n 2, 1) := by decide +kernel
theorem dX0_firstBed_47 : decode cX0_firstBed 47 = .ok (.iload 5, 2) := by decide +kernel
theorem dX0_firstBed_49 : decode cX0_firstBed 49 = .ok (.iload_n 3, 1) := by decide +kernel
theorem dX0_firstBed_50 : decode cX0_firstBed 50 = .ok (.invokevirtual 56, 3) := by decide +kernel
theorem dX0_firstBed_53 : decode cX0_firstBed 53 = .ok (.iload 4, 2) := by decide +kernel
theorem dX0_firstBed_55 : decode cX0_firstBed 55 = .ok (.if_icmp .ne 6, 3) := by decide +kernel
theorem dX0_firstBed_58 : decode cX0_firstBed 58 = .ok (.iload 5, 2) := by decide +kernel
theorem dX0_firstBed_60 : decode cX0_firstBed 60 = .ok (.ireturn, 1) := by decide +kernel
theorem dX0_firstBed_61 : decode cX0_firstBed 61 = .ok (.iinc 5 1, 3) := by decide +kernel
theorem dX0_firstBed_64 : decode cX0_firstBed 64 = .ok (.goto (-28), 3) := by decide +kernel
theorem dX0_firstBed_67 : decode cX0_firstBed 67 = .ok (.iconst (-1), 1) := by decide +kernel
theorem dX0_firstBed_68 : decode cX0_firstBed 68 = .ok (.ireturn, 1) := by decide +kernel
theorem dX0_bestOn_0 : decode cX0_bestOn 0 = .ok (.aload_n 0, 1) := by decide +kernel
theorem dX0_bestOn_1 : decode cX0_bestOn 1 = .ok (.getfield 15, 3) := by decide +kernel
theorem dX0_bestOn_4 : decode cX0_bestOn 4 = .ok (.iload_n 2, 1) := by decide +kernel
theorem dX0_bestOn_5 : decode cX0_bestOn 5 = .ok (.iaload, 1) := by decide +kernel
theorem dX0_bestOn_6 : decode cX0_bestOn 6 = .ok (.iconst (-1), 1) := by decide +kernel
theorem dX0_bestOn_7 : decode cX0_bestOn 7 = .ok (.if_icmp .eq 12, 3) := by decide +kernel
theorem dX0_bestOn_10 : decode cX0_bestOn 10 = .ok (.iload_n 3, 1) := by decide +kernel
theorem dX0_bestOn_11 : decode cX0_bestOn 11 = .ok (.iload_n 2, 1) := by decide +kernel
theorem dX0_bestOn_12 : decode cX0_bestOn 12 = .ok (.ishr, 1) := by decide +kernel
theorem dX0_bestOn_13 : decode cX0_bestOn 13 = .ok (.iconst 1, 1) := by decide +kernel
theorem dX0_bestOn_14 : decode cX0_bestOn 14 = .ok (.iand, 1) := by decide +kernel
theorem dX0_bestOn_15 : decode cX0_bestOn 15 = .ok (.iconst 1, 1) := by decide +kernel
theorem dX0_bestOn_16 : decode cX0_bestOn 16 = .ok (.if_icmp .ne 5, 3) := by decide +kernel
theorem dX0_bestOn_19 : decode cX0_bestOn 19 = .ok (.iconst (-1), 1) := by decide +kernel
theorem dX0_bestOn_20 : decode cX0_bestOn 20 = .ok (.ireturn, 1) := by decide +kernel
theorem dX0_bestOn_21 : decode cX0_bestOn 21 = .ok (.aload_n 0, 1) := by decide +kernel
theorem dX0_bestOn_22 : decode cX0_bestOn 22 = .ok (.getfield 15, 3) := by decide +kernel
theorem dX0_bestOn_25 : decode cX0_bestOn 25 = .ok (.iload_n 2, 1) := by decide +kernel
theorem dX0_bestOn_26 : decode cX0_bestOn 26 = .ok (.iaload, 1) := by decide +kernel
theorem dX0_bestOn_27 : decode cX0_bestOn 27 = .ok (.aload_n 0, 1) := by decide +kernel
theorem dX0_bestOn_28 : decode cX0_bestOn 28 = .ok (.getfield 18, 3) := by decide +kernel
theorem dX0_bestOn_31 : decode cX0_bestOn 31 = .ok (.iload_n 1, 1) := by decide +kernel
theorem dX0_bestOn_32 : decode cX0_bestOn 32 = .ok (.iconst 1, 1) := by decide +kernel
theorem dX0_bestOn_33 : decode cX0_bestOn 33 = .ok (.iadd, 1) := by decide +kernel
theorem dX0_bestOn_34 : decode cX0_bestOn 34 = .ok (.bipush 64, 2) := by decide +kernel
theorem dX0_bestOn_36 : decode cX0_bestOn 36 = .ok (.imul, 1) := by decide +kernel
theorem dX0_bestOn_37 : decode cX0_bestOn 37 = .ok (.iload_n 3, 1) := by decide +kernel
theorem dX0_bestOn_38 : decode cX0_bestOn 38 = .ok (.iconst 1, 1) := by decide +kernel
theorem dX0_bestOn_39 : decode cX0_bestOn 39 = .ok (.iload_n 2, 1) := by decide +kernel
theorem dX0_bestOn_40 : decode cX0_bestOn 40 = .ok (.ishl, 1) := by decide +kernel
theorem dX0_bestOn_41 : decode cX0_bestOn 41 = .ok (.ior, 1) := by decide +kernel
theorem dX0_bestOn_42 : decode cX0_bestOn 42 = .ok (.iadd, 1) := by decide +kernel
theorem dX0_bestOn_43 : decode cX0_bestOn 43 = .ok (.iaload, 1) := by decide +kernel
theorem dX0_bestOn_44 : decode cX0_bestOn 44 = .ok (.iadd, 1) := by decide +kernel
theorem dX0_bestOn_45 : decode cX0_bestOn 45 = .ok (.ireturn, 1) := by decide +kernel
theorem dX0_fillWorths_0 : decode cX0_fillWorths 0 = .ok (.iconst 0, 1) := by decide +kernel
theorem dX0_fillWorths_1 : decode cX0_fillWorths 1 = .ok (.istore 4, 2) := by decide +kernel
theorem dX0_fillWorths_3 : decode cX0_fillWorths 3 = .ok (.iload 4, 2) := by decide +kernel
theorem dX0_fillWorths_5 : decode cX0_fillWorths 5 = .ok (.aload_n 1, 1) := by decide +kernel
theorem dX0_fillWorths_6 : decode cX0_fillWorths 6 = .ok (.getfield 21, 3) := by decide +kernel
theorem dX0_fillWorths_9 : decode cX0_fillWorths 9 = .ok (.if_icmp .ge 59, 3) := by decide +kernel
theorem dX0_fillWorths_12 : decode cX0_fillWorths 12 = .ok (.aload_n 2, 1) := by decide +kernel
theorem dX0_fillWorths_13 : decode cX0_fillWorths 13 = .ok (.iload_n 3, 1) := by decide +kernel
theorem dX0_fillWorths_14 : decode cX0_fillWorths 14 = .ok (.invokevirtual 66, 3) := by decide +kernel
theorem dX0_fillWorths_17 : decode cX0_fillWorths 17 = .ok (.ifCond .eq 18, 3) := by decide +kernel
theorem dX0_fillWorths_20 : decode cX0_fillWorths 20 = .ok (.aload_n 1, 1) := by decide +kernel
theorem dX0_fillWorths_21 : decode cX0_fillWorths 21 = .ok (.getfield 70, 3) := by decide +kernel
theorem dX0_fillWorths_24 : decode cX0_fillWorths 24 = .ok (.iload_n 3, 1) := by decide +kernel
theorem dX0_fillWorths_25 : decode cX0_fillWorths 25 = .ok (.iaload, 1) := by decide +kernel
theorem dX0_fillWorths_26 : decode cX0_fillWorths 26 = .ok (.iload 4, 2) := by decide +kernel
theorem dX0_fillWorths_28 : decode cX0_fillWorths 28 = .ok (.if_icmp .eq 7, 3) := by decide +kernel
theorem dX0_fillWorths_31 : decode cX0_fillWorths 31 = .ok (.iconst 1, 1) := by decide +kernel
theorem dX0_fillWorths_32 : decode cX0_fillWorths 32 = .ok (.goto 4, 3) := by decide +kernel
theorem dX0_fillWorths_35 : decode cX0_fillWorths 35 = .ok (.iconst 0, 1) := by decide +kernel
theorem dX0_fillWorths_36 : decode cX0_fillWorths 36 = .ok (.istore 5, 2) := by decide +kernel
theorem dX0_fillWorths_38 : decode cX0_fillWorths 38 = .ok (.aload_n 0, 1) := by decide +kernel
theorem dX0_fillWorths_39 : decode cX0_fillWorths 39 = .ok (.getfield 15, 3) := by decide +kernel
theorem dX0_fillWorths_42 : decode cX0_fillWorths 42 = .ok (.iload 4, 2) := by decide +kernel
theorem dX0_fillWorths_44 : decode cX0_fillWorths 44 = .ok (.iload 5, 2) := by decide +kernel
theorem dX0_fillWorths_46 : decode cX0_fillWorths 46 = .ok (.ifCond .eq 14, 3) := by decide +kernel
theorem dX0_fillWorths_49 : decode cX0_fillWorths 49 = .ok (.aload_n 2, 1) := by decide +kernel
theorem dX0_fillWorths_50 : decode cX0_fillWorths 50 = .ok (.aload_n 1, 1) := by decide +kernel
theorem dX0_fillWorths_51 : decode cX0_fillWorths 51 = .ok (.iload_n 3, 1) := by decide +kernel
theorem dX0_fillWorths_52 : decode cX0_fillWorths 52 = .ok (.iload 4, 2) := by decide +kernel
theorem dX0_fillWorths_54 : decode cX0_fillWorths 54 = .ok (.invokevirtual 73, 3) := by decide +kernel
theorem dX0_fillWorths_57 : decode cX0_fillWorths 57 = .ok (.goto 4, 3) := by decide +kernel
theorem dX0_fillWorths_60 : decode cX0_fillWorths 60 = .ok (.iconst (-1), 1) := by decide +kernel
theorem dX0_fillWorths_61 : decode cX0_fillWorths 61 = .ok (.iastore, 1) := by decide +kernel
theorem dX0_fillWorths_62 : decode cX0_fillWorths 62 = .ok (.iinc 4 1, 3) := by decide +kernel
theorem dX0_fillWorths_65 : decode cX0_fillWorths 65 = .ok (.goto (-62), 3) := by decide +kernel
theorem dX0_fillWorths_68 : decode cX0_fillWorths 68 = .ok (.return_, 1) := by decide +kernel
theorem dX1_init_0 : decode cX1_init 0 = .ok (.aload_n 0, 1) := by decide +kernel
theorem dX1_init_1 : decode cX1_init 1 = .ok (.invokespecial 3, 3) := by decide +kernel
theorem dX1_init_4 : decode cX1_init 4 = .ok (.aload_n 0, 1) := by decide +kernel
theorem dX1_init_5 : decode cX1_init 5 = .ok (.bipush 8, 2) := by decide +kernel
theorem dX1_init_7 : decode cX1_init 7 = .ok (.newarray .int, 2) := by decide +kernel
theorem dX1_init_9 : decode cX1_init 9 = .ok (.putfield 9, 3) := by decide +kernel
theorem dX1_init_12 : decode cX1_init 12 = .ok (.return_, 1) := by decide +kernel
theorem dX1_add_0 : decode cX1_add 0 = .ok (.aload_n 0, 1) := by decide +kernel
theorem dX1_add_1 : decode cX1_add 1 = .ok (.getfield 15, 3) := by decide +kernel
theorem dX1_add_4 : decode cX1_add 4 = .ok (.bipush 8, 2) := by decide +kernel
theorem dX1_add_6 : decode cX1_add 6 = .ok (.if_icmp .lt 5, 3) := by decide +kernel
theorem dX1_add_9 : decode cX1_add 9 = .ok (.iconst 0, 1) := by decide +kernel
theorem dX1_add_10 : decode cX1_add 10 = .ok (.ireturn, 1) := by decide +kernel
theorem dX1_add_11 : decode cX1_add 11 = .ok (.aload_n 0, 1) := by decide +kernel
theorem dX1_add_12 : decode cX1_add 12 = .ok (.getfield 9, 3) := by decide +kernel
theorem dX1_add_15 : decode cX1_add 15 = .ok (.aload_n 0, 1) := by decide +kernel
theorem dX1_add_16 : decode cX1_add 16 = .ok (.getfield 15, 3) := by decide +kernel
theorem dX1_add_19 : decode cX1_add 19 = .ok (.iload_n 1, 1) := by decide +kernel
theorem dX1_add_20 : decode cX1_add 20 = .ok (.iastore, 1) := by decide +kernel
theorem dX1_add_21 : decode cX1_add 21 = .ok (.aload_n 0, 1) := by decide +kernel
theorem dX1_add_22 : decode cX1_add 22 = .ok (.dup, 1) := by decide +kernel
theorem dX1_add_23 : decode cX1_add 23 = .ok (.getfield 15, 3) := by decide +kernel
theorem dX1_add_26 : decode cX1_add 26 = .ok (.iconst 1, 1) := by decide +kernel
theorem dX1_add_27 : decode cX1_add 27 = .ok (.iadd, 1) := by decide +kernel
theorem dX1_add_28 : decode cX1_add 28 = .ok (.putfield 15, 3) := by decide +kernel
theorem dX1_add_31 : decode cX1_add 31 = .ok (.iconst 1, 1) := by decide +kernel
theorem dX1_add_32 : decode cX1_add 32 = .ok (.ireturn, 1) := by decide +kernel
theorem dX1_possible_0 : decode cX1_possible 0 = .ok (.iconst 0, 1) := by decide +kernel
theorem dX1_possible_1 : decode cX1_possible 1 = .ok (.istore_n 3, 1) := by decide +kernel
theorem dX1_possible_2 : decode cX1_possible 2 = .ok (.iconst 0, 1) := by decide +kernel
theorem dX1_possible_3 : decode cX1_possible 3 = .ok (.istore 4, 2) := by decide +kernel
theorem dX1_possible_5 : decode cX1_possible 5 = .ok (.iload 4, 2) := by decide +kernel
theorem dX1_possible_7 : decode cX1_possible 7 = .ok (.aload_n 1, 1) := by decide +kernel
theorem dX1_possible_8 : decode cX1_possible 8 = .ok (.getfield 19, 3) := by decide +kernel
theorem dX1_possible_11 : decode cX1_possible 11 = .ok (.if_icmp .ge 26, 3) := by decide +kernel
theorem dX1_possible_14 : decode cX1_possible 14 = .ok (.aload_n 0, 1) := by decide +kernel
theorem dX1_possible_15 : decode cX1_possible 15 = .ok (.aload_n 2, 1) := by decide +kernel
theorem dX1_possible_16 : decode cX1_possible 16 = .ok (.iload 4, 2) := by decide +kernel
theorem dX1_possible_18 : decode cX1_possible 18 = .ok (.invokevirtual 24, 3) := by decide +kernel
theorem dX1_possible_21 : decode cX1_possible 21 = .ok (.ifCond .eq 10, 3) := by decide +kernel
theorem dX1_possible_24 : decode cX1_possible 24 = .ok (.iload_n 3, 1) := by decide +kernel
theorem dX1_possible_25 : decode cX1_possible 25 = .ok (.iconst 1, 1) := by decide +kernel
theorem dX1_possible_26 : decode cX1_possible 26 = .ok (.iload 4, 2) := by decide +kernel
theorem dX1_possible_28 : decode cX1_possible 28 = .ok (.ishl, 1) := by decide +kernel
theorem dX1_possible_29 : decode cX1_possible 29 = .ok (.ior, 1) := by decide +kernel
theorem dX1_possible_30 : decode cX1_possible 30 = .ok (.istore_n 3, 1) := by decide +kernel
theorem dX1_possible_31 : decode cX1_possible 31 = .ok (.iinc 4 1, 3) := by decide +kernel
theorem dX1_possible_34 : decode cX1_possible 34 = .ok (.goto (-29), 3) := by decide +kernel
theorem dX1_possible_37 : decode cX1_possible 37 = .ok (.iload_n 3, 1) := by decide +kernel
theorem dX1_possible_38 : decode cX1_possible 38 = .ok (.ireturn, 1) := by decide +kernel
theorem dX1_greatest_0 : decode cX1_greatest 0 = .ok (.iconst (-1), 1) := by decide +kernel
theorem dX1_greatest_1 : decode cX1_greatest 1 = .ok (.istore_n 3, 1) := by decide +kernel
theorem dX1_greatest_2 : decode cX1_greatest 2 = .ok (.lconst 0, 1) := by decide +kernel
theorem dX1_greatest_3 : decode cX1_greatest 3 = .ok (.lstore 4, 2) := by decide +kernel
theorem dX1_greatest_5 : decode cX1_greatest 5 = .ok (.iconst 0, 1) := by decide +kernel
theorem dX1_greatest_6 : decode cX1_greatest 6 = .ok (.istore 6, 2) := by decide +kernel
theorem dX1_greatest_8 : decode cX1_greatest 8 = .ok (.iload 6, 2) := by decide +kernel
theorem dX1_greatest_10 : decode cX1_greatest 10 = .ok (.aload_n 1, 1) := by decide +kernel
theorem dX1_greatest_11 : decode cX1_greatest 11 = .ok (.getfield 19, 3) := by decide +kernel
theorem dX1_greatest_14 : decode cX1_greatest 14 = .ok (.if_icmp .ge 33, 3) := by decide +kernel
theorem dX1_greatest_17 : decode cX1_greatest 17 = .ok (.aload_n 0, 1) := by decide +kernel
theorem dX1_greatest_18 : decode cX1_greatest 18 = .ok (.aload_n 2, 1) := by decide +kernel
theorem dX1_greatest_19 : decode cX1_greatest 19 = .ok (.iload 6, 2) := by decide +kernel
theorem dX1_greatest_21 : decode cX1_greatest 21 = .ok (.invokevirtual 28, 3) := by decide +kernel
theorem dX1_greatest_24 : decode cX1_greatest 24 = .ok (.lstore 7, 2) := by decide +kernel
theorem dX1_greatest_26 : decode cX1_greatest 26 = .ok (.lload 7, 2) := by decide +kernel
theorem dX1_greatest_28 : decode cX1_greatest 28 = .ok (.lload 4, 2) := by decide +kernel
theorem dX1_greatest_30 : decode cX1_greatest 30 = .ok (.lcmp, 1) := by decide +kernel
theorem dX1_greatest_31 : decode cX1_greatest 31 = .ok (.ifCond .le 10, 3) := by decide +kernel
theorem dX1_greatest_34 : decode cX1_greatest 34 = .ok (.lload 7, 2) := by decide +kernel
theorem dX1_greatest_36 : decode cX1_greatest 36 = .ok (.lstore 4, 2) := by decide +kernel
theorem dX1_greatest_38 : decode cX1_greatest 38 = .ok (.iload 6, 2) := by decide +kernel
theorem dX1_greatest_40 : decode cX1_greatest 40 = .ok (.istore_n 3, 1) := by decide +kernel
theorem dX1_greatest_41 : decode cX1_greatest 41 = .ok (.iinc 6 1, 3) := by decide +kernel
theorem dX1_greatest_44 : decode cX1_greatest 44 = .ok (.goto (-36), 3) := by decide +kernel
theorem dX1_greatest_47 : decode cX1_greatest 47 = .ok (.iload_n 3, 1) := by decide +kernel
theorem dX1_greatest_48 : decode cX1_greatest 48 = .ok (.ireturn, 1) := by decide +kernel
theorem dX1_share_0 : decode cX1_share 0 = .ok (.lconst 0, 1) := by decide +kernel
theorem dX1_share_1 : decode cX1_share 1 = .ok (.lstore 4, 2) := by decide +kernel
theorem dX1_share_3 : decode cX1_share 3 = .ok (.iconst 0, 1) := by decide +kernel
theorem dX1_share_4 : decode cX1_share 4 = .ok (.istore 6, 2) := by decide +kernel
theorem dX1_share_6 : decode cX1_share 6 = .ok (.iload 6, 2) := by decide +kernel
theorem dX1_share_8 : decode cX1_share 8 = .ok (.aload_n 1, 1) := by decide +kernel
theorem dX1_share_9 : decode cX1_share 9 = .ok (.getfield 19, 3) := by decide +kernel
theorem dX1_share_12 : decode cX1_share 12 = .ok (.if_icmp .ge 21, 3) := by decide +kernel
theorem dX1_share_15 : decode cX1_share 15 = .ok (.lload 4, 2) := by decide +kernel
theorem dX1_share_17 : decode cX1_share 17 = .ok (.aload_n 0, 1) := by decide +kernel
theorem dX1_share_18 : decode cX1_share 18 = .ok (.aload_n 2, 1) := by decide +kernel
theorem dX1_share_19 : decode cX1_share 19 = .ok (.iload 6, 2) := by decide +kernel
theorem dX1_share_21 : decode cX1_share 21 = .ok (.invokevirtual 28, 3) := by decide +kernel
theorem dX1_share_24 : decode cX1_share 24 = .ok (.ladd, 1) := by decide +kernel
theorem dX1_share_25 : decode cX1_share 25 = .ok (.lstore 4, 2) := by decide +kernel
theorem dX1_share_27 : decode cX1_share 27 = .ok (.iinc 6 1, 3) := by decide +kernel
theorem dX1_share_30 : decode cX1_share 30 = .ok (.goto (-24), 3) := by decide +kernel
theorem dX1_share_33 : decode cX1_share 33 = .ok (.lload 4, 2) := by decide +kernel
theorem dX1_share_35 : decode cX1_share 35 = .ok (.lconst 0, 1) := by decide +kernel
theorem dX1_share_36 : decode cX1_share 36 = .ok (.lcmp, 1) := by decide +kernel
theorem dX1_share_37 : decode cX1_share 37 = .ok (.ifCond .le 20, 3) := by decide +kernel
theorem dX1_share_40 : decode cX1_share 40 = .ok (.aload_n 0, 1) := by decide +kernel
theorem dX1_share_41 : decode cX1_share 41 = .ok (.aload_n 2, 1) := by decide +kernel
theorem dX1_share_42 : decode cX1_share 42 = .ok (.iload_n 3, 1) := by decide +kernel
theorem dX1_share_43 : decode cX1_share 43 = .ok (.invokevirtual 28, 3) := by decide +kernel
theorem dX1_share_46 : decode cX1_share 46 = .ok (.ldc2_w 32, 3) := by decide +kernel
theorem dX1_share_49 : decode cX1_share 49 = .ok (.lmul, 1) := by decide +kernel
theorem dX1_share_50 : decode cX1_share 50 = .ok (.lload 4, 2) := by decide +kernel
theorem dX1_share_52 : decode cX1_share 52 = .ok (.ldiv, 1) := by decide +kernel
theorem dX1_share_53 : decode cX1_share 53 = .ok (.l2i, 1) := by decide +kernel
theorem dX1_share_54 : decode cX1_share 54 = .ok (.goto 4, 3) := by decide +kernel
theorem dX1_share_57 : decode cX1_share 57 = .ok (.iconst 0, 1) := by decide +kernel
theorem dX1_share_58 : decode cX1_share 58 = .ok (.ireturn, 1) := by decide +kernel
theorem dX1_dreamsAll_0 : decode cX1_dreamsAll 0 = .ok (.iconst 0, 1) := by decide +kernel
theorem dX1_dreamsAll_1 : decode cX1_dreamsAll 1 = .ok (.istore_n 3, 1) := by decide +kernel
theorem dX1_dreamsAll_2 : decode cX1_dreamsAll 2 = .ok (.iload_n 3, 1) := by decide +kernel
theorem dX1_dreamsAll_3 : decode cX1_dreamsAll 3 = .ok (.aload_n 0, 1) := by decide +kernel
theorem dX1_dreamsAll_4 : decode cX1_dreamsAll 4 = .ok (.getfield 15, 3) := by decide +kernel
theorem dX1_dreamsAll_7 : decode cX1_dreamsAll 7 = .ok (.if_icmp .ge 25, 3) := by decide +kernel
theorem dX1_dreamsAll_10 : decode cX1_dreamsAll 10 = .ok (.aload_n 1, 1) := by decide +kernel
theorem dX1_dreamsAll_11 : decode cX1_dreamsAll 11 = .ok (.iload_n 2, 1) := by decide +kernel
theorem dX1_dreamsAll_12 : decode cX1_dreamsAll 12 = .ok (.aload_n 0, 1) := by decide +kernel
theorem dX1_dreamsAll_13 : decode cX1_dreamsAll 13 = .ok (.getfield 9, 3) := by decide +kernel
theorem dX1_dreamsAll_16 : decode cX1_dreamsAll 16 = .ok (.iload_n 3, 1) := by decide +kernel
theorem dX1_dreamsAll_17 : decode cX1_dreamsAll 17 = .ok (.iaload, 1) := by decide +kernel
theorem dX1_dreamsAll_18 : decode cX1_dreamsAll 18 = .ok (.invokevirtual 34, 3) := by decide +kernel
theorem dX1_dreamsAll_21 : decode cX1_dreamsAll 21 = .ok (.ifCond .ne 5, 3) := by decide +kernel
theorem dX1_dreamsAll_24 : decode cX1_dreamsAll 24 = .ok (.iconst 0, 1) := by decide +kernel
theorem dX1_dreamsAll_25 : decode cX1_dreamsAll 25 = .ok (.ireturn, 1) := by decide +kernel
theorem dX1_dreamsAll_26 : decode cX1_dreamsAll 26 = .ok (.iinc 3 1, 3) := by decide +kernel
theorem dX1_dreamsAll_29 : decode cX1_dreamsAll 29 = .ok (.goto (-27), 3) := by decide +kernel
theorem dX1_dreamsAll_32 : decode cX1_dreamsAll 32 = .ok (.iconst 1, 1) := by decide +kernel
theorem dX1_dreamsAll_33 : decode cX1_dreamsAll 33 = .ok (.ireturn, 1) := by decide +kernel
theorem dX1_partOf_0 : decode cX1_partOf 0 = .ok (.aload_n 1, 1) := by decide +kernel
theorem dX1_partOf_1 : decode cX1_partOf 1 = .ok (.iload_n 2, 1) := by decide +kernel
theorem dX1_partOf_2 : decode cX1_partOf 2 = .ok (.invokevirtual 40, 3) := by decide +kernel
theorem dX1_partOf_5 : decode cX1_partOf 5 = .ok (.istore_n 3, 1) := by decide +kernel
theorem dX1_partOf_6 : decode cX1_partOf 6 = .ok (.iload_n 3, 1) := by decide +kernel
theorem dX1_partOf_7 : decode cX1_partOf 7 = .ok (.ifCond .gt 5, 3) := by decide +kernel
theorem dX1_partOf_10 : decode cX1_partOf 10 = .ok (.lconst 0, 1) := by decide +kernel
theorem dX1_partOf_11 : decode cX1_partOf 11 = .ok (.lreturn, 1) := by decide +kernel
theorem dX1_partOf_12 : decode cX1_partOf 12 = .ok (.ldc2_w 44, 3) := by decide +kernel
theorem dX1_partOf_15 : decode cX1_partOf 15 = .ok (.lstore 4, 2) := by decide +kernel
theorem dX1_partOf_17 : decode cX1_partOf 17 = .ok (.iconst 0, 1) := by decide +kernel
theorem dX1_partOf_18 : decode cX1_partOf 18 = .ok (.istore 6, 2) := by decide +kernel
theorem dX1_partOf_20 : decode cX1_partOf 20 = .ok (.iload 6, 2) := by decide +kernel
theorem dX1_partOf_22 : decode cX1_partOf 22 = .ok (.aload_n 0, 1) := by decide +kernel
theorem dX1_partOf_23 : decode cX1_partOf 23 = .ok (.getfield 15, 3) := by decide +kernel
theorem dX1_partOf_26 : decode cX1_partOf 26 = .ok (.if_icmp .ge 30, 3) := by decide +kernel
theorem dX1_partOf_29 : decode cX1_partOf 29 = .ok (.lload 4, 2) := by decide +kernel
theorem dX1_partOf_31 : decode cX1_partOf 31 = .ok (.aload_n 1, 1) := by decide +kernel
theorem dX1_partOf_32 : decode cX1_partOf 32 = .ok (.iload_n 2, 1) := by decide +kernel
theorem dX1_partOf_33 : decode cX1_partOf 33 = .ok (.aload_n 0, 1) := by decide +kernel
theorem dX1_partOf_34 : decode cX1_partOf 34 = .ok (.getfield 9, 3) := by decide +kernel
theorem dX1_partOf_37 : decode cX1_partOf 37 = .ok (.iload 6, 2) := by decide +kernel
theorem dX1_partOf_39 : decode cX1_partOf 39 = .ok (.iaload, 1) := by decide +kernel
theorem dX1_partOf_40 : decode cX1_partOf 40 = .ok (.invokevirtual 34, 3) := by decide +kernel
theorem dX1_partOf_43 : decode cX1_partOf 43 = .ok (.i2l, 1) := by decide +kernel
theorem dX1_partOf_44 : decode cX1_partOf 44 = .ok (.lmul, 1) := by decide +kernel
theorem dX1_partOf_45 : decode cX1_partOf 45 = .ok (.iload_n 3, 1) := by decide +kernel
theorem dX1_partOf_46 : decode cX1_partOf 46 = .ok (.i2l, 1) := by decide +kernel
theorem dX1_partOf_47 : decode cX1_partOf 47 = .ok (.ldiv, 1) := by decide +kernel
theorem dX1_partOf_48 : decode cX1_partOf 48 = .ok (.lstore 4, 2) := by decide +kernel
theorem dX1_partOf_50 : decode cX1_partOf 50 = .ok (.iinc 6 1, 3) := by decide +kernel
theorem dX1_partOf_53 : decode cX1_partOf 53 = .ok (.goto (-33), 3) := by decide +kernel
theorem dX1_partOf_56 : decode cX1_partOf 56 = .ok (.lload 4, 2) := by decide +kernel
theorem dX1_partOf_58 : decode cX1_partOf 58 = .ok (.lreturn, 1) := by decide +kernel
theorem dX2_init_0 : decode cX2_init 0 = .ok (.aload_n 0, 1) := by decide +kernel
theorem dX2_init_1 : decode cX2_init 1 = .ok (.invokespecial 3, 3) := by decide +kernel
theorem dX2_init_4 : decode cX2_init 4 = .ok (.aload_n 0, 1) := by decide +kernel
theorem dX2_init_5 : decode cX2_init 5 = .ok (.bipush 15, 2) := by decide +kernel
theorem dX2_init_7 : decode cX2_init 7 = .ok (.newarray .int, 2) := by decide +kernel
theorem dX2_init_9 : decode cX2_init 9 = .ok (.putfield 9, 3) := by decide +kernel
theorem dX2_init_12 : decode cX2_init 12 = .ok (.aload_n 0, 1) := by decide +kernel
theorem dX2_init_13 : decode cX2_init 13 = .ok (.bipush 15, 2) := by decide +kernel
theorem dX2_init_15 : decode cX2_init 15 = .ok (.newarray .int, 2) := by decide +kernel
theorem dX2_init_17 : decode cX2_init 17 = .ok (.putfield 15, 3) := by decide +kernel
theorem dX2_init_20 : decode cX2_init 20 = .ok (.aload_n 0, 1) := by decide +kernel
theorem dX2_init_21 : decode cX2_init 21 = .ok (.bipush 15, 2) := by decide +kernel
theorem dX2_init_23 : decode cX2_init 23 = .ok (.newarray .int, 2) := by decide +kernel
theorem dX2_init_25 : decode cX2_init 25 = .ok (.putfield 18, 3) := by decide +kernel
theorem dX2_init_28 : decode cX2_init 28 = .ok (.return_, 1) := by decide +kernel
theorem dX2_add_0 : decode cX2_add 0 = .ok (.aload_n 0, 1) := by decide +kernel
theorem dX2_add_1 : decode cX2_add 1 = .ok (.getfield 21, 3) := by decide +kernel
theorem dX2_add_4 : decode cX2_add 4 = .ok (.bipush 15, 2) := by decide +kernel
theorem dX2_add_6 : decode cX2_add 6 = .ok (.if_icmp .lt 5, 3) := by decide +kernel
theorem dX2_add_9 : decode cX2_add 9 = .ok (.iconst 0, 1) := by decide +kernel
theorem dX2_add_10 : decode cX2_add 10 = .ok (.ireturn, 1) := by decide +kernel
theorem dX2_add_11 : decode cX2_add 11 = .ok (.aload_n 0, 1) := by decide +kernel
theorem dX2_add_12 : decode cX2_add 12 = .ok (.getfield 9, 3) := by decide +kernel
theorem dX2_add_15 : decode cX2_add 15 = .ok (.aload_n 0, 1) := by decide +kernel
theorem dX2_add_16 : decode cX2_add 16 = .ok (.getfield 21, 3) := by decide +kernel
theorem dX2_add_19 : decode cX2_add 19 = .ok (.iload_n 1, 1) := by decide +kernel
theorem dX2_add_20 : decode cX2_add 20 = .ok (.iastore, 1) := by decide +kernel
theorem dX2_add_21 : decode cX2_add 21 = .ok (.aload_n 0, 1) := by decide +kernel
theorem dX2_add_22 : decode cX2_add 22 = .ok (.getfield 15, 3) := by decide +kernel
theorem dX2_add_25 : decode cX2_add 25 = .ok (.aload_n 0, 1) := by decide +kernel
theorem dX2_add_26 : decode cX2_add 26 = .ok (.getfield 21, 3) := by decide +kernel
theorem dX2_add_29 : decode cX2_add 29 = .ok (.iload_n 2, 1) := by decide +kernel
theorem dX2_add_30 : decode cX2_add 30 = .ok (.iastore, 1) := by decide +kernel
theorem dX2_add_31 : decode cX2_add 31 = .ok (.aload_n 0, 1) := by decide +kernel
theorem dX2_add_32 : decode cX2_add 32 = .ok (.getfield 18, 3) := by decide +kernel
theorem dX2_add_35 : decode cX2_add 35 = .ok (.aload_n 0, 1) := by decide +kernel
theorem dX2_add_36 : decode cX2_add 36 = .ok (.getfield 21, 3) := by decide +kernel
theorem dX2_add_39 : decode cX2_add 39 = .ok (.iload_n 3, 1) := by decide +kernel
theorem dX2_add_40 : decode cX2_add 40 = .ok (.iastore, 1) := by decide +kernel
theorem dX2_add_41 : decode cX2_add 41 = .ok (.aload_n 0, 1) := by decide +kernel
theorem dX2_add_42 : decode cX2_add 42 = .ok (.dup, 1) := by decide +kernel
theorem dX2_add_43 : decode cX2_add 43 = .ok (.getfield 21, 3) := by decide +kernel
theorem dX2_add_46 : decode cX2_add 46 = .ok (.iconst 1, 1) := by decide +kernel
theorem dX2_add_47 : decode cX2_add 47 = .ok (.iadd, 1) := by decide +kernel
theorem dX2_add_48 : decode cX2_add 48 = .ok (.putfield 21, 3) := by decide +kernel
theorem dX2_add_51 : decode cX2_add 51 = .ok (.iconst 1, 1) := by decide +kernel
theorem dX2_add_52 : decode cX2_add 52 = .ok (.ireturn, 1) := by decide +kernel
theorem dX2_firstWrong_0 : decode cX2_firstWrong 0 = .ok (.iconst 0, 1) := by decide +kernel
theorem dX2_firstWrong_1 : decode cX2_firstWrong 1 = .ok (.istore_n 2, 1) := by decide +kernel
theorem dX2_firstWrong_2 : decode cX2_firstWrong 2 = .ok (.iload_n 2, 1) := by decide +kernel
theorem dX2_firstWrong_3 : decode cX2_firstWrong 3 = .ok (.aload_n 0, 1) := by decide +kernel
theorem dX2_firstWrong_4 : decode cX2_firstWrong 4 = .ok (.getfield 21, 3) := by decide +kernel
theorem dX2_firstWrong_7 : decode cX2_firstWrong 7 = .ok (.if_icmp .ge 36, 3) := by decide +kernel
theorem dX2_firstWrong_10 : decode cX2_firstWrong 10 = .ok (.aload_n 1, 1) := by decide +kernel
theorem dX2_firstWrong_11 : decode cX2_firstWrong 11 = .ok (.aload_n 0, 1) := by decide +kernel
theorem dX2_firstWrong_12 : decode cX2_firstWrong 12 = .ok (.getfield 9, 3) := by decide +kernel
theorem dX2_firstWrong_15 : decode cX2_firstWrong 15 = .ok (.iload_n 2, 1) := by decide +kernel
theorem dX2_firstWrong_16 : decode cX2_firstWrong 16 = .ok (.iaload, 1) := by decide +kernel
theorem dX2_firstWrong_17 : decode cX2_firstWrong 17 = .ok (.aload_n 0, 1) := by decide +kernel
theorem dX2_firstWrong_18 : decode cX2_firstWrong 18 = .ok (.getfield 15, 3) := by decide +kernel
theorem dX2_firstWrong_21 : decode cX2_firstWrong 21 = .ok (.iload_n 2, 1) := by decide +kernel
theorem dX2_firstWrong_22 : decode cX2_firstWrong 22 = .ok (.iaload, 1) := by decide +kernel
theorem dX2_firstWrong_23 : decode cX2_firstWrong 23 = .ok (.invokevirtual 25, 3) := by decide +kernel
theorem dX2_firstWrong_26 : decode cX2_firstWrong 26 = .ok (.aload_n 0, 1) := by decide +kernel
theorem dX2_firstWrong_27 : decode cX2_firstWrong 27 = .ok (.getfield 18, 3) := by decide +kernel
theorem dX2_firstWrong_30 : decode cX2_firstWrong 30 = .ok (.iload_n 2, 1) := by decide +kernel
theorem dX2_firstWrong_31 : decode cX2_firstWrong 31 = .ok (.iaload, 1) := by decide +kernel
theorem dX2_firstWrong_32 : decode cX2_firstWrong 32 = .ok (.if_icmp .eq 5, 3) := by decide +kernel
theorem dX2_firstWrong_35 : decode cX2_firstWrong 35 = .ok (.iload_n 2, 1) := by decide +kernel
theorem dX2_firstWrong_36 : decode cX2_firstWrong 36 = .ok (.ireturn, 1) := by decide +kernel
theorem dX2_firstWrong_37 : decode cX2_firstWrong 37 = .ok (.iinc 2 1, 3) := by decide +kernel
theorem dX2_firstWrong_40 : decode cX2_firstWrong 40 = .ok (.goto (-38), 3) := by decide +kernel
theorem dX2_firstWrong_43 : decode cX2_firstWrong 43 = .ok (.iconst (-1), 1) := by decide +kernel
theorem dX2_firstWrong_44 : decode cX2_firstWrong 44 = .ok (.ireturn, 1) := by decide +kernel
theorem dX3_init_0 : decode cX3_init 0 = .ok (.aload_n 0, 1) := by decide +kernel
theorem dX3_init_1 : decode cX3_init 1 = .ok (.invokespecial 3, 3) := by decide +kernel
theorem dX3_init_4 : decode cX3_init 4 = .ok (.aload_n 0, 1) := by decide +kernel
theorem dX3_init_5 : decode cX3_init 5 = .ok (.bipush 64, 2) := by decide +kernel
theorem dX3_init_7 : decode cX3_init 7 = .ok (.newarray .int, 2) := by decide +kernel
theorem dX3_init_9 : decode cX3_init 9 = .ok (.putfield 9, 3) := by decide +kernel
theorem dX3_init_12 : decode cX3_init 12 = .ok (.return_, 1) := by decide +kernel
theorem dX3_ways_0 : decode cX3_ways 0 = .ok (.aload_n 0, 1) := by decide +kernel
theorem dX3_ways_1 : decode cX3_ways 1 = .ok (.getfield 9, 3) := by decide +kernel
theorem dX3_ways_4 : decode cX3_ways 4 = .ok (.iconst 0, 1) := by decide +kernel
theorem dX3_ways_5 : decode cX3_ways 5 = .ok (.invokestatic 15, 3) := by decide +kernel
theorem dX3_ways_8 : decode cX3_ways 8 = .ok (.aload_n 0, 1) := by decide +kernel
theorem dX3_ways_9 : decode cX3_ways 9 = .ok (.getfield 9, 3) := by decide +kernel
theorem dX3_ways_12 : decode cX3_ways 12 = .ok (.iconst 0, 1) := by decide +kernel
theorem dX3_ways_13 : decode cX3_ways 13 = .ok (.iconst 1, 1) := by decide +kernel
theorem dX3_ways_14 : decode cX3_ways 14 = .ok (.iastore, 1) := by decide +kernel
theorem dX3_ways_15 : decode cX3_ways 15 = .ok (.iconst 0, 1) := by decide +kernel
theorem dX3_ways_16 : decode cX3_ways 16 = .ok (.istore 5, 2) := by decide +kernel
theorem dX3_ways_18 : decode cX3_ways 18 = .ok (.iconst 0, 1) := by decide +kernel
theorem dX3_ways_19 : decode cX3_ways 19 = .ok (.istore 6, 2) := by decide +kernel
theorem dX3_ways_21 : decode cX3_ways 21 = .ok (.iload 6, 2) := by decide +kernel
theorem dX3_ways_23 : decode cX3_ways 23 = .ok (.aload_n 1, 1) := by decide +kernel
theorem dX3_ways_24 : decode cX3_ways 24 = .ok (.getfield 21, 3) := by decide +kernel
theorem dX3_ways_27 : decode cX3_ways 27 = .ok (.if_icmp .ge 52, 3) := by decide +kernel
theorem dX3_ways_30 : decode cX3_ways 30 = .ok (.aload_n 2, 1) := by decide +kernel
theorem dX3_ways_31 : decode cX3_ways 31 = .ok (.iload 6, 2) := by decide +kernel
theorem dX3_ways_33 : decode cX3_ways 33 = .ok (.invokevirtual 27, 3) := by decide +kernel
theorem dX3_ways_36 : decode cX3_ways 36 = .ok (.ifCond .ne 37, 3) := by decide +kernel
theorem dX3_ways_39 : decode cX3_ways 39 = .ok (.iload 6, 2) := by decide +kernel
theorem dX3_ways_41 : decode cX3_ways 41 = .ok (.iload_n 3, 1) := by decide +kernel
theorem dX3_ways_42 : decode cX3_ways 42 = .ok (.if_icmp .ne 8, 3) := by decide +kernel
theorem dX3_ways_45 : decode cX3_ways 45 = .ok (.iload 4, 2) := by decide +kernel
theorem dX3_ways_47 : decode cX3_ways 47 = .ok (.goto 4, 3) := by decide +kernel
theorem dX3_ways_50 : decode cX3_ways 50 = .ok (.iconst (-1), 1) := by decide +kernel
theorem dX3_ways_51 : decode cX3_ways 51 = .ok (.istore 7, 2) := by decide +kernel
theorem dX3_ways_53 : decode cX3_ways 53 = .ok (.aload_n 0, 1) := by decide +kernel
theorem dX3_ways_54 : decode cX3_ways 54 = .ok (.aload_n 1, 1) := by decide +kernel
theorem dX3_ways_55 : decode cX3_ways 55 = .ok (.aload_n 0, 1) := by decide +kernel
theorem dX3_ways_56 : decode cX3_ways 56 = .ok (.aload_n 1, 1) := by decide +kernel
theorem dX3_ways_57 : decode cX3_ways 57 = .ok (.aload_n 2, 1) := by decide +kernel
theorem dX3_ways_58 : decode cX3_ways 58 = .ok (.iload 6, 2) := by decide +kernel
theorem dX3_ways_60 : decode cX3_ways 60 = .ok (.iload 7, 2) := by decide +kernel
theorem dX3_ways_62 : decode cX3_ways 62 = .ok (.invokevirtual 33, 3) := by decide +kernel
theorem dX3_ways_65 : decode cX3_ways 65 = .ok (.iload 5, 2) := by decide +kernel
theorem dX3_ways_67 : decode cX3_ways 67 = .ok (.invokevirtual 37, 3) := by decide +kernel
theorem dX3_ways_70 : decode cX3_ways 70 = .ok (.iinc 5 1, 3) := by decide +kernel
theorem dX3_ways_73 : decode cX3_ways 73 = .ok (.iinc 6 1, 3) := by decide +kernel
theorem dX3_ways_76 : decode cX3_ways 76 = .ok (.goto (-55), 3) := by decide +kernel
theorem dX3_ways_79 : decode cX3_ways 79 = .ok (.aload_n 0, 1) := by decide +kernel
theorem dX3_ways_80 : decode cX3_ways 80 = .ok (.iload 5, 2) := by decide +kernel
theorem dX3_ways_82 : decode cX3_ways 82 = .ok (.invokevirtual 41, 3) := by decide +kernel
theorem dX3_ways_85 : decode cX3_ways 85 = .ok (.ireturn, 1) := by decide +kernel
theorem dX3_sureBed_0 : decode cX3_sureBed 0 = .ok (.aload_n 2, 1) := by decide +kernel
theorem dX3_sureBed_1 : decode cX3_sureBed 1 = .ok (.iload_n 3, 1) := by decide +kernel
theorem dX3_sureBed_2 : decode cX3_sureBed 2 = .ok (.invokevirtual 27, 3) := by decide +kernel
theorem dX3_sureBed_5 : decode cX3_sureBed 5 = .ok (.ifCond .eq 5, 3) := by decide +kernel
theorem dX3_sureBed_8 : decode cX3_sureBed 8 = .ok (.iconst (-1), 1) := by decide +kernel
theorem dX3_sureBed_9 : decode cX3_sureBed 9 = .ok (.ireturn, 1) := by decide +kernel
theorem dX3_sureBed_10 : decode cX3_sureBed 10 = .ok (.iconst (-1), 1) := by decide +kernel
theorem dX3_sureBed_11 : decode cX3_sureBed 11 = .ok (.istore 4, 2) := by decide +kernel
theorem dX3_sureBed_13 : decode cX3_sureBed 13 = .ok (.iconst 0, 1) := by decide +kernel
theorem dX3_sureBed_14 : decode cX3_sureBed 14 = .ok (.istore 5, 2) := by decide +kernel
theorem dX3_sureBed_16 : decode cX3_sureBed 16 = .ok (.iload 5, 2) := by decide +kernel
theorem dX3_sureBed_18 : decode cX3_sureBed 18 = .ok (.aload_n 1, 1) := by decide +kernel
theorem dX3_sureBed_19 : decode cX3_sureBed 19 = .ok (.getfield 45, 3) := by decide +kernel
theorem dX3_sureBed_22 : decode cX3_sureBed 22 = .ok (.if_icmp .ge 33, 3) := by decide +kernel
theorem dX3_sureBed_25 : decode cX3_sureBed 25 = .ok (.aload_n 0, 1) := by decide +kernel
theorem dX3_sureBed_26 : decode cX3_sureBed 26 = .ok (.aload_n 1, 1) := by decide +kernel
theorem dX3_sureBed_27 : decode cX3_sureBed 27 = .ok (.aload_n 2, 1) := by decide +kernel
theorem dX3_sureBed_28 : decode cX3_sureBed 28 = .ok (.iload_n 3, 1) := by decide +kernel
theorem dX3_sureBed_29 : decode cX3_sureBed 29 = .ok (.iload 5, 2) := by decide +kernel
theorem dX3_sureBed_31 : decode cX3_sureBed 31 = .ok (.invokevirtual 48, 3) := by decide +kernel
theorem dX3_sureBed_34 : decode cX3_sureBed 34 = .ok (.ifCond .le 15, 3) := by decide +kernel
theorem dX3_sureBed_37 : decode cX3_sureBed 37 = .ok (.iload 4, 2) := by decide +kernel
theorem dX3_sureBed_39 : decode cX3_sureBed 39 = .ok (.iconst (-1), 1) := by decide +kernel
theorem dX3_sureBed_40 : decode cX3_sureBed 40 = .ok (.if_icmp .eq 5, 3) := by decide +kernel
theorem dX3_sureBed_43 : decode cX3_sureBed 43 = .ok (.iconst (-1), 1) := by decide +kernel
theorem dX3_sureBed_44 : decode cX3_sureBed 44 = .ok (.ireturn, 1) := by decide +kernel
theorem dX3_sureBed_45 : decode cX3_sureBed 45 = .ok (.iload 5, 2) := by decide +kernel
theorem dX3_sureBed_47 : decode cX3_sureBed 47 = .ok (.istore 4, 2) := by decide +kernel
theorem dX3_sureBed_49 : decode cX3_sureBed 49 = .ok (.iinc 5 1, 3) := by decide +kernel
theorem dX3_sureBed_52 : decode cX3_sureBed 52 = .ok (.goto (-36), 3) := by decide +kernel
theorem dX3_sureBed_55 : decode cX3_sureBed 55 = .ok (.iload 4, 2) := by decide +kernel
theorem dX3_sureBed_57 : decode cX3_sureBed 57 = .ok (.ireturn, 1) := by decide +kernel
theorem dX3_bedsOf_0 : decode cX3_bedsOf 0 = .ok (.iconst 0, 1) := by decide +kernel
theorem dX3_bedsOf_1 : decode cX3_bedsOf 1 = .ok (.istore 5, 2) := by decide +kernel
theorem dX3_bedsOf_3 : decode cX3_bedsOf 3 = .ok (.iconst 0, 1) := by decide +kernel
theorem dX3_bedsOf_4 : decode cX3_bedsOf 4 = .ok (.istore 6, 2) := by decide +kernel
theorem dX3_bedsOf_6 : decode cX3_bedsOf 6 = .ok (.iload 6, 2) := by decide +kernel
theorem dX3_bedsOf_8 : decode cX3_bedsOf 8 = .ok (.aload_n 1, 1) := by decide +kernel
theorem dX3_bedsOf_9 : decode cX3_bedsOf 9 = .ok (.getfield 45, 3) := by decide +kernel
theorem dX3_bedsOf_12 : decode cX3_bedsOf 12 = .ok (.if_icmp .ge 72, 3) := by decide +kernel
theorem dX3_bedsOf_15 : decode cX3_bedsOf 15 = .ok (.iload 6, 2) := by decide +kernel
theorem dX3_bedsOf_17 : decode cX3_bedsOf 17 = .ok (.aload_n 1, 1) := by decide +kernel
theorem dX3_bedsOf_18 : decode cX3_bedsOf 18 = .ok (.getfield 51, 3) := by decide +kernel
theorem dX3_bedsOf_21 : decode cX3_bedsOf 21 = .ok (.iload_n 3, 1) := by decide +kernel
theorem dX3_bedsOf_22 : decode cX3_bedsOf 22 = .ok (.iaload, 1) := by decide +kernel
theorem dX3_bedsOf_23 : decode cX3_bedsOf 23 = .ok (.if_icmp .eq 25, 3) := by decide +kernel
theorem dX3_bedsOf_26 : decode cX3_bedsOf 26 = .ok (.aload_n 2, 1) := by decide +kernel
theorem dX3_bedsOf_27 : decode cX3_bedsOf 27 = .ok (.getfield 54, 3) := by decide +kernel
theorem dX3_bedsOf_30 : decode cX3_bedsOf 30 = .ok (.iload 6, 2) := by decide +kernel
theorem dX3_bedsOf_32 : decode cX3_bedsOf 32 = .ok (.aload_n 2, 1) := by decide +kernel
theorem dX3_bedsOf_33 : decode cX3_bedsOf 33 = .ok (.getfield 58, 3) := by decide +kernel
theorem dX3_bedsOf_36 : decode cX3_bedsOf 36 = .ok (.iload_n 3, 1) := by decide +kernel
theorem dX3_bedsOf_37 : decode cX3_bedsOf 37 = .ok (.iaload, 1) := by decide +kernel
theorem dX3_bedsOf_38 : decode cX3_bedsOf 38 = .ok (.invokevirtual 61, 3) := by decide +kernel
theorem dX3_bedsOf_41 : decode cX3_bedsOf 41 = .ok (.ifCond .le 7, 3) := by decide +kernel
theorem dX3_bedsOf_44 : decode cX3_bedsOf 44 = .ok (.iconst 1, 1) := by decide +kernel
theorem dX3_bedsOf_45 : decode cX3_bedsOf 45 = .ok (.goto 4, 3) := by decide +kernel
theorem dX3_bedsOf_48 : decode cX3_bedsOf 48 = .ok (.iconst 0, 1) := by decide +kernel
theorem dX3_bedsOf_49 : decode cX3_bedsOf 49 = .ok (.istore 7, 2) := by decide +kernel
theorem dX3_bedsOf_51 : decode cX3_bedsOf 51 = .ok (.iload 7, 2) := by decide +kernel
theorem dX3_bedsOf_53 : decode cX3_bedsOf 53 = .ok (.ifCond .eq 25, 3) := by decide +kernel
theorem dX3_bedsOf_56 : decode cX3_bedsOf 56 = .ok (.iload 4, 2) := by decide +kernel
theorem dX3_bedsOf_58 : decode cX3_bedsOf 58 = .ok (.iconst (-1), 1) := by decide +kernel
theorem dX3_bedsOf_59 : decode cX3_bedsOf 59 = .ok (.if_icmp .eq 10, 3) := by decide +kernel
theorem dX3_bedsOf_62 : decode cX3_bedsOf 62 = .ok (.iload 4, 2) := by decide +kernel
theorem dX3_bedsOf_64 : decode cX3_bedsOf 64 = .ok (.iload 6, 2) := by decide +kernel
theorem dX3_bedsOf_66 : decode cX3_bedsOf 66 = .ok (.if_icmp .ne 12, 3) := by decide +kernel
theorem dX3_bedsOf_69 : decode cX3_bedsOf 69 = .ok (.iload 5, 2) := by decide +kernel
theorem dX3_bedsOf_71 : decode cX3_bedsOf 71 = .ok (.iconst 1, 1) := by decide +kernel
theorem dX3_bedsOf_72 : decode cX3_bedsOf 72 = .ok (.iload 6, 2) := by decide +kernel
theorem dX3_bedsOf_74 : decode cX3_bedsOf 74 = .ok (.ishl, 1) := by decide +kernel
theorem dX3_bedsOf_75 : decode cX3_bedsOf 75 = .ok (.ior, 1) := by decide +kernel
theorem dX3_bedsOf_76 : decode cX3_bedsOf 76 = .ok (.istore 5, 2) := by decide +kernel
theorem dX3_bedsOf_78 : decode cX3_bedsOf 78 = .ok (.iinc 6 1, 3) := by decide +kernel
theorem dX3_bedsOf_81 : decode cX3_bedsOf 81 = .ok (.goto (-75), 3) := by decide +kernel
theorem dX3_bedsOf_84 : decode cX3_bedsOf 84 = .ok (.iload 5, 2) := by decide +kernel
theorem dX3_bedsOf_86 : decode cX3_bedsOf 86 = .ok (.ireturn, 1) := by decide +kernel
theorem dX3_place_0 : decode cX3_place 0 = .ok (.iconst 0, 1) := by decide +kernel
theorem dX3_place_1 : decode cX3_place 1 = .ok (.istore 4, 2) := by decide +kernel
theorem dX3_place_3 : decode cX3_place 3 = .ok (.iload 4, 2) := by decide +kernel
theorem dX3_place_5 : decode cX3_place 5 = .ok (.bipush 64, 2) := by decide +kernel
theorem dX3_place_7 : decode cX3_place 7 = .ok (.if_icmp .ge 89, 3) := by decide +kernel
theorem dX3_place_10 : decode cX3_place 10 = .ok (.iload 4, 2) := by decide +kernel
theorem dX3_place_12 : decode cX3_place 12 = .ok (.invokestatic 67, 3) := by decide +kernel
theorem dX3_place_15 : decode cX3_place 15 = .ok (.iload_n 3, 1) := by decide +kernel
theorem dX3_place_16 : decode cX3_place 16 = .ok (.if_icmp .ne 12, 3) := by decide +kernel
theorem dX3_place_19 : decode cX3_place 19 = .ok (.iload_n 2, 1) := by decide +kernel
theorem dX3_place_20 : decode cX3_place 20 = .ok (.iload 4, 2) := by decide +kernel
theorem dX3_place_22 : decode cX3_place 22 = .ok (.iconst (-1), 1) := by decide +kernel
theorem dX3_place_23 : decode cX3_place 23 = .ok (.ixor, 1) := by decide +kernel
theorem dX3_place_24 : decode cX3_place 24 = .ok (.iand, 1) := by decide +kernel
theorem dX3_place_25 : decode cX3_place 25 = .ok (.goto 4, 3) := by decide +kernel
theorem dX3_place_28 : decode cX3_place 28 = .ok (.iconst 0, 1) := by decide +kernel
theorem dX3_place_29 : decode cX3_place 29 = .ok (.istore 5, 2) := by decide +kernel
theorem dX3_place_31 : decode cX3_place 31 = .ok (.iconst 0, 1) := by decide +kernel
theorem dX3_place_32 : decode cX3_place 32 = .ok (.istore 6, 2) := by decide +kernel
theorem dX3_place_34 : decode cX3_place 34 = .ok (.iload 6, 2) := by decide +kernel
theorem dX3_place_36 : decode cX3_place 36 = .ok (.aload_n 1, 1) := by decide +kernel
theorem dX3_place_37 : decode cX3_place 37 = .ok (.getfield 45, 3) := by decide +kernel
theorem dX3_place_40 : decode cX3_place 40 = .ok (.if_icmp .ge 50, 3) := by decide +kernel
theorem dX3_place_43 : decode cX3_place 43 = .ok (.iload 5, 2) := by decide +kernel
theorem dX3_place_45 : decode cX3_place 45 = .ok (.iload 6, 2) := by decide +kernel
theorem dX3_place_47 : decode cX3_place 47 = .ok (.ishr, 1) := by decide +kernel
theorem dX3_place_48 : decode cX3_place 48 = .ok (.ifCond .eq 42, 3) := by decide +kernel
theorem dX3_place_51 : decode cX3_place 51 = .ok (.iload 5, 2) := by decide +kernel
theorem dX3_place_53 : decode cX3_place 53 = .ok (.iload 6, 2) := by decide +kernel
theorem dX3_place_55 : decode cX3_place 55 = .ok (.ishr, 1) := by decide +kernel
theorem dX3_place_56 : decode cX3_place 56 = .ok (.iconst 1, 1) := by decide +kernel
theorem dX3_place_57 : decode cX3_place 57 = .ok (.iand, 1) := by decide +kernel
theorem dX3_place_58 : decode cX3_place 58 = .ok (.iconst 1, 1) := by decide +kernel
theorem dX3_place_59 : decode cX3_place 59 = .ok (.if_icmp .ne 25, 3) := by decide +kernel
theorem dX3_place_62 : decode cX3_place 62 = .ok (.aload_n 0, 1) := by decide +kernel
theorem dX3_place_63 : decode cX3_place 63 = .ok (.getfield 9, 3) := by decide +kernel
theorem dX3_place_66 : decode cX3_place 66 = .ok (.iload 4, 2) := by decide +kernel
theorem dX3_place_68 : decode cX3_place 68 = .ok (.iconst 1, 1) := by decide +kernel
theorem dX3_place_69 : decode cX3_place 69 = .ok (.iload 6, 2) := by decide +kernel
theorem dX3_place_71 : decode cX3_place 71 = .ok (.ishl, 1) := by decide +kernel
theorem dX3_place_72 : decode cX3_place 72 = .ok (.ior, 1) := by decide +kernel
theorem dX3_place_73 : decode cX3_place 73 = .ok (.dup2, 1) := by decide +kernel
theorem dX3_place_74 : decode cX3_place 74 = .ok (.iaload, 1) := by decide +kernel
theorem dX3_place_75 : decode cX3_place 75 = .ok (.aload_n 0, 1) := by decide +kernel
theorem dX3_place_76 : decode cX3_place 76 = .ok (.getfield 9, 3) := by decide +kernel
theorem dX3_place_79 : decode cX3_place 79 = .ok (.iload 4, 2) := by decide +kernel
theorem dX3_place_81 : decode cX3_place 81 = .ok (.iaload, 1) := by decide +kernel
theorem dX3_place_82 : decode cX3_place 82 = .ok (.iadd, 1) := by decide +kernel
theorem dX3_place_83 : decode cX3_place 83 = .ok (.iastore, 1) := by decide +kernel
theorem dX3_place_84 : decode cX3_place 84 = .ok (.iinc 6 1, 3) := by decide +kernel
theorem dX3_place_87 : decode cX3_place 87 = .ok (.goto (-53), 3) := by decide +kernel
theorem dX3_place_90 : decode cX3_place 90 = .ok (.iinc 4 1, 3) := by decide +kernel
theorem dX3_place_93 : decode cX3_place 93 = .ok (.goto (-90), 3) := by decide +kernel
theorem dX3_place_96 : decode cX3_place 96 = .ok (.return_, 1) := by decide +kernel
theorem dX3_countOf_0 : decode cX3_countOf 0 = .ok (.iconst 0, 1) := by decide +kernel
theorem dX3_countOf_1 : decode cX3_countOf 1 = .ok (.istore_n 2, 1) := by decide +kernel
theorem dX3_countOf_2 : decode cX3_countOf 2 = .ok (.iconst 0, 1) := by decide +kernel
theorem dX3_countOf_3 : decode cX3_countOf 3 = .ok (.istore_n 3, 1) := by decide +kernel
theorem dX3_countOf_4 : decode cX3_countOf 4 = .ok (.iload_n 3, 1) := by decide +kernel
theorem dX3_countOf_5 : decode cX3_countOf 5 = .ok (.bipush 64, 2) := by decide +kernel
theorem dX3_countOf_7 : decode cX3_countOf 7 = .ok (.if_icmp .ge 26, 3) := by decide +kernel
theorem dX3_countOf_10 : decode cX3_countOf 10 = .ok (.iload_n 3, 1) := by decide +kernel
theorem dX3_countOf_11 : decode cX3_countOf 11 = .ok (.invokestatic 67, 3) := by decide +kernel
theorem dX3_countOf_14 : decode cX3_countOf 14 = .ok (.iload_n 1, 1) := by decide +kernel
theorem dX3_countOf_15 : decode cX3_countOf 15 = .ok (.if_icmp .ne 12, 3) := by decide +kernel
theorem dX3_countOf_18 : decode cX3_countOf 18 = .ok (.iload_n 2, 1) := by decide +kernel
theorem dX3_countOf_19 : decode cX3_countOf 19 = .ok (.aload_n 0, 1) := by decide +kernel
theorem dX3_countOf_20 : decode cX3_countOf 20 = .ok (.getfield 9, 3) := by decide +kernel
theorem dX3_countOf_23 : decode cX3_countOf 23 = .ok (.iload_n 3, 1) := by decide +kernel
theorem dX3_countOf_24 : decode cX3_countOf 24 = .ok (.iaload, 1) := by decide +kernel
theorem dX3_countOf_25 : decode cX3_countOf 25 = .ok (.iadd, 1) := by decide +kernel
theorem dX3_countOf_26 : decode cX3_countOf 26 = .ok (.istore_n 2, 1) := by decide +kernel
theorem dX3_countOf_27 : decode cX3_countOf 27 = .ok (.iinc 3 1, 3) := by decide +kernel
theorem dX3_countOf_30 : decode cX3_countOf 30 = .ok (.goto (-26), 3) := by decide +kernel
theorem dX3_countOf_33 : decode cX3_countOf 33 = .ok (.iload_n 2, 1) := by decide +kernel
theorem dX3_countOf_34 : decode cX3_countOf 34 = .ok (.ireturn, 1) := by decide +kernel
theorem dX4_init_0 : decode cX4_init 0 = .ok (.aload_n 0, 1) := by decide +kernel
theorem dX4_init_1 : decode cX4_init 1 = .ok (.invokespecial 3, 3) := by decide +kernel
theorem dX4_init_4 : decode cX4_init 4 = .ok (.aload_n 0, 1) := by decide +kernel
theorem dX4_init_5 : decode cX4_init 5 = .ok (.new 9, 3) := by decide +kernel
theorem dX4_init_8 : decode cX4_init 8 = .ok (.dup, 1) := by decide +kernel
theorem dX4_init_9 : decode cX4_init 9 = .ok (.invokespecial 11, 3) := by decide +kernel
theorem dX4_init_12 : decode cX4_init 12 = .ok (.putfield 12, 3) := by decide +kernel
theorem dX4_init_15 : decode cX4_init 15 = .ok (.aload_n 0, 1) := by decide +kernel
theorem dX4_init_16 : decode cX4_init 16 = .ok (.bipush 7, 2) := by decide +kernel
theorem dX4_init_18 : decode cX4_init 18 = .ok (.newarray .int, 2) := by decide +kernel
theorem dX4_init_20 : decode cX4_init 20 = .ok (.putfield 18, 3) := by decide +kernel
theorem dX4_init_23 : decode cX4_init 23 = .ok (.return_, 1) := by decide +kernel
theorem dX4_run_0 : decode cX4_run 0 = .ok (.aload_n 0, 1) := by decide +kernel
theorem dX4_run_1 : decode cX4_run 1 = .ok (.getfield 12, 3) := by decide +kernel
theorem dX4_run_4 : decode cX4_run 4 = .ok (.aload_n 2, 1) := by decide +kernel
theorem dX4_run_5 : decode cX4_run 5 = .ok (.getfield 22, 3) := by decide +kernel
theorem dX4_run_8 : decode cX4_run 8 = .ok (.invokevirtual 25, 3) := by decide +kernel
theorem dX4_run_11 : decode cX4_run 11 = .ok (.iconst 0, 1) := by decide +kernel
theorem dX4_run_12 : decode cX4_run 12 = .ok (.istore 6, 2) := by decide +kernel
theorem dX4_run_14 : decode cX4_run 14 = .ok (.iload 6, 2) := by decide +kernel
theorem dX4_run_16 : decode cX4_run 16 = .ok (.iload 5, 2) := by decide +kernel
theorem dX4_run_18 : decode cX4_run 18 = .ok (.if_icmp .ge 23, 3) := by decide +kernel
theorem dX4_run_21 : decode cX4_run 21 = .ok (.aload_n 0, 1) := by decide +kernel
theorem dX4_run_22 : decode cX4_run 22 = .ok (.aload_n 1, 1) := by decide +kernel
theorem dX4_run_23 : decode cX4_run 23 = .ok (.aload_n 3, 1) := by decide +kernel
theorem dX4_run_24 : decode cX4_run 24 = .ok (.iload 4, 2) := by decide +kernel
theorem dX4_run_26 : decode cX4_run 26 = .ok (.invokevirtual 29, 3) := by decide +kernel
theorem dX4_run_29 : decode cX4_run 29 = .ok (.ifCond .ne 6, 3) := by decide +kernel
theorem dX4_run_32 : decode cX4_run 32 = .ok (.iload 6, 2) := by decide +kernel
theorem dX4_run_34 : decode cX4_run 34 = .ok (.ireturn, 1) := by decide +kernel
theorem dX4_run_35 : decode cX4_run 35 = .ok (.iinc 6 1, 3) := by decide +kernel
theorem dX4_run_38 : decode cX4_run 38 = .ok (.goto (-24), 3) := by decide +kernel
theorem dX4_run_41 : decode cX4_run 41 = .ok (.iload 5, 2) := by decide +kernel
theorem dX4_run_43 : decode cX4_run 43 = .ok (.ireturn, 1) := by decide +kernel
theorem dX4_fewestLoaves_0 : decode cX4_fewestLoaves 0 = .ok (.aload_n 0, 1) := by decide +kernel
theorem dX4_fewestLoaves_1 : decode cX4_fewestLoaves 1 = .ok (.getfield 12, 3) := by decide +kernel
theorem dX4_fewestLoaves_4 : decode cX4_fewestLoaves 4 = .ok (.aload_n 2, 1) := by decide +kernel
theorem dX4_fewestLoaves_5 : decode cX4_fewestLoaves 5 = .ok (.getfield 22, 3) := by decide +kernel
theorem dX4_fewestLoaves_8 : decode cX4_fewestLoaves 8 = .ok (.invokevirtual 25, 3) := by decide +kernel
theorem dX4_fewestLoaves_11 : decode cX4_fewestLoaves 11 = .ok (.iconst 0, 1) := by decide +kernel
theorem dX4_fewestLoaves_12 : decode cX4_fewestLoaves 12 = .ok (.istore 5, 2) := by decide +kernel
theorem dX4_fewestLoaves_14 : decode cX4_fewestLoaves 14 = .ok (.iload 5, 2) := by decide +kernel
theorem dX4_fewestLoaves_16 : decode cX4_fewestLoaves 16 = .ok (.bipush 9, 2) := by decide +kernel
theorem dX4_fewestLoaves_18 : decode cX4_fewestLoaves 18 = .ok (.if_icmp .gt 40, 3) := by decide +kernel
theorem dX4_fewestLoaves_21 : decode cX4_fewestLoaves 21 = .ok (.aload_n 0, 1) := by decide +kernel
theorem dX4_fewestLoaves_22 : decode cX4_fewestLoaves 22 = .ok (.getfield 12, 3) := by decide +kernel
theorem dX4_fewestLoaves_25 : decode cX4_fewestLoaves 25 = .ok (.iload_n 3, 1) := by decide +kernel
theorem dX4_fewestLoaves_26 : decode cX4_fewestLoaves 26 = .ok (.invokevirtual 33, 3) := by decide +kernel
theorem dX4_fewestLoaves_29 : decode cX4_fewestLoaves 29 = .ok (.iload 4, 2) := by decide +kernel
theorem dX4_fewestLoaves_31 : decode cX4_fewestLoaves 31 = .ok (.if_icmp .ne 6, 3) := by decide +kernel
theorem dX4_fewestLoaves_34 : decode cX4_fewestLoaves 34 = .ok (.iload 5, 2) := by decide +kernel
theorem dX4_fewestLoaves_36 : decode cX4_fewestLoaves 36 = .ok (.ireturn, 1) := by decide +kernel
theorem dX4_fewestLoaves_37 : decode cX4_fewestLoaves 37 = .ok (.aload_n 0, 1) := by decide +kernel
theorem dX4_fewestLoaves_38 : decode cX4_fewestLoaves 38 = .ok (.getfield 12, 3) := by decide +kernel
theorem dX4_fewestLoaves_41 : decode cX4_fewestLoaves 41 = .ok (.iload_n 3, 1) := by decide +kernel
theorem dX4_fewestLoaves_42 : decode cX4_fewestLoaves 42 = .ok (.iload 4, 2) := by decide +kernel
theorem dX4_fewestLoaves_44 : decode cX4_fewestLoaves 44 = .ok (.aload_n 1, 1) := by decide +kernel
theorem dX4_fewestLoaves_45 : decode cX4_fewestLoaves 45 = .ok (.getfield 37, 3) := by decide +kernel
theorem dX4_fewestLoaves_48 : decode cX4_fewestLoaves 48 = .ok (.invokevirtual 43, 3) := by decide +kernel
theorem dX4_fewestLoaves_51 : decode cX4_fewestLoaves 51 = .ok (.pop, 1) := by decide +kernel
theorem dX4_fewestLoaves_52 : decode cX4_fewestLoaves 52 = .ok (.iinc 5 1, 3) := by decide +kernel
theorem dX4_fewestLoaves_55 : decode cX4_fewestLoaves 55 = .ok (.goto (-41), 3) := by decide +kernel
theorem dX4_fewestLoaves_58 : decode cX4_fewestLoaves 58 = .ok (.iconst (-1), 1) := by decide +kernel
theorem dX4_fewestLoaves_59 : decode cX4_fewestLoaves 59 = .ok (.ireturn, 1) := by decide +kernel
theorem dX4_passNight_0 : decode cX4_passNight 0 = .ok (.iconst 0, 1) := by decide +kernel
theorem dX4_passNight_1 : decode cX4_passNight 1 = .ok (.istore 4, 2) := by decide +kernel
theorem dX4_passNight_3 : decode cX4_passNight 3 = .ok (.iload 4, 2) := by decide +kernel
theorem dX4_passNight_5 : decode cX4_passNight 5 = .ok (.aload_n 1, 1) := by decide +kernel
theorem dX4_passNight_6 : decode cX4_passNight 6 = .ok (.getfield 47, 3) := by decide +kernel
theorem dX4_passNight_9 : decode cX4_passNight 9 = .ok (.if_icmp .ge 65, 3) := by decide +kernel
theorem dX4_passNight_12 : decode cX4_passNight 12 = .ok (.aload_n 2, 1) := by decide +kernel
theorem dX4_passNight_13 : decode cX4_passNight 13 = .ok (.getfield 50, 3) := by decide +kernel
theorem dX4_passNight_16 : decode cX4_passNight 16 = .ok (.iload 4, 2) := by decide +kernel
theorem dX4_passNight_18 : decode cX4_passNight 18 = .ok (.iaload, 1) := by decide +kernel
theorem dX4_passNight_19 : decode cX4_passNight 19 = .ok (.istore 5, 2) := by decide +kernel
theorem dX4_passNight_21 : decode cX4_passNight 21 = .ok (.iload 5, 2) := by decide +kernel
theorem dX4_passNight_23 : decode cX4_passNight 23 = .ok (.iconst (-1), 1) := by decide +kernel
theorem dX4_passNight_24 : decode cX4_passNight 24 = .ok (.if_icmp .eq 16, 3) := by decide +kernel
theorem dX4_passNight_27 : decode cX4_passNight 27 = .ok (.iload_n 3, 1) := by decide +kernel
theorem dX4_passNight_28 : decode cX4_passNight 28 = .ok (.iload 5, 2) := by decide +kernel
theorem dX4_passNight_30 : decode cX4_passNight 30 = .ok (.ishr, 1) := by decide +kernel
theorem dX4_passNight_31 : decode cX4_passNight 31 = .ok (.iconst 1, 1) := by decide +kernel
theorem dX4_passNight_32 : decode cX4_passNight 32 = .ok (.iand, 1) := by decide +kernel
theorem dX4_passNight_33 : decode cX4_passNight 33 = .ok (.ifCond .ne 7, 3) := by decide +kernel
theorem dX4_passNight_36 : decode cX4_passNight 36 = .ok (.iconst 1, 1) := by decide +kernel
theorem dX4_passNight_37 : decode cX4_passNight 37 = .ok (.goto 4, 3) := by decide +kernel
theorem dX4_passNight_40 : decode cX4_passNight 40 = .ok (.iconst 0, 1) := by decide +kernel
theorem dX4_passNight_41 : decode cX4_passNight 41 = .ok (.istore 6, 2) := by decide +kernel
theorem dX4_passNight_43 : decode cX4_passNight 43 = .ok (.aload_n 0, 1) := by decide +kernel
theorem dX4_passNight_44 : decode cX4_passNight 44 = .ok (.getfield 18, 3) := by decide +kernel
theorem dX4_passNight_47 : decode cX4_passNight 47 = .ok (.iload 4, 2) := by decide +kernel
theorem dX4_passNight_49 : decode cX4_passNight 49 = .ok (.iload 6, 2) := by decide +kernel
theorem dX4_passNight_51 : decode cX4_passNight 51 = .ok (.ifCond .eq 15, 3) := by decide +kernel
theorem dX4_passNight_54 : decode cX4_passNight 54 = .ok (.aload_n 0, 1) := by decide +kernel
theorem dX4_passNight_55 : decode cX4_passNight 55 = .ok (.getfield 12, 3) := by decide +kernel
theorem dX4_passNight_58 : decode cX4_passNight 58 = .ok (.iload 5, 2) := by decide +kernel
theorem dX4_passNight_60 : decode cX4_passNight 60 = .ok (.invokevirtual 33, 3) := by decide +kernel
theorem dX4_passNight_63 : decode cX4_passNight 63 = .ok (.goto 4, 3) := by decide +kernel
theorem dX4_passNight_66 : decode cX4_passNight 66 = .ok (.iconst (-1), 1) := by decide +kernel
theorem dX4_passNight_67 : decode cX4_passNight 67 = .ok (.iastore, 1) := by decide +kernel
theorem dX4_passNight_68 : decode cX4_passNight 68 = .ok (.iinc 4 1, 3) := by decide +kernel
theorem dX4_passNight_71 : decode cX4_passNight 71 = .ok (.goto (-68), 3) := by decide +kernel
theorem dX4_passNight_74 : decode cX4_passNight 74 = .ok (.iconst 0, 1) := by decide +kernel
theorem dX4_passNight_75 : decode cX4_passNight 75 = .ok (.istore 4, 2) := by decide +kernel
theorem dX4_passNight_77 : decode cX4_passNight 77 = .ok (.iconst 0, 1) := by decide +kernel
theorem dX4_passNight_78 : decode cX4_passNight 78 = .ok (.istore 5, 2) := by decide +kernel
theorem dX4_passNight_80 : decode cX4_passNight 80 = .ok (.iload 5, 2) := by decide +kernel
theorem dX4_passNight_82 : decode cX4_passNight 82 = .ok (.aload_n 1, 1) := by decide +kernel
theorem dX4_passNight_83 : decode cX4_passNight 83 = .ok (.getfield 47, 3) := by decide +kernel
theorem dX4_passNight_86 : decode cX4_passNight 86 = .ok (.if_icmp .ge 51, 3) := by decide +kernel
theorem dX4_passNight_89 : decode cX4_passNight 89 = .ok (.aload_n 0, 1) := by decide +kernel
theorem dX4_passNight_90 : decode cX4_passNight 90 = .ok (.getfield 18, 3) := by decide +kernel
theorem dX4_passNight_93 : decode cX4_passNight 93 = .ok (.iload 5, 2) := by decide +kernel
theorem dX4_passNight_95 : decode cX4_passNight 95 = .ok (.iaload, 1) := by decide +kernel
theorem dX4_passNight_96 : decode cX4_passNight 96 = .ok (.iconst (-1), 1) := by decide +kernel
theorem dX4_passNight_97 : decode cX4_passNight 97 = .ok (.if_icmp .eq 34, 3) := by decide +kernel
theorem dX4_passNight_100 : decode cX4_passNight 100 = .ok (.aload_n 0, 1) := by decide +kernel
theorem dX4_passNight_101 : decode cX4_passNight 101 = .ok (.getfield 12, 3) := by decide +kernel
theorem dX4_passNight_104 : decode cX4_passNight 104 = .ok (.aload_n 1, 1) := by decide +kernel
theorem dX4_passNight_105 : decode cX4_passNight 105 = .ok (.getfield 55, 3) := by decide +kernel
theorem dX4_passNight_108 : decode cX4_passNight 108 = .ok (.iload 5, 2) := by decide +kernel
theorem dX4_passNight_110 : decode cX4_passNight 110 = .ok (.iaload, 1) := by decide +kernel
theorem dX4_passNight_111 : decode cX4_passNight 111 = .ok (.aload_n 0, 1) := by decide +kernel
theorem dX4_passNight_112 : decode cX4_passNight 112 = .ok (.getfield 18, 3) := by decide +kernel
theorem dX4_passNight_115 : decode cX4_passNight 115 = .ok (.iload 5, 2) := by decide +kernel
theorem dX4_passNight_117 : decode cX4_passNight 117 = .ok (.iaload, 1) := by decide +kernel
theorem dX4_passNight_118 : decode cX4_passNight 118 = .ok (.aload_n 1, 1) := by decide +kernel
theorem dX4_passNight_119 : decode cX4_passNight 119 = .ok (.getfield 37, 3) := by decide +kernel
theorem dX4_passNight_122 : decode cX4_passNight 122 = .ok (.invokevirtual 43, 3) := by decide +kernel
theorem dX4_passNight_125 : decode cX4_passNight 125 = .ok (.ifCond .eq 6, 3) := by decide +kernel
theorem dX4_passNight_128 : decode cX4_passNight 128 = .ok (.iconst 1, 1) := by decide +kernel
theorem dX4_passNight_129 : decode cX4_passNight 129 = .ok (.istore 4, 2) := by decide +kernel
theorem dX4_passNight_131 : decode cX4_passNight 131 = .ok (.iinc 5 1, 3) := by decide +kernel
theorem dX4_passNight_134 : decode cX4_passNight 134 = .ok (.goto (-54), 3) := by decide +kernel
theorem dX4_passNight_137 : decode cX4_passNight 137 = .ok (.iload 4, 2) := by decide +kernel
theorem dX4_passNight_139 : decode cX4_passNight 139 = .ok (.ireturn, 1) := by decide +kernel
theorem dX5_init_0 : decode cX5_init 0 = .ok (.aload_n 0, 1) := by decide +kernel
theorem dX5_init_1 : decode cX5_init 1 = .ok (.invokespecial 3, 3) := by decide +kernel
theorem dX5_init_4 : decode cX5_init 4 = .ok (.aload_n 0, 1) := by decide +kernel
theorem dX5_init_5 : decode cX5_init 5 = .ok (.new 9, 3) := by decide +kernel
theorem dX5_init_8 : decode cX5_init 8 = .ok (.dup, 1) := by decide +kernel
theorem dX5_init_9 : decode cX5_init 9 = .ok (.invokespecial 11, 3) := by decide +kernel
theorem dX5_init_12 : decode cX5_init 12 = .ok (.putfield 12, 3) := by decide +kernel
theorem dX5_init_15 : decode cX5_init 15 = .ok (.aload_n 0, 1) := by decide +kernel
theorem dX5_init_16 : decode cX5_init 16 = .ok (.bipush 7, 2) := by decide +kernel
theorem dX5_init_18 : decode cX5_init 18 = .ok (.newarray .int, 2) := by decide +kernel
theorem dX5_init_20 : decode cX5_init 20 = .ok (.putfield 18, 3) := by decide +kernel
theorem dX5_init_23 : decode cX5_init 23 = .ok (.aload_n 0, 1) := by decide +kernel
theorem dX5_init_24 : decode cX5_init 24 = .ok (.bipush 7, 2) := by decide +kernel
theorem dX5_init_26 : decode cX5_init 26 = .ok (.newarray .int, 2) := by decide +kernel
theorem dX5_init_28 : decode cX5_init 28 = .ok (.putfield 22, 3) := by decide +kernel
theorem dX5_init_31 : decode cX5_init 31 = .ok (.aload_n 0, 1) := by decide +kernel
theorem dX5_init_32 : decode cX5_init 32 = .ok (.getfield 18, 3) := by decide +kernel
theorem dX5_init_35 : decode cX5_init 35 = .ok (.iconst (-1), 1) := by decide +kernel
theorem dX5_init_36 : decode cX5_init 36 = .ok (.invokestatic 25, 3) := by decide +kernel
theorem dX5_init_39 : decode cX5_init 39 = .ok (.aload_n 0, 1) := by decide +kernel
theorem dX5_init_40 : decode cX5_init 40 = .ok (.getfield 22, 3) := by decide +kernel
theorem dX5_init_43 : decode cX5_init 43 = .ok (.iconst (-1), 1) := by decide +kernel
theorem dX5_init_44 : decode cX5_init 44 = .ok (.invokestatic 25, 3) := by decide +kernel
theorem dX5_init_47 : decode cX5_init 47 = .ok (.return_, 1) := by decide +kernel
theorem dX5_begin_0 : decode cX5_begin 0 = .ok (.aload_n 0, 1) := by decide +kernel
theorem dX5_begin_1 : decode cX5_begin 1 = .ok (.getfield 12, 3) := by decide +kernel
theorem dX5_begin_4 : decode cX5_begin 4 = .ok (.aload_n 1, 1) := by decide +kernel
theorem dX5_begin_5 : decode cX5_begin 5 = .ok (.getfield 31, 3) := by decide +kernel
theorem dX5_begin_8 : decode cX5_begin 8 = .ok (.invokevirtual 34, 3) := by decide +kernel
theorem dX5_begin_11 : decode cX5_begin 11 = .ok (.aload_n 0, 1) := by decide +kernel
theorem dX5_begin_12 : decode cX5_begin 12 = .ok (.getfield 18, 3) := by decide +kernel
theorem dX5_begin_15 : decode cX5_begin 15 = .ok (.iconst (-1), 1) := by decide +kernel
theorem dX5_begin_16 : decode cX5_begin 16 = .ok (.invokestatic 25, 3) := by decide +kernel
theorem dX5_begin_19 : decode cX5_begin 19 = .ok (.aload_n 0, 1) := by decide +kernel
theorem dX5_begin_20 : decode cX5_begin 20 = .ok (.getfield 22, 3) := by decide +kernel
theorem dX5_begin_23 : decode cX5_begin 23 = .ok (.iconst (-1), 1) := by decide +kernel
theorem dX5_begin_24 : decode cX5_begin 24 = .ok (.invokestatic 25, 3) := by decide +kernel
theorem dX5_begin_27 : decode cX5_begin 27 = .ok (.aload_n 0, 1) := by decide +kernel
theorem dX5_begin_28 : decode cX5_begin 28 = .ok (.iconst 0, 1) := by decide +kernel
theorem dX5_begin_29 : decode cX5_begin 29 = .ok (.putfield 38, 3) := by decide +kernel
theorem dX5_begin_32 : decode cX5_begin 32 = .ok (.aload_n 0, 1) := by decide +kernel
theorem dX5_begin_33 : decode cX5_begin 33 = .ok (.iconst 0, 1) := by decide +kernel
theorem dX5_begin_34 : decode cX5_begin 34 = .ok (.putfield 42, 3) := by decide +kernel
theorem dX5_begin_37 : decode cX5_begin 37 = .ok (.aload_n 0, 1) := by decide +kernel
theorem dX5_begin_38 : decode cX5_begin 38 = .ok (.iconst 0, 1) := by decide +kernel
theorem dX5_begin_39 : decode cX5_begin 39 = .ok (.putfield 45, 3) := by decide +kernel
theorem dX5_begin_42 : decode cX5_begin 42 = .ok (.aload_n 0, 1) := by decide +kernel
theorem dX5_begin_43 : decode cX5_begin 43 = .ok (.iconst 0, 1) := by decide +kernel
theorem dX5_begin_44 : decode cX5_begin 44 = .ok (.putfield 48, 3) := by decide +kernel
theorem dX5_begin_47 : decode cX5_begin 47 = .ok (.return_, 1) := by decide +kernel
theorem dX5_become_0 : decode cX5_become 0 = .ok (.aload_n 0, 1) := by decide +kernel
theorem dX5_become_1 : decode cX5_become 1 = .ok (.getfield 12, 3) := by decide +kernel
theorem dX5_become_4 : decode cX5_become 4 = .ok (.aload_n 1, 1) := by decide +kernel
theorem dX5_become_5 : decode cX5_become 5 = .ok (.getfield 12, 3) := by decide +kernel
theorem dX5_become_8 : decode cX5_become 8 = .ok (.invokevirtual 34, 3) := by decide +kernel
theorem dX5_become_11 : decode cX5_become 11 = .ok (.aload_n 1, 1) := by decide +kernel
theorem dX5_become_12 : decode cX5_become 12 = .ok (.getfield 18, 3) := by decide +kernel
theorem dX5_become_15 : decode cX5_become 15 = .ok (.iconst 0, 1) := by decide +kernel
theorem dX5_become_16 : decode cX5_become 16 = .ok (.aload_n 0, 1) := by decide +kernel
theorem dX5_become_17 : decode cX5_become 17 = .ok (.getfield 18, 3) := by decide +kernel
theorem dX5_become_20 : decode cX5_become 20 = .ok (.iconst 0, 1) := by decide +kernel
theorem dX5_become_21 : decode cX5_become 21 = .ok (.bipush 7, 2) := by decide +kernel
theorem dX5_become_23 : decode cX5_become 23 = .ok (.invokestatic 51, 3) := by decide +kernel
theorem dX5_become_26 : decode cX5_become 26 = .ok (.aload_n 1, 1) := by decide +kernel
theorem dX5_become_27 : decode cX5_become 27 = .ok (.getfield 22, 3) := by decide +kernel
theorem dX5_become_30 : decode cX5_become 30 = .ok (.iconst 0, 1) := by decide +kernel
theorem dX5_become_31 : decode cX5_become 31 = .ok (.aload_n 0, 1) := by decide +kernel
theorem dX5_become_32 : decode cX5_become 32 = .ok (.getfield 22, 3) := by decide +kernel
theorem dX5_become_35 : decode cX5_become 35 = .ok (.iconst 0, 1) := by decide +kernel
theorem dX5_become_36 : decode cX5_become 36 = .ok (.bipush 7, 2) := by decide +kernel
theorem dX5_become_38 : decode cX5_become 38 = .ok (.invokestatic 51, 3) := by decide +kernel
theorem dX5_become_41 : decode cX5_become 41 = .ok (.aload_n 0, 1) := by decide +kernel
theorem dX5_become_42 : decode cX5_become 42 = .ok (.aload_n 1, 1) := by decide +kernel
theorem dX5_become_43 : decode cX5_become 43 = .ok (.getfield 38, 3) := by decide +kernel
theorem dX5_become_46 : decode cX5_become 46 = .ok (.putfield 38, 3) := by decide +kernel
theorem dX5_become_49 : decode cX5_become 49 = .ok (.aload_n 0, 1) := by decide +kernel
theorem dX5_become_50 : decode cX5_become 50 = .ok (.aload_n 1, 1) := by decide +kernel
theorem dX5_become_51 : decode cX5_become 51 = .ok (.getfield 42, 3) := by decide +kernel
theorem dX5_become_54 : decode cX5_become 54 = .ok (.putfield 42, 3) := by decide +kernel
theorem dX5_become_57 : decode cX5_become 57 = .ok (.aload_n 0, 1) := by decide +kernel
theorem dX5_become_58 : decode cX5_become 58 = .ok (.aload_n 1, 1) := by decide +kernel
theorem dX5_become_59 : decode cX5_become 59 = .ok (.getfield 45, 3) := by decide +kernel
theorem dX5_become_62 : decode cX5_become 62 = .ok (.putfield 45, 3) := by decide +kernel
theorem dX5_become_65 : decode cX5_become 65 = .ok (.aload_n 0, 1) := by decide +kernel
theorem dX5_become_66 : decode cX5_become 66 = .ok (.aload_n 1, 1) := by decide +kernel
theorem dX5_become_67 : decode cX5_become 67 = .ok (.getfield 48, 3) := by decide +kernel
theorem dX5_become_70 : decode cX5_become 70 = .ok (.putfield 48, 3) := by decide +kernel
theorem dX5_become_73 : decode cX5_become 73 = .ok (.aload_n 0, 1) := by decide +kernel
theorem dX5_become_74 : decode cX5_become 74 = .ok (.aload_n 1, 1) := by decide +kernel
theorem dX5_become_75 : decode cX5_become 75 = .ok (.getfield 57, 3) := by decide +kernel
theorem dX5_become_78 : decode cX5_become 78 = .ok (.putfield 57, 3) := by decide +kernel
theorem dX5_become_81 : decode cX5_become 81 = .ok (.return_, 1) := by decide +kernel
theorem dX5_isFresh_0 : decode cX5_isFresh 0 = .ok (.aload_n 0, 1) := by decide +kernel
theorem dX5_isFresh_1 : decode cX5_isFresh 1 = .ok (.getfield 22, 3) := by decide +kernel
theorem dX5_isFresh_4 : decode cX5_isFresh 4 = .ok (.iload_n 1, 1) := by decide +kernel
theorem dX5_isFresh_5 : decode cX5_isFresh 5 = .ok (.iaload, 1) := by decide +kernel
theorem dX5_isFresh_6 : decode cX5_isFresh 6 = .ok (.iconst (-1), 1) := by decide +kernel
theorem dX5_isFresh_7 : decode cX5_isFresh 7 = .ok (.if_icmp .ne 7, 3) := by decide +kernel
theorem dX5_isFresh_10 : decode cX5_isFresh 10 = .ok (.iconst 1, 1) := by decide +kernel
theorem dX5_isFresh_11 : decode cX5_isFresh 11 = .ok (.goto 4, 3) := by decide +kernel
theorem dX5_isFresh_14 : decode cX5_isFresh 14 = .ok (.iconst 0, 1) := by decide +kernel
theorem dX5_isFresh_15 : decode cX5_isFresh 15 = .ok (.ireturn, 1) := by decide +kernel
theorem dX5_isAwake_0 : decode cX5_isAwake 0 = .ok (.aload_n 0, 1) := by decide +kernel
theorem dX5_isAwake_1 : decode cX5_isAwake 1 = .ok (.getfield 42, 3) := by decide +kernel
theorem dX5_isAwake_4 : decode cX5_isAwake 4 = .ok (.iload_n 1, 1) := by decide +kernel
theorem dX5_isAwake_5 : decode cX5_isAwake 5 = .ok (.ishr, 1) := by decide +kernel
theorem dX5_isAwake_6 : decode cX5_isAwake 6 = .ok (.iconst 1, 1) := by decide +kernel
theorem dX5_isAwake_7 : decode cX5_isAwake 7 = .ok (.iand, 1) := by decide +kernel
theorem dX5_isAwake_8 : decode cX5_isAwake 8 = .ok (.iconst 1, 1) := by decide +kernel
theorem dX5_isAwake_9 : decode cX5_isAwake 9 = .ok (.if_icmp .ne 7, 3) := by decide +kernel
theorem dX5_isAwake_12 : decode cX5_isAwake 12 = .ok (.iconst 1, 1) := by decide +kernel
theorem dX5_isAwake_13 : decode cX5_isAwake 13 = .ok (.goto 4, 3) := by decide +kernel
theorem dX5_isAwake_16 : decode cX5_isAwake 16 = .ok (.iconst 0, 1) := by decide +kernel
theorem dX5_isAwake_17 : decode cX5_isAwake 17 = .ok (.ireturn, 1) := by decide +kernel
theorem dX5_loafOn_0 : decode cX5_loafOn 0 = .ok (.iconst 0, 1) := by decide +kernel
theorem dX5_loafOn_1 : decode cX5_loafOn 1 = .ok (.istore_n 2, 1) := by decide +kernel
theorem dX5_loafOn_2 : decode cX5_loafOn 2 = .ok (.iload_n 2, 1) := by decide +kernel
theorem dX5_loafOn_3 : decode cX5_loafOn 3 = .ok (.bipush 7, 2) := by decide +kernel
theorem dX5_loafOn_5 : decode cX5_loafOn 5 = .ok (.if_icmp .ge 21, 3) := by decide +kernel
theorem dX5_loafOn_8 : decode cX5_loafOn 8 = .ok (.aload_n 0, 1) := by decide +kernel
theorem dX5_loafOn_9 : decode cX5_loafOn 9 = .ok (.getfield 18, 3) := by decide +kernel
theorem dX5_loafOn_12 : decode cX5_loafOn 12 = .ok (.iload_n 2, 1) := by decide +kernel
theorem dX5_loafOn_13 : decode cX5_loafOn 13 = .ok (.iaload, 1) := by decide +kernel
theorem dX5_loafOn_14 : decode cX5_loafOn 14 = .ok (.iload_n 1, 1) := by decide +kernel
theorem dX5_loafOn_15 : decode cX5_loafOn 15 = .ok (.if_icmp .ne 5, 3) := by decide +kernel
theorem dX5_loafOn_18 : decode cX5_loafOn 18 = .ok (.iload_n 2, 1) := by decide +kernel
theorem dX5_loafOn_19 : decode cX5_loafOn 19 = .ok (.ireturn, 1) := by decide +kernel
theorem dX5_loafOn_20 : decode cX5_loafOn 20 = .ok (.iinc 2 1, 3) := by decide +kernel
theorem dX5_loafOn_23 : decode cX5_loafOn 23 = .ok (.goto (-21), 3) := by decide +kernel
theorem dX5_loafOn_26 : decode cX5_loafOn 26 = .ok (.iconst (-1), 1) := by decide +kernel
theorem dX5_loafOn_27 : decode cX5_loafOn 27 = .ok (.ireturn, 1) := by decide +kernel
theorem dX5_lyingSet_0 : decode cX5_lyingSet 0 = .ok (.aload_n 0, 1) := by decide +kernel
theorem dX5_lyingSet_1 : decode cX5_lyingSet 1 = .ok (.getfield 18, 3) := by decide +kernel
theorem dX5_lyingSet_4 : decode cX5_lyingSet 4 = .ok (.invokestatic 60, 3) := by decide +kernel
theorem dX5_lyingSet_7 : decode cX5_lyingSet 7 = .ok (.ireturn, 1) := by decide +kernel
theorem dX5_sleptOnSet_0 : decode cX5_sleptOnSet 0 = .ok (.aload_n 0, 1) := by decide +kernel
theorem dX5_sleptOnSet_1 : decode cX5_sleptOnSet 1 = .ok (.getfield 22, 3) := by decide +kernel
theorem dX5_sleptOnSet_4 : decode cX5_sleptOnSet 4 = .ok (.invokestatic 60, 3) := by decide +kernel
theorem dX5_sleptOnSet_7 : decode cX5_sleptOnSet 7 = .ok (.ireturn, 1) := by decide +kernel
theorem dX5_worthOn_0 : decode cX5_worthOn 0 = .ok (.aload_n 0, 1) := by decide +kernel
theorem dX5_worthOn_1 : decode cX5_worthOn 1 = .ok (.getfield 12, 3) := by decide +kernel
theorem dX5_worthOn_4 : decode cX5_worthOn 4 = .ok (.iload_n 3, 1) := by decide +kernel
theorem dX5_worthOn_5 : decode cX5_worthOn 5 = .ok (.invokevirtual 64, 3) := by decide +kernel
theorem dX5_worthOn_8 : decode cX5_worthOn 8 = .ok (.istore 4, 2) := by decide +kernel
theorem dX5_worthOn_10 : decode cX5_worthOn 10 = .ok (.iload 4, 2) := by decide +kernel
theorem dX5_worthOn_12 : decode cX5_worthOn 12 = .ok (.ifCond .gt 5, 3) := by decide +kernel
theorem dX5_worthOn_15 : decode cX5_worthOn 15 = .ok (.iconst 0, 1) := by decide +kernel
theorem dX5_worthOn_16 : decode cX5_worthOn 16 = .ok (.ireturn, 1) := by decide +kernel
theorem dX5_worthOn_17 : decode cX5_worthOn 17 = .ok (.ldc 68, 2) := by decide +kernel
theorem dX5_worthOn_19 : decode cX5_worthOn 19 = .ok (.aload_n 1, 1) := by decide +kernel
theorem dX5_worthOn_20 : decode cX5_worthOn 20 = .ok (.getfield 69, 3) := by decide +kernel
theorem dX5_worthOn_23 : decode cX5_worthOn 23 = .ok (.iload_n 2, 1) := by decide +kernel
theorem dX5_worthOn_24 : decode cX5_worthOn 24 = .ok (.iaload, 1) := by decide +kernel
theorem dX5_worthOn_25 : decode cX5_worthOn 25 = .ok (.imul, 1) := by decide +kernel
theorem dX5_worthOn_26 : decode cX5_worthOn 26 = .ok (.aload_n 0, 1) := by decide +kernel
theorem dX5_worthOn_27 : decode cX5_worthOn 27 = .ok (.getfield 12, 3) := by decide +kernel
theorem dX5_worthOn_30 : decode cX5_worthOn 30 = .ok (.iload_n 3, 1) := by decide +kernel
theorem dX5_worthOn_31 : decode cX5_worthOn 31 = .ok (.aload_n 1, 1) := by decide +kernel
theorem dX5_worthOn_32 : decode cX5_worthOn 32 = .ok (.getfield 72, 3) := by decide +kernel
theorem dX5_worthOn_35 : decode cX5_worthOn 35 = .ok (.iload_n 2, 1) := by decide +kernel
theorem dX5_worthOn_36 : decode cX5_worthOn 36 = .ok (.iaload, 1) := by decide +kernel
theorem dX5_worthOn_37 : decode cX5_worthOn 37 = .ok (.invokevirtual 75, 3) := by decide +kernel
theorem dX5_worthOn_40 : decode cX5_worthOn 40 = .ok (.imul, 1) := by decide +kernel
theorem dX5_worthOn_41 : decode cX5_worthOn 41 = .ok (.iload 4, 2) := by decide +kernel
theorem dX5_worthOn_43 : decode cX5_worthOn 43 = .ok (.idiv, 1) := by decide +kernel
theorem dX5_worthOn_44 : decode cX5_worthOn 44 = .ok (.ireturn, 1) := by decide +kernel
theorem dX5_sleepOnce_0 : decode cX5_sleepOnce 0 = .ok (.iconst 0, 1) := by decide +kernel
theorem dX5_sleepOnce_1 : decode cX5_sleepOnce 1 = .ok (.istore_n 2, 1) := by decide +kernel
theorem dX5_sleepOnce_2 : decode cX5_sleepOnce 2 = .ok (.iload_n 2, 1) := by decide +kernel
theorem dX5_sleepOnce_3 : decode cX5_sleepOnce 3 = .ok (.aload_n 1, 1) := by decide +kernel
theorem dX5_sleepOnce_4 : decode cX5_sleepOnce 4 = .ok (.getfield 79, 3) := by decide +kernel
theorem dX5_sleepOnce_7 : decode cX5_sleepOnce 7 = .ok (.if_icmp .ge 52, 3) := by decide +kernel
theorem dX5_sleepOnce_10 : decode cX5_sleepOnce 10 = .ok (.aload_n 0, 1) := by decide +kernel
theorem dX5_sleepOnce_11 : decode cX5_sleepOnce 11 = .ok (.iload_n 2, 1) := by decide +kernel
theorem dX5_sleepOnce_12 : decode cX5_sleepOnce 12 = .ok (.invokevirtual 82, 3) := by decide +kernel
theorem dX5_sleepOnce_15 : decode cX5_sleepOnce 15 = .ok (.ifCond .ne 38, 3) := by decide +kernel
theorem dX5_sleepOnce_18 : decode cX5_sleepOnce 18 = .ok (.aload_n 0, 1) := by decide +kernel
theorem dX5_sleepOnce_19 : decode cX5_sleepOnce 19 = .ok (.iload_n 2, 1) := by decide +kernel
theorem dX5_sleepOnce_20 : decode cX5_sleepOnce 20 = .ok (.invokevirtual 86, 3) := by decide +kernel
theorem dX5_sleepOnce_23 : decode cX5_sleepOnce 23 = .ok (.istore_n 3, 1) := by decide +kernel
theorem dX5_sleepOnce_24 : decode cX5_sleepOnce 24 = .ok (.aload_n 0, 1) := by decide +kernel
theorem dX5_sleepOnce_25 : decode cX5_sleepOnce 25 = .ok (.iload_n 2, 1) := by decide +kernel
theorem dX5_sleepOnce_26 : decode cX5_sleepOnce 26 = .ok (.invokevirtual 89, 3) := by decide +kernel
theorem dX5_sleepOnce_29 : decode cX5_sleepOnce 29 = .ok (.istore 4, 2) := by decide +kernel
theorem dX5_sleepOnce_31 : decode cX5_sleepOnce 31 = .ok (.iload 4, 2) := by decide +kernel
theorem dX5_sleepOnce_33 : decode cX5_sleepOnce 33 = .ok (.iconst (-1), 1) := by decide +kernel
theorem dX5_sleepOnce_34 : decode cX5_sleepOnce 34 = .ok (.if_icmp .eq 19, 3) := by decide +kernel
theorem dX5_sleepOnce_37 : decode cX5_sleepOnce 37 = .ok (.aload_n 0, 1) := by decide +kernel
theorem dX5_sleepOnce_38 : decode cX5_sleepOnce 38 = .ok (.getfield 22, 3) := by decide +kernel
theorem dX5_sleepOnce_41 : decode cX5_sleepOnce 41 = .ok (.iload 4, 2) := by decide +kernel
theorem dX5_sleepOnce_43 : decode cX5_sleepOnce 43 = .ok (.iload_n 3, 1) := by decide +kernel
theorem dX5_sleepOnce_44 : decode cX5_sleepOnce 44 = .ok (.iastore, 1) := by decide +kernel
theorem dX5_sleepOnce_45 : decode cX5_sleepOnce 45 = .ok (.aload_n 0, 1) := by decide +kernel
theorem dX5_sleepOnce_46 : decode cX5_sleepOnce 46 = .ok (.getfield 18, 3) := by decide +kernel
theorem dX5_sleepOnce_49 : decode cX5_sleepOnce 49 = .ok (.iload 4, 2) := by decide +kernel
theorem dX5_sleepOnce_51 : decode cX5_sleepOnce 51 = .ok (.iconst (-1), 1) := by decide +kernel
theorem dX5_sleepOnce_52 : decode cX5_sleepOnce 52 = .ok (.iastore, 1) := by decide +kernel
theorem dX5_sleepOnce_53 : decode cX5_sleepOnce 53 = .ok (.iinc 2 1, 3) := by decide +kernel
theorem dX5_sleepOnce_56 : decode cX5_sleepOnce 56 = .ok (.goto (-54), 3) := by decide +kernel
theorem dX5_sleepOnce_59 : decode cX5_sleepOnce 59 = .ok (.aload_n 0, 1) := by decide +kernel
theorem dX5_sleepOnce_60 : decode cX5_sleepOnce 60 = .ok (.dup, 1) := by decide +kernel
theorem dX5_sleepOnce_61 : decode cX5_sleepOnce 61 = .ok (.getfield 45, 3) := by decide +kernel
theorem dX5_sleepOnce_64 : decode cX5_sleepOnce 64 = .ok (.iconst 1, 1) := by decide +kernel
theorem dX5_sleepOnce_65 : decode cX5_sleepOnce 65 = .ok (.iadd, 1) := by decide +kernel
theorem dX5_sleepOnce_66 : decode cX5_sleepOnce 66 = .ok (.putfield 45, 3) := by decide +kernel
theorem dX5_sleepOnce_69 : decode cX5_sleepOnce 69 = .ok (.return_, 1) := by decide +kernel
theorem dX5_consume_0 : decode cX5_consume 0 = .ok (.aload_n 0, 1) := by decide +kernel
theorem dX5_consume_1 : decode cX5_consume 1 = .ok (.getfield 38, 3) := by decide +kernel
theorem dX5_consume_4 : decode cX5_consume 4 = .ok (.iload_n 2, 1) := by decide +kernel
theorem dX5_consume_5 : decode cX5_consume 5 = .ok (.ishr, 1) := by decide +kernel
theorem dX5_consume_6 : decode cX5_consume 6 = .ok (.iconst 1, 1) := by decide +kernel
theorem dX5_consume_7 : decode cX5_consume 7 = .ok (.iand, 1) := by decide +kernel
theorem dX5_consume_8 : decode cX5_consume 8 = .ok (.ifCond .ne 27, 3) := by decide +kernel
theorem dX5_consume_11 : decode cX5_consume 11 = .ok (.aload_n 0, 1) := by decide +kernel
theorem dX5_consume_12 : decode cX5_consume 12 = .ok (.getfield 12, 3) := by decide +kernel
theorem dX5_consume_15 : decode cX5_consume 15 = .ok (.aload_n 1, 1) := by decide +kernel
theorem dX5_consume_16 : decode cX5_consume 16 = .ok (.getfield 92, 3) := by decide +kernel
theorem dX5_consume_19 : decode cX5_consume 19 = .ok (.iload_n 2, 1) := by decide +kernel
theorem dX5_consume_20 : decode cX5_consume 20 = .ok (.iaload, 1) := by decide +kernel
theorem dX5_consume_21 : decode cX5_consume 21 = .ok (.aload_n 0, 1) := by decide +kernel
theorem dX5_consume_22 : decode cX5_consume 22 = .ok (.getfield 22, 3) := by decide +kernel
theorem dX5_consume_25 : decode cX5_consume 25 = .ok (.iload_n 2, 1) := by decide +kernel
theorem dX5_consume_26 : decode cX5_consume 26 = .ok (.iaload, 1) := by decide +kernel
theorem dX5_consume_27 : decode cX5_consume 27 = .ok (.aload_n 1, 1) := by decide +kernel
theorem dX5_consume_28 : decode cX5_consume 28 = .ok (.getfield 95, 3) := by decide +kernel
theorem dX5_consume_31 : decode cX5_consume 31 = .ok (.invokevirtual 98, 3) := by decide +kernel
theorem dX5_consume_34 : decode cX5_consume 34 = .ok (.pop, 1) := by decide +kernel
theorem dX5_consume_35 : decode cX5_consume 35 = .ok (.aload_n 0, 1) := by decide +kernel
theorem dX5_consume_36 : decode cX5_consume 36 = .ok (.getfield 22, 3) := by decide +kernel
theorem dX5_consume_39 : decode cX5_consume 39 = .ok (.iload_n 2, 1) := by decide +kernel
theorem dX5_consume_40 : decode cX5_consume 40 = .ok (.iaload, 1) := by decide +kernel
theorem dX5_consume_41 : decode cX5_consume 41 = .ok (.aload_n 1, 1) := by decide +kernel
theorem dX5_consume_42 : decode cX5_consume 42 = .ok (.getfield 72, 3) := by decide +kernel
theorem dX5_consume_45 : decode cX5_consume 45 = .ok (.iload_n 2, 1) := by decide +kernel
theorem dX5_consume_46 : decode cX5_consume 46 = .ok (.iaload, 1) := by decide +kernel
theorem dX5_consume_47 : decode cX5_consume 47 = .ok (.if_icmp .ne 23, 3) := by decide +kernel
theorem dX5_consume_50 : decode cX5_consume 50 = .ok (.aload_n 0, 1) := by decide +kernel
theorem dX5_consume_51 : decode cX5_consume 51 = .ok (.ldc 102, 2) := by decide +kernel
theorem dX5_consume_53 : decode cX5_consume 53 = .ok (.aload_n 0, 1) := by decide +kernel
theorem dX5_consume_54 : decode cX5_consume 54 = .ok (.getfield 48, 3) := by decide +kernel
theorem dX5_consume_57 : decode cX5_consume 57 = .ok (.aload_n 1, 1) := by decide +kernel
theorem dX5_consume_58 : decode cX5_consume 58 = .ok (.getfield 69, 3) := by decide +kernel
theorem dX5_consume_61 : decode cX5_consume 61 = .ok (.iload_n 2, 1) := by decide +kernel
theorem dX5_consume_62 : decode cX5_consume 62 = .ok (.iaload, 1) := by decide +kernel
theorem dX5_consume_63 : decode cX5_consume 63 = .ok (.iadd, 1) := by decide +kernel
theorem dX5_consume_64 : decode cX5_consume 64 = .ok (.invokestatic 103, 3) := by decide +kernel
theorem dX5_consume_67 : decode cX5_consume 67 = .ok (.putfield 48, 3) := by decide +kernel
theorem dX5_consume_70 : decode cX5_consume 70 = .ok (.aload_n 0, 1) := by decide +kernel
theorem dX5_consume_71 : decode cX5_consume 71 = .ok (.getfield 22, 3) := by decide +kernel
theorem dX5_consume_74 : decode cX5_consume 74 = .ok (.iload_n 2, 1) := by decide +kernel
theorem dX5_consume_75 : decode cX5_consume 75 = .ok (.iconst (-1), 1) := by decide +kernel
theorem dX5_consume_76 : decode cX5_consume 76 = .ok (.iastore, 1) := by decide +kernel
theorem dX5_consume_77 : decode cX5_consume 77 = .ok (.aload_n 0, 1) := by decide +kernel
theorem dX5_consume_78 : decode cX5_consume 78 = .ok (.dup, 1) := by decide +kernel
theorem dX5_consume_79 : decode cX5_consume 79 = .ok (.getfield 38, 3) := by decide +kernel
theorem dX5_consume_82 : decode cX5_consume 82 = .ok (.iconst 1, 1) := by decide +kernel
theorem dX5_consume_83 : decode cX5_consume 83 = .ok (.iload_n 2, 1) := by decide +kernel
theorem dX5_consume_84 : decode cX5_consume 84 = .ok (.ishl, 1) := by decide +kernel
theorem dX5_consume_85 : decode cX5_consume 85 = .ok (.iconst (-1), 1) := by decide +kernel
theorem dX5_consume_86 : decode cX5_consume 86 = .ok (.ixor, 1) := by decide +kernel
theorem dX5_consume_87 : decode cX5_consume 87 = .ok (.iand, 1) := by decide +kernel
theorem dX5_consume_88 : decode cX5_consume 88 = .ok (.putfield 38, 3) := by decide +kernel
theorem dX5_consume_91 : decode cX5_consume 91 = .ok (.return_, 1) := by decide +kernel
theorem dX5_drawDream_0 : decode cX5_drawDream 0 = .ok (.aload_n 0, 1) := by decide +kernel
theorem dX5_drawDream_1 : decode cX5_drawDream 1 = .ok (.aload_n 0, 1) := by decide +kernel
theorem dX5_drawDream_2 : decode cX5_drawDream 2 = .ok (.getfield 12, 3) := by decide +kernel
theorem dX5_drawDream_5 : decode cX5_drawDream 5 = .ok (.iload_n 1, 1) := by decide +kernel
theorem dX5_drawDream_6 : decode cX5_drawDream 6 = .ok (.invokevirtual 64, 3) := by decide +kernel
theorem dX5_drawDream_9 : decode cX5_drawDream 9 = .ok (.invokevirtual 108, 3) := by decide +kernel
theorem dX5_drawDream_12 : decode cX5_drawDream 12 = .ok (.istore_n 2, 1) := by decide +kernel
theorem dX5_drawDream_13 : decode cX5_drawDream 13 = .ok (.iconst 0, 1) := by decide +kernel
theorem dX5_drawDream_14 : decode cX5_drawDream 14 = .ok (.istore_n 3, 1) := by decide +kernel
theorem dX5_drawDream_15 : decode cX5_drawDream 15 = .ok (.iconst 0, 1) := by decide +kernel
theorem dX5_drawDream_16 : decode cX5_drawDream 16 = .ok (.istore 4, 2) := by decide +kernel
theorem dX5_drawDream_18 : decode cX5_drawDream 18 = .ok (.iload 4, 2) := by decide +kernel
theorem dX5_drawDream_20 : decode cX5_drawDream 20 = .ok (.iconst 5, 1) := by decide +kernel
theorem dX5_drawDream_21 : decode cX5_drawDream 21 = .ok (.if_icmp .ge 30, 3) := by decide +kernel
theorem dX5_drawDream_24 : decode cX5_drawDream 24 = .ok (.iload_n 3, 1) := by decide +kernel
theorem dX5_drawDream_25 : decode cX5_drawDream 25 = .ok (.aload_n 0, 1) := by decide +kernel
theorem dX5_drawDream_26 : decode cX5_drawDream 26 = .ok (.getfield 12, 3) := by decide +kernel
theorem dX5_drawDream_29 : decode cX5_drawDream 29 = .ok (.iload_n 1, 1) := by decide +kernel
theorem dX5_drawDream_30 : decode cX5_drawDream 30 = .ok (.iload 4, 2) := by decide +kernel
theorem dX5_drawDream_32 : decode cX5_drawDream 32 = .ok (.invokevirtual 75, 3) := by decide +kernel
theorem dX5_drawDream_35 : decode cX5_drawDream 35 = .ok (.iadd, 1) := by decide +kernel
theorem dX5_drawDream_36 : decode cX5_drawDream 36 = .ok (.istore_n 3, 1) := by decide +kernel
theorem dX5_drawDream_37 : decode cX5_drawDream 37 = .ok (.iload_n 3, 1) := by decide +kernel
theorem dX5_drawDream_38 : decode cX5_drawDream 38 = .ok (.iload_n 2, 1) := by decide +kernel
theorem dX5_drawDream_39 : decode cX5_drawDream 39 = .ok (.if_icmp .le 6, 3) := by decide +kernel
theorem dX5_drawDream_42 : decode cX5_drawDream 42 = .ok (.iload 4, 2) := by decide +kernel
theorem dX5_drawDream_44 : decode cX5_drawDream 44 = .ok (.ireturn, 1) := by decide +kernel
theorem dX5_drawDream_45 : decode cX5_drawDream 45 = .ok (.iinc 4 1, 3) := by decide +kernel
theorem dX5_drawDream_48 : decode cX5_drawDream 48 = .ok (.goto (-30), 3) := by decide +kernel
theorem dX5_drawDream_51 : decode cX5_drawDream 51 = .ok (.iconst 0, 1) := by decide +kernel
theorem dX5_drawDream_52 : decode cX5_drawDream 52 = .ok (.ireturn, 1) := by decide +kernel
theorem dX5_draw_0 : decode cX5_draw 0 = .ok (.aload_n 0, 1) := by decide +kernel
theorem dX5_draw_1 : decode cX5_draw 1 = .ok (.aload_n 0, 1) := by decide +kernel
theorem dX5_draw_2 : decode cX5_draw 2 = .ok (.getfield 57, 3) := by decide +kernel
theorem dX5_draw_5 : decode cX5_draw 5 = .ok (.i2l, 1) := by decide +kernel
theorem dX5_draw_6 : decode cX5_draw 6 = .ok (.ldc2_w 111, 3) := by decide +kernel
theorem dX5_draw_9 : decode cX5_draw 9 = .ok (.lmul, 1) := by decide +kernel
theorem dX5_draw_10 : decode cX5_draw 10 = .ok (.ldc2_w 113, 3) := by decide +kernel
theorem dX5_draw_13 : decode cX5_draw 13 = .ok (.ladd, 1) := by decide +kernel
theorem dX5_draw_14 : decode cX5_draw 14 = .ok (.ldc2_w 115, 3) := by decide +kernel
theorem dX5_draw_17 : decode cX5_draw 17 = .ok (.land, 1) := by decide +kernel
theorem dX5_draw_18 : decode cX5_draw 18 = .ok (.l2i, 1) := by decide +kernel
theorem dX5_draw_19 : decode cX5_draw 19 = .ok (.putfield 57, 3) := by decide +kernel
theorem dX5_draw_22 : decode cX5_draw 22 = .ok (.iload_n 1, 1) := by decide +kernel
theorem dX5_draw_23 : decode cX5_draw 23 = .ok (.ifCond .le 15, 3) := by decide +kernel
theorem dX5_draw_26 : decode cX5_draw 26 = .ok (.aload_n 0, 1) := by decide +kernel
theorem dX5_draw_27 : decode cX5_draw 27 = .ok (.getfield 57, 3) := by decide +kernel
theorem dX5_draw_30 : decode cX5_draw 30 = .ok (.ldc 117, 2) := by decide +kernel
theorem dX5_draw_32 : decode cX5_draw 32 = .ok (.idiv, 1) := by decide +kernel
theorem dX5_draw_33 : decode cX5_draw 33 = .ok (.iload_n 1, 1) := by decide +kernel
theorem dX5_draw_34 : decode cX5_draw 34 = .ok (.irem, 1) := by decide +kernel
theorem dX5_draw_35 : decode cX5_draw 35 = .ok (.goto 4, 3) := by decide +kernel
theorem dX5_draw_38 : decode cX5_draw 38 = .ok (.iconst 0, 1) := by decide +kernel
theorem dX5_draw_39 : decode cX5_draw 39 = .ok (.ireturn, 1) := by decide +kernel
theorem dX5_setOf_0 : decode cX5_setOf 0 = .ok (.iconst 0, 1) := by decide +kernel
theorem dX5_setOf_1 : decode cX5_setOf 1 = .ok (.istore_n 1, 1) := by decide +kernel
theorem dX5_setOf_2 : decode cX5_setOf 2 = .ok (.iconst 0, 1) := by decide +kernel
theorem dX5_setOf_3 : decode cX5_setOf 3 = .ok (.istore_n 2, 1) := by decide +kernel
theorem dX5_setOf_4 : decode cX5_setOf 4 = .ok (.iload_n 2, 1) := by decide +kernel
theorem dX5_setOf_5 : decode cX5_setOf 5 = .ok (.aload_n 0, 1) := by decide +kernel
theorem dX5_setOf_6 : decode cX5_setOf 6 = .ok (.arraylength, 1) := by decide +kernel
theorem dX5_setOf_7 : decode cX5_setOf 7 = .ok (.if_icmp .ge 22, 3) := by decide +kernel
theorem dX5_setOf_10 : decode cX5_setOf 10 = .ok (.aload_n 0, 1) := by decide +kernel
theorem dX5_setOf_11 : decode cX5_setOf 11 = .ok (.iload_n 2, 1) := by decide +kernel
theorem dX5_setOf_12 : decode cX5_setOf 12 = .ok (.iaload, 1) := by decide +kernel
theorem dX5_setOf_13 : decode cX5_setOf 13 = .ok (.iconst (-1), 1) := by decide +kernel
theorem dX5_setOf_14 : decode cX5_setOf 14 = .ok (.if_icmp .eq 9, 3) := by decide +kernel
theorem dX5_setOf_17 : decode cX5_setOf 17 = .ok (.iload_n 1, 1) := by decide +kernel
theorem dX5_setOf_18 : decode cX5_setOf 18 = .ok (.iconst 1, 1) := by decide +kernel
theorem dX5_setOf_19 : decode cX5_setOf 19 = .ok (.iload_n 2, 1) := by decide +kernel
theorem dX5_setOf_20 : decode cX5_setOf 20 = .ok (.ishl, 1) := by decide +kernel
theorem dX5_setOf_21 : decode cX5_setOf 21 = .ok (.ior, 1) := by decide +kernel
theorem dX5_setOf_22 : decode cX5_setOf 22 = .ok (.istore_n 1, 1) := by decide +kernel
theorem dX5_setOf_23 : decode cX5_setOf 23 = .ok (.iinc 2 1, 3) := by decide +kernel
theorem dX5_setOf_26 : decode cX5_setOf 26 = .ok (.goto (-22), 3) := by decide +kernel
theorem dX5_setOf_29 : decode cX5_setOf 29 = .ok (.iload_n 1, 1) := by decide +kernel
theorem dX5_setOf_30 : decode cX5_setOf 30 = .ok (.ireturn, 1) := by decide +kernel
theorem dX6_init_0 : decode cX6_init 0 = .ok (.aload_n 0, 1) := by decide +kernel
theorem dX6_init_1 : decode cX6_init 1 = .ok (.invokespecial 3, 3) := by decide +kernel
theorem dX6_init_4 : decode cX6_init 4 = .ok (.aload_n 0, 1) := by decide +kernel
theorem dX6_init_5 : decode cX6_init 5 = .ok (.iconst (-1), 1) := by decide +kernel
theorem dX6_init_6 : decode cX6_init 6 = .ok (.putfield 9, 3) := by decide +kernel
theorem dX6_init_9 : decode cX6_init 9 = .ok (.aload_n 0, 1) := by decide +kernel
theorem dX6_init_10 : decode cX6_init 10 = .ok (.new 15, 3) := by decide +kernel
theorem dX6_init_13 : decode cX6_init 13 = .ok (.dup, 1) := by decide +kernel
theorem dX6_init_14 : decode cX6_init 14 = .ok (.invokespecial 17, 3) := by decide +kernel
theorem dX6_init_17 : decode cX6_init 17 = .ok (.putfield 18, 3) := by decide +kernel
theorem dX6_init_20 : decode cX6_init 20 = .ok (.aload_n 0, 1) := by decide +kernel
theorem dX6_init_21 : decode cX6_init 21 = .ok (.sipush 240, 3) := by decide +kernel
theorem dX6_init_24 : decode cX6_init 24 = .ok (.newarray .int, 2) := by decide +kernel
theorem dX6_init_26 : decode cX6_init 26 = .ok (.putfield 22, 3) := by decide +kernel
theorem dX6_init_29 : decode cX6_init 29 = .ok (.return_, 1) := by decide +kernel
theorem dX6_add_0 : decode cX6_add 0 = .ok (.aload_n 0, 1) := by decide +kernel
theorem dX6_add_1 : decode cX6_add 1 = .ok (.getfield 26, 3) := by decide +kernel
theorem dX6_add_4 : decode cX6_add 4 = .ok (.sipush 240, 3) := by decide +kernel
theorem dX6_add_7 : decode cX6_add 7 = .ok (.if_icmp .lt 5, 3) := by decide +kernel
theorem dX6_add_10 : decode cX6_add 10 = .ok (.iconst 0, 1) := by decide +kernel
theorem dX6_add_11 : decode cX6_add 11 = .ok (.ireturn, 1) := by decide +kernel
theorem dX6_add_12 : decode cX6_add 12 = .ok (.aload_n 0, 1) := by decide +kernel
theorem dX6_add_13 : decode cX6_add 13 = .ok (.getfield 22, 3) := by decide +kernel
theorem dX6_add_16 : decode cX6_add 16 = .ok (.aload_n 0, 1) := by decide +kernel
theorem dX6_add_17 : decode cX6_add 17 = .ok (.getfield 26, 3) := by decide +kernel
theorem dX6_add_20 : decode cX6_add 20 = .ok (.iload_n 1, 1) := by decide +kernel
theorem dX6_add_21 : decode cX6_add 21 = .ok (.iastore, 1) := by decide +kernel
theorem dX6_add_22 : decode cX6_add 22 = .ok (.aload_n 0, 1) := by decide +kernel
theorem dX6_add_23 : decode cX6_add 23 = .ok (.dup, 1) := by decide +kernel
theorem dX6_add_24 : decode cX6_add 24 = .ok (.getfield 26, 3) := by decide +kernel
theorem dX6_add_27 : decode cX6_add 27 = .ok (.iconst 1, 1) := by decide +kernel
theorem dX6_add_28 : decode cX6_add 28 = .ok (.iadd, 1) := by decide +kernel
theorem dX6_add_29 : decode cX6_add 29 = .ok (.putfield 26, 3) := by decide +kernel
theorem dX6_add_32 : decode cX6_add 32 = .ok (.iconst 1, 1) := by decide +kernel
theorem dX6_add_33 : decode cX6_add 33 = .ok (.ireturn, 1) := by decide +kernel
theorem dX6_parse_0 : decode cX6_parse 0 = .ok (.aload_n 0, 1) := by decide +kernel
theorem dX6_parse_1 : decode cX6_parse 1 = .ok (.getfield 18, 3) := by decide +kernel
theorem dX6_parse_4 : decode cX6_parse 4 = .ok (.invokevirtual 29, 3) := by decide +kernel
theorem dX6_parse_7 : decode cX6_parse 7 = .ok (.aload_n 0, 1) := by decide +kernel
theorem dX6_parse_8 : decode cX6_parse 8 = .ok (.iconst 0, 1) := by decide +kernel
theorem dX6_parse_9 : decode cX6_parse 9 = .ok (.putfield 32, 3) := by decide +kernel
theorem dX6_parse_12 : decode cX6_parse 12 = .ok (.aload_n 0, 1) := by decide +kernel
theorem dX6_parse_13 : decode cX6_parse 13 = .ok (.iconst 0, 1) := by decide +kernel
theorem dX6_parse_14 : decode cX6_parse 14 = .ok (.putfield 35, 3) := by decide +kernel
theorem dX6_parse_17 : decode cX6_parse 17 = .ok (.aload_n 0, 1) := by decide +kernel
theorem dX6_parse_18 : decode cX6_parse 18 = .ok (.iconst (-1), 1) := by decide +kernel
theorem dX6_parse_19 : decode cX6_parse 19 = .ok (.putfield 9, 3) := by decide +kernel
theorem dX6_parse_22 : decode cX6_parse 22 = .ok (.aload_n 0, 1) := by decide +kernel
theorem dX6_parse_23 : decode cX6_parse 23 = .ok (.iconst 0, 1) := by decide +kernel
theorem dX6_parse_24 : decode cX6_parse 24 = .ok (.putfield 38, 3) := by decide +kernel
theorem dX6_parse_27 : decode cX6_parse 27 = .ok (.aload_n 0, 1) := by decide +kernel
theorem dX6_parse_28 : decode cX6_parse 28 = .ok (.invokevirtual 42, 3) := by decide +kernel
theorem dX6_parse_31 : decode cX6_parse 31 = .ok (.iconst 0, 1) := by decide +kernel
theorem dX6_parse_32 : decode cX6_parse 32 = .ok (.istore_n 1, 1) := by decide +kernel
theorem dX6_parse_33 : decode cX6_parse 33 = .ok (.iload_n 1, 1) := by decide +kernel
theorem dX6_parse_34 : decode cX6_parse 34 = .ok (.sipush 240, 3) := by decide +kernel
theorem dX6_parse_37 : decode cX6_parse 37 = .ok (.if_icmp .ge 44, 3) := by decide +kernel
theorem dX6_parse_40 : decode cX6_parse 40 = .ok (.aload_n 0, 1) := by decide +kernel
theorem dX6_parse_41 : decode cX6_parse 41 = .ok (.getfield 32, 3) := by decide +kernel
theorem dX6_parse_44 : decode cX6_parse 44 = .ok (.aload_n 0, 1) := by decide +kernel
theorem dX6_parse_45 : decode cX6_parse 45 = .ok (.getfield 26, 3) := by decide +kernel
theorem dX6_parse_48 : decode cX6_parse 48 = .ok (.if_icmp .ge 33, 3) := by decide +kernel
theorem dX6_parse_51 : decode cX6_parse 51 = .ok (.aload_n 0, 1) := by decide +kernel
theorem dX6_parse_52 : decode cX6_parse 52 = .ok (.getfield 35, 3) := by decide +kernel
theorem dX6_parse_55 : decode cX6_parse 55 = .ok (.ifCond .ne 26, 3) := by decide +kernel
theorem dX6_parse_58 : decode cX6_parse 58 = .ok (.aload_n 0, 1) := by decide +kernel
theorem dX6_parse_59 : decode cX6_parse 59 = .ok (.aload_n 0, 1) := by decide +kernel
theorem dX6_parse_60 : decode cX6_parse 60 = .ok (.getfield 22, 3) := by decide +kernel
theorem dX6_parse_63 : decode cX6_parse 63 = .ok (.aload_n 0, 1) := by decide +kernel
theorem dX6_parse_64 : decode cX6_parse 64 = .ok (.getfield 32, 3) := by decide +kernel
theorem dX6_parse_67 : decode cX6_parse 67 = .ok (.iaload, 1) := by decide +kernel
theorem dX6_parse_68 : decode cX6_parse 68 = .ok (.invokevirtual 45, 3) := by decide +kernel
theorem dX6_parse_71 : decode cX6_parse 71 = .ok (.aload_n 0, 1) := by decide +kernel
theorem dX6_parse_72 : decode cX6_parse 72 = .ok (.invokevirtual 42, 3) := by decide +kernel
theorem dX6_parse_75 : decode cX6_parse 75 = .ok (.iinc 1 1, 3) := by decide +kernel
theorem dX6_parse_78 : decode cX6_parse 78 = .ok (.goto (-45), 3) := by decide +kernel
theorem dX6_parse_81 : decode cX6_parse 81 = .ok (.aload_n 0, 1) := by decide +kernel
theorem dX6_parse_82 : decode cX6_parse 82 = .ok (.getfield 35, 3) := by decide +kernel
theorem dX6_parse_85 : decode cX6_parse 85 = .ok (.ireturn, 1) := by decide +kernel
theorem dX6_readClause_0 : decode cX6_readClause 0 = .ok (.aload_n 0, 1) := by decide +kernel
theorem dX6_readClause_1 : decode cX6_readClause 1 = .ok (.getfield 18, 3) := by decide +kernel
theorem dX6_readClause_4 : decode cX6_readClause 4 = .ok (.getfield 49, 3) := by decide +kernel
theorem dX6_readClause_7 : decode cX6_readClause 7 = .ok (.ifCond .ne 19, 3) := by decide +kernel
theorem dX6_readClause_10 : decode cX6_readClause 10 = .ok (.iload_n 1, 1) := by decide +kernel
theorem dX6_readClause_11 : decode cX6_readClause 11 = .ok (.bipush 100, 2) := by decide +kernel
theorem dX6_readClause_13 : decode cX6_readClause 13 = .ok (.if_icmp .eq 13, 3) := by decide +kernel
theorem dX6_readClause_16 : decode cX6_readClause 16 = .ok (.aload_n 0, 1) := by decide +kernel
theorem dX6_readClause_17 : decode cX6_readClause 17 = .ok (.iconst 1, 1) := by decide +kernel
theorem dX6_readClause_18 : decode cX6_readClause 18 = .ok (.aload_n 0, 1) := by decide +kernel
theorem dX6_readClause_19 : decode cX6_readClause 19 = .ok (.getfield 32, 3) := by decide +kernel
theorem dX6_readClause_22 : decode cX6_readClause 22 = .ok (.invokevirtual 52, 3) := by decide +kernel
theorem dX6_readClause_25 : decode cX6_readClause 25 = .ok (.return_, 1) := by decide +kernel
theorem dX6_readClause_26 : decode cX6_readClause 26 = .ok (.iload_n 1, 1) := by decide +kernel
theorem dX6_readClause_27 : decode cX6_readClause 27 = .ok (.lookupswitch 69 #[(100, 41), (108, 55), (110, 62), (115, 48)], 41) := by decide +kernel
theorem dX6_readClause_68 : decode cX6_readClause 68 = .ok (.aload_n 0, 1) := by decide +kernel
theorem dX6_readClause_69 : decode cX6_readClause 69 = .ok (.invokevirtual 56, 3) := by decide +kernel
theorem dX6_readClause_72 : decode cX6_readClause 72 = .ok (.goto 33, 3) := by decide +kernel
theorem dX6_readClause_75 : decode cX6_readClause 75 = .ok (.aload_n 0, 1) := by decide +kernel
theorem dX6_readClause_76 : decode cX6_readClause 76 = .ok (.invokevirtual 59, 3) := by decide +kernel
theorem dX6_readClause_79 : decode cX6_readClause 79 = .ok (.goto 26, 3) := by decide +kernel
theorem dX6_readClause_82 : decode cX6_readClause 82 = .ok (.aload_n 0, 1) := by decide +kernel
theorem dX6_readClause_83 : decode cX6_readClause 83 = .ok (.invokevirtual 62, 3) := by decide +kernel
theorem dX6_readClause_86 : decode cX6_readClause 86 = .ok (.goto 19, 3) := by decide +kernel
theorem dX6_readClause_89 : decode cX6_readClause 89 = .ok (.aload_n 0, 1) := by decide +kernel
theorem dX6_readClause_90 : decode cX6_readClause 90 = .ok (.invokevirtual 65, 3) := by decide +kernel
theorem dX6_readClause_93 : decode cX6_readClause 93 = .ok (.goto 12, 3) := by decide +kernel
theorem dX6_readClause_96 : decode cX6_readClause 96 = .ok (.aload_n 0, 1) := by decide +kernel
theorem dX6_readClause_97 : decode cX6_readClause 97 = .ok (.iconst 1, 1) := by decide +kernel
theorem dX6_readClause_98 : decode cX6_readClause 98 = .ok (.aload_n 0, 1) := by decide +kernel
theorem dX6_readClause_99 : decode cX6_readClause 99 = .ok (.getfield 32, 3) := by decide +kernel
theorem dX6_readClause_102 : decode cX6_readClause 102 = .ok (.invokevirtual 52, 3) := by decide +kernel
theorem dX6_readClause_105 : decode cX6_readClause 105 = .ok (.return_, 1) := by decide +kernel
theorem dX6_readDreams_0 : decode cX6_readDreams 0 = .ok (.aload_n 0, 1) := by decide +kernel
theorem dX6_readDreams_1 : decode cX6_readDreams 1 = .ok (.aload_n 0, 1) := by decide +kernel
theorem dX6_readDreams_2 : decode cX6_readDreams 2 = .ok (.getfield 18, 3) := by decide +kernel
theorem dX6_readDreams_5 : decode cX6_readDreams 5 = .ok (.getfield 49, 3) := by decide +kernel
theorem dX6_readDreams_8 : decode cX6_readDreams 8 = .ok (.ifCond .ne 7, 3) := by decide +kernel
theorem dX6_readDreams_11 : decode cX6_readDreams 11 = .ok (.iconst 1, 1) := by decide +kernel
theorem dX6_readDreams_12 : decode cX6_readDreams 12 = .ok (.goto 4, 3) := by decide +kernel
theorem dX6_readDreams_15 : decode cX6_readDreams 15 = .ok (.iconst 0, 1) := by decide +kernel
theorem dX6_readDreams_16 : decode cX6_readDreams 16 = .ok (.invokevirtual 68, 3) := by decide +kernel
theorem dX6_readDreams_19 : decode cX6_readDreams 19 = .ok (.aload_n 0, 1) := by decide +kernel
theorem dX6_readDreams_20 : decode cX6_readDreams 20 = .ok (.getfield 18, 3) := by decide +kernel
theorem dX6_readDreams_23 : decode cX6_readDreams 23 = .ok (.aload_n 0, 1) := by decide +kernel
theorem dX6_readDreams_24 : decode cX6_readDreams 24 = .ok (.iconst 2, 1) := by decide +kernel
theorem dX6_readDreams_25 : decode cX6_readDreams 25 = .ok (.iconst 5, 1) := by decide +kernel
theorem dX6_readDreams_26 : decode cX6_readDreams 26 = .ok (.invokevirtual 72, 3) := by decide +kernel
theorem dX6_readDreams_29 : decode cX6_readDreams 29 = .ok (.putfield 49, 3) := by decide +kernel
theorem dX6_readDreams_32 : decode cX6_readDreams 32 = .ok (.aload_n 0, 1) := by decide +kernel
theorem dX6_readDreams_33 : decode cX6_readDreams 33 = .ok (.getfield 18, 3) := by decide +kernel
theorem dX6_readDreams_36 : decode cX6_readDreams 36 = .ok (.aload_n 0, 1) := by decide +kernel
theorem dX6_readDreams_37 : decode cX6_readDreams 37 = .ok (.iconst 0, 1) := by decide +kernel
theorem dX6_readDreams_38 : decode cX6_readDreams 38 = .ok (.iconst 5, 1) := by decide +kernel
theorem dX6_readDreams_39 : decode cX6_readDreams 39 = .ok (.invokevirtual 72, 3) := by decide +kernel
theorem dX6_readDreams_42 : decode cX6_readDreams 42 = .ok (.putfield 76, 3) := by decide +kernel
theorem dX6_readDreams_45 : decode cX6_readDreams 45 = .ok (.aload_n 0, 1) := by decide +kernel
theorem dX6_readDreams_46 : decode cX6_readDreams 46 = .ok (.bipush 59, 2) := by decide +kernel
theorem dX6_readDreams_48 : decode cX6_readDreams 48 = .ok (.invokevirtual 79, 3) := by decide +kernel
theorem dX6_readDreams_51 : decode cX6_readDreams 51 = .ok (.return_, 1) := by decide +kernel
theorem dX6_readSleeper_0 : decode cX6_readSleeper 0 = .ok (.aload_n 0, 1) := by decide +kernel
theorem dX6_readSleeper_1 : decode cX6_readSleeper 1 = .ok (.aload_n 0, 1) := by decide +kernel
theorem dX6_readSleeper_2 : decode cX6_readSleeper 2 = .ok (.getfield 18, 3) := by decide +kernel
theorem dX6_readSleeper_5 : decode cX6_readSleeper 5 = .ok (.getfield 82, 3) := by decide +kernel
theorem dX6_readSleeper_8 : decode cX6_readSleeper 8 = .ok (.bipush 6, 2) := by decide +kernel
theorem dX6_readSleeper_10 : decode cX6_readSleeper 10 = .ok (.if_icmp .ge 7, 3) := by decide +kernel
theorem dX6_readSleeper_13 : decode cX6_readSleeper 13 = .ok (.iconst 1, 1) := by decide +kernel
theorem dX6_readSleeper_14 : decode cX6_readSleeper 14 = .ok (.goto 4, 3) := by decide +kernel
theorem dX6_readSleeper_17 : decode cX6_readSleeper 17 = .ok (.iconst 0, 1) := by decide +kernel
theorem dX6_readSleeper_18 : decode cX6_readSleeper 18 = .ok (.invokevirtual 68, 3) := by decide +kernel
theorem dX6_readSleeper_21 : decode cX6_readSleeper 21 = .ok (.iconst 0, 1) := by decide +kernel
theorem dX6_readSleeper_22 : decode cX6_readSleeper 22 = .ok (.istore_n 1, 1) := by decide +kernel
theorem dX6_readSleeper_23 : decode cX6_readSleeper 23 = .ok (.iload_n 1, 1) := by decide +kernel
theorem dX6_readSleeper_24 : decode cX6_readSleeper 24 = .ok (.aload_n 0, 1) := by decide +kernel
theorem dX6_readSleeper_25 : decode cX6_readSleeper 25 = .ok (.getfield 18, 3) := by decide +kernel
theorem dX6_readSleeper_28 : decode cX6_readSleeper 28 = .ok (.getfield 49, 3) := by decide +kernel
theorem dX6_readSleeper_31 : decode cX6_readSleeper 31 = .ok (.if_icmp .ge 51, 3) := by decide +kernel
theorem dX6_readSleeper_34 : decode cX6_readSleeper 34 = .ok (.aload_n 0, 1) := by decide +kernel
theorem dX6_readSleeper_35 : decode cX6_readSleeper 35 = .ok (.getfield 35, 3) := by decide +kernel
theorem dX6_readSleeper_38 : decode cX6_readSleeper 38 = .ok (.ifCond .ne 44, 3) := by decide +kernel
theorem dX6_readSleeper_41 : decode cX6_readSleeper 41 = .ok (.iload_n 1, 1) := by decide +kernel
theorem dX6_readSleeper_42 : decode cX6_readSleeper 42 = .ok (.ifCond .le 9, 3) := by decide +kernel
theorem dX6_readSleeper_45 : decode cX6_readSleeper 45 = .ok (.aload_n 0, 1) := by decide +kernel
theorem dX6_readSleeper_46 : decode cX6_readSleeper 46 = .ok (.bipush 44, 2) := by decide +kernel
theorem dX6_readSleeper_48 : decode cX6_readSleeper 48 = .ok (.invokevirtual 79, 3) := by decide +kernel
theorem dX6_readSleeper_51 : decode cX6_readSleeper 51 = .ok (.aload_n 0, 1) := by decide +kernel
theorem dX6_readSleeper_52 : decode cX6_readSleeper 52 = .ok (.getfield 18, 3) := by decide +kernel
theorem dX6_readSleeper_55 : decode cX6_readSleeper 55 = .ok (.getfield 85, 3) := by decide +kernel
theorem dX6_readSleeper_58 : decode cX6_readSleeper 58 = .ok (.aload_n 0, 1) := by decide +kernel
theorem dX6_readSleeper_59 : decode cX6_readSleeper 59 = .ok (.getfield 18, 3) := by decide +kernel
theorem dX6_readSleeper_62 : decode cX6_readSleeper 62 = .ok (.getfield 82, 3) := by decide +kernel
theorem dX6_readSleeper_65 : decode cX6_readSleeper 65 = .ok (.iload_n 1, 1) := by decide +kernel
theorem dX6_readSleeper_66 : decode cX6_readSleeper 66 = .ok (.aload_n 0, 1) := by decide +kernel
theorem dX6_readSleeper_67 : decode cX6_readSleeper 67 = .ok (.iconst 0, 1) := by decide +kernel
theorem dX6_readSleeper_68 : decode cX6_readSleeper 68 = .ok (.bipush 9, 2) := by decide +kernel
theorem dX6_readSleeper_70 : decode cX6_readSleeper 70 = .ok (.invokevirtual 72, 3) := by decide +kernel
theorem dX6_readSleeper_73 : decode cX6_readSleeper 73 = .ok (.invokevirtual 89, 3) := by decide +kernel
theorem dX6_readSleeper_76 : decode cX6_readSleeper 76 = .ok (.iinc 1 1, 3) := by decide +kernel
theorem dX6_readSleeper_79 : decode cX6_readSleeper 79 = .ok (.goto (-56), 3) := by decide +kernel
theorem dX6_readSleeper_82 : decode cX6_readSleeper 82 = .ok (.aload_n 0, 1) := by decide +kernel
theorem dX6_readSleeper_83 : decode cX6_readSleeper 83 = .ok (.getfield 18, 3) := by decide +kernel
theorem dX6_readSleeper_86 : decode cX6_readSleeper 86 = .ok (.getfield 85, 3) := by decide +kernel
theorem dX6_readSleeper_89 : decode cX6_readSleeper 89 = .ok (.aload_n 0, 1) := by decide +kernel
theorem dX6_readSleeper_90 : decode cX6_readSleeper 90 = .ok (.getfield 18, 3) := by decide +kernel
theorem dX6_readSleeper_93 : decode cX6_readSleeper 93 = .ok (.getfield 82, 3) := by decide +kernel
theorem dX6_readSleeper_96 : decode cX6_readSleeper 96 = .ok (.invokevirtual 95, 3) := by decide +kernel
theorem dX6_readSleeper_99 : decode cX6_readSleeper 99 = .ok (.ifCond .ne 12, 3) := by decide +kernel
theorem dX6_readSleeper_102 : decode cX6_readSleeper 102 = .ok (.aload_n 0, 1) := by decide +kernel
theorem dX6_readSleeper_103 : decode cX6_readSleeper 103 = .ok (.iconst 4, 1) := by decide +kernel
theorem dX6_readSleeper_104 : decode cX6_readSleeper 104 = .ok (.aload_n 0, 1) := by decide +kernel
theorem dX6_readSleeper_105 : decode cX6_readSleeper 105 = .ok (.getfield 99, 3) := by decide +kernel
theorem dX6_readSleeper_108 : decode cX6_readSleeper 108 = .ok (.invokevirtual 52, 3) := by decide +kernel
theorem dX6_readSleeper_111 : decode cX6_readSleeper 111 = .ok (.aload_n 0, 1) := by decide +kernel
theorem dX6_readSleeper_112 : decode cX6_readSleeper 112 = .ok (.bipush 59, 2) := by decide +kernel
theorem dX6_readSleeper_114 : decode cX6_readSleeper 114 = .ok (.invokevirtual 79, 3) := by decide +kernel
theorem dX6_readSleeper_117 : decode cX6_readSleeper 117 = .ok (.aload_n 0, 1) := by decide +kernel
theorem dX6_readSleeper_118 : decode cX6_readSleeper 118 = .ok (.getfield 35, 3) := by decide +kernel
theorem dX6_readSleeper_121 : decode cX6_readSleeper 121 = .ok (.ifCond .ne 16, 3) := by decide +kernel
theorem dX6_readSleeper_124 : decode cX6_readSleeper 124 = .ok (.aload_n 0, 1) := by decide +kernel
theorem dX6_readSleeper_125 : decode cX6_readSleeper 125 = .ok (.getfield 18, 3) := by decide +kernel
theorem dX6_readSleeper_128 : decode cX6_readSleeper 128 = .ok (.dup, 1) := by decide +kernel
theorem dX6_readSleeper_129 : decode cX6_readSleeper 129 = .ok (.getfield 82, 3) := by decide +kernel
theorem dX6_readSleeper_132 : decode cX6_readSleeper 132 = .ok (.iconst 1, 1) := by decide +kernel
theorem dX6_readSleeper_133 : decode cX6_readSleeper 133 = .ok (.iadd, 1) := by decide +kernel
theorem dX6_readSleeper_134 : decode cX6_readSleeper 134 = .ok (.putfield 82, 3) := by decide +kernel
theorem dX6_readSleeper_137 : decode cX6_readSleeper 137 = .ok (.return_, 1) := by decide +kernel
theorem dX6_readLoaf_0 : decode cX6_readLoaf 0 = .ok (.aload_n 0, 1) := by decide +kernel
theorem dX6_readLoaf_1 : decode cX6_readLoaf 1 = .ok (.aload_n 0, 1) := by decide +kernel
theorem dX6_readLoaf_2 : decode cX6_readLoaf 2 = .ok (.getfield 18, 3) := by decide +kernel
theorem dX6_readLoaf_5 : decode cX6_readLoaf 5 = .ok (.getfield 102, 3) := by decide +kernel
theorem dX6_readLoaf_8 : decode cX6_readLoaf 8 = .ok (.bipush 7, 2) := by decide +kernel
theorem dX6_readLoaf_10 : decode cX6_readLoaf 10 = .ok (.if_icmp .ge 7, 3) := by decide +kernel
theorem dX6_readLoaf_13 : decode cX6_readLoaf 13 = .ok (.iconst 1, 1) := by decide +kernel
theorem dX6_readLoaf_14 : decode cX6_readLoaf 14 = .ok (.goto 4, 3) := by decide +kernel
theorem dX6_readLoaf_17 : decode cX6_readLoaf 17 = .ok (.iconst 0, 1) := by decide +kernel
theorem dX6_readLoaf_18 : decode cX6_readLoaf 18 = .ok (.invokevirtual 68, 3) := by decide +kernel
theorem dX6_readLoaf_21 : decode cX6_readLoaf 21 = .ok (.aload_n 0, 1) := by decide +kernel
theorem dX6_readLoaf_22 : decode cX6_readLoaf 22 = .ok (.iconst 0, 1) := by decide +kernel
theorem dX6_readLoaf_23 : decode cX6_readLoaf 23 = .ok (.aload_n 0, 1) := by decide +kernel
theorem dX6_readLoaf_24 : decode cX6_readLoaf 24 = .ok (.getfield 18, 3) := by decide +kernel
theorem dX6_readLoaf_27 : decode cX6_readLoaf 27 = .ok (.getfield 82, 3) := by decide +kernel
theorem dX6_readLoaf_30 : decode cX6_readLoaf 30 = .ok (.iconst 1, 1) := by decide +kernel
theorem dX6_readLoaf_31 : decode cX6_readLoaf 31 = .ok (.isub, 1) := by decide +kernel
theorem dX6_readLoaf_32 : decode cX6_readLoaf 32 = .ok (.invokevirtual 72, 3) := by decide +kernel
theorem dX6_readLoaf_35 : decode cX6_readLoaf 35 = .ok (.istore_n 1, 1) := by decide +kernel
theorem dX6_readLoaf_36 : decode cX6_readLoaf 36 = .ok (.aload_n 0, 1) := by decide +kernel
theorem dX6_readLoaf_37 : decode cX6_readLoaf 37 = .ok (.iconst 0, 1) := by decide +kernel
theorem dX6_readLoaf_38 : decode cX6_readLoaf 38 = .ok (.aload_n 0, 1) := by decide +kernel
theorem dX6_readLoaf_39 : decode cX6_readLoaf 39 = .ok (.getfield 18, 3) := by decide +kernel
theorem dX6_readLoaf_42 : decode cX6_readLoaf 42 = .ok (.getfield 49, 3) := by decide +kernel
theorem dX6_readLoaf_45 : decode cX6_readLoaf 45 = .ok (.iconst 1, 1) := by decide +kernel
theorem dX6_readLoaf_46 : decode cX6_readLoaf 46 = .ok (.isub, 1) := by decide +kernel
theorem dX6_readLoaf_47 : decode cX6_readLoaf 47 = .ok (.invokevirtual 72, 3) := by decide +kernel
theorem dX6_readLoaf_50 : decode cX6_readLoaf 50 = .ok (.istore_n 2, 1) := by decide +kernel
theorem dX6_readLoaf_51 : decode cX6_readLoaf 51 = .ok (.aload_n 0, 1) := by decide +kernel
theorem dX6_readLoaf_52 : decode cX6_readLoaf 52 = .ok (.iconst 0, 1) := by decide +kernel
theorem dX6_readLoaf_53 : decode cX6_readLoaf 53 = .ok (.bipush 99, 2) := by decide +kernel
theorem dX6_readLoaf_55 : decode cX6_readLoaf 55 = .ok (.invokevirtual 72, 3) := by decide +kernel
theorem dX6_readLoaf_58 : decode cX6_readLoaf 58 = .ok (.istore_n 3, 1) := by decide +kernel
theorem dX6_readLoaf_59 : decode cX6_readLoaf 59 = .ok (.aload_n 0, 1) := by decide +kernel
theorem dX6_readLoaf_60 : decode cX6_readLoaf 60 = .ok (.bipush 59, 2) := by decide +kernel
theorem dX6_readLoaf_62 : decode cX6_readLoaf 62 = .ok (.invokevirtual 79, 3) := by decide +kernel
theorem dX6_readLoaf_65 : decode cX6_readLoaf 65 = .ok (.aload_n 0, 1) := by decide +kernel
theorem dX6_readLoaf_66 : decode cX6_readLoaf 66 = .ok (.getfield 35, 3) := by decide +kernel
theorem dX6_readLoaf_69 : decode cX6_readLoaf 69 = .ok (.ifCond .ne 76, 3) := by decide +kernel
theorem dX6_readLoaf_72 : decode cX6_readLoaf 72 = .ok (.aload_n 0, 1) := by decide +kernel
theorem dX6_readLoaf_73 : decode cX6_readLoaf 73 = .ok (.getfield 18, 3) := by decide +kernel
theorem dX6_readLoaf_76 : decode cX6_readLoaf 76 = .ok (.getfield 102, 3) := by decide +kernel
theorem dX6_readLoaf_79 : decode cX6_readLoaf 79 = .ok (.bipush 7, 2) := by decide +kernel
theorem dX6_readLoaf_81 : decode cX6_readLoaf 81 = .ok (.if_icmp .ge 64, 3) := by decide +kernel
theorem dX6_readLoaf_84 : decode cX6_readLoaf 84 = .ok (.aload_n 0, 1) := by decide +kernel
theorem dX6_readLoaf_85 : decode cX6_readLoaf 85 = .ok (.getfield 18, 3) := by decide +kernel
theorem dX6_readLoaf_88 : decode cX6_readLoaf 88 = .ok (.getfield 105, 3) := by decide +kernel
theorem dX6_readLoaf_91 : decode cX6_readLoaf 91 = .ok (.aload_n 0, 1) := by decide +kernel
theorem dX6_readLoaf_92 : decode cX6_readLoaf 92 = .ok (.getfield 18, 3) := by decide +kernel
theorem dX6_readLoaf_95 : decode cX6_readLoaf 95 = .ok (.getfield 102, 3) := by decide +kernel
theorem dX6_readLoaf_98 : decode cX6_readLoaf 98 = .ok (.iload_n 1, 1) := by decide +kernel
theorem dX6_readLoaf_99 : decode cX6_readLoaf 99 = .ok (.iastore, 1) := by decide +kernel
theorem dX6_readLoaf_100 : decode cX6_readLoaf 100 = .ok (.aload_n 0, 1) := by decide +kernel
theorem dX6_readLoaf_101 : decode cX6_readLoaf 101 = .ok (.getfield 18, 3) := by decide +kernel
theorem dX6_readLoaf_104 : decode cX6_readLoaf 104 = .ok (.getfield 108, 3) := by decide +kernel
theorem dX6_readLoaf_107 : decode cX6_readLoaf 107 = .ok (.aload_n 0, 1) := by decide +kernel
theorem dX6_readLoaf_108 : decode cX6_readLoaf 108 = .ok (.getfield 18, 3) := by decide +kernel
theorem dX6_readLoaf_111 : decode cX6_readLoaf 111 = .ok (.getfield 102, 3) := by decide +kernel
theorem dX6_readLoaf_114 : decode cX6_readLoaf 114 = .ok (.iload_n 2, 1) := by decide +kernel
theorem dX6_readLoaf_115 : decode cX6_readLoaf 115 = .ok (.iastore, 1) := by decide +kernel
theorem dX6_readLoaf_116 : decode cX6_readLoaf 116 = .ok (.aload_n 0, 1) := by decide +kernel
theorem dX6_readLoaf_117 : decode cX6_readLoaf 117 = .ok (.getfield 18, 3) := by decide +kernel
theorem dX6_readLoaf_120 : decode cX6_readLoaf 120 = .ok (.getfield 111, 3) := by decide +kernel
theorem dX6_readLoaf_123 : decode cX6_readLoaf 123 = .ok (.aload_n 0, 1) := by decide +kernel
theorem dX6_readLoaf_124 : decode cX6_readLoaf 124 = .ok (.getfield 18, 3) := by decide +kernel
theorem dX6_readLoaf_127 : decode cX6_readLoaf 127 = .ok (.getfield 102, 3) := by decide +kernel
theorem dX6_readLoaf_130 : decode cX6_readLoaf 130 = .ok (.iload_n 3, 1) := by decide +kernel
theorem dX6_readLoaf_131 : decode cX6_readLoaf 131 = .ok (.iastore, 1) := by decide +kernel
theorem dX6_readLoaf_132 : decode cX6_readLoaf 132 = .ok (.aload_n 0, 1) := by decide +kernel
theorem dX6_readLoaf_133 : decode cX6_readLoaf 133 = .ok (.getfield 18, 3) := by decide +kernel
theorem dX6_readLoaf_136 : decode cX6_readLoaf 136 = .ok (.dup, 1) := by decide +kernel
theorem dX6_readLoaf_137 : decode cX6_readLoaf 137 = .ok (.getfield 102, 3) := by decide +kernel
theorem dX6_readLoaf_140 : decode cX6_readLoaf 140 = .ok (.iconst 1, 1) := by decide +kernel
theorem dX6_readLoaf_141 : decode cX6_readLoaf 141 = .ok (.iadd, 1) := by decide +kernel
theorem dX6_readLoaf_142 : decode cX6_readLoaf 142 = .ok (.putfield 102, 3) := by decide +kernel
theorem dX6_readLoaf_145 : decode cX6_readLoaf 145 = .ok (.return_, 1) := by decide +kernel
theorem dX6_readNightmare_0 : decode cX6_readNightmare 0 = .ok (.aload_n 0, 1) := by decide +kernel
theorem dX6_readNightmare_1 : decode cX6_readNightmare 1 = .ok (.aload_n 0, 1) := by decide +kernel
theorem dX6_readNightmare_2 : decode cX6_readNightmare 2 = .ok (.getfield 38, 3) := by decide +kernel
theorem dX6_readNightmare_5 : decode cX6_readNightmare 5 = .ok (.ifCond .ne 7, 3) := by decide +kernel
theorem dX6_readNightmare_8 : decode cX6_readNightmare 8 = .ok (.iconst 1, 1) := by decide +kernel
theorem dX6_readNightmare_9 : decode cX6_readNightmare 9 = .ok (.goto 4, 3) := by decide +kernel
theorem dX6_readNightmare_12 : decode cX6_readNightmare 12 = .ok (.iconst 0, 1) := by decide +kernel
theorem dX6_readNightmare_13 : decode cX6_readNightmare 13 = .ok (.invokevirtual 68, 3) := by decide +kernel
theorem dX6_readNightmare_16 : decode cX6_readNightmare 16 = .ok (.aload_n 0, 1) := by decide +kernel
theorem dX6_readNightmare_17 : decode cX6_readNightmare 17 = .ok (.getfield 18, 3) := by decide +kernel
theorem dX6_readNightmare_20 : decode cX6_readNightmare 20 = .ok (.aload_n 0, 1) := by decide +kernel
theorem dX6_readNightmare_21 : decode cX6_readNightmare 21 = .ok (.iconst 0, 1) := by decide +kernel
theorem dX6_readNightmare_22 : decode cX6_readNightmare 22 = .ok (.aload_n 0, 1) := by decide +kernel
theorem dX6_readNightmare_23 : decode cX6_readNightmare 23 = .ok (.getfield 18, 3) := by decide +kernel
theorem dX6_readNightmare_26 : decode cX6_readNightmare 26 = .ok (.getfield 49, 3) := by decide +kernel
theorem dX6_readNightmare_29 : decode cX6_readNightmare 29 = .ok (.iconst 1, 1) := by decide +kernel
theorem dX6_readNightmare_30 : decode cX6_readNightmare 30 = .ok (.isub, 1) := by decide +kernel
theorem dX6_readNightmare_31 : decode cX6_readNightmare 31 = .ok (.invokevirtual 72, 3) := by decide +kernel
theorem dX6_readNightmare_34 : decode cX6_readNightmare 34 = .ok (.putfield 114, 3) := by decide +kernel
theorem dX6_readNightmare_37 : decode cX6_readNightmare 37 = .ok (.aload_n 0, 1) := by decide +kernel
theorem dX6_readNightmare_38 : decode cX6_readNightmare 38 = .ok (.bipush 59, 2) := by decide +kernel
theorem dX6_readNightmare_40 : decode cX6_readNightmare 40 = .ok (.invokevirtual 79, 3) := by decide +kernel
theorem dX6_readNightmare_43 : decode cX6_readNightmare 43 = .ok (.aload_n 0, 1) := by decide +kernel
theorem dX6_readNightmare_44 : decode cX6_readNightmare 44 = .ok (.iconst 1, 1) := by decide +kernel
theorem dX6_readNightmare_45 : decode cX6_readNightmare 45 = .ok (.putfield 38, 3) := by decide +kernel
theorem dX6_readNightmare_48 : decode cX6_readNightmare 48 = .ok (.return_, 1) := by decide +kernel
theorem dX6_passWord_0 : decode cX6_passWord 0 = .ok (.iload_n 1, 1) := by decide +kernel
theorem dX6_passWord_1 : decode cX6_passWord 1 = .ok (.ifCond .ne 12, 3) := by decide +kernel
theorem dX6_passWord_4 : decode cX6_passWord 4 = .ok (.aload_n 0, 1) := by decide +kernel
theorem dX6_passWord_5 : decode cX6_passWord 5 = .ok (.iconst 3, 1) := by decide +kernel
theorem dX6_passWord_6 : decode cX6_passWord 6 = .ok (.aload_n 0, 1) := by decide +kernel
theorem dX6_passWord_7 : decode cX6_passWord 7 = .ok (.getfield 32, 3) := by decide +kernel
theorem dX6_passWord_10 : decode cX6_passWord 10 = .ok (.invokevirtual 52, 3) := by decide +kernel
theorem dX6_passWord_13 : decode cX6_passWord 13 = .ok (.aload_n 0, 1) := by decide +kernel
theorem dX6_passWord_14 : decode cX6_passWord 14 = .ok (.dup, 1) := by decide +kernel
theorem dX6_passWord_15 : decode cX6_passWord 15 = .ok (.getfield 32, 3) := by decide +kernel
theorem dX6_passWord_18 : decode cX6_passWord 18 = .ok (.iconst 1, 1) := by decide +kernel
theorem dX6_passWord_19 : decode cX6_passWord 19 = .ok (.iadd, 1) := by decide +kernel
theorem dX6_passWord_20 : decode cX6_passWord 20 = .ok (.putfield 32, 3) := by decide +kernel
theorem dX6_passWord_23 : decode cX6_passWord 23 = .ok (.return_, 1) := by decide +kernel
theorem dX6_readNumber_0 : decode cX6_readNumber 0 = .ok (.aload_n 0, 1) := by decide +kernel
theorem dX6_readNumber_1 : decode cX6_readNumber 1 = .ok (.getfield 35, 3) := by decide +kernel
theorem dX6_readNumber_4 : decode cX6_readNumber 4 = .ok (.ifCond .eq 5, 3) := by decide +kernel
theorem dX6_readNumber_7 : decode cX6_readNumber 7 = .ok (.iconst 0, 1) := by decide +kernel
theorem dX6_readNumber_8 : decode cX6_readNumber 8 = .ok (.ireturn, 1) := by decide +kernel
theorem dX6_readNumber_9 : decode cX6_readNumber 9 = .ok (.aload_n 0, 1) := by decide +kernel
theorem dX6_readNumber_10 : decode cX6_readNumber 10 = .ok (.invokevirtual 42, 3) := by decide +kernel
theorem dX6_readNumber_13 : decode cX6_readNumber 13 = .ok (.aload_n 0, 1) := by decide +kernel
theorem dX6_readNumber_14 : decode cX6_readNumber 14 = .ok (.aload_n 0, 1) := by decide +kernel
theorem dX6_readNumber_15 : decode cX6_readNumber 15 = .ok (.getfield 32, 3) := by decide +kernel
theorem dX6_readNumber_18 : decode cX6_readNumber 18 = .ok (.putfield 99, 3) := by decide +kernel
theorem dX6_readNumber_21 : decode cX6_readNumber 21 = .ok (.iconst 0, 1) := by decide +kernel
theorem dX6_readNumber_22 : decode cX6_readNumber 22 = .ok (.istore_n 3, 1) := by decide +kernel
theorem dX6_readNumber_23 : decode cX6_readNumber 23 = .ok (.aload_n 0, 1) := by decide +kernel
theorem dX6_readNumber_24 : decode cX6_readNumber 24 = .ok (.getfield 32, 3) := by decide +kernel
theorem dX6_readNumber_27 : decode cX6_readNumber 27 = .ok (.aload_n 0, 1) := by decide +kernel
theorem dX6_readNumber_28 : decode cX6_readNumber 28 = .ok (.getfield 26, 3) := by decide +kernel
theorem dX6_readNumber_31 : decode cX6_readNumber 31 = .ok (.if_icmp .ge 62, 3) := by decide +kernel
theorem dX6_readNumber_34 : decode cX6_readNumber 34 = .ok (.aload_n 0, 1) := by decide +kernel
theorem dX6_readNumber_35 : decode cX6_readNumber 35 = .ok (.getfield 22, 3) := by decide +kernel
theorem dX6_readNumber_38 : decode cX6_readNumber 38 = .ok (.aload_n 0, 1) := by decide +kernel
theorem dX6_readNumber_39 : decode cX6_readNumber 39 = .ok (.getfield 32, 3) := by decide +kernel
theorem dX6_readNumber_42 : decode cX6_readNumber 42 = .ok (.iaload, 1) := by decide +kernel
theorem dX6_readNumber_43 : decode cX6_readNumber 43 = .ok (.invokestatic 117, 3) := by decide +kernel
theorem dX6_readNumber_46 : decode cX6_readNumber 46 = .ok (.ifCond .eq 47, 3) := by decide +kernel
theorem dX6_readNumber_49 : decode cX6_readNumber 49 = .ok (.aload_n 0, 1) := by decide +kernel
theorem dX6_readNumber_50 : decode cX6_readNumber 50 = .ok (.getfield 32, 3) := by decide +kernel
theorem dX6_readNumber_53 : decode cX6_readNumber 53 = .ok (.aload_n 0, 1) := by decide +kernel
theorem dX6_readNumber_54 : decode cX6_readNumber 54 = .ok (.getfield 99, 3) := by decide +kernel
theorem dX6_readNumber_57 : decode cX6_readNumber 57 = .ok (.isub, 1) := by decide +kernel
theorem dX6_readNumber_58 : decode cX6_readNumber 58 = .ok (.iconst 3, 1) := by decide +kernel
theorem dX6_readNumber_59 : decode cX6_readNumber 59 = .ok (.if_icmp .ge 21, 3) := by decide +kernel
theorem dX6_readNumber_62 : decode cX6_readNumber 62 = .ok (.iload_n 3, 1) := by decide +kernel
theorem dX6_readNumber_63 : decode cX6_readNumber 63 = .ok (.bipush 10, 2) := by decide +kernel
theorem dX6_readNumber_65 : decode cX6_readNumber 65 = .ok (.imul, 1) := by decide +kernel
theorem dX6_readNumber_66 : decode cX6_readNumber 66 = .ok (.aload_n 0, 1) := by decide +kernel
theorem dX6_readNumber_67 : decode cX6_readNumber 67 = .ok (.getfield 22, 3) := by decide +kernel
theorem dX6_readNumber_70 : decode cX6_readNumber 70 = .ok (.aload_n 0, 1) := by decide +kernel
theorem dX6_readNumber_71 : decode cX6_readNumber 71 = .ok (.getfield 32, 3) := by decide +kernel
theorem dX6_readNumber_74 : decode cX6_readNumber 74 = .ok (.iaload, 1) := by decide +kernel
theorem dX6_readNumber_75 : decode cX6_readNumber 75 = .ok (.iadd, 1) := by decide +kernel
theorem dX6_readNumber_76 : decode cX6_readNumber 76 = .ok (.bipush 48, 2) := by decide +kernel
theorem dX6_readNumber_78 : decode cX6_readNumber 78 = .ok (.isub, 1) := by decide +kernel
theorem dX6_readNumber_79 : decode cX6_readNumber 79 = .ok (.istore_n 3, 1) := by decide +kernel
theorem dX6_readNumber_80 : decode cX6_readNumber 80 = .ok (.aload_n 0, 1) := by decide +kernel
theorem dX6_readNumber_81 : decode cX6_readNumber 81 = .ok (.dup, 1) := by decide +kernel
theorem dX6_readNumber_82 : decode cX6_readNumber 82 = .ok (.getfield 32, 3) := by decide +kernel
theorem dX6_readNumber_85 : decode cX6_readNumber 85 = .ok (.iconst 1, 1) := by decide +kernel
theorem dX6_readNumber_86 : decode cX6_readNumber 86 = .ok (.iadd, 1) := by decide +kernel
theorem dX6_readNumber_87 : decode cX6_readNumber 87 = .ok (.putfield 32, 3) := by decide +kernel
theorem dX6_readNumber_90 : decode cX6_readNumber 90 = .ok (.goto (-67), 3) := by decide +kernel
theorem dX6_readNumber_93 : decode cX6_readNumber 93 = .ok (.aload_n 0, 1) := by decide +kernel
theorem dX6_readNumber_94 : decode cX6_readNumber 94 = .ok (.getfield 32, 3) := by decide +kernel
theorem dX6_readNumber_97 : decode cX6_readNumber 97 = .ok (.aload_n 0, 1) := by decide +kernel
theorem dX6_readNumber_98 : decode cX6_readNumber 98 = .ok (.getfield 99, 3) := by decide +kernel
theorem dX6_readNumber_101 : decode cX6_readNumber 101 = .ok (.isub, 1) := by decide +kernel
theorem dX6_readNumber_102 : decode cX6_readNumber 102 = .ok (.istore 4, 2) := by decide +kernel
theorem dX6_readNumber_104 : decode cX6_readNumber 104 = .ok (.iload 4, 2) := by decide +kernel
theorem dX6_readNumber_106 : decode cX6_readNumber 106 = .ok (.ifCond .ne 15, 3) := by decide +kernel
theorem dX6_readNumber_109 : decode cX6_readNumber 109 = .ok (.aload_n 0, 1) := by decide +kernel
theorem dX6_readNumber_110 : decode cX6_readNumber 110 = .ok (.iconst 1, 1) := by decide +kernel
theorem dX6_readNumber_111 : decode cX6_readNumber 111 = .ok (.aload_n 0, 1) := by decide +kernel
theorem dX6_readNumber_112 : decode cX6_readNumber 112 = .ok (.getfield 99, 3) := by decide +kernel
theorem dX6_readNumber_115 : decode cX6_readNumber 115 = .ok (.invokevirtual 52, 3) := by decide +kernel
theorem dX6_readNumber_118 : decode cX6_readNumber 118 = .ok (.goto 28, 3) := by decide +kernel
theorem dX6_readNumber_121 : decode cX6_readNumber 121 = .ok (.iload 4, 2) := by decide +kernel
theorem dX6_readNumber_123 : decode cX6_readNumber 123 = .ok (.iconst 3, 1) := by decide +kernel
theorem dX6_readNumber_124 : decode cX6_readNumber 124 = .ok (.if_icmp .gt 13, 3) := by decide +kernel
theorem dX6_readNumber_127 : decode cX6_readNumber 127 = .ok (.iload_n 3, 1) := by decide +kernel
theorem dX6_readNumber_128 : decode cX6_readNumber 128 = .ok (.iload_n 1, 1) := by decide +kernel
theorem dX6_readNumber_129 : decode cX6_readNumber 129 = .ok (.if_icmp .lt 8, 3) := by decide +kernel
theorem dX6_readNumber_132 : decode cX6_readNumber 132 = .ok (.iload_n 3, 1) := by decide +kernel
theorem dX6_readNumber_133 : decode cX6_readNumber 133 = .ok (.iload_n 2, 1) := by decide +kernel
theorem dX6_readNumber_134 : decode cX6_readNumber 134 = .ok (.if_icmp .le 12, 3) := by decide +kernel
theorem dX6_readNumber_137 : decode cX6_readNumber 137 = .ok (.aload_n 0, 1) := by decide +kernel
theorem dX6_readNumber_138 : decode cX6_readNumber 138 = .ok (.iconst 2, 1) := by decide +kernel
theorem dX6_readNumber_139 : decode cX6_readNumber 139 = .ok (.aload_n 0, 1) := by decide +kernel
theorem dX6_readNumber_140 : decode cX6_readNumber 140 = .ok (.getfield 99, 3) := by decide +kernel
theorem dX6_readNumber_143 : decode cX6_readNumber 143 = .ok (.invokevirtual 52, 3) := by decide +kernel
theorem dX6_readNumber_146 : decode cX6_readNumber 146 = .ok (.iload_n 3, 1) := by decide +kernel
theorem dX6_readNumber_147 : decode cX6_readNumber 147 = .ok (.ireturn, 1) := by decide +kernel
theorem dX6_readSign_0 : decode cX6_readSign 0 = .ok (.aload_n 0, 1) := by decide +kernel
theorem dX6_readSign_1 : decode cX6_readSign 1 = .ok (.getfield 35, 3) := by decide +kernel
theorem dX6_readSign_4 : decode cX6_readSign 4 = .ok (.ifCond .eq 4, 3) := by decide +kernel
theorem dX6_readSign_7 : decode cX6_readSign 7 = .ok (.return_, 1) := by decide +kernel
theorem dX6_readSign_8 : decode cX6_readSign 8 = .ok (.aload_n 0, 1) := by decide +kernel
theorem dX6_readSign_9 : decode cX6_readSign 9 = .ok (.invokevirtual 42, 3) := by decide +kernel
theorem dX6_readSign_12 : decode cX6_readSign 12 = .ok (.aload_n 0, 1) := by decide +kernel
theorem dX6_readSign_13 : decode cX6_readSign 13 = .ok (.getfield 32, 3) := by decide +kernel
theorem dX6_readSign_16 : decode cX6_readSign 16 = .ok (.aload_n 0, 1) := by decide +kernel
theorem dX6_readSign_17 : decode cX6_readSign 17 = .ok (.getfield 26, 3) := by decide +kernel
theorem dX6_readSign_20 : decode cX6_readSign 20 = .ok (.if_icmp .ge 29, 3) := by decide +kernel
theorem dX6_readSign_23 : decode cX6_readSign 23 = .ok (.aload_n 0, 1) := by decide +kernel
theorem dX6_readSign_24 : decode cX6_readSign 24 = .ok (.getfield 22, 3) := by decide +kernel
theorem dX6_readSign_27 : decode cX6_readSign 27 = .ok (.aload_n 0, 1) := by decide +kernel
theorem dX6_readSign_28 : decode cX6_readSign 28 = .ok (.getfield 32, 3) := by decide +kernel
theorem dX6_readSign_31 : decode cX6_readSign 31 = .ok (.iaload, 1) := by decide +kernel
theorem dX6_readSign_32 : decode cX6_readSign 32 = .ok (.iload_n 1, 1) := by decide +kernel
theorem dX6_readSign_33 : decode cX6_readSign 33 = .ok (.if_icmp .ne 16, 3) := by decide +kernel
theorem dX6_readSign_36 : decode cX6_readSign 36 = .ok (.aload_n 0, 1) := by decide +kernel
theorem dX6_readSign_37 : decode cX6_readSign 37 = .ok (.dup, 1) := by decide +kernel
theorem dX6_readSign_38 : decode cX6_readSign 38 = .ok (.getfield 32, 3) := by decide +kernel
theorem dX6_readSign_41 : decode cX6_readSign 41 = .ok (.iconst 1, 1) := by decide +kernel
theorem dX6_readSign_42 : decode cX6_readSign 42 = .ok (.iadd, 1) := by decide +kernel
theorem dX6_readSign_43 : decode cX6_readSign 43 = .ok (.putfield 32, 3) := by decide +kernel
theorem dX6_readSign_46 : decode cX6_readSign 46 = .ok (.goto 12, 3) := by decide +kernel
theorem dX6_readSign_49 : decode cX6_readSign 49 = .ok (.aload_n 0, 1) := by decide +kernel
theorem dX6_readSign_50 : decode cX6_readSign 50 = .ok (.iconst 1, 1) := by decide +kernel
theorem dX6_readSign_51 : decode cX6_readSign 51 = .ok (.aload_n 0, 1) := by decide +kernel
theorem dX6_readSign_52 : decode cX6_readSign 52 = .ok (.getfield 32, 3) := by decide +kernel
theorem dX6_readSign_55 : decode cX6_readSign 55 = .ok (.invokevirtual 52, 3) := by decide +kernel
theorem dX6_readSign_58 : decode cX6_readSign 58 = .ok (.return_, 1) := by decide +kernel
theorem dX6_skipBlanks_0 : decode cX6_skipBlanks 0 = .ok (.aload_n 0, 1) := by decide +kernel
theorem dX6_skipBlanks_1 : decode cX6_skipBlanks 1 = .ok (.getfield 32, 3) := by decide +kernel
theorem dX6_skipBlanks_4 : decode cX6_skipBlanks 4 = .ok (.aload_n 0, 1) := by decide +kernel
theorem dX6_skipBlanks_5 : decode cX6_skipBlanks 5 = .ok (.getfield 26, 3) := by decide +kernel
theorem dX6_skipBlanks_8 : decode cX6_skipBlanks 8 = .ok (.if_icmp .ge 30, 3) := by decide +kernel
theorem dX6_skipBlanks_11 : decode cX6_skipBlanks 11 = .ok (.aload_n 0, 1) := by decide +kernel
theorem dX6_skipBlanks_12 : decode cX6_skipBlanks 12 = .ok (.getfield 22, 3) := by decide +kernel
theorem dX6_skipBlanks_15 : decode cX6_skipBlanks 15 = .ok (.aload_n 0, 1) := by decide +kernel
theorem dX6_skipBlanks_16 : decode cX6_skipBlanks 16 = .ok (.getfield 32, 3) := by decide +kernel
theorem dX6_skipBlanks_19 : decode cX6_skipBlanks 19 = .ok (.iaload, 1) := by decide +kernel
theorem dX6_skipBlanks_20 : decode cX6_skipBlanks 20 = .ok (.bipush 32, 2) := by decide +kernel
theorem dX6_skipBlanks_22 : decode cX6_skipBlanks 22 = .ok (.if_icmp .ne 16, 3) := by decide +kernel
theorem dX6_skipBlanks_25 : decode cX6_skipBlanks 25 = .ok (.aload_n 0, 1) := by decide +kernel
theorem dX6_skipBlanks_26 : decode cX6_skipBlanks 26 = .ok (.dup, 1) := by decide +kernel
theorem dX6_skipBlanks_27 : decode cX6_skipBlanks 27 = .ok (.getfield 32, 3) := by decide +kernel
theorem dX6_skipBlanks_30 : decode cX6_skipBlanks 30 = .ok (.iconst 1, 1) := by decide +kernel
theorem dX6_skipBlanks_31 : decode cX6_skipBlanks 31 = .ok (.iadd, 1) := by decide +kernel
theorem dX6_skipBlanks_32 : decode cX6_skipBlanks 32 = .ok (.putfield 32, 3) := by decide +kernel
theorem dX6_skipBlanks_35 : decode cX6_skipBlanks 35 = .ok (.goto (-35), 3) := by decide +kernel
theorem dX6_skipBlanks_38 : decode cX6_skipBlanks 38 = .ok (.return_, 1) := by decide +kernel
theorem dX6_fail_0 : decode cX6_fail 0 = .ok (.aload_n 0, 1) := by decide +kernel
theorem dX6_fail_1 : decode cX6_fail 1 = .ok (.getfield 35, 3) := by decide +kernel
theorem dX6_fail_4 : decode cX6_fail 4 = .ok (.ifCond .ne 13, 3) := by decide +kernel
theorem dX6_fail_7 : decode cX6_fail 7 = .ok (.aload_n 0, 1) := by decide +kernel
theorem dX6_fail_8 : decode cX6_fail 8 = .ok (.iload_n 1, 1) := by decide +kernel
theorem dX6_fail_9 : decode cX6_fail 9 = .ok (.putfield 35, 3) := by decide +kernel
theorem dX6_fail_12 : decode cX6_fail 12 = .ok (.aload_n 0, 1) := by decide +kernel
theorem dX6_fail_13 : decode cX6_fail 13 = .ok (.iload_n 2, 1) := by decide +kernel
theorem dX6_fail_14 : decode cX6_fail 14 = .ok (.putfield 9, 3) := by decide +kernel
theorem dX6_fail_17 : decode cX6_fail 17 = .ok (.return_, 1) := by decide +kernel
theorem dX6_isFigure_0 : decode cX6_isFigure 0 = .ok (.iload_n 0, 1) := by decide +kernel
theorem dX6_isFigure_1 : decode cX6_isFigure 1 = .ok (.bipush 48, 2) := by decide +kernel
theorem dX6_isFigure_3 : decode cX6_isFigure 3 = .ok (.if_icmp .lt 13, 3) := by decide +kernel
theorem dX6_isFigure_6 : decode cX6_isFigure 6 = .ok (.iload_n 0, 1) := by decide +kernel
theorem dX6_isFigure_7 : decode cX6_isFigure 7 = .ok (.bipush 57, 2) := by decide +kernel
theorem dX6_isFigure_9 : decode cX6_isFigure 9 = .ok (.if_icmp .gt 7, 3) := by decide +kernel
theorem dX6_isFigure_12 : decode cX6_isFigure 12 = .ok (.iconst 1, 1) := by decide +kernel
theorem dX6_isFigure_13 : decode cX6_isFigure 13 = .ok (.goto 4, 3) := by decide +kernel
theorem dX6_isFigure_16 : decode cX6_isFigure 16 = .ok (.iconst 0, 1) := by decide +kernel
theorem dX6_isFigure_17 : decode cX6_isFigure 17 = .ok (.ireturn, 1) := by decide +kernel
theorem dX7_init_0 : decode cX7_init 0 = .ok (.aload_n 0, 1) := by decide +kernel
theorem dX7_init_1 : decode cX7_init 1 = .ok (.invokespecial 3, 3) := by decide +kernel
theorem dX7_init_4 : decode cX7_init 4 = .ok (.aload_n 0, 1) := by decide +kernel
theorem dX7_init_5 : decode cX7_init 5 = .ok (.new 9, 3) := by decide +kernel
theorem dX7_init_8 : decode cX7_init 8 = .ok (.dup, 1) := by decide +kernel
theorem dX7_init_9 : decode cX7_init 9 = .ok (.invokespecial 11, 3) := by decide +kernel
theorem dX7_init_12 : decode cX7_init 12 = .ok (.putfield 12, 3) := by decide +kernel
theorem dX7_init_15 : decode cX7_init 15 = .ok (.aload_n 0, 1) := by decide +kernel
theorem dX7_init_16 : decode cX7_init 16 = .ok (.bipush 7, 2) := by decide +kernel
theorem dX7_init_18 : decode cX7_init 18 = .ok (.newarray .int, 2) := by decide +kernel
theorem dX7_init_20 : decode cX7_init 20 = .ok (.putfield 18, 3) := by decide +kernel
theorem dX7_init_23 : decode cX7_init 23 = .ok (.aload_n 0, 1) := by decide +kernel
theorem dX7_init_24 : decode cX7_init 24 = .ok (.bipush 7, 2) := by decide +kernel
theorem dX7_init_26 : decode cX7_init 26 = .ok (.newarray .int, 2) := by decide +kernel
theorem dX7_init_28 : decode cX7_init 28 = .ok (.putfield 22, 3) := by decide +kernel
theorem dX7_init_31 : decode cX7_init 31 = .ok (.aload_n 0, 1) := by decide +kernel
theorem dX7_init_32 : decode cX7_init 32 = .ok (.bipush 7, 2) := by decide +kernel
theorem dX7_init_34 : decode cX7_init 34 = .ok (.newarray .int, 2) := by decide +kernel
theorem dX7_init_36 : decode cX7_init 36 = .ok (.putfield 25, 3) := by decide +kernel
theorem dX7_init_39 : decode cX7_init 39 = .ok (.return_, 1) := by decide +kernel
theorem dX7_hasDream_0 : decode cX7_hasDream 0 = .ok (.iload_n 1, 1) := by decide +kernel
theorem dX7_hasDream_1 : decode cX7_hasDream 1 = .ok (.ifCond .lt 15, 3) := by decide +kernel
theorem dX7_hasDream_4 : decode cX7_hasDream 4 = .ok (.iload_n 1, 1) := by decide +kernel
theorem dX7_hasDream_5 : decode cX7_hasDream 5 = .ok (.aload_n 0, 1) := by decide +kernel
theorem dX7_hasDream_6 : decode cX7_hasDream 6 = .ok (.getfield 28, 3) := by decide +kernel
theorem dX7_hasDream_9 : decode cX7_hasDream 9 = .ok (.if_icmp .ge 7, 3) := by decide +kernel
theorem dX7_hasDream_12 : decode cX7_hasDream 12 = .ok (.iconst 1, 1) := by decide +kernel
theorem dX7_hasDream_13 : decode cX7_hasDream 13 = .ok (.goto 4, 3) := by decide +kernel
theorem dX7_hasDream_16 : decode cX7_hasDream 16 = .ok (.iconst 0, 1) := by decide +kernel
theorem dX7_hasDream_17 : decode cX7_hasDream 17 = .ok (.ireturn, 1) := by decide +kernel
theorem dX7_hasSleeper_0 : decode cX7_hasSleeper 0 = .ok (.iload_n 1, 1) := by decide +kernel
theorem dX7_hasSleeper_1 : decode cX7_hasSleeper 1 = .ok (.ifCond .lt 15, 3) := by decide +kernel
theorem dX7_hasSleeper_4 : decode cX7_hasSleeper 4 = .ok (.iload_n 1, 1) := by decide +kernel
theorem dX7_hasSleeper_5 : decode cX7_hasSleeper 5 = .ok (.aload_n 0, 1) := by decide +kernel
theorem dX7_hasSleeper_6 : decode cX7_hasSleeper 6 = .ok (.getfield 32, 3) := by decide +kernel
theorem dX7_hasSleeper_9 : decode cX7_hasSleeper 9 = .ok (.if_icmp .ge 7, 3) := by decide +kernel
theorem dX7_hasSleeper_12 : decode cX7_hasSleeper 12 = .ok (.iconst 1, 1) := by decide +kernel
theorem dX7_hasSleeper_13 : decode cX7_hasSleeper 13 = .ok (.goto 4, 3) := by decide +kernel
theorem dX7_hasSleeper_16 : decode cX7_hasSleeper 16 = .ok (.iconst 0, 1) := by decide +kernel
theorem dX7_hasSleeper_17 : decode cX7_hasSleeper 17 = .ok (.ireturn, 1) := by decide +kernel
theorem dX7_hasLoaf_0 : decode cX7_hasLoaf 0 = .ok (.iload_n 1, 1) := by decide +kernel
theorem dX7_hasLoaf_1 : decode cX7_hasLoaf 1 = .ok (.ifCond .lt 15, 3) := by decide +kernel
theorem dX7_hasLoaf_4 : decode cX7_hasLoaf 4 = .ok (.iload_n 1, 1) := by decide +kernel
theorem dX7_hasLoaf_5 : decode cX7_hasLoaf 5 = .ok (.aload_n 0, 1) := by decide +kernel
theorem dX7_hasLoaf_6 : decode cX7_hasLoaf 6 = .ok (.getfield 35, 3) := by decide +kernel
theorem dX7_hasLoaf_9 : decode cX7_hasLoaf 9 = .ok (.if_icmp .ge 7, 3) := by decide +kernel
theorem dX7_hasLoaf_12 : decode cX7_hasLoaf 12 = .ok (.iconst 1, 1) := by decide +kernel
theorem dX7_hasLoaf_13 : decode cX7_hasLoaf 13 = .ok (.goto 4, 3) := by decide +kernel
theorem dX7_hasLoaf_16 : decode cX7_hasLoaf 16 = .ok (.iconst 0, 1) := by decide +kernel
theorem dX7_hasLoaf_17 : decode cX7_hasLoaf 17 = .ok (.ireturn, 1) := by decide +kernel
theorem dX7_clear_0 : decode cX7_clear 0 = .ok (.aload_n 0, 1) := by decide +kernel
theorem dX7_clear_1 : decode cX7_clear 1 = .ok (.iconst 0, 1) := by decide +kernel
theorem dX7_clear_2 : decode cX7_clear 2 = .ok (.putfield 28, 3) := by decide +kernel
theorem dX7_clear_5 : decode cX7_clear 5 = .ok (.aload_n 0, 1) := by decide +kernel
theorem dX7_clear_6 : decode cX7_clear 6 = .ok (.iconst 0, 1) := by decide +kernel
theorem dX7_clear_7 : decode cX7_clear 7 = .ok (.putfield 38, 3) := by decide +kernel
theorem dX7_clear_10 : decode cX7_clear 10 = .ok (.aload_n 0, 1) := by decide +kernel
theorem dX7_clear_11 : decode cX7_clear 11 = .ok (.iconst 0, 1) := by decide +kernel
theorem dX7_clear_12 : decode cX7_clear 12 = .ok (.putfield 32, 3) := by decide +kernel
theorem dX7_clear_15 : decode cX7_clear 15 = .ok (.aload_n 0, 1) := by decide +kernel
theorem dX7_clear_16 : decode cX7_clear 16 = .ok (.iconst 0, 1) := by decide +kernel
theorem dX7_clear_17 : decode cX7_clear 17 = .ok (.putfield 35, 3) := by decide +kernel
theorem dX7_clear_20 : decode cX7_clear 20 = .ok (.aload_n 0, 1) := by decide +kernel
theorem dX7_clear_21 : decode cX7_clear 21 = .ok (.iconst 0, 1) := by decide +kernel
theorem dX7_clear_22 : decode cX7_clear 22 = .ok (.putfield 41, 3) := by decide +kernel
theorem dX7_clear_25 : decode cX7_clear 25 = .ok (.aload_n 0, 1) := by decide +kernel
theorem dX7_clear_26 : decode cX7_clear 26 = .ok (.getfield 12, 3) := by decide +kernel
theorem dX7_clear_29 : decode cX7_clear 29 = .ok (.invokevirtual 44, 3) := by decide +kernel
theorem dX7_clear_32 : decode cX7_clear 32 = .ok (.return_, 1) := by decide +kernel
theorem dX7_become_0 : decode cX7_become 0 = .ok (.aload_n 0, 1) := by decide +kernel
theorem dX7_become_1 : decode cX7_become 1 = .ok (.aload_n 1, 1) := by decide +kernel
theorem dX7_become_2 : decode cX7_become 2 = .ok (.getfield 28, 3) := by decide +kernel
theorem dX7_become_5 : decode cX7_become 5 = .ok (.putfield 28, 3) := by decide +kernel
theorem dX7_become_8 : decode cX7_become 8 = .ok (.aload_n 0, 1) := by decide +kernel
theorem dX7_become_9 : decode cX7_become 9 = .ok (.aload_n 1, 1) := by decide +kernel
theorem dX7_become_10 : decode cX7_become 10 = .ok (.getfield 38, 3) := by decide +kernel
theorem dX7_become_13 : decode cX7_become 13 = .ok (.putfield 38, 3) := by decide +kernel
theorem dX7_become_16 : decode cX7_become 16 = .ok (.aload_n 0, 1) := by decide +kernel
theorem dX7_become_17 : decode cX7_become 17 = .ok (.aload_n 1, 1) := by decide +kernel
theorem dX7_become_18 : decode cX7_become 18 = .ok (.getfield 32, 3) := by decide +kernel
theorem dX7_become_21 : decode cX7_become 21 = .ok (.putfield 32, 3) := by decide +kernel
theorem dX7_become_24 : decode cX7_become 24 = .ok (.aload_n 0, 1) := by decide +kernel
theorem dX7_become_25 : decode cX7_become 25 = .ok (.aload_n 1, 1) := by decide +kernel
theorem dX7_become_26 : decode cX7_become 26 = .ok (.getfield 35, 3) := by decide +kernel
theorem dX7_become_29 : decode cX7_become 29 = .ok (.putfield 35, 3) := by decide +kernel
theorem dX7_become_32 : decode cX7_become 32 = .ok (.aload_n 0, 1) := by decide +kernel
theorem dX7_become_33 : decode cX7_become 33 = .ok (.aload_n 1, 1) := by decide +kernel
theorem dX7_become_34 : decode cX7_become 34 = .ok (.getfield 41, 3) := by decide +kernel
theorem dX7_become_37 : decode cX7_become 37 = .ok (.putfield 41, 3) := by decide +kernel
theorem dX7_become_40 : decode cX7_become 40 = .ok (.aload_n 0, 1) := by decide +kernel
theorem dX7_become_41 : decode cX7_become 41 = .ok (.getfield 12, 3) := by decide +kernel
theorem dX7_become_44 : decode cX7_become 44 = .ok (.aload_n 1, 1) := by decide +kernel
theorem dX7_become_45 : decode cX7_become 45 = .ok (.getfield 12, 3) := by decide +kernel
theorem dX7_become_48 : decode cX7_become 48 = .ok (.invokevirtual 47, 3) := by decide +kernel
theorem dX7_become_51 : decode cX7_become 51 = .ok (.aload_n 1, 1) := by decide +kernel
theorem dX7_become_52 : decode cX7_become 52 = .ok (.getfield 18, 3) := by decide +kernel
theorem dX7_become_55 : decode cX7_become 55 = .ok (.iconst 0, 1) := by decide +kernel
theorem dX7_become_56 : decode cX7_become 56 = .ok (.aload_n 0, 1) := by decide +kernel
theorem dX7_become_57 : decode cX7_become 57 = .ok (.getfield 18, 3) := by decide +kernel
theorem dX7_become_60 : decode cX7_become 60 = .ok (.iconst 0, 1) := by decide +kernel
theorem dX7_become_61 : decode cX7_become 61 = .ok (.bipush 7, 2) := by decide +kernel
theorem dX7_become_63 : decode cX7_become 63 = .ok (.invokestatic 51, 3) := by decide +kernel
theorem dX7_become_66 : decode cX7_become 66 = .ok (.aload_n 1, 1) := by decide +kernel
theorem dX7_become_67 : decode cX7_become 67 = .ok (.getfield 22, 3) := by decide +kernel
theorem dX7_become_70 : decode cX7_become 70 = .ok (.iconst 0, 1) := by decide +kernel
theorem dX7_become_71 : decode cX7_become 71 = .ok (.aload_n 0, 1) := by decide +kernel
theorem dX7_become_72 : decode cX7_become 72 = .ok (.getfield 22, 3) := by decide +kernel
theorem dX7_become_75 : decode cX7_become 75 = .ok (.iconst 0, 1) := by decide +kernel
theorem dX7_become_76 : decode cX7_become 76 = .ok (.bipush 7, 2) := by decide +kernel
theorem dX7_become_78 : decode cX7_become 78 = .ok (.invokestatic 51, 3) := by decide +kernel
theorem dX7_become_81 : decode cX7_become 81 = .ok (.aload_n 1, 1) := by decide +kernel
theorem dX7_become_82 : decode cX7_become 82 = .ok (.getfield 25, 3) := by decide +kernel
theorem dX7_become_85 : decode cX7_become 85 = .ok (.iconst 0, 1) := by decide +kernel
theorem dX7_become_86 : decode cX7_become 86 = .ok (.aload_n 0, 1) := by decide +kernel
theorem dX7_become_87 : decode cX7_become 87 = .ok (.getfield 25, 3) := by decide +kernel
theorem dX7_become_90 : decode cX7_become 90 = .ok (.iconst 0, 1) := by decide +kernel
theorem dX7_become_91 : decode cX7_become 91 = .ok (.bipush 7, 2) := by decide +kernel
theorem dX7_become_93 : decode cX7_become 93 = .ok (.invokestatic 51, 3) := by decide +kernel
theorem dX7_become_96 : decode cX7_become 96 = .ok (.return_, 1) := by decide +kernel
theorem dX8_init_0 : decode cX8_init 0 = .ok (.aload_n 0, 1) := by decide +kernel
theorem dX8_init_1 : decode cX8_init 1 = .ok (.invokespecial 3, 3) := by decide +kernel
theorem dX8_init_4 : decode cX8_init 4 = .ok (.aload_n 0, 1) := by decide +kernel
theorem dX8_init_5 : decode cX8_init 5 = .ok (.bipush 8, 2) := by decide +kernel
theorem dX8_init_7 : decode cX8_init 7 = .ok (.newarray .int, 2) := by decide +kernel
theorem dX8_init_9 : decode cX8_init 9 = .ok (.putfield 9, 3) := by decide +kernel
theorem dX8_init_12 : decode cX8_init 12 = .ok (.return_, 1) := by decide +kernel
theorem dX8_atLeast_0 : decode cX8_atLeast 0 = .ok (.aload_n 0, 1) := by decide +kernel
theorem dX8_atLeast_1 : decode cX8_atLeast 1 = .ok (.getfield 9, 3) := by decide +kernel
theorem dX8_atLeast_4 : decode cX8_atLeast 4 = .ok (.iconst 0, 1) := by decide +kernel
theorem dX8_atLeast_5 : decode cX8_atLeast 5 = .ok (.invokestatic 15, 3) := by decide +kernel
theorem dX8_atLeast_8 : decode cX8_atLeast 8 = .ok (.aload_n 0, 1) := by decide +kernel
theorem dX8_atLeast_9 : decode cX8_atLeast 9 = .ok (.getfield 9, 3) := by decide +kernel
theorem dX8_atLeast_12 : decode cX8_atLeast 12 = .ok (.iconst 0, 1) := by decide +kernel
theorem dX8_atLeast_13 : decode cX8_atLeast 13 = .ok (.ldc 21, 2) := by decide +kernel
theorem dX8_atLeast_15 : decode cX8_atLeast 15 = .ok (.iastore, 1) := by decide +kernel
theorem dX8_atLeast_16 : decode cX8_atLeast 16 = .ok (.iconst 0, 1) := by decide +kernel
theorem dX8_atLeast_17 : decode cX8_atLeast 17 = .ok (.istore 4, 2) := by decide +kernel
theorem dX8_atLeast_19 : decode cX8_atLeast 19 = .ok (.iload 4, 2) := by decide +kernel
theorem dX8_atLeast_21 : decode cX8_atLeast 21 = .ok (.aload_n 1, 1) := by decide +kernel
theorem dX8_atLeast_22 : decode cX8_atLeast 22 = .ok (.getfield 22, 3) := by decide +kernel
theorem dX8_atLeast_25 : decode cX8_atLeast 25 = .ok (.if_icmp .ge 62, 3) := by decide +kernel
theorem dX8_atLeast_28 : decode cX8_atLeast 28 = .ok (.aload_n 2, 1) := by decide +kernel
theorem dX8_atLeast_29 : decode cX8_atLeast 29 = .ok (.getfield 28, 3) := by decide +kernel
theorem dX8_atLeast_32 : decode cX8_atLeast 32 = .ok (.iload 4, 2) := by decide +kernel
theorem dX8_atLeast_34 : decode cX8_atLeast 34 = .ok (.iaload, 1) := by decide +kernel
theorem dX8_atLeast_35 : decode cX8_atLeast 35 = .ok (.istore 5, 2) := by decide +kernel
theorem dX8_atLeast_37 : decode cX8_atLeast 37 = .ok (.iload 5, 2) := by decide +kernel
theorem dX8_atLeast_39 : decode cX8_atLeast 39 = .ok (.iconst (-1), 1) := by decide +kernel
theorem dX8_atLeast_40 : decode cX8_atLeast 40 = .ok (.if_icmp .eq 41, 3) := by decide +kernel
theorem dX8_atLeast_43 : decode cX8_atLeast 43 = .ok (.aload_n 2, 1) := by decide +kernel
theorem dX8_atLeast_44 : decode cX8_atLeast 44 = .ok (.iload 5, 2) := by decide +kernel
theorem dX8_atLeast_46 : decode cX8_atLeast 46 = .ok (.invokevirtual 33, 3) := by decide +kernel
theorem dX8_atLeast_49 : decode cX8_atLeast 49 = .ok (.ifCond .ne 32, 3) := by decide +kernel
theorem dX8_atLeast_52 : decode cX8_atLeast 52 = .ok (.aload_n 0, 1) := by decide +kernel
theorem dX8_atLeast_53 : decode cX8_atLeast 53 = .ok (.aload_n 2, 1) := by decide +kernel
theorem dX8_atLeast_54 : decode cX8_atLeast 54 = .ok (.getfield 37, 3) := by decide +kernel
theorem dX8_atLeast_57 : decode cX8_atLeast 57 = .ok (.iload 5, 2) := by decide +kernel
theorem dX8_atLeast_59 : decode cX8_atLeast 59 = .ok (.aload_n 1, 1) := by decide +kernel
theorem dX8_atLeast_60 : decode cX8_atLeast 60 = .ok (.getfield 41, 3) := by decide +kernel
theorem dX8_atLeast_63 : decode cX8_atLeast 63 = .ok (.iload 4, 2) := by decide +kernel
theorem dX8_atLeast_65 : decode cX8_atLeast 65 = .ok (.iaload, 1) := by decide +kernel
theorem dX8_atLeast_66 : decode cX8_atLeast 66 = .ok (.invokevirtual 44, 3) := by decide +kernel
theorem dX8_atLeast_69 : decode cX8_atLeast 69 = .ok (.aload_n 2, 1) := by decide +kernel
theorem dX8_atLeast_70 : decode cX8_atLeast 70 = .ok (.getfield 37, 3) := by decide +kernel
theorem dX8_atLeast_73 : decode cX8_atLeast 73 = .ok (.iload 5, 2) := by decide +kernel
theorem dX8_atLeast_75 : decode cX8_atLeast 75 = .ok (.invokevirtual 50, 3) := by decide +kernel
theorem dX8_atLeast_78 : decode cX8_atLeast 78 = .ok (.invokevirtual 54, 3) := by decide +kernel
theorem dX8_atLeast_81 : decode cX8_atLeast 81 = .ok (.iinc 4 1, 3) := by decide +kernel
theorem dX8_atLeast_84 : decode cX8_atLeast 84 = .ok (.goto (-65), 3) := by decide +kernel
theorem dX8_atLeast_87 : decode cX8_atLeast 87 = .ok (.iconst 0, 1) := by decide +kernel
theorem dX8_atLeast_88 : decode cX8_atLeast 88 = .ok (.istore 4, 2) := by decide +kernel
theorem dX8_atLeast_90 : decode cX8_atLeast 90 = .ok (.iload_n 3, 1) := by decide +kernel
theorem dX8_atLeast_91 : decode cX8_atLeast 91 = .ok (.istore 5, 2) := by decide +kernel
theorem dX8_atLeast_93 : decode cX8_atLeast 93 = .ok (.iload 5, 2) := by decide +kernel
theorem dX8_atLeast_95 : decode cX8_atLeast 95 = .ok (.bipush 7, 2) := by decide +kernel
theorem dX8_atLeast_97 : decode cX8_atLeast 97 = .ok (.if_icmp .gt 21, 3) := by decide +kernel
theorem dX8_atLeast_100 : decode cX8_atLeast 100 = .ok (.iload 4, 2) := by decide +kernel
theorem dX8_atLeast_102 : decode cX8_atLeast 102 = .ok (.aload_n 0, 1) := by decide +kernel
theorem dX8_atLeast_103 : decode cX8_atLeast 103 = .ok (.getfield 9, 3) := by decide +kernel
theorem dX8_atLeast_106 : decode cX8_atLeast 106 = .ok (.iload 5, 2) := by decide +kernel
theorem dX8_atLeast_108 : decode cX8_atLeast 108 = .ok (.iaload, 1) := by decide +kernel
theorem dX8_atLeast_109 : decode cX8_atLeast 109 = .ok (.iadd, 1) := by decide +kernel
theorem dX8_atLeast_110 : decode cX8_atLeast 110 = .ok (.istore 4, 2) := by decide +kernel
theorem dX8_atLeast_112 : decode cX8_atLeast 112 = .ok (.iinc 5 1, 3) := by decide +kernel
theorem dX8_atLeast_115 : decode cX8_atLeast 115 = .ok (.goto (-22), 3) := by decide +kernel
theorem dX8_atLeast_118 : decode cX8_atLeast 118 = .ok (.iload 4, 2) := by decide +kernel
theorem dX8_atLeast_120 : decode cX8_atLeast 120 = .ok (.ireturn, 1) := by decide +kernel
theorem dX8_spread_0 : decode cX8_spread 0 = .ok (.iload_n 2, 1) := by decide +kernel
theorem dX8_spread_1 : decode cX8_spread 1 = .ok (.ifCond .gt 4, 3) := by decide +kernel
theorem dX8_spread_4 : decode cX8_spread 4 = .ok (.return_, 1) := by decide +kernel
theorem dX8_spread_5 : decode cX8_spread 5 = .ok (.bipush 6, 2) := by decide +kernel
theorem dX8_spread_7 : decode cX8_spread 7 = .ok (.istore_n 3, 1) := by decide +kernel
theorem dX8_spread_8 : decode cX8_spread 8 = .ok (.iload_n 3, 1) := by decide +kernel
theorem dX8_spread_9 : decode cX8_spread 9 = .ok (.ifCond .lt 45, 3) := by decide +kernel
theorem dX8_spread_12 : decode cX8_spread 12 = .ok (.aload_n 0, 1) := by decide +kernel
theorem dX8_spread_13 : decode cX8_spread 13 = .ok (.getfield 9, 3) := by decide +kernel
theorem dX8_spread_16 : decode cX8_spread 16 = .ok (.iload_n 3, 1) := by decide +kernel
theorem dX8_spread_17 : decode cX8_spread 17 = .ok (.iaload, 1) := by decide +kernel
theorem dX8_spread_18 : decode cX8_spread 18 = .ok (.iload_n 1, 1) := by decide +kernel
theorem dX8_spread_19 : decode cX8_spread 19 = .ok (.imul, 1) := by decide +kernel
theorem dX8_spread_20 : decode cX8_spread 20 = .ok (.iload_n 2, 1) := by decide +kernel
theorem dX8_spread_21 : decode cX8_spread 21 = .ok (.idiv, 1) := by decide +kernel
theorem dX8_spread_22 : decode cX8_spread 22 = .ok (.istore 4, 2) := by decide +kernel
theorem dX8_spread_24 : decode cX8_spread 24 = .ok (.aload_n 0, 1) := by decide +kernel
theorem dX8_spread_25 : decode cX8_spread 25 = .ok (.getfield 9, 3) := by decide +kernel
theorem dX8_spread_28 : decode cX8_spread 28 = .ok (.iload_n 3, 1) := by decide +kernel
theorem dX8_spread_29 : decode cX8_spread 29 = .ok (.dup2, 1) := by decide +kernel
theorem dX8_spread_30 : decode cX8_spread 30 = .ok (.iaload, 1) := by decide +kernel
theorem dX8_spread_31 : decode cX8_spread 31 = .ok (.iload 4, 2) := by decide +kernel
theorem dX8_spread_33 : decode cX8_spread 33 = .ok (.isub, 1) := by decide +kernel
theorem dX8_spread_34 : decode cX8_spread 34 = .ok (.iastore, 1) := by decide +kernel
theorem dX8_spread_35 : decode cX8_spread 35 = .ok (.aload_n 0, 1) := by decide +kernel
theorem dX8_spread_36 : decode cX8_spread 36 = .ok (.getfield 9, 3) := by decide +kernel
theorem dX8_spread_39 : decode cX8_spread 39 = .ok (.iload_n 3, 1) := by decide +kernel
theorem dX8_spread_40 : decode cX8_spread 40 = .ok (.iconst 1, 1) := by decide +kernel
theorem dX8_spread_41 : decode cX8_spread 41 = .ok (.iadd, 1) := by decide +kernel
theorem dX8_spread_42 : decode cX8_spread 42 = .ok (.dup2, 1) := by decide +kernel
theorem dX8_spread_43 : decode cX8_spread 43 = .ok (.iaload, 1) := by decide +kernel
theorem dX8_spread_44 : decode cX8_spread 44 = .ok (.iload 4, 2) := by decide +kernel
theorem dX8_spread_46 : decode cX8_spread 46 = .ok (.iadd, 1) := by decide +kernel
theorem dX8_spread_47 : decode cX8_spread 47 = .ok (.iastore, 1) := by decide +kernel
theorem dX8_spread_48 : decode cX8_spread 48 = .ok (.iinc 3 (-1), 3) := by decide +kernel
theorem dX8_spread_51 : decode cX8_spread 51 = .ok (.goto (-43), 3) := by decide +kernel
theorem dX8_spread_54 : decode cX8_spread 54 = .ok (.return_, 1) := by decide +kernel
theorem dX9_init_0 : decode cX9_init 0 = .ok (.aload_n 0, 1) := by decide +kernel
theorem dX9_init_1 : decode cX9_init 1 = .ok (.invokespecial 3, 3) := by decide +kernel
theorem dX9_init_4 : decode cX9_init 4 = .ok (.aload_n 0, 1) := by decide +kernel
theorem dX9_init_5 : decode cX9_init 5 = .ok (.bipush 30, 2) := by decide +kernel
theorem dX9_init_7 : decode cX9_init 7 = .ok (.newarray .int, 2) := by decide +kernel
theorem dX9_init_9 : decode cX9_init 9 = .ok (.putfield 9, 3) := by decide +kernel
theorem dX9_init_12 : decode cX9_init 12 = .ok (.return_, 1) := by decide +kernel
theorem dX9_of_0 : decode cX9_of 0 = .ok (.iload_n 1, 1) := by decide +kernel
theorem dX9_of_1 : decode cX9_of 1 = .ok (.ifCond .lt 22, 3) := by decide +kernel
theorem dX9_of_4 : decode cX9_of 4 = .ok (.iload_n 1, 1) := by decide +kernel
theorem dX9_of_5 : decode cX9_of 5 = .ok (.bipush 6, 2) := by decide +kernel
theorem dX9_of_7 : decode cX9_of 7 = .ok (.if_icmp .ge 16, 3) := by decide +kernel
theorem dX9_of_10 : decode cX9_of 10 = .ok (.iload_n 2, 1) := by decide +kernel
theorem dX9_of_11 : decode cX9_of 11 = .ok (.ifCond .lt 12, 3) := by decide +kernel
theorem dX9_of_14 : decode cX9_of 14 = .ok (.iload_n 2, 1) := by decide +kernel
theorem dX9_of_15 : decode cX9_of 15 = .ok (.iconst 5, 1) := by decide +kernel
theorem dX9_of_16 : decode cX9_of 16 = .ok (.if_icmp .ge 7, 3) := by decide +kernel
theorem dX9_of_19 : decode cX9_of 19 = .ok (.iconst 1, 1) := by decide +kernel
theorem dX9_of_20 : decode cX9_of 20 = .ok (.goto 4, 3) := by decide +kernel
theorem dX9_of_23 : decode cX9_of 23 = .ok (.iconst 0, 1) := by decide +kernel
theorem dX9_of_24 : decode cX9_of 24 = .ok (.istore_n 3, 1) := by decide +kernel
theorem dX9_of_25 : decode cX9_of 25 = .ok (.iload_n 3, 1) := by decide +kernel
theorem dX9_of_26 : decode cX9_of 26 = .ok (.ifCond .eq 16, 3) := by decide +kernel
theorem dX9_of_29 : decode cX9_of 29 = .ok (.aload_n 0, 1) := by decide +kernel
theorem dX9_of_30 : decode cX9_of 30 = .ok (.getfield 9, 3) := by decide +kernel
theorem dX9_of_33 : decode cX9_of 33 = .ok (.iload_n 1, 1) := by decide +kernel
theorem dX9_of_34 : decode cX9_of 34 = .ok (.iconst 5, 1) := by decide +kernel
theorem dX9_of_35 : decode cX9_of 35 = .ok (.imul, 1) := by decide +kernel
theorem dX9_of_36 : decode cX9_of 36 = .ok (.iload_n 2, 1) := by decide +kernel
theorem dX9_of_37 : decode cX9_of 37 = .ok (.iadd, 1) := by decide +kernel
theorem dX9_of_38 : decode cX9_of 38 = .ok (.iaload, 1) := by decide +kernel
theorem dX9_of_39 : decode cX9_of 39 = .ok (.goto 4, 3) := by decide +kernel
theorem dX9_of_42 : decode cX9_of 42 = .ok (.iconst 0, 1) := by decide +kernel
theorem dX9_of_43 : decode cX9_of 43 = .ok (.ireturn, 1) := by decide +kernel
theorem dX9_put_0 : decode cX9_put 0 = .ok (.iload_n 1, 1) := by decide +kernel
theorem dX9_put_1 : decode cX9_put 1 = .ok (.ifCond .lt 29, 3) := by decide +kernel
theorem dX9_put_4 : decode cX9_put 4 = .ok (.iload_n 1, 1) := by decide +kernel
theorem dX9_put_5 : decode cX9_put 5 = .ok (.bipush 6, 2) := by decide +kernel
theorem dX9_put_7 : decode cX9_put 7 = .ok (.if_icmp .ge 23, 3) := by decide +kernel
theorem dX9_put_10 : decode cX9_put 10 = .ok (.iload_n 2, 1) := by decide +kernel
theorem dX9_put_11 : decode cX9_put 11 = .ok (.ifCond .lt 19, 3) := by decide +kernel
theorem dX9_put_14 : decode cX9_put 14 = .ok (.iload_n 2, 1) := by decide +kernel
theorem dX9_put_15 : decode cX9_put 15 = .ok (.iconst 5, 1) := by decide +kernel
theorem dX9_put_16 : decode cX9_put 16 = .ok (.if_icmp .ge 14, 3) := by decide +kernel
theorem dX9_put_19 : decode cX9_put 19 = .ok (.aload_n 0, 1) := by decide +kernel
theorem dX9_put_20 : decode cX9_put 20 = .ok (.getfield 9, 3) := by decide +kernel
theorem dX9_put_23 : decode cX9_put 23 = .ok (.iload_n 1, 1) := by decide +kernel
theorem dX9_put_24 : decode cX9_put 24 = .ok (.iconst 5, 1) := by decide +kernel
theorem dX9_put_25 : decode cX9_put 25 = .ok (.imul, 1) := by decide +kernel
theorem dX9_put_26 : decode cX9_put 26 = .ok (.iload_n 2, 1) := by decide +kernel
theorem dX9_put_27 : decode cX9_put 27 = .ok (.iadd, 1) := by decide +kernel
theorem dX9_put_28 : decode cX9_put 28 = .ok (.iload_n 3, 1) := by decide +kernel
theorem dX9_put_29 : decode cX9_put 29 = .ok (.iastore, 1) := by decide +kernel
theorem dX9_put_30 : decode cX9_put 30 = .ok (.return_, 1) := by decide +kernel
theorem dX9_all_0 : decode cX9_all 0 = .ok (.iconst 0, 1) := by decide +kernel
theorem dX9_all_1 : decode cX9_all 1 = .ok (.istore_n 2, 1) := by decide +kernel
theorem dX9_all_2 : decode cX9_all 2 = .ok (.iload_n 1, 1) := by decide +kernel
theorem dX9_all_3 : decode cX9_all 3 = .ok (.ifCond .lt 35, 3) := by decide +kernel
theorem dX9_all_6 : decode cX9_all 6 = .ok (.iload_n 1, 1) := by decide +kernel
theorem dX9_all_7 : decode cX9_all 7 = .ok (.bipush 6, 2) := by decide +kernel
theorem dX9_all_9 : decode cX9_all 9 = .ok (.if_icmp .ge 29, 3) := by decide +kernel
theorem dX9_all_12 : decode cX9_all 12 = .ok (.iconst 0, 1) := by decide +kernel
theorem dX9_all_13 : decode cX9_all 13 = .ok (.istore_n 3, 1) := by decide +kernel
theorem dX9_all_14 : decode cX9_all 14 = .ok (.iload_n 3, 1) := by decide +kernel
theorem dX9_all_15 : decode cX9_all 15 = .ok (.iconst 5, 1) := by decide +kernel
theorem dX9_all_16 : decode cX9_all 16 = .ok (.if_icmp .ge 22, 3) := by decide +kernel
theorem dX9_all_19 : decode cX9_all 19 = .ok (.iload_n 2, 1) := by decide +kernel
theorem dX9_all_20 : decode cX9_all 20 = .ok (.aload_n 0, 1) := by decide +kernel
theorem dX9_all_21 : decode cX9_all 21 = .ok (.getfield 9, 3) := by decide +kernel
theorem dX9_all_24 : decode cX9_all 24 = .ok (.iload_n 1, 1) := by decide +kernel
theorem dX9_all_25 : decode cX9_all 25 = .ok (.iconst 5, 1) := by decide +kernel
theorem dX9_all_26 : decode cX9_all 26 = .ok (.imul, 1) := by decide +kernel
theorem dX9_all_27 : decode cX9_all 27 = .ok (.iload_n 3, 1) := by decide +kernel
theorem dX9_all_28 : decode cX9_all 28 = .ok (.iadd, 1) := by decide +kernel
theorem dX9_all_29 : decode cX9_all 29 = .ok (.iaload, 1) := by decide +kernel
theorem dX9_all_30 : decode cX9_all 30 = .ok (.iadd, 1) := by decide +kernel
theorem dX9_all_31 : decode cX9_all 31 = .ok (.istore_n 2, 1) := by decide +kernel
theorem dX9_all_32 : decode cX9_all 32 = .ok (.iinc 3 1, 3) := by decide +kernel
theorem dX9_all_35 : decode cX9_all 35 = .ok (.goto (-21), 3) := by decide +kernel
theorem dX9_all_38 : decode cX9_all 38 = .ok (.iload_n 2, 1) := by decide +kernel
theorem dX9_all_39 : decode cX9_all 39 = .ok (.ireturn, 1) := by decide +kernel
theorem dX9_top_0 : decode cX9_top 0 = .ok (.iconst 0, 1) := by decide +kernel
theorem dX9_top_1 : decode cX9_top 1 = .ok (.istore_n 2, 1) := by decide +kernel
theorem dX9_top_2 : decode cX9_top 2 = .ok (.iload_n 1, 1) := by decide +kernel
theorem dX9_top_3 : decode cX9_top 3 = .ok (.ifCond .lt 51, 3) := by decide +kernel
theorem dX9_top_6 : decode cX9_top 6 = .ok (.iload_n 1, 1) := by decide +kernel
theorem dX9_top_7 : decode cX9_top 7 = .ok (.bipush 6, 2) := by decide +kernel
theorem dX9_top_9 : decode cX9_top 9 = .ok (.if_icmp .ge 45, 3) := by decide +kernel
theorem dX9_top_12 : decode cX9_top 12 = .ok (.iload_n 1, 1) := by decide +kernel
theorem dX9_top_13 : decode cX9_top 13 = .ok (.iconst 5, 1) := by decide +kernel
theorem dX9_top_14 : decode cX9_top 14 = .ok (.imul, 1) := by decide +kernel
theorem dX9_top_15 : decode cX9_top 15 = .ok (.istore_n 3, 1) := by decide +kernel
theorem dX9_top_16 : decode cX9_top 16 = .ok (.iconst 1, 1) := by decide +kernel
theorem dX9_top_17 : decode cX9_top 17 = .ok (.istore 4, 2) := by decide +kernel
theorem dX9_top_19 : decode cX9_top 19 = .ok (.iload 4, 2) := by decide +kernel
theorem dX9_top_21 : decode cX9_top 21 = .ok (.iconst 5, 1) := by decide +kernel
theorem dX9_top_22 : decode cX9_top 22 = .ok (.if_icmp .ge 32, 3) := by decide +kernel
theorem dX9_top_25 : decode cX9_top 25 = .ok (.aload_n 0, 1) := by decide +kernel
theorem dX9_top_26 : decode cX9_top 26 = .ok (.getfield 9, 3) := by decide +kernel
theorem dX9_top_29 : decode cX9_top 29 = .ok (.iload_n 3, 1) := by decide +kernel
theorem dX9_top_30 : decode cX9_top 30 = .ok (.iload 4, 2) := by decide +kernel
theorem dX9_top_32 : decode cX9_top 32 = .ok (.iadd, 1) := by decide +kernel
theorem dX9_top_33 : decode cX9_top 33 = .ok (.iaload, 1) := by decide +kernel
theorem dX9_top_34 : decode cX9_top 34 = .ok (.aload_n 0, 1) := by decide +kernel
theorem dX9_top_35 : decode cX9_top 35 = .ok (.getfield 9, 3) := by decide +kernel
theorem dX9_top_38 : decode cX9_top 38 = .ok (.iload_n 3, 1) := by decide +kernel
theorem dX9_top_39 : decode cX9_top 39 = .ok (.iload_n 2, 1) := by decide +kernel
theorem dX9_top_40 : decode cX9_top 40 = .ok (.iadd, 1) := by decide +kernel
theorem dX9_top_41 : decode cX9_top 41 = .ok (.iaload, 1) := by decide +kernel
theorem dX9_top_42 : decode cX9_top 42 = .ok (.if_icmp .le 6, 3) := by decide +kernel
theorem dX9_top_45 : decode cX9_top 45 = .ok (.iload 4, 2) := by decide +kernel
theorem dX9_top_47 : decode cX9_top 47 = .ok (.istore_n 2, 1) := by decide +kernel
theorem dX9_top_48 : decode cX9_top 48 = .ok (.iinc 4 1, 3) := by decide +kernel
theorem dX9_top_51 : decode cX9_top 51 = .ok (.goto (-32), 3) := by decide +kernel
theorem dX9_top_54 : decode cX9_top 54 = .ok (.iload_n 2, 1) := by decide +kernel
theorem dX9_top_55 : decode cX9_top 55 = .ok (.ireturn, 1) := by decide +kernel
theorem dX9_grow_0 : decode cX9_grow 0 = .ok (.aload_n 0, 1) := by decide +kernel
theorem dX9_grow_1 : decode cX9_grow 1 = .ok (.iload_n 1, 1) := by decide +kernel
theorem dX9_grow_2 : decode cX9_grow 2 = .ok (.iload_n 2, 1) := by decide +kernel
theorem dX9_grow_3 : decode cX9_grow 3 = .ok (.invokevirtual 15, 3) := by decide +kernel
theorem dX9_grow_6 : decode cX9_grow 6 = .ok (.istore 4, 2) := by decide +kernel
theorem dX9_grow_8 : decode cX9_grow 8 = .ok (.bipush 9, 2) := by decide +kernel
theorem dX9_grow_10 : decode cX9_grow 10 = .ok (.iload 4, 2) := by decide +kernel
theorem dX9_grow_12 : decode cX9_grow 12 = .ok (.iload_n 3, 1) := by decide +kernel
theorem dX9_grow_13 : decode cX9_grow 13 = .ok (.iadd, 1) := by decide +kernel
theorem dX9_grow_14 : decode cX9_grow 14 = .ok (.invokestatic 19, 3) := by decide +kernel
theorem dX9_grow_17 : decode cX9_grow 17 = .ok (.istore 5, 2) := by decide +kernel
theorem dX9_grow_19 : decode cX9_grow 19 = .ok (.aload_n 0, 1) := by decide +kernel
theorem dX9_grow_20 : decode cX9_grow 20 = .ok (.iload_n 1, 1) := by decide +kernel
theorem dX9_grow_21 : decode cX9_grow 21 = .ok (.iload_n 2, 1) := by decide +kernel
theorem dX9_grow_22 : decode cX9_grow 22 = .ok (.iload 5, 2) := by decide +kernel
theorem dX9_grow_24 : decode cX9_grow 24 = .ok (.invokevirtual 24, 3) := by decide +kernel
theorem dX9_grow_27 : decode cX9_grow 27 = .ok (.iload 5, 2) := by decide +kernel
theorem dX9_grow_29 : decode cX9_grow 29 = .ok (.iload 4, 2) := by decide +kernel
theorem dX9_grow_31 : decode cX9_grow 31 = .ok (.if_icmp .eq 7, 3) := by decide +kernel
theorem dX9_grow_34 : decode cX9_grow 34 = .ok (.iconst 1, 1) := by decide +kernel
theorem dX9_grow_35 : decode cX9_grow 35 = .ok (.goto 4, 3) := by decide +kernel
theorem dX9_grow_38 : decode cX9_grow 38 = .ok (.iconst 0, 1) := by decide +kernel
theorem dX9_grow_39 : decode cX9_grow 39 = .ok (.ireturn, 1) := by decide +kernel
theorem dX9_become_0 : decode cX9_become 0 = .ok (.aload_n 1, 1) := by decide +kernel
theorem dX9_become_1 : decode cX9_become 1 = .ok (.getfield 9, 3) := by decide +kernel
theorem dX9_become_4 : decode cX9_become 4 = .ok (.iconst 0, 1) := by decide +kernel
theorem dX9_become_5 : decode cX9_become 5 = .ok (.aload_n 0, 1) := by decide +kernel
theorem dX9_become_6 : decode cX9_become 6 = .ok (.getfield 9, 3) := by decide +kernel
theorem dX9_become_9 : decode cX9_become 9 = .ok (.iconst 0, 1) := by decide +kernel
theorem dX9_become_10 : decode cX9_become 10 = .ok (.aload_n 0, 1) := by decide +kernel
theorem dX9_become_11 : decode cX9_become 11 = .ok (.getfield 9, 3) := by decide +kernel
theorem dX9_become_14 : decode cX9_become 14 = .ok (.arraylength, 1) := by decide +kernel
theorem dX9_become_15 : decode cX9_become 15 = .ok (.invokestatic 28, 3) := by decide +kernel
theorem dX9_become_18 : decode cX9_become 18 = .ok (.return_, 1) := by decide +kernel
theorem dX9_clear_0 : decode cX9_clear 0 = .ok (.aload_n 0, 1) := by decide +kernel
theorem dX9_clear_1 : decode cX9_clear 1 = .ok (.getfield 9, 3) := by decide +kernel
theorem dX9_clear_4 : decode cX9_clear 4 = .ok (.iconst 0, 1) := by decide +kernel
theorem dX9_clear_5 : decode cX9_clear 5 = .ok (.invokestatic 34, 3) := by decide +kernel
theorem dX9_clear_8 : decode cX9_clear 8 = .ok (.return_, 1) := by decide +kernel
theorem dJ6_bitCount_0f7a4_0 : decode cJ6_bitCount_0f7a4 0 = .ok (.iload_n 0, 1) := by decide +kernel
theorem dJ6_bitCount_0f7a4_1 : decode cJ6_bitCount_0f7a4 1 = .ok (.iload_n 0, 1) := by decide +kernel
theorem dJ6_bitCount_0f7a4_2 : decode cJ6_bitCount_0f7a4 2 = .ok (.iconst 1, 1) := by decide +kernel
theorem dJ6_bitCount_0f7a4_3 : decode cJ6_bitCount_0f7a4 3 = .ok (.iushr, 1) := by decide +kernel
theorem dJ6_bitCount_0f7a4_4 : decode cJ6_bitCount_0f7a4 4 = .ok (.ldc_w 265, 3) := by decide +kernel
theorem dJ6_bitCount_0f7a4_7 : decode cJ6_bitCount_0f7a4 7 = .ok (.iand, 1) := by decide +kernel
theorem dJ6_bitCount_0f7a4_8 : decode cJ6_bitCount_0f7a4 8 = .ok (.isub, 1) := by decide +kernel
theorem dJ6_bitCount_0f7a4_9 : decode cJ6_bitCount_0f7a4 9 = .ok (.istore_n 0, 1) := by decide +kernel
theorem dJ6_bitCount_0f7a4_10 : decode cJ6_bitCount_0f7a4 10 = .ok (.iload_n 0, 1) := by decide +kernel
theorem dJ6_bitCount_0f7a4_11 : decode cJ6_bitCount_0f7a4 11 = .ok (.ldc_w 266, 3) := by decide +kernel
theorem dJ6_bitCount_0f7a4_14 : decode cJ6_bitCount_0f7a4 14 = .ok (.iand, 1) := by decide +kernel
theorem dJ6_bitCount_0f7a4_15 : decode cJ6_bitCount_0f7a4 15 = .ok (.iload_n 0, 1) := by decide +kernel
theorem dJ6_bitCount_0f7a4_16 : decode cJ6_bitCount_0f7a4 16 = .ok (.iconst 2, 1) := by decide +kernel
theorem dJ6_bitCount_0f7a4_17 : decode cJ6_bitCount_0f7a4 17 = .ok (.iushr, 1) := by decide +kernel
theorem dJ6_bitCount_0f7a4_18 : decode cJ6_bitCount_0f7a4 18 = .ok (.ldc_w 266, 3) := by decide +kernel
theorem dJ6_bitCount_0f7a4_21 : decode cJ6_bitCount_0f7a4 21 = .ok (.iand, 1) := by decide +kernel
theorem dJ6_bitCount_0f7a4_22 : decode cJ6_bitCount_0f7a4 22 = .ok (.iadd, 1) := by decide +kernel
theorem dJ6_bitCount_0f7a4_23 : decode cJ6_bitCount_0f7a4 23 = .ok (.istore_n 0, 1) := by decide +kernel
theorem dJ6_bitCount_0f7a4_24 : decode cJ6_bitCount_0f7a4 24 = .ok (.iload_n 0, 1) := by decide +kernel
theorem dJ6_bitCount_0f7a4_25 : decode cJ6_bitCount_0f7a4 25 = .ok (.iload_n 0, 1) := by decide +kernel
theorem dJ6_bitCount_0f7a4_26 : decode cJ6_bitCount_0f7a4 26 = .ok (.iconst 4, 1) := by decide +kernel
theorem dJ6_bitCount_0f7a4_27 : decode cJ6_bitCount_0f7a4 27 = .ok (.iushr, 1) := by decide +kernel
theorem dJ6_bitCount_0f7a4_28 : decode cJ6_bitCount_0f7a4 28 = .ok (.iadd, 1) := by decide +kernel
theorem dJ6_bitCount_0f7a4_29 : decode cJ6_bitCount_0f7a4 29 = .ok (.ldc_w 267, 3) := by decide +kernel
theorem dJ6_bitCount_0f7a4_32 : decode cJ6_bitCount_0f7a4 32 = .ok (.iand, 1) := by decide +kernel
theorem dJ6_bitCount_0f7a4_33 : decode cJ6_bitCount_0f7a4 33 = .ok (.istore_n 0, 1) := by decide +kernel
theorem dJ6_bitCount_0f7a4_34 : decode cJ6_bitCount_0f7a4 34 = .ok (.iload_n 0, 1) := by decide +kernel
theorem dJ6_bitCount_0f7a4_35 : decode cJ6_bitCount_0f7a4 35 = .ok (.iload_n 0, 1) := by decide +kernel
theorem dJ6_bitCount_0f7a4_36 : decode cJ6_bitCount_0f7a4 36 = .ok (.bipush 8, 2) := by decide +kernel
theorem dJ6_bitCount_0f7a4_38 : decode cJ6_bitCount_0f7a4 38 = .ok (.iushr, 1) := by decide +kernel
theorem dJ6_bitCount_0f7a4_39 : decode cJ6_bitCount_0f7a4 39 = .ok (.iadd, 1) := by decide +kernel
theorem dJ6_bitCount_0f7a4_40 : decode cJ6_bitCount_0f7a4 40 = .ok (.istore_n 0, 1) := by decide +kernel
theorem dJ6_bitCount_0f7a4_41 : decode cJ6_bitCount_0f7a4 41 = .ok (.iload_n 0, 1) := by decide +kernel
theorem dJ6_bitCount_0f7a4_42 : decode cJ6_bitCount_0f7a4 42 = .ok (.iload_n 0, 1) := by decide +kernel
theorem dJ6_bitCount_0f7a4_43 : decode cJ6_bitCount_0f7a4 43 = .ok (.bipush 16, 2) := by decide +kernel
theorem dJ6_bitCount_0f7a4_45 : decode cJ6_bitCount_0f7a4 45 = .ok (.iushr, 1) := by decide +kernel
theorem dJ6_bitCount_0f7a4_46 : decode cJ6_bitCount_0f7a4 46 = .ok (.iadd, 1) := by decide +kernel
theorem dJ6_bitCount_0f7a4_47 : decode cJ6_bitCount_0f7a4 47 = .ok (.istore_n 0, 1) := by decide +kernel
theorem dJ6_bitCount_0f7a4_48 : decode cJ6_bitCount_0f7a4 48 = .ok (.iload_n 0, 1) := by decide +kernel
theorem dJ6_bitCount_0f7a4_49 : decode cJ6_bitCount_0f7a4 49 = .ok (.bipush 63, 2) := by decide +kernel
theorem dJ6_bitCount_0f7a4_51 : decode cJ6_bitCount_0f7a4 51 = .ok (.iand, 1) := by decide +kernel
theorem dJ6_bitCount_0f7a4_52 : decode cJ6_bitCount_0f7a4 52 = .ok (.ireturn, 1) := by decide +kernel
theorem dJ9_max_7cf53_0 : decode cJ9_max_7cf53 0 = .ok (.iload_n 0, 1) := by decide +kernel
theorem dJ9_max_7cf53_1 : decode cJ9_max_7cf53 1 = .ok (.iload_n 1, 1) := by decide +kernel
theorem dJ9_max_7cf53_2 : decode cJ9_max_7cf53 2 = .ok (.if_icmp .lt 7, 3) := by decide +kernel
theorem dJ9_max_7cf53_5 : decode cJ9_max_7cf53 5 = .ok (.iload_n 0, 1) := by decide +kernel
theorem dJ9_max_7cf53_6 : decode cJ9_max_7cf53 6 = .ok (.goto 4, 3) := by decide +kernel
theorem dJ9_max_7cf53_9 : decode cJ9_max_7cf53 9 = .ok (.iload_n 1, 1) := by decide +kernel
theorem dJ9_max_7cf53_10 : decode cJ9_max_7cf53 10 = .ok (.ireturn, 1) := by decide +kernel
theorem dJ9_min_7cf53_0 : decode cJ9_min_7cf53 0 = .ok (.iload_n 0, 1) := by decide +kernel
theorem dJ9_min_7cf53_1 : decode cJ9_min_7cf53 1 = .ok (.iload_n 1, 1) := by decide +kernel
theorem dJ9_min_7cf53_2 : decode cJ9_min_7cf53 2 = .ok (.if_icmp .gt 7, 3) := by decide +kernel
theorem dJ9_min_7cf53_5 : decode cJ9_min_7cf53 5 = .ok (.iload_n 0, 1) := by decide +kernel
theorem dJ9_min_7cf53_6 : decode cJ9_min_7cf53 6 = .ok (.goto 4, 3) := by decide +kernel
theorem dJ9_min_7cf53_9 : decode cJ9_min_7cf53 9 = .ok (.iload_n 1, 1) := by decide +kernel
theorem dJ9_min_7cf53_10 : decode cJ9_min_7cf53 10 = .ok (.ireturn, 1) := by decide +kernel
theorem dJ7_fill_53178_0 : decode cJ7_fill_53178 0 = .ok (.iconst 0, 1) := by decide +kernel
theorem dJ7_fill_53178_1 : decode cJ7_fill_53178 1 = .ok (.istore_n 2, 1) := by decide +kernel
theorem dJ7_fill_53178_2 : decode cJ7_fill_53178 2 = .ok (.aload_n 0, 1) := by decide +kernel
theorem dJ7_fill_53178_3 : decode cJ7_fill_53178 3 = .ok (.arraylength, 1) := by decide +kernel
theorem dJ7_fill_53178_4 : decode cJ7_fill_53178 4 = .ok (.istore_n 3, 1) := by decide +kernel
theorem dJ7_fill_53178_5 : decode cJ7_fill_53178 5 = .ok (.iload_n 2, 1) := by decide +kernel
theorem dJ7_fill_53178_6 : decode cJ7_fill_53178 6 = .ok (.iload_n 3, 1) := by decide +kernel
theorem dJ7_fill_53178_7 : decode cJ7_fill_53178 7 = .ok (.if_icmp .ge 13, 3) := by decide +kernel
theorem dJ7_fill_53178_10 : decode cJ7_fill_53178 10 = .ok (.aload_n 0, 1) := by decide +kernel
theorem dJ7_fill_53178_11 : decode cJ7_fill_53178 11 = .ok (.iload_n 2, 1) := by decide +kernel
theorem dJ7_fill_53178_12 : decode cJ7_fill_53178 12 = .ok (.iload_n 1, 1) := by decide +kernel
theorem dJ7_fill_53178_13 : decode cJ7_fill_53178 13 = .ok (.iastore, 1) := by decide +kernel
theorem dJ7_fill_53178_14 : decode cJ7_fill_53178 14 = .ok (.iinc 2 1, 3) := by decide +kernel
theorem dJ7_fill_53178_17 : decode cJ7_fill_53178 17 = .ok (.goto (-12), 3) := by decide +kernel
theorem dJ7_fill_53178_20 : decode cJ7_fill_53178 20 = .ok (.return_, 1) := by decide +kernel
