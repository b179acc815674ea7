theorem dX11_init_0 : decode cX11_init 0 = .ok (.aload_n 0, 1) := by decide +kernel
theorem dX11_init_1 : decode cX11_init 1 = .ok (.invokespecial 1, 3) := by decide +kernel
theorem dX11_init_4 : decode cX11_init 4 = .ok (.aload_n 0, 1) := by decide +kernel
theorem dX11_init_5 : decode cX11_init 5 = .ok (.sipush 220, 3) := by decide +kernel
theorem dX11_init_8 : decode cX11_init 8 = .ok (.newarray .int, 2) := by decide +kernel
theorem dX11_init_10 : decode cX11_init 10 = .ok (.putfield 7, 3) := by decide +kernel
theorem dX11_init_13 : decode cX11_init 13 = .ok (.aload_n 0, 1) := by decide +kernel
theorem dX11_init_14 : decode cX11_init 14 = .ok (.iconst 2, 1) := by decide +kernel
theorem dX11_init_15 : decode cX11_init 15 = .ok (.newarray .boolean, 2) := by decide +kernel
theorem dX11_init_17 : decode cX11_init 17 = .ok (.putfield 13, 3) := by decide +kernel
theorem dX11_init_20 : decode cX11_init 20 = .ok (.aload_n 0, 1) := by decide +kernel
theorem dX11_init_21 : decode cX11_init 21 = .ok (.bipush 7, 2) := by decide +kernel
theorem dX11_init_23 : decode cX11_init 23 = .ok (.newarray .int, 2) := by decide +kernel
theorem dX11_init_25 : decode cX11_init 25 = .ok (.putfield 17, 3) := by decide +kernel
theorem dX11_init_28 : decode cX11_init 28 = .ok (.aload_n 0, 1) := by decide +kernel
theorem dX11_init_29 : decode cX11_init 29 = .ok (.bipush 7, 2) := by decide +kernel
theorem dX11_init_31 : decode cX11_init 31 = .ok (.newarray .int, 2) := by decide +kernel
theorem dX11_init_33 : decode cX11_init 33 = .ok (.putfield 20, 3) := by decide +kernel
theorem dX11_init_36 : decode cX11_init 36 = .ok (.aload_n 0, 1) := by decide +kernel
theorem dX11_init_37 : decode cX11_init 37 = .ok (.bipush 7, 2) := by decide +kernel
theorem dX11_init_39 : decode cX11_init 39 = .ok (.newarray .int, 2) := by decide +kernel
theorem dX11_init_41 : decode cX11_init 41 = .ok (.putfield 23, 3) := by decide +kernel
theorem dX11_init_44 : decode cX11_init 44 = .ok (.aload_n 0, 1) := by decide +kernel
theorem dX11_init_45 : decode cX11_init 45 = .ok (.sipush 240, 3) := by decide +kernel
theorem dX11_init_48 : decode cX11_init 48 = .ok (.newarray .int, 2) := by decide +kernel
theorem dX11_init_50 : decode cX11_init 50 = .ok (.putfield 26, 3) := by decide +kernel
theorem dX11_init_53 : decode cX11_init 53 = .ok (.aload_n 0, 1) := by decide +kernel
theorem dX11_init_54 : decode cX11_init 54 = .ok (.iconst (-1), 1) := by decide +kernel
theorem dX11_init_55 : decode cX11_init 55 = .ok (.putfield 29, 3) := by decide +kernel
theorem dX11_init_58 : decode cX11_init 58 = .ok (.aload_n 0, 1) := by decide +kernel
theorem dX11_init_59 : decode cX11_init 59 = .ok (.bipush 30, 2) := by decide +kernel
theorem dX11_init_61 : decode cX11_init 61 = .ok (.newarray .int, 2) := by decide +kernel
theorem dX11_init_63 : decode cX11_init 63 = .ok (.putfield 33, 3) := by decide +kernel
theorem dX11_init_66 : decode cX11_init 66 = .ok (.aload_n 0, 1) := by decide +kernel
theorem dX11_init_67 : decode cX11_init 67 = .ok (.bipush 21, 2) := by decide +kernel
theorem dX11_init_69 : decode cX11_init 69 = .ok (.newarray .int, 2) := by decide +kernel
theorem dX11_init_71 : decode cX11_init 71 = .ok (.putfield 36, 3) := by decide +kernel
theorem dX11_init_74 : decode cX11_init 74 = .ok (.aload_n 0, 1) := by decide +kernel
theorem dX11_init_75 : decode cX11_init 75 = .ok (.sipush 512, 3) := by decide +kernel
theorem dX11_init_78 : decode cX11_init 78 = .ok (.newarray .int, 2) := by decide +kernel
theorem dX11_init_80 : decode cX11_init 80 = .ok (.putfield 39, 3) := by decide +kernel
theorem dX11_init_83 : decode cX11_init 83 = .ok (.aload_n 0, 1) := by decide +kernel
theorem dX11_init_84 : decode cX11_init 84 = .ok (.bipush 7, 2) := by decide +kernel
theorem dX11_init_86 : decode cX11_init 86 = .ok (.newarray .int, 2) := by decide +kernel
theorem dX11_init_88 : decode cX11_init 88 = .ok (.putfield 42, 3) := by decide +kernel
theorem dX11_init_91 : decode cX11_init 91 = .ok (.aload_n 0, 1) := by decide +kernel
theorem dX11_init_92 : decode cX11_init 92 = .ok (.bipush 7, 2) := by decide +kernel
theorem dX11_init_94 : decode cX11_init 94 = .ok (.newarray .int, 2) := by decide +kernel
theorem dX11_init_96 : decode cX11_init 96 = .ok (.putfield 45, 3) := by decide +kernel
theorem dX11_init_99 : decode cX11_init 99 = .ok (.aload_n 0, 1) := by decide +kernel
theorem dX11_init_100 : decode cX11_init 100 = .ok (.bipush 8, 2) := by decide +kernel
theorem dX11_init_102 : decode cX11_init 102 = .ok (.newarray .int, 2) := by decide +kernel
theorem dX11_init_104 : decode cX11_init 104 = .ok (.putfield 48, 3) := by decide +kernel
theorem dX11_init_107 : decode cX11_init 107 = .ok (.aload_n 0, 1) := by decide +kernel
theorem dX11_init_108 : decode cX11_init 108 = .ok (.bipush 7, 2) := by decide +kernel
theorem dX11_init_110 : decode cX11_init 110 = .ok (.newarray .int, 2) := by decide +kernel
theorem dX11_init_112 : decode cX11_init 112 = .ok (.putfield 51, 3) := by decide +kernel
theorem dX11_init_115 : decode cX11_init 115 = .ok (.aload_n 0, 1) := by decide +kernel
theorem dX11_init_116 : decode cX11_init 116 = .ok (.bipush 7, 2) := by decide +kernel
theorem dX11_init_118 : decode cX11_init 118 = .ok (.newarray .int, 2) := by decide +kernel
theorem dX11_init_120 : decode cX11_init 120 = .ok (.putfield 54, 3) := by decide +kernel
theorem dX11_init_123 : decode cX11_init 123 = .ok (.aload_n 0, 1) := by decide +kernel
theorem dX11_init_124 : decode cX11_init 124 = .ok (.bipush 8, 2) := by decide +kernel
theorem dX11_init_126 : decode cX11_init 126 = .ok (.newarray .long, 2) := by decide +kernel
theorem dX11_init_128 : decode cX11_init 128 = .ok (.putfield 57, 3) := by decide +kernel
theorem dX11_init_131 : decode cX11_init 131 = .ok (.aload_n 0, 1) := by decide +kernel
theorem dX11_init_132 : decode cX11_init 132 = .ok (.bipush 15, 2) := by decide +kernel
theorem dX11_init_134 : decode cX11_init 134 = .ok (.newarray .int, 2) := by decide +kernel
theorem dX11_init_136 : decode cX11_init 136 = .ok (.putfield 61, 3) := by decide +kernel
theorem dX11_init_139 : decode cX11_init 139 = .ok (.aload_n 0, 1) := by decide +kernel
theorem dX11_init_140 : decode cX11_init 140 = .ok (.bipush 15, 2) := by decide +kernel
theorem dX11_init_142 : decode cX11_init 142 = .ok (.newarray .int, 2) := by decide +kernel
theorem dX11_init_144 : decode cX11_init 144 = .ok (.putfield 64, 3) := by decide +kernel
theorem dX11_init_147 : decode cX11_init 147 = .ok (.aload_n 0, 1) := by decide +kernel
theorem dX11_init_148 : decode cX11_init 148 = .ok (.bipush 15, 2) := by decide +kernel
theorem dX11_init_150 : decode cX11_init 150 = .ok (.newarray .int, 2) := by decide +kernel
theorem dX11_init_152 : decode cX11_init 152 = .ok (.putfield 67, 3) := by decide +kernel
theorem dX11_init_155 : decode cX11_init 155 = .ok (.aload_n 0, 1) := by decide +kernel
theorem dX11_init_156 : decode cX11_init 156 = .ok (.invokevirtual 70, 3) := by decide +kernel
theorem dX11_init_159 : decode cX11_init 159 = .ok (.return_, 1) := by decide +kernel
theorem dX11_in_0 : decode cX11_in 0 = .ok (.lload_n 0, 1) := by decide +kernel
theorem dX11_in_1 : decode cX11_in 1 = .ok (.lload_n 2, 1) := by decide +kernel
theorem dX11_in_2 : decode cX11_in 2 = .ok (.lcmp, 1) := by decide +kernel
theorem dX11_in_3 : decode cX11_in 3 = .ok (.ifCond .lt 14, 3) := by decide +kernel
theorem dX11_in_6 : decode cX11_in 6 = .ok (.lload_n 0, 1) := by decide +kernel
theorem dX11_in_7 : decode cX11_in 7 = .ok (.lload 4, 2) := by decide +kernel
theorem dX11_in_9 : decode cX11_in 9 = .ok (.lcmp, 1) := by decide +kernel
theorem dX11_in_10 : decode cX11_in 10 = .ok (.ifCond .gt 7, 3) := by decide +kernel
theorem dX11_in_13 : decode cX11_in 13 = .ok (.iconst 1, 1) := by decide +kernel
theorem dX11_in_14 : decode cX11_in 14 = .ok (.goto 4, 3) := by decide +kernel
theorem dX11_in_17 : decode cX11_in 17 = .ok (.iconst 0, 1) := by decide +kernel
theorem dX11_in_18 : decode cX11_in 18 = .ok (.ireturn, 1) := by decide +kernel
theorem dX11_has_0 : decode cX11_has 0 = .ok (.iload_n 0, 1) := by decide +kernel
theorem dX11_has_1 : decode cX11_has 1 = .ok (.iload_n 1, 1) := by decide +kernel
theorem dX11_has_2 : decode cX11_has 2 = .ok (.ishr, 1) := by decide +kernel
theorem dX11_has_3 : decode cX11_has 3 = .ok (.iconst 1, 1) := by decide +kernel
theorem dX11_has_4 : decode cX11_has 4 = .ok (.iand, 1) := by decide +kernel
theorem dX11_has_5 : decode cX11_has 5 = .ok (.iconst 1, 1) := by decide +kernel
theorem dX11_has_6 : decode cX11_has 6 = .ok (.if_icmp .ne 7, 3) := by decide +kernel
theorem dX11_has_9 : decode cX11_has 9 = .ok (.iconst 1, 1) := by decide +kernel
theorem dX11_has_10 : decode cX11_has 10 = .ok (.goto 4, 3) := by decide +kernel
theorem dX11_has_13 : decode cX11_has 13 = .ok (.iconst 0, 1) := by decide +kernel
theorem dX11_has_14 : decode cX11_has 14 = .ok (.ireturn, 1) := by decide +kernel
theorem dX11_ones_0 : decode cX11_ones 0 = .ok (.iconst 0, 1) := by decide +kernel
theorem dX11_ones_1 : decode cX11_ones 1 = .ok (.istore_n 1, 1) := by decide +kernel
theorem dX11_ones_2 : decode cX11_ones 2 = .ok (.iconst 0, 1) := by decide +kernel
theorem dX11_ones_3 : decode cX11_ones 3 = .ok (.istore_n 2, 1) := by decide +kernel
theorem dX11_ones_4 : decode cX11_ones 4 = .ok (.iload_n 2, 1) := by decide +kernel
theorem dX11_ones_5 : decode cX11_ones 5 = .ok (.bipush 7, 2) := by decide +kernel
theorem dX11_ones_7 : decode cX11_ones 7 = .ok (.if_icmp .ge 17, 3) := by decide +kernel
theorem dX11_ones_10 : decode cX11_ones 10 = .ok (.iload_n 1, 1) := by decide +kernel
theorem dX11_ones_11 : decode cX11_ones 11 = .ok (.iload_n 0, 1) := by decide +kernel
theorem dX11_ones_12 : decode cX11_ones 12 = .ok (.iload_n 2, 1) := by decide +kernel
theorem dX11_ones_13 : decode cX11_ones 13 = .ok (.ishr, 1) := by decide +kernel
theorem dX11_ones_14 : decode cX11_ones 14 = .ok (.iconst 1, 1) := by decide +kernel
theorem dX11_ones_15 : decode cX11_ones 15 = .ok (.iand, 1) := by decide +kernel
theorem dX11_ones_16 : decode cX11_ones 16 = .ok (.iadd, 1) := by decide +kernel
theorem dX11_ones_17 : decode cX11_ones 17 = .ok (.istore_n 1, 1) := by decide +kernel
theorem dX11_ones_18 : decode cX11_ones 18 = .ok (.iinc 2 1, 3) := by decide +kernel
theorem dX11_ones_21 : decode cX11_ones 21 = .ok (.goto (-17), 3) := by decide +kernel
theorem dX11_ones_24 : decode cX11_ones 24 = .ok (.iload_n 1, 1) := by decide +kernel
theorem dX11_ones_25 : decode cX11_ones 25 = .ok (.ireturn, 1) := by decide +kernel
theorem dX11_copy_0 : decode cX11_copy 0 = .ok (.iconst 0, 1) := by decide +kernel
theorem dX11_copy_1 : decode cX11_copy 1 = .ok (.istore_n 3, 1) := by decide +kernel
theorem dX11_copy_2 : decode cX11_copy 2 = .ok (.iload_n 3, 1) := by decide +kernel
theorem dX11_copy_3 : decode cX11_copy 3 = .ok (.bipush 55, 2) := by decide +kernel
theorem dX11_copy_5 : decode cX11_copy 5 = .ok (.if_icmp .ge 25, 3) := by decide +kernel
theorem dX11_copy_8 : decode cX11_copy 8 = .ok (.aload_n 0, 1) := by decide +kernel
theorem dX11_copy_9 : decode cX11_copy 9 = .ok (.getfield 7, 3) := by decide +kernel
theorem dX11_copy_12 : decode cX11_copy 12 = .ok (.iload_n 2, 1) := by decide +kernel
theorem dX11_copy_13 : decode cX11_copy 13 = .ok (.iload_n 3, 1) := by decide +kernel
theorem dX11_copy_14 : decode cX11_copy 14 = .ok (.iadd, 1) := by decide +kernel
theorem dX11_copy_15 : decode cX11_copy 15 = .ok (.aload_n 0, 1) := by decide +kernel
theorem dX11_copy_16 : decode cX11_copy 16 = .ok (.getfield 7, 3) := by decide +kernel
theorem dX11_copy_19 : decode cX11_copy 19 = .ok (.iload_n 1, 1) := by decide +kernel
theorem dX11_copy_20 : decode cX11_copy 20 = .ok (.iload_n 3, 1) := by decide +kernel
theorem dX11_copy_21 : decode cX11_copy 21 = .ok (.iadd, 1) := by decide +kernel
theorem dX11_copy_22 : decode cX11_copy 22 = .ok (.iaload, 1) := by decide +kernel
theorem dX11_copy_23 : decode cX11_copy 23 = .ok (.iastore, 1) := by decide +kernel
theorem dX11_copy_24 : decode cX11_copy 24 = .ok (.iinc 3 1, 3) := by decide +kernel
theorem dX11_copy_27 : decode cX11_copy 27 = .ok (.goto (-25), 3) := by decide +kernel
theorem dX11_copy_30 : decode cX11_copy 30 = .ok (.return_, 1) := by decide +kernel
theorem dX11_begins_0 : decode cX11_begins 0 = .ok (.aload_n 0, 1) := by decide +kernel
theorem dX11_begins_1 : decode cX11_begins 1 = .ok (.getfield 7, 3) := by decide +kernel
theorem dX11_begins_4 : decode cX11_begins 4 = .ok (.bipush 54, 2) := by decide +kernel
theorem dX11_begins_6 : decode cX11_begins 6 = .ok (.iaload, 1) := by decide +kernel
theorem dX11_begins_7 : decode cX11_begins 7 = .ok (.istore_n 1, 1) := by decide +kernel
theorem dX11_begins_8 : decode cX11_begins 8 = .ok (.iconst 0, 1) := by decide +kernel
theorem dX11_begins_9 : decode cX11_begins 9 = .ok (.istore_n 2, 1) := by decide +kernel
theorem dX11_begins_10 : decode cX11_begins 10 = .ok (.iload_n 2, 1) := by decide +kernel
theorem dX11_begins_11 : decode cX11_begins 11 = .ok (.bipush 55, 2) := by decide +kernel
theorem dX11_begins_13 : decode cX11_begins 13 = .ok (.if_icmp .ge 16, 3) := by decide +kernel
theorem dX11_begins_16 : decode cX11_begins 16 = .ok (.aload_n 0, 1) := by decide +kernel
theorem dX11_begins_17 : decode cX11_begins 17 = .ok (.getfield 7, 3) := by decide +kernel
theorem dX11_begins_20 : decode cX11_begins 20 = .ok (.iload_n 2, 1) := by decide +kernel
theorem dX11_begins_21 : decode cX11_begins 21 = .ok (.iconst 0, 1) := by decide +kernel
theorem dX11_begins_22 : decode cX11_begins 22 = .ok (.iastore, 1) := by decide +kernel
theorem dX11_begins_23 : decode cX11_begins 23 = .ok (.iinc 2 1, 3) := by decide +kernel
theorem dX11_begins_26 : decode cX11_begins 26 = .ok (.goto (-16), 3) := by decide +kernel
theorem dX11_begins_29 : decode cX11_begins 29 = .ok (.iconst 0, 1) := by decide +kernel
theorem dX11_begins_30 : decode cX11_begins 30 = .ok (.istore_n 2, 1) := by decide +kernel
theorem dX11_begins_31 : decode cX11_begins 31 = .ok (.iload_n 2, 1) := by decide +kernel
theorem dX11_begins_32 : decode cX11_begins 32 = .ok (.bipush 7, 2) := by decide +kernel
theorem dX11_begins_34 : decode cX11_begins 34 = .ok (.if_icmp .ge 29, 3) := by decide +kernel
theorem dX11_begins_37 : decode cX11_begins 37 = .ok (.aload_n 0, 1) := by decide +kernel
theorem dX11_begins_38 : decode cX11_begins 38 = .ok (.getfield 7, 3) := by decide +kernel
theorem dX11_begins_41 : decode cX11_begins 41 = .ok (.bipush 30, 2) := by decide +kernel
theorem dX11_begins_43 : decode cX11_begins 43 = .ok (.iload_n 2, 1) := by decide +kernel
theorem dX11_begins_44 : decode cX11_begins 44 = .ok (.iadd, 1) := by decide +kernel
theorem dX11_begins_45 : decode cX11_begins 45 = .ok (.iconst (-1), 1) := by decide +kernel
theorem dX11_begins_46 : decode cX11_begins 46 = .ok (.iastore, 1) := by decide +kernel
theorem dX11_begins_47 : decode cX11_begins 47 = .ok (.aload_n 0, 1) := by decide +kernel
theorem dX11_begins_48 : decode cX11_begins 48 = .ok (.getfield 7, 3) := by decide +kernel
theorem dX11_begins_51 : decode cX11_begins 51 = .ok (.bipush 37, 2) := by decide +kernel
theorem dX11_begins_53 : decode cX11_begins 53 = .ok (.iload_n 2, 1) := by decide +kernel
theorem dX11_begins_54 : decode cX11_begins 54 = .ok (.iadd, 1) := by decide +kernel
theorem dX11_begins_55 : decode cX11_begins 55 = .ok (.iconst (-1), 1) := by decide +kernel
theorem dX11_begins_56 : decode cX11_begins 56 = .ok (.iastore, 1) := by decide +kernel
theorem dX11_begins_57 : decode cX11_begins 57 = .ok (.iinc 2 1, 3) := by decide +kernel
theorem dX11_begins_60 : decode cX11_begins 60 = .ok (.goto (-29), 3) := by decide +kernel
theorem dX11_begins_63 : decode cX11_begins 63 = .ok (.aload_n 0, 1) := by decide +kernel
theorem dX11_begins_64 : decode cX11_begins 64 = .ok (.getfield 7, 3) := by decide +kernel
theorem dX11_begins_67 : decode cX11_begins 67 = .ok (.bipush 54, 2) := by decide +kernel
theorem dX11_begins_69 : decode cX11_begins 69 = .ok (.iload_n 1, 1) := by decide +kernel
theorem dX11_begins_70 : decode cX11_begins 70 = .ok (.iastore, 1) := by decide +kernel
theorem dX11_begins_71 : decode cX11_begins 71 = .ok (.return_, 1) := by decide +kernel
theorem dX11_isSleeper_0 : decode cX11_isSleeper 0 = .ok (.iload_n 1, 1) := by decide +kernel
theorem dX11_isSleeper_1 : decode cX11_isSleeper 1 = .ok (.i2l, 1) := by decide +kernel
theorem dX11_isSleeper_2 : decode cX11_isSleeper 2 = .ok (.lconst 0, 1) := by decide +kernel
theorem dX11_isSleeper_3 : decode cX11_isSleeper 3 = .ok (.aload_n 0, 1) := by decide +kernel
theorem dX11_isSleeper_4 : decode cX11_isSleeper 4 = .ok (.getfield 73, 3) := by decide +kernel
theorem dX11_isSleeper_7 : decode cX11_isSleeper 7 = .ok (.iconst 1, 1) := by decide +kernel
theorem dX11_isSleeper_8 : decode cX11_isSleeper 8 = .ok (.isub, 1) := by decide +kernel
theorem dX11_isSleeper_9 : decode cX11_isSleeper 9 = .ok (.i2l, 1) := by decide +kernel
theorem dX11_isSleeper_10 : decode cX11_isSleeper 10 = .ok (.invokestatic 76, 3) := by decide +kernel
theorem dX11_isSleeper_13 : decode cX11_isSleeper 13 = .ok (.ireturn, 1) := by decide +kernel
theorem dX11_isDream_0 : decode cX11_isDream 0 = .ok (.iload_n 1, 1) := by decide +kernel
theorem dX11_isDream_1 : decode cX11_isDream 1 = .ok (.i2l, 1) := by decide +kernel
theorem dX11_isDream_2 : decode cX11_isDream 2 = .ok (.lconst 0, 1) := by decide +kernel
theorem dX11_isDream_3 : decode cX11_isDream 3 = .ok (.aload_n 0, 1) := by decide +kernel
theorem dX11_isDream_4 : decode cX11_isDream 4 = .ok (.getfield 80, 3) := by decide +kernel
theorem dX11_isDream_7 : decode cX11_isDream 7 = .ok (.iconst 1, 1) := by decide +kernel
theorem dX11_isDream_8 : decode cX11_isDream 8 = .ok (.isub, 1) := by decide +kernel
theorem dX11_isDream_9 : decode cX11_isDream 9 = .ok (.i2l, 1) := by decide +kernel
theorem dX11_isDream_10 : decode cX11_isDream 10 = .ok (.invokestatic 76, 3) := by decide +kernel
theorem dX11_isDream_13 : decode cX11_isDream 13 = .ok (.ireturn, 1) := by decide +kernel
theorem dX11_isLoaf_0 : decode cX11_isLoaf 0 = .ok (.iload_n 1, 1) := by decide +kernel
theorem dX11_isLoaf_1 : decode cX11_isLoaf 1 = .ok (.i2l, 1) := by decide +kernel
theorem dX11_isLoaf_2 : decode cX11_isLoaf 2 = .ok (.lconst 0, 1) := by decide +kernel
theorem dX11_isLoaf_3 : decode cX11_isLoaf 3 = .ok (.aload_n 0, 1) := by decide +kernel
theorem dX11_isLoaf_4 : decode cX11_isLoaf 4 = .ok (.getfield 83, 3) := by decide +kernel
theorem dX11_isLoaf_7 : decode cX11_isLoaf 7 = .ok (.iconst 1, 1) := by decide +kernel
theorem dX11_isLoaf_8 : decode cX11_isLoaf 8 = .ok (.isub, 1) := by decide +kernel
theorem dX11_isLoaf_9 : decode cX11_isLoaf 9 = .ok (.i2l, 1) := by decide +kernel
theorem dX11_isLoaf_10 : decode cX11_isLoaf 10 = .ok (.invokestatic 76, 3) := by decide +kernel
theorem dX11_isLoaf_13 : decode cX11_isLoaf 13 = .ok (.ireturn, 1) := by decide +kernel
theorem dX11_feed_0 : decode cX11_feed 0 = .ok (.iload_n 1, 1) := by decide +kernel
theorem dX11_feed_1 : decode cX11_feed 1 = .ok (.i2l, 1) := by decide +kernel
theorem dX11_feed_2 : decode cX11_feed 2 = .ok (.lconst 0, 1) := by decide +kernel
theorem dX11_feed_3 : decode cX11_feed 3 = .ok (.ldc2_w 86, 3) := by decide +kernel
theorem dX11_feed_6 : decode cX11_feed 6 = .ok (.invokestatic 76, 3) := by decide +kernel
theorem dX11_feed_9 : decode cX11_feed 9 = .ok (.ifCond .ne 6, 3) := by decide +kernel
theorem dX11_feed_12 : decode cX11_feed 12 = .ok (.ldc 88, 2) := by decide +kernel
theorem dX11_feed_14 : decode cX11_feed 14 = .ok (.ireturn, 1) := by decide +kernel
theorem dX11_feed_15 : decode cX11_feed 15 = .ok (.aload_n 0, 1) := by decide +kernel
theorem dX11_feed_16 : decode cX11_feed 16 = .ok (.getfield 89, 3) := by decide +kernel
theorem dX11_feed_19 : decode cX11_feed 19 = .ok (.sipush 240, 3) := by decide +kernel
theorem dX11_feed_22 : decode cX11_feed 22 = .ok (.if_icmp .ne 6, 3) := by decide +kernel
theorem dX11_feed_25 : decode cX11_feed 25 = .ok (.ldc 92, 2) := by decide +kernel
theorem dX11_feed_27 : decode cX11_feed 27 = .ok (.ireturn, 1) := by decide +kernel
theorem dX11_feed_28 : decode cX11_feed 28 = .ok (.aload_n 0, 1) := by decide +kernel
theorem dX11_feed_29 : decode cX11_feed 29 = .ok (.getfield 26, 3) := by decide +kernel
theorem dX11_feed_32 : decode cX11_feed 32 = .ok (.aload_n 0, 1) := by decide +kernel
theorem dX11_feed_33 : decode cX11_feed 33 = .ok (.getfield 89, 3) := by decide +kernel
theorem dX11_feed_36 : decode cX11_feed 36 = .ok (.iload_n 1, 1) := by decide +kernel
theorem dX11_feed_37 : decode cX11_feed 37 = .ok (.iastore, 1) := by decide +kernel
theorem dX11_feed_38 : decode cX11_feed 38 = .ok (.aload_n 0, 1) := by decide +kernel
theorem dX11_feed_39 : decode cX11_feed 39 = .ok (.dup, 1) := by decide +kernel
theorem dX11_feed_40 : decode cX11_feed 40 = .ok (.getfield 89, 3) := by decide +kernel
theorem dX11_feed_43 : decode cX11_feed 43 = .ok (.iconst 1, 1) := by decide +kernel
theorem dX11_feed_44 : decode cX11_feed 44 = .ok (.iadd, 1) := by decide +kernel
theorem dX11_feed_45 : decode cX11_feed 45 = .ok (.putfield 89, 3) := by decide +kernel
theorem dX11_feed_48 : decode cX11_feed 48 = .ok (.aload_n 0, 1) := by decide +kernel
theorem dX11_feed_49 : decode cX11_feed 49 = .ok (.getfield 89, 3) := by decide +kernel
theorem dX11_feed_52 : decode cX11_feed 52 = .ok (.ireturn, 1) := by decide +kernel
theorem dX11_letterAt_0 : decode cX11_letterAt 0 = .ok (.iload_n 1, 1) := by decide +kernel
theorem dX11_letterAt_1 : decode cX11_letterAt 1 = .ok (.aload_n 0, 1) := by decide +kernel
theorem dX11_letterAt_2 : decode cX11_letterAt 2 = .ok (.getfield 89, 3) := by decide +kernel
theorem dX11_letterAt_5 : decode cX11_letterAt 5 = .ok (.if_icmp .ge 12, 3) := by decide +kernel
theorem dX11_letterAt_8 : decode cX11_letterAt 8 = .ok (.aload_n 0, 1) := by decide +kernel
theorem dX11_letterAt_9 : decode cX11_letterAt 9 = .ok (.getfield 26, 3) := by decide +kernel
theorem dX11_letterAt_12 : decode cX11_letterAt 12 = .ok (.iload_n 1, 1) := by decide +kernel
theorem dX11_letterAt_13 : decode cX11_letterAt 13 = .ok (.iaload, 1) := by decide +kernel
theorem dX11_letterAt_14 : decode cX11_letterAt 14 = .ok (.goto 4, 3) := by decide +kernel
theorem dX11_letterAt_17 : decode cX11_letterAt 17 = .ok (.iconst (-1), 1) := by decide +kernel
theorem dX11_letterAt_18 : decode cX11_letterAt 18 = .ok (.ireturn, 1) := by decide +kernel
theorem dX11_here_0 : decode cX11_here 0 = .ok (.aload_n 0, 1) := by decide +kernel
theorem dX11_here_1 : decode cX11_here 1 = .ok (.aload_n 0, 1) := by decide +kernel
theorem dX11_here_2 : decode cX11_here 2 = .ok (.getfield 93, 3) := by decide +kernel
theorem dX11_here_5 : decode cX11_here 5 = .ok (.invokevirtual 96, 3) := by decide +kernel
theorem dX11_here_8 : decode cX11_here 8 = .ok (.bipush 32, 2) := by decide +kernel
theorem dX11_here_10 : decode cX11_here 10 = .ok (.if_icmp .ne 16, 3) := by decide +kernel
theorem dX11_here_13 : decode cX11_here 13 = .ok (.aload_n 0, 1) := by decide +kernel
theorem dX11_here_14 : decode cX11_here 14 = .ok (.dup, 1) := by decide +kernel
theorem dX11_here_15 : decode cX11_here 15 = .ok (.getfield 93, 3) := by decide +kernel
theorem dX11_here_18 : decode cX11_here 18 = .ok (.iconst 1, 1) := by decide +kernel
theorem dX11_here_19 : decode cX11_here 19 = .ok (.iadd, 1) := by decide +kernel
theorem dX11_here_20 : decode cX11_here 20 = .ok (.putfield 93, 3) := by decide +kernel
theorem dX11_here_23 : decode cX11_here 23 = .ok (.goto (-23), 3) := by decide +kernel
theorem dX11_here_26 : decode cX11_here 26 = .ok (.aload_n 0, 1) := by decide +kernel
theorem dX11_here_27 : decode cX11_here 27 = .ok (.aload_n 0, 1) := by decide +kernel
theorem dX11_here_28 : decode cX11_here 28 = .ok (.getfield 93, 3) := by decide +kernel
theorem dX11_here_31 : decode cX11_here 31 = .ok (.putfield 100, 3) := by decide +kernel
theorem dX11_here_34 : decode cX11_here 34 = .ok (.aload_n 0, 1) := by decide +kernel
theorem dX11_here_35 : decode cX11_here 35 = .ok (.aload_n 0, 1) := by decide +kernel
theorem dX11_here_36 : decode cX11_here 36 = .ok (.getfield 93, 3) := by decide +kernel
theorem dX11_here_39 : decode cX11_here 39 = .ok (.invokevirtual 96, 3) := by decide +kernel
theorem dX11_here_42 : decode cX11_here 42 = .ok (.ireturn, 1) := by decide +kernel
theorem dX11_fails_0 : decode cX11_fails 0 = .ok (.aload_n 0, 1) := by decide +kernel
theorem dX11_fails_1 : decode cX11_fails 1 = .ok (.iload_n 1, 1) := by decide +kernel
theorem dX11_fails_2 : decode cX11_fails 2 = .ok (.putfield 103, 3) := by decide +kernel
theorem dX11_fails_5 : decode cX11_fails 5 = .ok (.aload_n 0, 1) := by decide +kernel
theorem dX11_fails_6 : decode cX11_fails 6 = .ok (.iload_n 2, 1) := by decide +kernel
theorem dX11_fails_7 : decode cX11_fails 7 = .ok (.putfield 29, 3) := by decide +kernel
theorem dX11_fails_10 : decode cX11_fails 10 = .ok (.iconst 0, 1) := by decide +kernel
theorem dX11_fails_11 : decode cX11_fails 11 = .ok (.ireturn, 1) := by decide +kernel
theorem dX11_takes_0 : decode cX11_takes 0 = .ok (.aload_n 0, 1) := by decide +kernel
theorem dX11_takes_1 : decode cX11_takes 1 = .ok (.invokevirtual 106, 3) := by decide +kernel
theorem dX11_takes_4 : decode cX11_takes 4 = .ok (.iload_n 1, 1) := by decide +kernel
theorem dX11_takes_5 : decode cX11_takes 5 = .ok (.if_icmp .eq 13, 3) := by decide +kernel
theorem dX11_takes_8 : decode cX11_takes 8 = .ok (.aload_n 0, 1) := by decide +kernel
theorem dX11_takes_9 : decode cX11_takes 9 = .ok (.iconst 1, 1) := by decide +kernel
theorem dX11_takes_10 : decode cX11_takes 10 = .ok (.aload_n 0, 1) := by decide +kernel
theorem dX11_takes_11 : decode cX11_takes 11 = .ok (.getfield 100, 3) := by decide +kernel
theorem dX11_takes_14 : decode cX11_takes 14 = .ok (.invokevirtual 110, 3) := by decide +kernel
theorem dX11_takes_17 : decode cX11_takes 17 = .ok (.ireturn, 1) := by decide +kernel
theorem dX11_takes_18 : decode cX11_takes 18 = .ok (.aload_n 0, 1) := by decide +kernel
theorem dX11_takes_19 : decode cX11_takes 19 = .ok (.dup, 1) := by decide +kernel
theorem dX11_takes_20 : decode cX11_takes 20 = .ok (.getfield 93, 3) := by decide +kernel
theorem dX11_takes_23 : decode cX11_takes 23 = .ok (.iconst 1, 1) := by decide +kernel
theorem dX11_takes_24 : decode cX11_takes 24 = .ok (.iadd, 1) := by decide +kernel
theorem dX11_takes_25 : decode cX11_takes 25 = .ok (.putfield 93, 3) := by decide +kernel
theorem dX11_takes_28 : decode cX11_takes 28 = .ok (.iconst 1, 1) := by decide +kernel
theorem dX11_takes_29 : decode cX11_takes 29 = .ok (.ireturn, 1) := by decide +kernel
theorem dX11_takesNumber_0 : decode cX11_takesNumber 0 = .ok (.aload_n 0, 1) := by decide +kernel
theorem dX11_takesNumber_1 : decode cX11_takesNumber 1 = .ok (.invokevirtual 106, 3) := by decide +kernel
theorem dX11_takesNumber_4 : decode cX11_takesNumber 4 = .ok (.i2l, 1) := by decide +kernel
theorem dX11_takesNumber_5 : decode cX11_takesNumber 5 = .ok (.ldc2_w 114, 3) := by decide +kernel
theorem dX11_takesNumber_8 : decode cX11_takesNumber 8 = .ok (.ldc2_w 116, 3) := by decide +kernel
theorem dX11_takesNumber_11 : decode cX11_takesNumber 11 = .ok (.invokestatic 76, 3) := by decide +kernel
theorem dX11_takesNumber_14 : decode cX11_takesNumber 14 = .ok (.ifCond .ne 13, 3) := by decide +kernel
theorem dX11_takesNumber_17 : decode cX11_takesNumber 17 = .ok (.aload_n 0, 1) := by decide +kernel
theorem dX11_takesNumber_18 : decode cX11_takesNumber 18 = .ok (.iconst 1, 1) := by decide +kernel
theorem dX11_takesNumber_19 : decode cX11_takesNumber 19 = .ok (.aload_n 0, 1) := by decide +kernel
theorem dX11_takesNumber_20 : decode cX11_takesNumber 20 = .ok (.getfield 100, 3) := by decide +kernel
theorem dX11_takesNumber_23 : decode cX11_takesNumber 23 = .ok (.invokevirtual 110, 3) := by decide +kernel
theorem dX11_takesNumber_26 : decode cX11_takesNumber 26 = .ok (.ireturn, 1) := by decide +kernel
theorem dX11_takesNumber_27 : decode cX11_takesNumber 27 = .ok (.aload_n 0, 1) := by decide +kernel
theorem dX11_takesNumber_28 : decode cX11_takesNumber 28 = .ok (.iconst 0, 1) := by decide +kernel
theorem dX11_takesNumber_29 : decode cX11_takesNumber 29 = .ok (.putfield 118, 3) := by decide +kernel
theorem dX11_takesNumber_32 : decode cX11_takesNumber 32 = .ok (.aload_n 0, 1) := by decide +kernel
theorem dX11_takesNumber_33 : decode cX11_takesNumber 33 = .ok (.aload_n 0, 1) := by decide +kernel
theorem dX11_takesNumber_34 : decode cX11_takesNumber 34 = .ok (.getfield 93, 3) := by decide +kernel
theorem dX11_takesNumber_37 : decode cX11_takesNumber 37 = .ok (.invokevirtual 96, 3) := by decide +kernel
theorem dX11_takesNumber_40 : decode cX11_takesNumber 40 = .ok (.i2l, 1) := by decide +kernel
theorem dX11_takesNumber_41 : decode cX11_takesNumber 41 = .ok (.ldc2_w 114, 3) := by decide +kernel
theorem dX11_takesNumber_44 : decode cX11_takesNumber 44 = .ok (.ldc2_w 116, 3) := by decide +kernel
theorem dX11_takesNumber_47 : decode cX11_takesNumber 47 = .ok (.invokestatic 76, 3) := by decide +kernel
theorem dX11_takesNumber_50 : decode cX11_takesNumber 50 = .ok (.ifCond .eq 59, 3) := by decide +kernel
theorem dX11_takesNumber_53 : decode cX11_takesNumber 53 = .ok (.aload_n 0, 1) := by decide +kernel
theorem dX11_takesNumber_54 : decode cX11_takesNumber 54 = .ok (.aload_n 0, 1) := by decide +kernel
theorem dX11_takesNumber_55 : decode cX11_takesNumber 55 = .ok (.getfield 93, 3) := by decide +kernel
theorem dX11_takesNumber_58 : decode cX11_takesNumber 58 = .ok (.aload_n 0, 1) := by decide +kernel
theorem dX11_takesNumber_59 : decode cX11_takesNumber 59 = .ok (.getfield 100, 3) := by decide +kernel
theorem dX11_takesNumber_62 : decode cX11_takesNumber 62 = .ok (.isub, 1) := by decide +kernel
theorem dX11_takesNumber_63 : decode cX11_takesNumber 63 = .ok (.iconst 3, 1) := by decide +kernel
theorem dX11_takesNumber_64 : decode cX11_takesNumber 64 = .ok (.if_icmp .ge 25, 3) := by decide +kernel
theorem dX11_takesNumber_67 : decode cX11_takesNumber 67 = .ok (.bipush 10, 2) := by decide +kernel
theorem dX11_takesNumber_69 : decode cX11_takesNumber 69 = .ok (.aload_n 0, 1) := by decide +kernel
theorem dX11_takesNumber_70 : decode cX11_takesNumber 70 = .ok (.getfield 118, 3) := by decide +kernel
theorem dX11_takesNumber_73 : decode cX11_takesNumber 73 = .ok (.imul, 1) := by decide +kernel
theorem dX11_takesNumber_74 : decode cX11_takesNumber 74 = .ok (.aload_n 0, 1) := by decide +kernel
theorem dX11_takesNumber_75 : decode cX11_takesNumber 75 = .ok (.aload_n 0, 1) := by decide +kernel
theorem dX11_takesNumber_76 : decode cX11_takesNumber 76 = .ok (.getfield 93, 3) := by decide +kernel
theorem dX11_takesNumber_79 : decode cX11_takesNumber 79 = .ok (.invokevirtual 96, 3) := by decide +kernel
theorem dX11_takesNumber_82 : decode cX11_takesNumber 82 = .ok (.iadd, 1) := by decide +kernel
theorem dX11_takesNumber_83 : decode cX11_takesNumber 83 = .ok (.bipush 48, 2) := by decide +kernel
theorem dX11_takesNumber_85 : decode cX11_takesNumber 85 = .ok (.isub, 1) := by decide +kernel
theorem dX11_takesNumber_86 : decode cX11_takesNumber 86 = .ok (.goto 7, 3) := by decide +kernel
theorem dX11_takesNumber_89 : decode cX11_takesNumber 89 = .ok (.aload_n 0, 1) := by decide +kernel
theorem dX11_takesNumber_90 : decode cX11_takesNumber 90 = .ok (.getfield 118, 3) := by decide +kernel
theorem dX11_takesNumber_93 : decode cX11_takesNumber 93 = .ok (.putfield 118, 3) := by decide +kernel
theorem dX11_takesNumber_96 : decode cX11_takesNumber 96 = .ok (.aload_n 0, 1) := by decide +kernel
theorem dX11_takesNumber_97 : decode cX11_takesNumber 97 = .ok (.dup, 1) := by decide +kernel
theorem dX11_takesNumber_98 : decode cX11_takesNumber 98 = .ok (.getfield 93, 3) := by decide +kernel
theorem dX11_takesNumber_101 : decode cX11_takesNumber 101 = .ok (.iconst 1, 1) := by decide +kernel
theorem dX11_takesNumber_102 : decode cX11_takesNumber 102 = .ok (.iadd, 1) := by decide +kernel
theorem dX11_takesNumber_103 : decode cX11_takesNumber 103 = .ok (.putfield 93, 3) := by decide +kernel
theorem dX11_takesNumber_106 : decode cX11_takesNumber 106 = .ok (.goto (-74), 3) := by decide +kernel
theorem dX11_takesNumber_109 : decode cX11_takesNumber 109 = .ok (.aload_n 0, 1) := by decide +kernel
theorem dX11_takesNumber_110 : decode cX11_takesNumber 110 = .ok (.getfield 93, 3) := by decide +kernel
theorem dX11_takesNumber_113 : decode cX11_takesNumber 113 = .ok (.aload_n 0, 1) := by decide +kernel
theorem dX11_takesNumber_114 : decode cX11_takesNumber 114 = .ok (.getfield 100, 3) := by decide +kernel
theorem dX11_takesNumber_117 : decode cX11_takesNumber 117 = .ok (.isub, 1) := by decide +kernel
theorem dX11_takesNumber_118 : decode cX11_takesNumber 118 = .ok (.iconst 4, 1) := by decide +kernel
theorem dX11_takesNumber_119 : decode cX11_takesNumber 119 = .ok (.if_icmp .ge 18, 3) := by decide +kernel
theorem dX11_takesNumber_122 : decode cX11_takesNumber 122 = .ok (.aload_n 0, 1) := by decide +kernel
theorem dX11_takesNumber_123 : decode cX11_takesNumber 123 = .ok (.getfield 118, 3) := by decide +kernel
theorem dX11_takesNumber_126 : decode cX11_takesNumber 126 = .ok (.i2l, 1) := by decide +kernel
theorem dX11_takesNumber_127 : decode cX11_takesNumber 127 = .ok (.iload_n 1, 1) := by decide +kernel
theorem dX11_takesNumber_128 : decode cX11_takesNumber 128 = .ok (.i2l, 1) := by decide +kernel
theorem dX11_takesNumber_129 : decode cX11_takesNumber 129 = .ok (.iload_n 2, 1) := by decide +kernel
theorem dX11_takesNumber_130 : decode cX11_takesNumber 130 = .ok (.i2l, 1) := by decide +kernel
theorem dX11_takesNumber_131 : decode cX11_takesNumber 131 = .ok (.invokestatic 76, 3) := by decide +kernel
theorem dX11_takesNumber_134 : decode cX11_takesNumber 134 = .ok (.ifCond .ne 15, 3) := by decide +kernel
theorem dX11_takesNumber_137 : decode cX11_takesNumber 137 = .ok (.aload_n 0, 1) := by decide +kernel
theorem dX11_takesNumber_138 : decode cX11_takesNumber 138 = .ok (.iconst 2, 1) := by decide +kernel
theorem dX11_takesNumber_139 : decode cX11_takesNumber 139 = .ok (.aload_n 0, 1) := by decide +kernel
theorem dX11_takesNumber_140 : decode cX11_takesNumber 140 = .ok (.getfield 100, 3) := by decide +kernel
theorem dX11_takesNumber_143 : decode cX11_takesNumber 143 = .ok (.invokevirtual 110, 3) := by decide +kernel
theorem dX11_takesNumber_146 : decode cX11_takesNumber 146 = .ok (.ifCond .eq 7, 3) := by decide +kernel
theorem dX11_takesNumber_149 : decode cX11_takesNumber 149 = .ok (.iconst 1, 1) := by decide +kernel
theorem dX11_takesNumber_150 : decode cX11_takesNumber 150 = .ok (.goto 4, 3) := by decide +kernel
theorem dX11_takesNumber_153 : decode cX11_takesNumber 153 = .ok (.iconst 0, 1) := by decide +kernel
theorem dX11_takesNumber_154 : decode cX11_takesNumber 154 = .ok (.ireturn, 1) := by decide +kernel
theorem dX11_takesDreams_0 : decode cX11_takesDreams 0 = .ok (.aload_n 0, 1) := by decide +kernel
theorem dX11_takesDreams_1 : decode cX11_takesDreams 1 = .ok (.iconst 2, 1) := by decide +kernel
theorem dX11_takesDreams_2 : decode cX11_takesDreams 2 = .ok (.iconst 5, 1) := by decide +kernel
theorem dX11_takesDreams_3 : decode cX11_takesDreams 3 = .ok (.invokevirtual 121, 3) := by decide +kernel
theorem dX11_takesDreams_6 : decode cX11_takesDreams 6 = .ok (.ifCond .ne 5, 3) := by decide +kernel
theorem dX11_takesDreams_9 : decode cX11_takesDreams 9 = .ok (.iconst 0, 1) := by decide +kernel
theorem dX11_takesDreams_10 : decode cX11_takesDreams 10 = .ok (.ireturn, 1) := by decide +kernel
theorem dX11_takesDreams_11 : decode cX11_takesDreams 11 = .ok (.aload_n 0, 1) := by decide +kernel
theorem dX11_takesDreams_12 : decode cX11_takesDreams 12 = .ok (.aload_n 0, 1) := by decide +kernel
theorem dX11_takesDreams_13 : decode cX11_takesDreams 13 = .ok (.getfield 118, 3) := by decide +kernel
theorem dX11_takesDreams_16 : decode cX11_takesDreams 16 = .ok (.putfield 124, 3) := by decide +kernel
theorem dX11_takesDreams_19 : decode cX11_takesDreams 19 = .ok (.aload_n 0, 1) := by decide +kernel
theorem dX11_takesDreams_20 : decode cX11_takesDreams 20 = .ok (.iconst 0, 1) := by decide +kernel
theorem dX11_takesDreams_21 : decode cX11_takesDreams 21 = .ok (.iconst 5, 1) := by decide +kernel
theorem dX11_takesDreams_22 : decode cX11_takesDreams 22 = .ok (.invokevirtual 121, 3) := by decide +kernel
theorem dX11_takesDreams_25 : decode cX11_takesDreams 25 = .ok (.ifCond .ne 5, 3) := by decide +kernel
theorem dX11_takesDreams_28 : decode cX11_takesDreams 28 = .ok (.iconst 0, 1) := by decide +kernel
theorem dX11_takesDreams_29 : decode cX11_takesDreams 29 = .ok (.ireturn, 1) := by decide +kernel
theorem dX11_takesDreams_30 : decode cX11_takesDreams 30 = .ok (.aload_n 0, 1) := by decide +kernel
theorem dX11_takesDreams_31 : decode cX11_takesDreams 31 = .ok (.aload_n 0, 1) := by decide +kernel
theorem dX11_takesDreams_32 : decode cX11_takesDreams 32 = .ok (.getfield 118, 3) := by decide +kernel
theorem dX11_takesDreams_35 : decode cX11_takesDreams 35 = .ok (.putfield 127, 3) := by decide +kernel
theorem dX11_takesDreams_38 : decode cX11_takesDreams 38 = .ok (.iconst 1, 1) := by decide +kernel
theorem dX11_takesDreams_39 : decode cX11_takesDreams 39 = .ok (.ireturn, 1) := by decide +kernel
theorem dX11_takesSleeper_0 : decode cX11_takesSleeper 0 = .ok (.iconst 0, 1) := by decide +kernel
theorem dX11_takesSleeper_1 : decode cX11_takesSleeper 1 = .ok (.istore_n 1, 1) := by decide +kernel
theorem dX11_takesSleeper_2 : decode cX11_takesSleeper 2 = .ok (.iconst 0, 1) := by decide +kernel
theorem dX11_takesSleeper_3 : decode cX11_takesSleeper 3 = .ok (.istore_n 2, 1) := by decide +kernel
theorem dX11_takesSleeper_4 : decode cX11_takesSleeper 4 = .ok (.iload_n 2, 1) := by decide +kernel
theorem dX11_takesSleeper_5 : decode cX11_takesSleeper 5 = .ok (.aload_n 0, 1) := by decide +kernel
theorem dX11_takesSleeper_6 : decode cX11_takesSleeper 6 = .ok (.getfield 124, 3) := by decide +kernel
theorem dX11_takesSleeper_9 : decode cX11_takesSleeper 9 = .ok (.if_icmp .ge 58, 3) := by decide +kernel
theorem dX11_takesSleeper_12 : decode cX11_takesSleeper 12 = .ok (.iload_n 2, 1) := by decide +kernel
theorem dX11_takesSleeper_13 : decode cX11_takesSleeper 13 = .ok (.ifCond .le 12, 3) := by decide +kernel
theorem dX11_takesSleeper_16 : decode cX11_takesSleeper 16 = .ok (.aload_n 0, 1) := by decide +kernel
theorem dX11_takesSleeper_17 : decode cX11_takesSleeper 17 = .ok (.bipush 44, 2) := by decide +kernel
theorem dX11_takesSleeper_19 : decode cX11_takesSleeper 19 = .ok (.invokevirtual 130, 3) := by decide +kernel
theorem dX11_takesSleeper_22 : decode cX11_takesSleeper 22 = .ok (.ifCond .eq 13, 3) := by decide +kernel
theorem dX11_takesSleeper_25 : decode cX11_takesSleeper 25 = .ok (.aload_n 0, 1) := by decide +kernel
theorem dX11_takesSleeper_26 : decode cX11_takesSleeper 26 = .ok (.iconst 0, 1) := by decide +kernel
theorem dX11_takesSleeper_27 : decode cX11_takesSleeper 27 = .ok (.bipush 9, 2) := by decide +kernel
theorem dX11_takesSleeper_29 : decode cX11_takesSleeper 29 = .ok (.invokevirtual 121, 3) := by decide +kernel
theorem dX11_takesSleeper_32 : decode cX11_takesSleeper 32 = .ok (.ifCond .ne 5, 3) := by decide +kernel
theorem dX11_takesSleeper_35 : decode cX11_takesSleeper 35 = .ok (.iconst 0, 1) := by decide +kernel
theorem dX11_takesSleeper_36 : decode cX11_takesSleeper 36 = .ok (.ireturn, 1) := by decide +kernel
theorem dX11_takesSleeper_37 : decode cX11_takesSleeper 37 = .ok (.aload_n 0, 1) := by decide +kernel
theorem dX11_takesSleeper_38 : decode cX11_takesSleeper 38 = .ok (.getfield 33, 3) := by decide +kernel
theorem dX11_takesSleeper_41 : decode cX11_takesSleeper 41 = .ok (.iconst 5, 1) := by decide +kernel
theorem dX11_takesSleeper_42 : decode cX11_takesSleeper 42 = .ok (.aload_n 0, 1) := by decide +kernel
theorem dX11_takesSleeper_43 : decode cX11_takesSleeper 43 = .ok (.getfield 134, 3) := by decide +kernel
theorem dX11_takesSleeper_46 : decode cX11_takesSleeper 46 = .ok (.imul, 1) := by decide +kernel
theorem dX11_takesSleeper_47 : decode cX11_takesSleeper 47 = .ok (.iload_n 2, 1) := by decide +kernel
theorem dX11_takesSleeper_48 : decode cX11_takesSleeper 48 = .ok (.iadd, 1) := by decide +kernel
theorem dX11_takesSleeper_49 : decode cX11_takesSleeper 49 = .ok (.aload_n 0, 1) := by decide +kernel
theorem dX11_takesSleeper_50 : decode cX11_takesSleeper 50 = .ok (.getfield 118, 3) := by decide +kernel
theorem dX11_takesSleeper_53 : decode cX11_takesSleeper 53 = .ok (.iastore, 1) := by decide +kernel
theorem dX11_takesSleeper_54 : decode cX11_takesSleeper 54 = .ok (.iload_n 1, 1) := by decide +kernel
theorem dX11_takesSleeper_55 : decode cX11_takesSleeper 55 = .ok (.aload_n 0, 1) := by decide +kernel
theorem dX11_takesSleeper_56 : decode cX11_takesSleeper 56 = .ok (.getfield 118, 3) := by decide +kernel
theorem dX11_takesSleeper_59 : decode cX11_takesSleeper 59 = .ok (.iadd, 1) := by decide +kernel
theorem dX11_takesSleeper_60 : decode cX11_takesSleeper 60 = .ok (.istore_n 1, 1) := by decide +kernel
theorem dX11_takesSleeper_61 : decode cX11_takesSleeper 61 = .ok (.iinc 2 1, 3) := by decide +kernel
theorem dX11_takesSleeper_64 : decode cX11_takesSleeper 64 = .ok (.goto (-60), 3) := by decide +kernel
theorem dX11_takesSleeper_67 : decode cX11_takesSleeper 67 = .ok (.aload_n 0, 1) := by decide +kernel
theorem dX11_takesSleeper_68 : decode cX11_takesSleeper 68 = .ok (.dup, 1) := by decide +kernel
theorem dX11_takesSleeper_69 : decode cX11_takesSleeper 69 = .ok (.getfield 134, 3) := by decide +kernel
theorem dX11_takesSleeper_72 : decode cX11_takesSleeper 72 = .ok (.iconst 1, 1) := by decide +kernel
theorem dX11_takesSleeper_73 : decode cX11_takesSleeper 73 = .ok (.iadd, 1) := by decide +kernel
theorem dX11_takesSleeper_74 : decode cX11_takesSleeper 74 = .ok (.putfield 134, 3) := by decide +kernel
theorem dX11_takesSleeper_77 : decode cX11_takesSleeper 77 = .ok (.iload_n 1, 1) := by decide +kernel
theorem dX11_takesSleeper_78 : decode cX11_takesSleeper 78 = .ok (.ifCond .gt 15, 3) := by decide +kernel
theorem dX11_takesSleeper_81 : decode cX11_takesSleeper 81 = .ok (.aload_n 0, 1) := by decide +kernel
theorem dX11_takesSleeper_82 : decode cX11_takesSleeper 82 = .ok (.iconst 4, 1) := by decide +kernel
theorem dX11_takesSleeper_83 : decode cX11_takesSleeper 83 = .ok (.aload_n 0, 1) := by decide +kernel
theorem dX11_takesSleeper_84 : decode cX11_takesSleeper 84 = .ok (.getfield 100, 3) := by decide +kernel
theorem dX11_takesSleeper_87 : decode cX11_takesSleeper 87 = .ok (.invokevirtual 110, 3) := by decide +kernel
theorem dX11_takesSleeper_90 : decode cX11_takesSleeper 90 = .ok (.ifCond .eq 7, 3) := by decide +kernel
theorem dX11_takesSleeper_93 : decode cX11_takesSleeper 93 = .ok (.iconst 1, 1) := by decide +kernel
theorem dX11_takesSleeper_94 : decode cX11_takesSleeper 94 = .ok (.goto 4, 3) := by decide +kernel
theorem dX11_takesSleeper_97 : decode cX11_takesSleeper 97 = .ok (.iconst 0, 1) := by decide +kernel
theorem dX11_takesSleeper_98 : decode cX11_takesSleeper 98 = .ok (.ireturn, 1) := by decide +kernel
theorem dX11_takesLoaf_0 : decode cX11_takesLoaf 0 = .ok (.iconst 3, 1) := by decide +kernel
theorem dX11_takesLoaf_1 : decode cX11_takesLoaf 1 = .ok (.aload_n 0, 1) := by decide +kernel
theorem dX11_takesLoaf_2 : decode cX11_takesLoaf 2 = .ok (.getfield 137, 3) := by decide +kernel
theorem dX11_takesLoaf_5 : decode cX11_takesLoaf 5 = .ok (.imul, 1) := by decide +kernel
theorem dX11_takesLoaf_6 : decode cX11_takesLoaf 6 = .ok (.istore_n 1, 1) := by decide +kernel
theorem dX11_takesLoaf_7 : decode cX11_takesLoaf 7 = .ok (.iconst 0, 1) := by decide +kernel
theorem dX11_takesLoaf_8 : decode cX11_takesLoaf 8 = .ok (.istore_n 2, 1) := by decide +kernel
theorem dX11_takesLoaf_9 : decode cX11_takesLoaf 9 = .ok (.iload_n 2, 1) := by decide +kernel
theorem dX11_takesLoaf_10 : decode cX11_takesLoaf 10 = .ok (.iconst 3, 1) := by decide +kernel
theorem dX11_takesLoaf_11 : decode cX11_takesLoaf 11 = .ok (.if_icmp .ge 60, 3) := by decide +kernel
theorem dX11_takesLoaf_14 : decode cX11_takesLoaf 14 = .ok (.aload_n 0, 1) := by decide +kernel
theorem dX11_takesLoaf_15 : decode cX11_takesLoaf 15 = .ok (.iconst 0, 1) := by decide +kernel
theorem dX11_takesLoaf_16 : decode cX11_takesLoaf 16 = .ok (.iload_n 2, 1) := by decide +kernel
theorem dX11_takesLoaf_17 : decode cX11_takesLoaf 17 = .ok (.ifCond .ne 12, 3) := by decide +kernel
theorem dX11_takesLoaf_20 : decode cX11_takesLoaf 20 = .ok (.aload_n 0, 1) := by decide +kernel
theorem dX11_takesLoaf_21 : decode cX11_takesLoaf 21 = .ok (.getfield 134, 3) := by decide +kernel
theorem dX11_takesLoaf_24 : decode cX11_takesLoaf 24 = .ok (.iconst 1, 1) := by decide +kernel
theorem dX11_takesLoaf_25 : decode cX11_takesLoaf 25 = .ok (.isub, 1) := by decide +kernel
theorem dX11_takesLoaf_26 : decode cX11_takesLoaf 26 = .ok (.goto 19, 3) := by decide +kernel
theorem dX11_takesLoaf_29 : decode cX11_takesLoaf 29 = .ok (.iload_n 2, 1) := by decide +kernel
theorem dX11_takesLoaf_30 : decode cX11_takesLoaf 30 = .ok (.iconst 1, 1) := by decide +kernel
theorem dX11_takesLoaf_31 : decode cX11_takesLoaf 31 = .ok (.if_icmp .ne 12, 3) := by decide +kernel
theorem dX11_takesLoaf_34 : decode cX11_takesLoaf 34 = .ok (.aload_n 0, 1) := by decide +kernel
theorem dX11_takesLoaf_35 : decode cX11_takesLoaf 35 = .ok (.getfield 124, 3) := by decide +kernel
theorem dX11_takesLoaf_38 : decode cX11_takesLoaf 38 = .ok (.iconst 1, 1) := by decide +kernel
theorem dX11_takesLoaf_39 : decode cX11_takesLoaf 39 = .ok (.isub, 1) := by decide +kernel
theorem dX11_takesLoaf_40 : decode cX11_takesLoaf 40 = .ok (.goto 5, 3) := by decide +kernel
theorem dX11_takesLoaf_43 : decode cX11_takesLoaf 43 = .ok (.bipush 99, 2) := by decide +kernel
theorem dX11_takesLoaf_45 : decode cX11_takesLoaf 45 = .ok (.invokevirtual 121, 3) := by decide +kernel
theorem dX11_takesLoaf_48 : decode cX11_takesLoaf 48 = .ok (.ifCond .ne 5, 3) := by decide +kernel
theorem dX11_takesLoaf_51 : decode cX11_takesLoaf 51 = .ok (.iconst 0, 1) := by decide +kernel
theorem dX11_takesLoaf_52 : decode cX11_takesLoaf 52 = .ok (.ireturn, 1) := by decide +kernel
theorem dX11_takesLoaf_53 : decode cX11_takesLoaf 53 = .ok (.aload_n 0, 1) := by decide +kernel
theorem dX11_takesLoaf_54 : decode cX11_takesLoaf 54 = .ok (.getfield 36, 3) := by decide +kernel
theorem dX11_takesLoaf_57 : decode cX11_takesLoaf 57 = .ok (.iload_n 1, 1) := by decide +kernel
theorem dX11_takesLoaf_58 : decode cX11_takesLoaf 58 = .ok (.iload_n 2, 1) := by decide +kernel
theorem dX11_takesLoaf_59 : decode cX11_takesLoaf 59 = .ok (.iadd, 1) := by decide +kernel
theorem dX11_takesLoaf_60 : decode cX11_takesLoaf 60 = .ok (.aload_n 0, 1) := by decide +kernel
theorem dX11_takesLoaf_61 : decode cX11_takesLoaf 61 = .ok (.getfield 118, 3) := by decide +kernel
theorem dX11_takesLoaf_64 : decode cX11_takesLoaf 64 = .ok (.iastore, 1) := by decide +kernel
theorem dX11_takesLoaf_65 : decode cX11_takesLoaf 65 = .ok (.iinc 2 1, 3) := by decide +kernel
theorem dX11_takesLoaf_68 : decode cX11_takesLoaf 68 = .ok (.goto (-59), 3) := by decide +kernel
theorem dX11_takesLoaf_71 : decode cX11_takesLoaf 71 = .ok (.aload_n 0, 1) := by decide +kernel
theorem dX11_takesLoaf_72 : decode cX11_takesLoaf 72 = .ok (.dup, 1) := by decide +kernel
theorem dX11_takesLoaf_73 : decode cX11_takesLoaf 73 = .ok (.getfield 137, 3) := by decide +kernel
theorem dX11_takesLoaf_76 : decode cX11_takesLoaf 76 = .ok (.iconst 1, 1) := by decide +kernel
theorem dX11_takesLoaf_77 : decode cX11_takesLoaf 77 = .ok (.iadd, 1) := by decide +kernel
theorem dX11_takesLoaf_78 : decode cX11_takesLoaf 78 = .ok (.putfield 137, 3) := by decide +kernel
theorem dX11_takesLoaf_81 : decode cX11_takesLoaf 81 = .ok (.iconst 1, 1) := by decide +kernel
theorem dX11_takesLoaf_82 : decode cX11_takesLoaf 82 = .ok (.ireturn, 1) := by decide +kernel
theorem dX11_takesMare_0 : decode cX11_takesMare 0 = .ok (.aload_n 0, 1) := by decide +kernel
theorem dX11_takesMare_1 : decode cX11_takesMare 1 = .ok (.iconst 1, 1) := by decide +kernel
theorem dX11_takesMare_2 : decode cX11_takesMare 2 = .ok (.putfield 140, 3) := by decide +kernel
theorem dX11_takesMare_5 : decode cX11_takesMare 5 = .ok (.aload_n 0, 1) := by decide +kernel
theorem dX11_takesMare_6 : decode cX11_takesMare 6 = .ok (.iconst 0, 1) := by decide +kernel
theorem dX11_takesMare_7 : decode cX11_takesMare 7 = .ok (.aload_n 0, 1) := by decide +kernel
theorem dX11_takesMare_8 : decode cX11_takesMare 8 = .ok (.getfield 124, 3) := by decide +kernel
theorem dX11_takesMare_11 : decode cX11_takesMare 11 = .ok (.iconst 1, 1) := by decide +kernel
theorem dX11_takesMare_12 : decode cX11_takesMare 12 = .ok (.isub, 1) := by decide +kernel
theorem dX11_takesMare_13 : decode cX11_takesMare 13 = .ok (.invokevirtual 121, 3) := by decide +kernel
theorem dX11_takesMare_16 : decode cX11_takesMare 16 = .ok (.ifCond .ne 5, 3) := by decide +kernel
theorem dX11_takesMare_19 : decode cX11_takesMare 19 = .ok (.iconst 0, 1) := by decide +kernel
theorem dX11_takesMare_20 : decode cX11_takesMare 20 = .ok (.ireturn, 1) := by decide +kernel
theorem dX11_takesMare_21 : decode cX11_takesMare 21 = .ok (.aload_n 0, 1) := by decide +kernel
theorem dX11_takesMare_22 : decode cX11_takesMare 22 = .ok (.aload_n 0, 1) := by decide +kernel
theorem dX11_takesMare_23 : decode cX11_takesMare 23 = .ok (.getfield 118, 3) := by decide +kernel
theorem dX11_takesMare_26 : decode cX11_takesMare 26 = .ok (.putfield 144, 3) := by decide +kernel
theorem dX11_takesMare_29 : decode cX11_takesMare 29 = .ok (.iconst 1, 1) := by decide +kernel
theorem dX11_takesMare_30 : decode cX11_takesMare 30 = .ok (.ireturn, 1) := by decide +kernel
theorem dX11_takesClause_0 : decode cX11_takesClause 0 = .ok (.aload_n 0, 1) := by decide +kernel
theorem dX11_takesClause_1 : decode cX11_takesClause 1 = .ok (.invokevirtual 106, 3) := by decide +kernel
theorem dX11_takesClause_4 : decode cX11_takesClause 4 = .ok (.istore_n 1, 1) := by decide +kernel
theorem dX11_takesClause_5 : decode cX11_takesClause 5 = .ok (.iload_n 1, 1) := by decide +kernel
theorem dX11_takesClause_6 : decode cX11_takesClause 6 = .ok (.bipush 100, 2) := by decide +kernel
theorem dX11_takesClause_8 : decode cX11_takesClause 8 = .ok (.if_icmp .eq 28, 3) := by decide +kernel
theorem dX11_takesClause_11 : decode cX11_takesClause 11 = .ok (.aload_n 0, 1) := by decide +kernel
theorem dX11_takesClause_12 : decode cX11_takesClause 12 = .ok (.getfield 124, 3) := by decide +kernel
theorem dX11_takesClause_15 : decode cX11_takesClause 15 = .ok (.ifCond .le 25, 3) := by decide +kernel
theorem dX11_takesClause_18 : decode cX11_takesClause 18 = .ok (.iload_n 1, 1) := by decide +kernel
theorem dX11_takesClause_19 : decode cX11_takesClause 19 = .ok (.bipush 115, 2) := by decide +kernel
theorem dX11_takesClause_21 : decode cX11_takesClause 21 = .ok (.if_icmp .eq 15, 3) := by decide +kernel
theorem dX11_takesClause_24 : decode cX11_takesClause 24 = .ok (.iload_n 1, 1) := by decide +kernel
theorem dX11_takesClause_25 : decode cX11_takesClause 25 = .ok (.bipush 108, 2) := by decide +kernel
theorem dX11_takesClause_27 : decode cX11_takesClause 27 = .ok (.if_icmp .eq 9, 3) := by decide +kernel
theorem dX11_takesClause_30 : decode cX11_takesClause 30 = .ok (.iload_n 1, 1) := by decide +kernel
theorem dX11_takesClause_31 : decode cX11_takesClause 31 = .ok (.bipush 110, 2) := by decide +kernel
theorem dX11_takesClause_33 : decode cX11_takesClause 33 = .ok (.if_icmp .ne 7, 3) := by decide +kernel
theorem dX11_takesClause_36 : decode cX11_takesClause 36 = .ok (.iconst 1, 1) := by decide +kernel
theorem dX11_takesClause_37 : decode cX11_takesClause 37 = .ok (.goto 4, 3) := by decide +kernel
theorem dX11_takesClause_40 : decode cX11_takesClause 40 = .ok (.iconst 0, 1) := by decide +kernel
theorem dX11_takesClause_41 : decode cX11_takesClause 41 = .ok (.istore_n 2, 1) := by decide +kernel
theorem dX11_takesClause_42 : decode cX11_takesClause 42 = .ok (.iload_n 2, 1) := by decide +kernel
theorem dX11_takesClause_43 : decode cX11_takesClause 43 = .ok (.ifCond .ne 13, 3) := by decide +kernel
theorem dX11_takesClause_46 : decode cX11_takesClause 46 = .ok (.aload_n 0, 1) := by decide +kernel
theorem dX11_takesClause_47 : decode cX11_takesClause 47 = .ok (.iconst 1, 1) := by decide +kernel
theorem dX11_takesClause_48 : decode cX11_takesClause 48 = .ok (.aload_n 0, 1) := by decide +kernel
theorem dX11_takesClause_49 : decode cX11_takesClause 49 = .ok (.getfield 100, 3) := by decide +kernel
theorem dX11_takesClause_52 : decode cX11_takesClause 52 = .ok (.invokevirtual 110, 3) := by decide +kernel
theorem dX11_takesClause_55 : decode cX11_takesClause 55 = .ok (.ireturn, 1) := by decide +kernel
theorem dX11_takesClause_56 : decode cX11_takesClause 56 = .ok (.iload_n 1, 1) := by decide +kernel
theorem dX11_takesClause_57 : decode cX11_takesClause 57 = .ok (.bipush 100, 2) := by decide +kernel
theorem dX11_takesClause_59 : decode cX11_takesClause 59 = .ok (.if_icmp .ne 18, 3) := by decide +kernel
theorem dX11_takesClause_62 : decode cX11_takesClause 62 = .ok (.aload_n 0, 1) := by decide +kernel
theorem dX11_takesClause_63 : decode cX11_takesClause 63 = .ok (.getfield 124, 3) := by decide +kernel
theorem dX11_takesClause_66 : decode cX11_takesClause 66 = .ok (.ifCond .le 7, 3) := by decide +kernel
theorem dX11_takesClause_69 : decode cX11_takesClause 69 = .ok (.iconst 1, 1) := by decide +kernel
theorem dX11_takesClause_70 : decode cX11_takesClause 70 = .ok (.goto 57, 3) := by decide +kernel
theorem dX11_takesClause_73 : decode cX11_takesClause 73 = .ok (.iconst 0, 1) := by decide +kernel
theorem dX11_takesClause_74 : decode cX11_takesClause 74 = .ok (.goto 53, 3) := by decide +kernel
theorem dX11_takesClause_77 : decode cX11_takesClause 77 = .ok (.iload_n 1, 1) := by decide +kernel
theorem dX11_takesClause_78 : decode cX11_takesClause 78 = .ok (.bipush 115, 2) := by decide +kernel
theorem dX11_takesClause_80 : decode cX11_takesClause 80 = .ok (.if_icmp .ne 20, 3) := by decide +kernel
theorem dX11_takesClause_83 : decode cX11_takesClause 83 = .ok (.aload_n 0, 1) := by decide +kernel
theorem dX11_takesClause_84 : decode cX11_takesClause 84 = .ok (.getfield 134, 3) := by decide +kernel
theorem dX11_takesClause_87 : decode cX11_takesClause 87 = .ok (.bipush 6, 2) := by decide +kernel
theorem dX11_takesClause_89 : decode cX11_takesClause 89 = .ok (.if_icmp .ne 7, 3) := by decide +kernel
theorem dX11_takesClause_92 : decode cX11_takesClause 92 = .ok (.iconst 1, 1) := by decide +kernel
theorem dX11_takesClause_93 : decode cX11_takesClause 93 = .ok (.goto 34, 3) := by decide +kernel
theorem dX11_takesClause_96 : decode cX11_takesClause 96 = .ok (.iconst 0, 1) := by decide +kernel
theorem dX11_takesClause_97 : decode cX11_takesClause 97 = .ok (.goto 30, 3) := by decide +kernel
theorem dX11_takesClause_100 : decode cX11_takesClause 100 = .ok (.iload_n 1, 1) := by decide +kernel
theorem dX11_takesClause_101 : decode cX11_takesClause 101 = .ok (.bipush 108, 2) := by decide +kernel
theorem dX11_takesClause_103 : decode cX11_takesClause 103 = .ok (.if_icmp .ne 20, 3) := by decide +kernel
theorem dX11_takesClause_106 : decode cX11_takesClause 106 = .ok (.aload_n 0, 1) := by decide +kernel
theorem dX11_takesClause_107 : decode cX11_takesClause 107 = .ok (.getfield 137, 3) := by decide +kernel
theorem dX11_takesClause_110 : decode cX11_takesClause 110 = .ok (.bipush 7, 2) := by decide +kernel
theorem dX11_takesClause_112 : decode cX11_takesClause 112 = .ok (.if_icmp .ne 7, 3) := by decide +kernel
theorem dX11_takesClause_115 : decode cX11_takesClause 115 = .ok (.iconst 1, 1) := by decide +kernel
theorem dX11_takesClause_116 : decode cX11_takesClause 116 = .ok (.goto 11, 3) := by decide +kernel
theorem dX11_takesClause_119 : decode cX11_takesClause 119 = .ok (.iconst 0, 1) := by decide +kernel
theorem dX11_takesClause_120 : decode cX11_takesClause 120 = .ok (.goto 7, 3) := by decide +kernel
theorem dX11_takesClause_123 : decode cX11_takesClause 123 = .ok (.aload_n 0, 1) := by decide +kernel
theorem dX11_takesClause_124 : decode cX11_takesClause 124 = .ok (.getfield 140, 3) := by decide +kernel
theorem dX11_takesClause_127 : decode cX11_takesClause 127 = .ok (.istore_n 3, 1) := by decide +kernel
theorem dX11_takesClause_128 : decode cX11_takesClause 128 = .ok (.iload_n 3, 1) := by decide +kernel
theorem dX11_takesClause_129 : decode cX11_takesClause 129 = .ok (.ifCond .eq 13, 3) := by decide +kernel
theorem dX11_takesClause_132 : decode cX11_takesClause 132 = .ok (.aload_n 0, 1) := by decide +kernel
theorem dX11_takesClause_133 : decode cX11_takesClause 133 = .ok (.iconst 3, 1) := by decide +kernel
theorem dX11_takesClause_134 : decode cX11_takesClause 134 = .ok (.aload_n 0, 1) := by decide +kernel
theorem dX11_takesClause_135 : decode cX11_takesClause 135 = .ok (.getfield 100, 3) := by decide +kernel
theorem dX11_takesClause_138 : decode cX11_takesClause 138 = .ok (.invokevirtual 110, 3) := by decide +kernel
theorem dX11_takesClause_141 : decode cX11_takesClause 141 = .ok (.ireturn, 1) := by decide +kernel
theorem dX11_takesClause_142 : decode cX11_takesClause 142 = .ok (.aload_n 0, 1) := by decide +kernel
theorem dX11_takesClause_143 : decode cX11_takesClause 143 = .ok (.dup, 1) := by decide +kernel
theorem dX11_takesClause_144 : decode cX11_takesClause 144 = .ok (.getfield 93, 3) := by decide +kernel
theorem dX11_takesClause_147 : decode cX11_takesClause 147 = .ok (.iconst 1, 1) := by decide +kernel
theorem dX11_takesClause_148 : decode cX11_takesClause 148 = .ok (.iadd, 1) := by decide +kernel
theorem dX11_takesClause_149 : decode cX11_takesClause 149 = .ok (.putfield 93, 3) := by decide +kernel
theorem dX11_takesClause_152 : decode cX11_takesClause 152 = .ok (.iload_n 1, 1) := by decide +kernel
theorem dX11_takesClause_153 : decode cX11_takesClause 153 = .ok (.bipush 100, 2) := by decide +kernel
theorem dX11_takesClause_155 : decode cX11_takesClause 155 = .ok (.if_icmp .ne 10, 3) := by decide +kernel
theorem dX11_takesClause_158 : decode cX11_takesClause 158 = .ok (.aload_n 0, 1) := by decide +kernel
theorem dX11_takesClause_159 : decode cX11_takesClause 159 = .ok (.invokevirtual 147, 3) := by decide +kernel
theorem dX11_takesClause_162 : decode cX11_takesClause 162 = .ok (.goto 33, 3) := by decide +kernel
theorem dX11_takesClause_165 : decode cX11_takesClause 165 = .ok (.iload_n 1, 1) := by decide +kernel
theorem dX11_takesClause_166 : decode cX11_takesClause 166 = .ok (.bipush 115, 2) := by decide +kernel
theorem dX11_takesClause_168 : decode cX11_takesClause 168 = .ok (.if_icmp .ne 10, 3) := by decide +kernel
theorem dX11_takesClause_171 : decode cX11_takesClause 171 = .ok (.aload_n 0, 1) := by decide +kernel
theorem dX11_takesClause_172 : decode cX11_takesClause 172 = .ok (.invokevirtual 151, 3) := by decide +kernel
theorem dX11_takesClause_175 : decode cX11_takesClause 175 = .ok (.goto 20, 3) := by decide +kernel
theorem dX11_takesClause_178 : decode cX11_takesClause 178 = .ok (.iload_n 1, 1) := by decide +kernel
theorem dX11_takesClause_179 : decode cX11_takesClause 179 = .ok (.bipush 108, 2) := by decide +kernel
theorem dX11_takesClause_181 : decode cX11_takesClause 181 = .ok (.if_icmp .ne 10, 3) := by decide +kernel
theorem dX11_takesClause_184 : decode cX11_takesClause 184 = .ok (.aload_n 0, 1) := by decide +kernel
theorem dX11_takesClause_185 : decode cX11_takesClause 185 = .ok (.invokevirtual 154, 3) := by decide +kernel
theorem dX11_takesClause_188 : decode cX11_takesClause 188 = .ok (.goto 7, 3) := by decide +kernel
theorem dX11_takesClause_191 : decode cX11_takesClause 191 = .ok (.aload_n 0, 1) := by decide +kernel
theorem dX11_takesClause_192 : decode cX11_takesClause 192 = .ok (.invokevirtual 157, 3) := by decide +kernel
theorem dX11_takesClause_195 : decode cX11_takesClause 195 = .ok (.istore 4, 2) := by decide +kernel
theorem dX11_takesClause_197 : decode cX11_takesClause 197 = .ok (.iload 4, 2) := by decide +kernel
theorem dX11_takesClause_199 : decode cX11_takesClause 199 = .ok (.ifCond .eq 16, 3) := by decide +kernel
theorem dX11_takesClause_202 : decode cX11_takesClause 202 = .ok (.aload_n 0, 1) := by decide +kernel
theorem dX11_takesClause_203 : decode cX11_takesClause 203 = .ok (.bipush 59, 2) := by decide +kernel
theorem dX11_takesClause_205 : decode cX11_takesClause 205 = .ok (.invokevirtual 130, 3) := by decide +kernel
theorem dX11_takesClause_208 : decode cX11_takesClause 208 = .ok (.ifCond .eq 7, 3) := by decide +kernel
theorem dX11_takesClause_211 : decode cX11_takesClause 211 = .ok (.iconst 1, 1) := by decide +kernel
theorem dX11_takesClause_212 : decode cX11_takesClause 212 = .ok (.goto 4, 3) := by decide +kernel
theorem dX11_takesClause_215 : decode cX11_takesClause 215 = .ok (.iconst 0, 1) := by decide +kernel
theorem dX11_takesClause_216 : decode cX11_takesClause 216 = .ok (.ireturn, 1) := by decide +kernel
theorem dX11_street_0 : decode cX11_street 0 = .ok (.aload_n 0, 1) := by decide +kernel
theorem dX11_street_1 : decode cX11_street 1 = .ok (.iconst 0, 1) := by decide +kernel
theorem dX11_street_2 : decode cX11_street 2 = .ok (.putfield 93, 3) := by decide +kernel
theorem dX11_street_5 : decode cX11_street 5 = .ok (.aload_n 0, 1) := by decide +kernel
theorem dX11_street_6 : decode cX11_street 6 = .ok (.iconst 0, 1) := by decide +kernel
theorem dX11_street_7 : decode cX11_street 7 = .ok (.putfield 103, 3) := by decide +kernel
theorem dX11_street_10 : decode cX11_street 10 = .ok (.aload_n 0, 1) := by decide +kernel
theorem dX11_street_11 : decode cX11_street 11 = .ok (.iconst (-1), 1) := by decide +kernel
theorem dX11_street_12 : decode cX11_street 12 = .ok (.putfield 29, 3) := by decide +kernel
theorem dX11_street_15 : decode cX11_street 15 = .ok (.aload_n 0, 1) := by decide +kernel
theorem dX11_street_16 : decode cX11_street 16 = .ok (.iconst 0, 1) := by decide +kernel
theorem dX11_street_17 : decode cX11_street 17 = .ok (.putfield 124, 3) := by decide +kernel
theorem dX11_street_20 : decode cX11_street 20 = .ok (.aload_n 0, 1) := by decide +kernel
theorem dX11_street_21 : decode cX11_street 21 = .ok (.iconst 0, 1) := by decide +kernel
theorem dX11_street_22 : decode cX11_street 22 = .ok (.putfield 127, 3) := by decide +kernel
theorem dX11_street_25 : decode cX11_street 25 = .ok (.aload_n 0, 1) := by decide +kernel
theorem dX11_street_26 : decode cX11_street 26 = .ok (.iconst 0, 1) := by decide +kernel
theorem dX11_street_27 : decode cX11_street 27 = .ok (.putfield 134, 3) := by decide +kernel
theorem dX11_street_30 : decode cX11_street 30 = .ok (.aload_n 0, 1) := by decide +kernel
theorem dX11_street_31 : decode cX11_street 31 = .ok (.iconst 0, 1) := by decide +kernel
theorem dX11_street_32 : decode cX11_street 32 = .ok (.putfield 137, 3) := by decide +kernel
theorem dX11_street_35 : decode cX11_street 35 = .ok (.aload_n 0, 1) := by decide +kernel
theorem dX11_street_36 : decode cX11_street 36 = .ok (.iconst 0, 1) := by decide +kernel
theorem dX11_street_37 : decode cX11_street 37 = .ok (.putfield 144, 3) := by decide +kernel
theorem dX11_street_40 : decode cX11_street 40 = .ok (.aload_n 0, 1) := by decide +kernel
theorem dX11_street_41 : decode cX11_street 41 = .ok (.iconst 0, 1) := by decide +kernel
theorem dX11_street_42 : decode cX11_street 42 = .ok (.putfield 140, 3) := by decide +kernel
theorem dX11_street_45 : decode cX11_street 45 = .ok (.iconst 1, 1) := by decide +kernel
theorem dX11_street_46 : decode cX11_street 46 = .ok (.istore_n 1, 1) := by decide +kernel
theorem dX11_street_47 : decode cX11_street 47 = .ok (.iload_n 1, 1) := by decide +kernel
theorem dX11_street_48 : decode cX11_street 48 = .ok (.ifCond .eq 19, 3) := by decide +kernel
theorem dX11_street_51 : decode cX11_street 51 = .ok (.aload_n 0, 1) := by decide +kernel
theorem dX11_street_52 : decode cX11_street 52 = .ok (.invokevirtual 106, 3) := by decide +kernel
theorem dX11_street_55 : decode cX11_street 55 = .ok (.iconst (-1), 1) := by decide +kernel
theorem dX11_street_56 : decode cX11_street 56 = .ok (.if_icmp .eq 11, 3) := by decide +kernel
theorem dX11_street_59 : decode cX11_street 59 = .ok (.aload_n 0, 1) := by decide +kernel
theorem dX11_street_60 : decode cX11_street 60 = .ok (.invokevirtual 160, 3) := by decide +kernel
theorem dX11_street_63 : decode cX11_street 63 = .ok (.istore_n 1, 1) := by decide +kernel
theorem dX11_street_64 : decode cX11_street 64 = .ok (.goto (-17), 3) := by decide +kernel
theorem dX11_street_67 : decode cX11_street 67 = .ok (.aload_n 0, 1) := by decide +kernel
theorem dX11_street_68 : decode cX11_street 68 = .ok (.iconst 0, 1) := by decide +kernel
theorem dX11_street_69 : decode cX11_street 69 = .ok (.putfield 89, 3) := by decide +kernel
theorem dX11_street_72 : decode cX11_street 72 = .ok (.iload_n 1, 1) := by decide +kernel
theorem dX11_street_73 : decode cX11_street 73 = .ok (.ifCond .ne 11, 3) := by decide +kernel
theorem dX11_street_76 : decode cX11_street 76 = .ok (.bipush (-10), 2) := by decide +kernel
theorem dX11_street_78 : decode cX11_street 78 = .ok (.aload_n 0, 1) := by decide +kernel
theorem dX11_street_79 : decode cX11_street 79 = .ok (.getfield 103, 3) := by decide +kernel
theorem dX11_street_82 : decode cX11_street 82 = .ok (.isub, 1) := by decide +kernel
theorem dX11_street_83 : decode cX11_street 83 = .ok (.ireturn, 1) := by decide +kernel
theorem dX11_street_84 : decode cX11_street 84 = .ok (.aload_n 0, 1) := by decide +kernel
theorem dX11_street_85 : decode cX11_street 85 = .ok (.aload_n 0, 1) := by decide +kernel
theorem dX11_street_86 : decode cX11_street 86 = .ok (.getfield 124, 3) := by decide +kernel
theorem dX11_street_89 : decode cX11_street 89 = .ok (.putfield 80, 3) := by decide +kernel
theorem dX11_street_92 : decode cX11_street 92 = .ok (.aload_n 0, 1) := by decide +kernel
theorem dX11_street_93 : decode cX11_street 93 = .ok (.aload_n 0, 1) := by decide +kernel
theorem dX11_street_94 : decode cX11_street 94 = .ok (.getfield 127, 3) := by decide +kernel
theorem dX11_street_97 : decode cX11_street 97 = .ok (.putfield 163, 3) := by decide +kernel
theorem dX11_street_100 : decode cX11_street 100 = .ok (.aload_n 0, 1) := by decide +kernel
theorem dX11_street_101 : decode cX11_street 101 = .ok (.aload_n 0, 1) := by decide +kernel
theorem dX11_street_102 : decode cX11_street 102 = .ok (.getfield 134, 3) := by decide +kernel
theorem dX11_street_105 : decode cX11_street 105 = .ok (.putfield 73, 3) := by decide +kernel
theorem dX11_street_108 : decode cX11_street 108 = .ok (.aload_n 0, 1) := by decide +kernel
theorem dX11_street_109 : decode cX11_street 109 = .ok (.aload_n 0, 1) := by decide +kernel
theorem dX11_street_110 : decode cX11_street 110 = .ok (.getfield 137, 3) := by decide +kernel
theorem dX11_street_113 : decode cX11_street 113 = .ok (.putfield 83, 3) := by decide +kernel
theorem dX11_street_116 : decode cX11_street 116 = .ok (.aload_n 0, 1) := by decide +kernel
theorem dX11_street_117 : decode cX11_street 117 = .ok (.aload_n 0, 1) := by decide +kernel
theorem dX11_street_118 : decode cX11_street 118 = .ok (.getfield 144, 3) := by decide +kernel
theorem dX11_street_121 : decode cX11_street 121 = .ok (.putfield 166, 3) := by decide +kernel
theorem dX11_street_124 : decode cX11_street 124 = .ok (.aload_n 0, 1) := by decide +kernel
theorem dX11_street_125 : decode cX11_street 125 = .ok (.invokevirtual 70, 3) := by decide +kernel
theorem dX11_street_128 : decode cX11_street 128 = .ok (.iconst 0, 1) := by decide +kernel
theorem dX11_street_129 : decode cX11_street 129 = .ok (.istore_n 2, 1) := by decide +kernel
theorem dX11_street_130 : decode cX11_street 130 = .ok (.iload_n 2, 1) := by decide +kernel
theorem dX11_street_131 : decode cX11_street 131 = .ok (.aload_n 0, 1) := by decide +kernel
theorem dX11_street_132 : decode cX11_street 132 = .ok (.getfield 73, 3) := by decide +kernel
theorem dX11_street_135 : decode cX11_street 135 = .ok (.if_icmp .ge 47, 3) := by decide +kernel
theorem dX11_street_138 : decode cX11_street 138 = .ok (.iconst 0, 1) := by decide +kernel
theorem dX11_street_139 : decode cX11_street 139 = .ok (.istore_n 3, 1) := by decide +kernel
theorem dX11_street_140 : decode cX11_street 140 = .ok (.iload_n 3, 1) := by decide +kernel
theorem dX11_street_141 : decode cX11_street 141 = .ok (.aload_n 0, 1) := by decide +kernel
theorem dX11_street_142 : decode cX11_street 142 = .ok (.getfield 80, 3) := by decide +kernel
theorem dX11_street_145 : decode cX11_street 145 = .ok (.if_icmp .ge 31, 3) := by decide +kernel
theorem dX11_street_148 : decode cX11_street 148 = .ok (.aload_n 0, 1) := by decide +kernel
theorem dX11_street_149 : decode cX11_street 149 = .ok (.getfield 7, 3) := by decide +kernel
theorem dX11_street_152 : decode cX11_street 152 = .ok (.iconst 0, 1) := by decide +kernel
theorem dX11_street_153 : decode cX11_street 153 = .ok (.iconst 5, 1) := by decide +kernel
theorem dX11_street_154 : decode cX11_street 154 = .ok (.iload_n 2, 1) := by decide +kernel
theorem dX11_street_155 : decode cX11_street 155 = .ok (.imul, 1) := by decide +kernel
theorem dX11_street_156 : decode cX11_street 156 = .ok (.iadd, 1) := by decide +kernel
theorem dX11_street_157 : decode cX11_street 157 = .ok (.iload_n 3, 1) := by decide +kernel
theorem dX11_street_158 : decode cX11_street 158 = .ok (.iadd, 1) := by decide +kernel
theorem dX11_street_159 : decode cX11_street 159 = .ok (.aload_n 0, 1) := by decide +kernel
theorem dX11_street_160 : decode cX11_street 160 = .ok (.getfield 33, 3) := by decide +kernel
theorem dX11_street_163 : decode cX11_street 163 = .ok (.iconst 5, 1) := by decide +kernel
theorem dX11_street_164 : decode cX11_street 164 = .ok (.iload_n 2, 1) := by decide +kernel
theorem dX11_street_165 : decode cX11_street 165 = .ok (.imul, 1) := by decide +kernel
theorem dX11_street_166 : decode cX11_street 166 = .ok (.iload_n 3, 1) := by decide +kernel
theorem dX11_street_167 : decode cX11_street 167 = .ok (.iadd, 1) := by decide +kernel
theorem dX11_street_168 : decode cX11_street 168 = .ok (.iaload, 1) := by decide +kernel
theorem dX11_street_169 : decode cX11_street 169 = .ok (.iastore, 1) := by decide +kernel
theorem dX11_street_170 : decode cX11_street 170 = .ok (.iinc 3 1, 3) := by decide +kernel
theorem dX11_street_173 : decode cX11_street 173 = .ok (.goto (-33), 3) := by decide +kernel
theorem dX11_street_176 : decode cX11_street 176 = .ok (.iinc 2 1, 3) := by decide +kernel
theorem dX11_street_179 : decode cX11_street 179 = .ok (.goto (-49), 3) := by decide +kernel
theorem dX11_street_182 : decode cX11_street 182 = .ok (.iconst 0, 1) := by decide +kernel
theorem dX11_street_183 : decode cX11_street 183 = .ok (.istore_n 2, 1) := by decide +kernel
theorem dX11_street_184 : decode cX11_street 184 = .ok (.iload_n 2, 1) := by decide +kernel
theorem dX11_street_185 : decode cX11_street 185 = .ok (.aload_n 0, 1) := by decide +kernel
theorem dX11_street_186 : decode cX11_street 186 = .ok (.getfield 83, 3) := by decide +kernel
theorem dX11_street_189 : decode cX11_street 189 = .ok (.if_icmp .ge 55, 3) := by decide +kernel
theorem dX11_street_192 : decode cX11_street 192 = .ok (.aload_n 0, 1) := by decide +kernel
theorem dX11_street_193 : decode cX11_street 193 = .ok (.getfield 17, 3) := by decide +kernel
theorem dX11_street_196 : decode cX11_street 196 = .ok (.iload_n 2, 1) := by decide +kernel
theorem dX11_street_197 : decode cX11_street 197 = .ok (.aload_n 0, 1) := by decide +kernel
theorem dX11_street_198 : decode cX11_street 198 = .ok (.getfield 36, 3) := by decide +kernel
theorem dX11_street_201 : decode cX11_street 201 = .ok (.iconst 3, 1) := by decide +kernel
theorem dX11_street_202 : decode cX11_street 202 = .ok (.iload_n 2, 1) := by decide +kernel
theorem dX11_street_203 : decode cX11_street 203 = .ok (.imul, 1) := by decide +kernel
theorem dX11_street_204 : decode cX11_street 204 = .ok (.iaload, 1) := by decide +kernel
theorem dX11_street_205 : decode cX11_street 205 = .ok (.iastore, 1) := by decide +kernel
theorem dX11_street_206 : decode cX11_street 206 = .ok (.aload_n 0, 1) := by decide +kernel
theorem dX11_street_207 : decode cX11_street 207 = .ok (.getfield 20, 3) := by decide +kernel
theorem dX11_street_210 : decode cX11_street 210 = .ok (.iload_n 2, 1) := by decide +kernel
theorem dX11_street_211 : decode cX11_street 211 = .ok (.aload_n 0, 1) := by decide +kernel
theorem dX11_street_212 : decode cX11_street 212 = .ok (.getfield 36, 3) := by decide +kernel
theorem dX11_street_215 : decode cX11_street 215 = .ok (.iconst 3, 1) := by decide +kernel
theorem dX11_street_216 : decode cX11_street 216 = .ok (.iload_n 2, 1) := by decide +kernel
theorem dX11_street_217 : decode cX11_street 217 = .ok (.imul, 1) := by decide +kernel
theorem dX11_street_218 : decode cX11_street 218 = .ok (.iconst 1, 1) := by decide +kernel
theorem dX11_street_219 : decode cX11_street 219 = .ok (.iadd, 1) := by decide +kernel
theorem dX11_street_220 : decode cX11_street 220 = .ok (.iaload, 1) := by decide +kernel
theorem dX11_street_221 : decode cX11_street 221 = .ok (.iastore, 1) := by decide +kernel
theorem dX11_street_222 : decode cX11_street 222 = .ok (.aload_n 0, 1) := by decide +kernel
theorem dX11_street_223 : decode cX11_street 223 = .ok (.getfield 23, 3) := by decide +kernel
theorem dX11_street_226 : decode cX11_street 226 = .ok (.iload_n 2, 1) := by decide +kernel
theorem dX11_street_227 : decode cX11_street 227 = .ok (.aload_n 0, 1) := by decide +kernel
theorem dX11_street_228 : decode cX11_street 228 = .ok (.getfield 36, 3) := by decide +kernel
theorem dX11_street_231 : decode cX11_street 231 = .ok (.iconst 3, 1) := by decide +kernel
theorem dX11_street_232 : decode cX11_street 232 = .ok (.iload_n 2, 1) := by decide +kernel
theorem dX11_street_233 : decode cX11_street 233 = .ok (.imul, 1) := by decide +kernel
theorem dX11_street_234 : decode cX11_street 234 = .ok (.iconst 2, 1) := by decide +kernel
theorem dX11_street_235 : decode cX11_street 235 = .ok (.iadd, 1) := by decide +kernel
theorem dX11_street_236 : decode cX11_street 236 = .ok (.iaload, 1) := by decide +kernel
theorem dX11_street_237 : decode cX11_street 237 = .ok (.iastore, 1) := by decide +kernel
theorem dX11_street_238 : decode cX11_street 238 = .ok (.iinc 2 1, 3) := by decide +kernel
theorem dX11_street_241 : decode cX11_street 241 = .ok (.goto (-57), 3) := by decide +kernel
theorem dX11_street_244 : decode cX11_street 244 = .ok (.aload_n 0, 1) := by decide +kernel
theorem dX11_street_245 : decode cX11_street 245 = .ok (.iconst 0, 1) := by decide +kernel
theorem dX11_street_246 : decode cX11_street 246 = .ok (.putfield 169, 3) := by decide +kernel
theorem dX11_street_249 : decode cX11_street 249 = .ok (.aload_n 0, 1) := by decide +kernel
theorem dX11_street_250 : decode cX11_street 250 = .ok (.iconst 0, 1) := by decide +kernel
theorem dX11_street_251 : decode cX11_street 251 = .ok (.putfield 172, 3) := by decide +kernel
theorem dX11_street_254 : decode cX11_street 254 = .ok (.aload_n 0, 1) := by decide +kernel
theorem dX11_street_255 : decode cX11_street 255 = .ok (.getfield 13, 3) := by decide +kernel
theorem dX11_street_258 : decode cX11_street 258 = .ok (.iconst 0, 1) := by decide +kernel
theorem dX11_street_259 : decode cX11_street 259 = .ok (.iconst 0, 1) := by decide +kernel
theorem dX11_street_260 : decode cX11_street 260 = .ok (.bastore, 1) := by decide +kernel
theorem dX11_street_261 : decode cX11_street 261 = .ok (.aload_n 0, 1) := by decide +kernel
theorem dX11_street_262 : decode cX11_street 262 = .ok (.getfield 13, 3) := by decide +kernel
theorem dX11_street_265 : decode cX11_street 265 = .ok (.iconst 1, 1) := by decide +kernel
theorem dX11_street_266 : decode cX11_street 266 = .ok (.iconst 0, 1) := by decide +kernel
theorem dX11_street_267 : decode cX11_street 267 = .ok (.bastore, 1) := by decide +kernel
theorem dX11_street_268 : decode cX11_street 268 = .ok (.aload_n 0, 1) := by decide +kernel
theorem dX11_street_269 : decode cX11_street 269 = .ok (.getfield 73, 3) := by decide +kernel
theorem dX11_street_272 : decode cX11_street 272 = .ok (.ireturn, 1) := by decide +kernel
theorem dX11_fault_0 : decode cX11_fault 0 = .ok (.aload_n 0, 1) := by decide +kernel
theorem dX11_fault_1 : decode cX11_fault 1 = .ok (.getfield 29, 3) := by decide +kernel
theorem dX11_fault_4 : decode cX11_fault 4 = .ok (.ireturn, 1) := by decide +kernel
theorem dX11_loavesBy_0 : decode cX11_loavesBy 0 = .ok (.iconst 0, 1) := by decide +kernel
theorem dX11_loavesBy_1 : decode cX11_loavesBy 1 = .ok (.istore_n 2, 1) := by decide +kernel
theorem dX11_loavesBy_2 : decode cX11_loavesBy 2 = .ok (.iconst 0, 1) := by decide +kernel
theorem dX11_loavesBy_3 : decode cX11_loavesBy 3 = .ok (.istore_n 3, 1) := by decide +kernel
theorem dX11_loavesBy_4 : decode cX11_loavesBy 4 = .ok (.iload_n 3, 1) := by decide +kernel
theorem dX11_loavesBy_5 : decode cX11_loavesBy 5 = .ok (.aload_n 0, 1) := by decide +kernel
theorem dX11_loavesBy_6 : decode cX11_loavesBy 6 = .ok (.getfield 83, 3) := by decide +kernel
theorem dX11_loavesBy_9 : decode cX11_loavesBy 9 = .ok (.if_icmp .ge 98, 3) := by decide +kernel
theorem dX11_loavesBy_12 : decode cX11_loavesBy 12 = .ok (.iload_n 1, 1) := by decide +kernel
theorem dX11_loavesBy_13 : decode cX11_loavesBy 13 = .ok (.bipush 9, 2) := by decide +kernel
theorem dX11_loavesBy_15 : decode cX11_loavesBy 15 = .ok (.if_icmp .ne 24, 3) := by decide +kernel
theorem dX11_loavesBy_18 : decode cX11_loavesBy 18 = .ok (.aload_n 0, 1) := by decide +kernel
theorem dX11_loavesBy_19 : decode cX11_loavesBy 19 = .ok (.getfield 7, 3) := by decide +kernel
theorem dX11_loavesBy_22 : decode cX11_loavesBy 22 = .ok (.bipush 30, 2) := by decide +kernel
theorem dX11_loavesBy_24 : decode cX11_loavesBy 24 = .ok (.iload_n 3, 1) := by decide +kernel
theorem dX11_loavesBy_25 : decode cX11_loavesBy 25 = .ok (.iadd, 1) := by decide +kernel
theorem dX11_loavesBy_26 : decode cX11_loavesBy 26 = .ok (.iaload, 1) := by decide +kernel
theorem dX11_loavesBy_27 : decode cX11_loavesBy 27 = .ok (.iconst (-1), 1) := by decide +kernel
theorem dX11_loavesBy_28 : decode cX11_loavesBy 28 = .ok (.if_icmp .eq 7, 3) := by decide +kernel
theorem dX11_loavesBy_31 : decode cX11_loavesBy 31 = .ok (.iconst 1, 1) := by decide +kernel
theorem dX11_loavesBy_32 : decode cX11_loavesBy 32 = .ok (.goto 52, 3) := by decide +kernel
theorem dX11_loavesBy_35 : decode cX11_loavesBy 35 = .ok (.iconst 0, 1) := by decide +kernel
theorem dX11_loavesBy_36 : decode cX11_loavesBy 36 = .ok (.goto 48, 3) := by decide +kernel
theorem dX11_loavesBy_39 : decode cX11_loavesBy 39 = .ok (.iload_n 1, 1) := by decide +kernel
theorem dX11_loavesBy_40 : decode cX11_loavesBy 40 = .ok (.bipush 10, 2) := by decide +kernel
theorem dX11_loavesBy_42 : decode cX11_loavesBy 42 = .ok (.if_icmp .ne 24, 3) := by decide +kernel
theorem dX11_loavesBy_45 : decode cX11_loavesBy 45 = .ok (.aload_n 0, 1) := by decide +kernel
theorem dX11_loavesBy_46 : decode cX11_loavesBy 46 = .ok (.getfield 7, 3) := by decide +kernel
theorem dX11_loavesBy_49 : decode cX11_loavesBy 49 = .ok (.bipush 37, 2) := by decide +kernel
theorem dX11_loavesBy_51 : decode cX11_loavesBy 51 = .ok (.iload_n 3, 1) := by decide +kernel
theorem dX11_loavesBy_52 : decode cX11_loavesBy 52 = .ok (.iadd, 1) := by decide +kernel
theorem dX11_loavesBy_53 : decode cX11_loavesBy 53 = .ok (.iaload, 1) := by decide +kernel
theorem dX11_loavesBy_54 : decode cX11_loavesBy 54 = .ok (.iconst (-1), 1) := by decide +kernel
theorem dX11_loavesBy_55 : decode cX11_loavesBy 55 = .ok (.if_icmp .eq 7, 3) := by decide +kernel
theorem dX11_loavesBy_58 : decode cX11_loavesBy 58 = .ok (.iconst 1, 1) := by decide +kernel
theorem dX11_loavesBy_59 : decode cX11_loavesBy 59 = .ok (.goto 25, 3) := by decide +kernel
theorem dX11_loavesBy_62 : decode cX11_loavesBy 62 = .ok (.iconst 0, 1) := by decide +kernel
theorem dX11_loavesBy_63 : decode cX11_loavesBy 63 = .ok (.goto 21, 3) := by decide +kernel
theorem dX11_loavesBy_66 : decode cX11_loavesBy 66 = .ok (.aload_n 0, 1) := by decide +kernel
theorem dX11_loavesBy_67 : decode cX11_loavesBy 67 = .ok (.getfield 7, 3) := by decide +kernel
theorem dX11_loavesBy_70 : decode cX11_loavesBy 70 = .ok (.bipush 44, 2) := by decide +kernel
theorem dX11_loavesBy_72 : decode cX11_loavesBy 72 = .ok (.iload_n 3, 1) := by decide +kernel
theorem dX11_loavesBy_73 : decode cX11_loavesBy 73 = .ok (.iadd, 1) := by decide +kernel
theorem dX11_loavesBy_74 : decode cX11_loavesBy 74 = .ok (.iaload, 1) := by decide +kernel
theorem dX11_loavesBy_75 : decode cX11_loavesBy 75 = .ok (.iconst 1, 1) := by decide +kernel
theorem dX11_loavesBy_76 : decode cX11_loavesBy 76 = .ok (.if_icmp .ne 7, 3) := by decide +kernel
theorem dX11_loavesBy_79 : decode cX11_loavesBy 79 = .ok (.iconst 1, 1) := by decide +kernel
theorem dX11_loavesBy_80 : decode cX11_loavesBy 80 = .ok (.goto 4, 3) := by decide +kernel
theorem dX11_loavesBy_83 : decode cX11_loavesBy 83 = .ok (.iconst 0, 1) := by decide +kernel
theorem dX11_loavesBy_84 : decode cX11_loavesBy 84 = .ok (.istore 4, 2) := by decide +kernel
theorem dX11_loavesBy_86 : decode cX11_loavesBy 86 = .ok (.iload_n 2, 1) := by decide +kernel
theorem dX11_loavesBy_87 : decode cX11_loavesBy 87 = .ok (.iload 4, 2) := by decide +kernel
theorem dX11_loavesBy_89 : decode cX11_loavesBy 89 = .ok (.ifCond .eq 9, 3) := by decide +kernel
theorem dX11_loavesBy_92 : decode cX11_loavesBy 92 = .ok (.iconst 1, 1) := by decide +kernel
theorem dX11_loavesBy_93 : decode cX11_loavesBy 93 = .ok (.iload_n 3, 1) := by decide +kernel
theorem dX11_loavesBy_94 : decode cX11_loavesBy 94 = .ok (.ishl, 1) := by decide +kernel
theorem dX11_loavesBy_95 : decode cX11_loavesBy 95 = .ok (.goto 4, 3) := by decide +kernel
theorem dX11_loavesBy_98 : decode cX11_loavesBy 98 = .ok (.iconst 0, 1) := by decide +kernel
theorem dX11_loavesBy_99 : decode cX11_loavesBy 99 = .ok (.ior, 1) := by decide +kernel
theorem dX11_loavesBy_100 : decode cX11_loavesBy 100 = .ok (.istore_n 2, 1) := by decide +kernel
theorem dX11_loavesBy_101 : decode cX11_loavesBy 101 = .ok (.iinc 3 1, 3) := by decide +kernel
theorem dX11_loavesBy_104 : decode cX11_loavesBy 104 = .ok (.goto (-100), 3) := by decide +kernel
theorem dX11_loavesBy_107 : decode cX11_loavesBy 107 = .ok (.iload_n 2, 1) := by decide +kernel
theorem dX11_loavesBy_108 : decode cX11_loavesBy 108 = .ok (.ireturn, 1) := by decide +kernel
theorem dX11_told_0 : decode cX11_told 0 = .ok (.iload_n 1, 1) := by decide +kernel
theorem dX11_told_1 : decode cX11_told 1 = .ok (.tableswitch 135 0 13 #[71, 76, 81, 86, 91, 96, 101, 109, 117, 135, 135, 135, 125, 130], 71) := by decide +kernel
theorem dX11_told_72 : decode cX11_told 72 = .ok (.aload_n 0, 1) := by decide +kernel
theorem dX11_told_73 : decode cX11_told 73 = .ok (.getfield 80, 3) := by decide +kernel
theorem dX11_told_76 : decode cX11_told 76 = .ok (.ireturn, 1) := by decide +kernel
theorem dX11_told_77 : decode cX11_told 77 = .ok (.aload_n 0, 1) := by decide +kernel
theorem dX11_told_78 : decode cX11_told 78 = .ok (.getfield 163, 3) := by decide +kernel
theorem dX11_told_81 : decode cX11_told 81 = .ok (.ireturn, 1) := by decide +kernel
theorem dX11_told_82 : decode cX11_told 82 = .ok (.aload_n 0, 1) := by decide +kernel
theorem dX11_told_83 : decode cX11_told 83 = .ok (.getfield 73, 3) := by decide +kernel
theorem dX11_told_86 : decode cX11_told 86 = .ok (.ireturn, 1) := by decide +kernel
theorem dX11_told_87 : decode cX11_told 87 = .ok (.aload_n 0, 1) := by decide +kernel
theorem dX11_told_88 : decode cX11_told 88 = .ok (.getfield 83, 3) := by decide +kernel
theorem dX11_told_91 : decode cX11_told 91 = .ok (.ireturn, 1) := by decide +kernel
theorem dX11_told_92 : decode cX11_told 92 = .ok (.aload_n 0, 1) := by decide +kernel
theorem dX11_told_93 : decode cX11_told 93 = .ok (.getfield 166, 3) := by decide +kernel
theorem dX11_told_96 : decode cX11_told 96 = .ok (.ireturn, 1) := by decide +kernel
theorem dX11_told_97 : decode cX11_told 97 = .ok (.aload_n 0, 1) := by decide +kernel
theorem dX11_told_98 : decode cX11_told 98 = .ok (.getfield 89, 3) := by decide +kernel
theorem dX11_told_101 : decode cX11_told 101 = .ok (.ireturn, 1) := by decide +kernel
theorem dX11_told_102 : decode cX11_told 102 = .ok (.aload_n 0, 1) := by decide +kernel
theorem dX11_told_103 : decode cX11_told 103 = .ok (.getfield 7, 3) := by decide +kernel
theorem dX11_told_106 : decode cX11_told 106 = .ok (.bipush 52, 2) := by decide +kernel
theorem dX11_told_108 : decode cX11_told 108 = .ok (.iaload, 1) := by decide +kernel
theorem dX11_told_109 : decode cX11_told 109 = .ok (.ireturn, 1) := by decide +kernel
theorem dX11_told_110 : decode cX11_told 110 = .ok (.aload_n 0, 1) := by decide +kernel
theorem dX11_told_111 : decode cX11_told 111 = .ok (.getfield 7, 3) := by decide +kernel
theorem dX11_told_114 : decode cX11_told 114 = .ok (.bipush 53, 2) := by decide +kernel
theorem dX11_told_116 : decode cX11_told 116 = .ok (.iaload, 1) := by decide +kernel
theorem dX11_told_117 : decode cX11_told 117 = .ok (.ireturn, 1) := by decide +kernel
theorem dX11_told_118 : decode cX11_told 118 = .ok (.aload_n 0, 1) := by decide +kernel
theorem dX11_told_119 : decode cX11_told 119 = .ok (.getfield 7, 3) := by decide +kernel
theorem dX11_told_122 : decode cX11_told 122 = .ok (.bipush 51, 2) := by decide +kernel
theorem dX11_told_124 : decode cX11_told 124 = .ok (.iaload, 1) := by decide +kernel
theorem dX11_told_125 : decode cX11_told 125 = .ok (.ireturn, 1) := by decide +kernel
theorem dX11_told_126 : decode cX11_told 126 = .ok (.aload_n 0, 1) := by decide +kernel
theorem dX11_told_127 : decode cX11_told 127 = .ok (.getfield 169, 3) := by decide +kernel
theorem dX11_told_130 : decode cX11_told 130 = .ok (.ireturn, 1) := by decide +kernel
theorem dX11_told_131 : decode cX11_told 131 = .ok (.aload_n 0, 1) := by decide +kernel
theorem dX11_told_132 : decode cX11_told 132 = .ok (.getfield 172, 3) := by decide +kernel
theorem dX11_told_135 : decode cX11_told 135 = .ok (.ireturn, 1) := by decide +kernel
theorem dX11_told_136 : decode cX11_told 136 = .ok (.iload_n 1, 1) := by decide +kernel
theorem dX11_told_137 : decode cX11_told 137 = .ok (.i2l, 1) := by decide +kernel
theorem dX11_told_138 : decode cX11_told 138 = .ok (.ldc2_w 175, 3) := by decide +kernel
theorem dX11_told_141 : decode cX11_told 141 = .ok (.ldc2_w 177, 3) := by decide +kernel
theorem dX11_told_144 : decode cX11_told 144 = .ok (.invokestatic 76, 3) := by decide +kernel
theorem dX11_told_147 : decode cX11_told 147 = .ok (.ifCond .eq 11, 3) := by decide +kernel
theorem dX11_told_150 : decode cX11_told 150 = .ok (.aload_n 0, 1) := by decide +kernel
theorem dX11_told_151 : decode cX11_told 151 = .ok (.iload_n 1, 1) := by decide +kernel
theorem dX11_told_152 : decode cX11_told 152 = .ok (.invokevirtual 179, 3) := by decide +kernel
theorem dX11_told_155 : decode cX11_told 155 = .ok (.goto 5, 3) := by decide +kernel
theorem dX11_told_158 : decode cX11_told 158 = .ok (.ldc 88, 2) := by decide +kernel
theorem dX11_told_160 : decode cX11_told 160 = .ok (.ireturn, 1) := by decide +kernel
theorem dX11_weightOf_0 : decode cX11_weightOf 0 = .ok (.aload_n 0, 1) := by decide +kernel
theorem dX11_weightOf_1 : decode cX11_weightOf 1 = .ok (.getfield 7, 3) := by decide +kernel
theorem dX11_weightOf_4 : decode cX11_weightOf 4 = .ok (.iload_n 1, 1) := by decide +kernel
theorem dX11_weightOf_5 : decode cX11_weightOf 5 = .ok (.iconst 0, 1) := by decide +kernel
theorem dX11_weightOf_6 : decode cX11_weightOf 6 = .ok (.iadd, 1) := by decide +kernel
theorem dX11_weightOf_7 : decode cX11_weightOf 7 = .ok (.iconst 5, 1) := by decide +kernel
theorem dX11_weightOf_8 : decode cX11_weightOf 8 = .ok (.iload_n 2, 1) := by decide +kernel
theorem dX11_weightOf_9 : decode cX11_weightOf 9 = .ok (.imul, 1) := by decide +kernel
theorem dX11_weightOf_10 : decode cX11_weightOf 10 = .ok (.iadd, 1) := by decide +kernel
theorem dX11_weightOf_11 : decode cX11_weightOf 11 = .ok (.iload_n 3, 1) := by decide +kernel
theorem dX11_weightOf_12 : decode cX11_weightOf 12 = .ok (.iadd, 1) := by decide +kernel
theorem dX11_weightOf_13 : decode cX11_weightOf 13 = .ok (.iaload, 1) := by decide +kernel
theorem dX11_weightOf_14 : decode cX11_weightOf 14 = .ok (.ireturn, 1) := by decide +kernel
theorem dX11_allOf_0 : decode cX11_allOf 0 = .ok (.iconst 0, 1) := by decide +kernel
theorem dX11_allOf_1 : decode cX11_allOf 1 = .ok (.istore_n 3, 1) := by decide +kernel
theorem dX11_allOf_2 : decode cX11_allOf 2 = .ok (.iconst 0, 1) := by decide +kernel
theorem dX11_allOf_3 : decode cX11_allOf 3 = .ok (.istore 4, 2) := by decide +kernel
theorem dX11_allOf_5 : decode cX11_allOf 5 = .ok (.iload 4, 2) := by decide +kernel
theorem dX11_allOf_7 : decode cX11_allOf 7 = .ok (.aload_n 0, 1) := by decide +kernel
theorem dX11_allOf_8 : decode cX11_allOf 8 = .ok (.getfield 80, 3) := by decide +kernel
theorem dX11_allOf_11 : decode cX11_allOf 11 = .ok (.if_icmp .ge 20, 3) := by decide +kernel
theorem dX11_allOf_14 : decode cX11_allOf 14 = .ok (.iload_n 3, 1) := by decide +kernel
theorem dX11_allOf_15 : decode cX11_allOf 15 = .ok (.aload_n 0, 1) := by decide +kernel
theorem dX11_allOf_16 : decode cX11_allOf 16 = .ok (.iload_n 1, 1) := by decide +kernel
theorem dX11_allOf_17 : decode cX11_allOf 17 = .ok (.iload_n 2, 1) := by decide +kernel
theorem dX11_allOf_18 : decode cX11_allOf 18 = .ok (.iload 4, 2) := by decide +kernel
theorem dX11_allOf_20 : decode cX11_allOf 20 = .ok (.invokevirtual 182, 3) := by decide +kernel
theorem dX11_allOf_23 : decode cX11_allOf 23 = .ok (.iadd, 1) := by decide +kernel
theorem dX11_allOf_24 : decode cX11_allOf 24 = .ok (.istore_n 3, 1) := by decide +kernel
theorem dX11_allOf_25 : decode cX11_allOf 25 = .ok (.iinc 4 1, 3) := by decide +kernel
theorem dX11_allOf_28 : decode cX11_allOf 28 = .ok (.goto (-23), 3) := by decide +kernel
theorem dX11_allOf_31 : decode cX11_allOf 31 = .ok (.iload_n 3, 1) := by decide +kernel
theorem dX11_allOf_32 : decode cX11_allOf 32 = .ok (.ireturn, 1) := by decide +kernel
theorem dX11_likeliestOf_0 : decode cX11_likeliestOf 0 = .ok (.iconst 0, 1) := by decide +kernel
theorem dX11_likeliestOf_1 : decode cX11_likeliestOf 1 = .ok (.istore_n 3, 1) := by decide +kernel
theorem dX11_likeliestOf_2 : decode cX11_likeliestOf 2 = .ok (.iconst 1, 1) := by decide +kernel
theorem dX11_likeliestOf_3 : decode cX11_likeliestOf 3 = .ok (.istore 4, 2) := by decide +kernel
theorem dX11_likeliestOf_5 : decode cX11_likeliestOf 5 = .ok (.iload 4, 2) := by decide +kernel
theorem dX11_likeliestOf_7 : decode cX11_likeliestOf 7 = .ok (.aload_n 0, 1) := by decide +kernel
theorem dX11_likeliestOf_8 : decode cX11_likeliestOf 8 = .ok (.getfield 80, 3) := by decide +kernel
theorem dX11_likeliestOf_11 : decode cX11_likeliestOf 11 = .ok (.if_icmp .ge 34, 3) := by decide +kernel
theorem dX11_likeliestOf_14 : decode cX11_likeliestOf 14 = .ok (.aload_n 0, 1) := by decide +kernel
theorem dX11_likeliestOf_15 : decode cX11_likeliestOf 15 = .ok (.iload_n 1, 1) := by decide +kernel
theorem dX11_likeliestOf_16 : decode cX11_likeliestOf 16 = .ok (.iload_n 2, 1) := by decide +kernel
theorem dX11_likeliestOf_17 : decode cX11_likeliestOf 17 = .ok (.iload 4, 2) := by decide +kernel
theorem dX11_likeliestOf_19 : decode cX11_likeliestOf 19 = .ok (.invokevirtual 182, 3) := by decide +kernel
theorem dX11_likeliestOf_22 : decode cX11_likeliestOf 22 = .ok (.aload_n 0, 1) := by decide +kernel
theorem dX11_likeliestOf_23 : decode cX11_likeliestOf 23 = .ok (.iload_n 1, 1) := by decide +kernel
theorem dX11_likeliestOf_24 : decode cX11_likeliestOf 24 = .ok (.iload_n 2, 1) := by decide +kernel
theorem dX11_likeliestOf_25 : decode cX11_likeliestOf 25 = .ok (.iload_n 3, 1) := by decide +kernel
theorem dX11_likeliestOf_26 : decode cX11_likeliestOf 26 = .ok (.invokevirtual 182, 3) := by decide +kernel
theorem dX11_likeliestOf_29 : decode cX11_likeliestOf 29 = .ok (.if_icmp .le 8, 3) := by decide +kernel
theorem dX11_likeliestOf_32 : decode cX11_likeliestOf 32 = .ok (.iload 4, 2) := by decide +kernel
theorem dX11_likeliestOf_34 : decode cX11_likeliestOf 34 = .ok (.goto 4, 3) := by decide +kernel
theorem dX11_likeliestOf_37 : decode cX11_likeliestOf 37 = .ok (.iload_n 3, 1) := by decide +kernel
theorem dX11_likeliestOf_38 : decode cX11_likeliestOf 38 = .ok (.istore_n 3, 1) := by decide +kernel
theorem dX11_likeliestOf_39 : decode cX11_likeliestOf 39 = .ok (.iinc 4 1, 3) := by decide +kernel
theorem dX11_likeliestOf_42 : decode cX11_likeliestOf 42 = .ok (.goto (-37), 3) := by decide +kernel
theorem dX11_likeliestOf_45 : decode cX11_likeliestOf 45 = .ok (.iload_n 3, 1) := by decide +kernel
theorem dX11_likeliestOf_46 : decode cX11_likeliestOf 46 = .ok (.ireturn, 1) := by decide +kernel
theorem dX11_weight_0 : decode cX11_weight 0 = .ok (.aload_n 0, 1) := by decide +kernel
theorem dX11_weight_1 : decode cX11_weight 1 = .ok (.iload_n 1, 1) := by decide +kernel
theorem dX11_weight_2 : decode cX11_weight 2 = .ok (.invokevirtual 186, 3) := by decide +kernel
theorem dX11_weight_5 : decode cX11_weight 5 = .ok (.ifCond .eq 21, 3) := by decide +kernel
theorem dX11_weight_8 : decode cX11_weight 8 = .ok (.aload_n 0, 1) := by decide +kernel
theorem dX11_weight_9 : decode cX11_weight 9 = .ok (.iload_n 2, 1) := by decide +kernel
theorem dX11_weight_10 : decode cX11_weight 10 = .ok (.invokevirtual 189, 3) := by decide +kernel
theorem dX11_weight_13 : decode cX11_weight 13 = .ok (.ifCond .eq 13, 3) := by decide +kernel
theorem dX11_weight_16 : decode cX11_weight 16 = .ok (.aload_n 0, 1) := by decide +kernel
theorem dX11_weight_17 : decode cX11_weight 17 = .ok (.iconst 0, 1) := by decide +kernel
theorem dX11_weight_18 : decode cX11_weight 18 = .ok (.iload_n 1, 1) := by decide +kernel
theorem dX11_weight_19 : decode cX11_weight 19 = .ok (.iload_n 2, 1) := by decide +kernel
theorem dX11_weight_20 : decode cX11_weight 20 = .ok (.invokevirtual 182, 3) := by decide +kernel
theorem dX11_weight_23 : decode cX11_weight 23 = .ok (.goto 5, 3) := by decide +kernel
theorem dX11_weight_26 : decode cX11_weight 26 = .ok (.ldc 192, 2) := by decide +kernel
theorem dX11_weight_28 : decode cX11_weight 28 = .ok (.ireturn, 1) := by decide +kernel
theorem dX11_odds_0 : decode cX11_odds 0 = .ok (.aload_n 0, 1) := by decide +kernel
theorem dX11_odds_1 : decode cX11_odds 1 = .ok (.iload_n 1, 1) := by decide +kernel
theorem dX11_odds_2 : decode cX11_odds 2 = .ok (.invokevirtual 186, 3) := by decide +kernel
theorem dX11_odds_5 : decode cX11_odds 5 = .ok (.ifCond .eq 11, 3) := by decide +kernel
theorem dX11_odds_8 : decode cX11_odds 8 = .ok (.aload_n 0, 1) := by decide +kernel
theorem dX11_odds_9 : decode cX11_odds 9 = .ok (.iload_n 2, 1) := by decide +kernel
theorem dX11_odds_10 : decode cX11_odds 10 = .ok (.invokevirtual 189, 3) := by decide +kernel
theorem dX11_odds_13 : decode cX11_odds 13 = .ok (.ifCond .ne 6, 3) := by decide +kernel
theorem dX11_odds_16 : decode cX11_odds 16 = .ok (.ldc 192, 2) := by decide +kernel
theorem dX11_odds_18 : decode cX11_odds 18 = .ok (.ireturn, 1) := by decide +kernel
theorem dX11_odds_19 : decode cX11_odds 19 = .ok (.iload_n 3, 1) := by decide +kernel
theorem dX11_odds_20 : decode cX11_odds 20 = .ok (.i2l, 1) := by decide +kernel
theorem dX11_odds_21 : decode cX11_odds 21 = .ok (.lconst 0, 1) := by decide +kernel
theorem dX11_odds_22 : decode cX11_odds 22 = .ok (.lconst 1, 1) := by decide +kernel
theorem dX11_odds_23 : decode cX11_odds 23 = .ok (.invokestatic 76, 3) := by decide +kernel
theorem dX11_odds_26 : decode cX11_odds 26 = .ok (.ifCond .ne 6, 3) := by decide +kernel
theorem dX11_odds_29 : decode cX11_odds 29 = .ok (.ldc 88, 2) := by decide +kernel
theorem dX11_odds_31 : decode cX11_odds 31 = .ok (.ireturn, 1) := by decide +kernel
theorem dX11_odds_32 : decode cX11_odds 32 = .ok (.aload_n 0, 1) := by decide +kernel
theorem dX11_odds_33 : decode cX11_odds 33 = .ok (.iconst 0, 1) := by decide +kernel
theorem dX11_odds_34 : decode cX11_odds 34 = .ok (.iload_n 1, 1) := by decide +kernel
theorem dX11_odds_35 : decode cX11_odds 35 = .ok (.iload_n 2, 1) := by decide +kernel
theorem dX11_odds_36 : decode cX11_odds 36 = .ok (.invokevirtual 182, 3) := by decide +kernel
theorem dX11_odds_39 : decode cX11_odds 39 = .ok (.istore 4, 2) := by decide +kernel
theorem dX11_odds_41 : decode cX11_odds 41 = .ok (.aload_n 0, 1) := by decide +kernel
theorem dX11_odds_42 : decode cX11_odds 42 = .ok (.iconst 0, 1) := by decide +kernel
theorem dX11_odds_43 : decode cX11_odds 43 = .ok (.iload_n 1, 1) := by decide +kernel
theorem dX11_odds_44 : decode cX11_odds 44 = .ok (.invokevirtual 193, 3) := by decide +kernel
theorem dX11_odds_47 : decode cX11_odds 47 = .ok (.istore 5, 2) := by decide +kernel
theorem dX11_odds_49 : decode cX11_odds 49 = .ok (.iload 4, 2) := by decide +kernel
theorem dX11_odds_51 : decode cX11_odds 51 = .ok (.istore 6, 2) := by decide +kernel
theorem dX11_odds_53 : decode cX11_odds 53 = .ok (.iload 5, 2) := by decide +kernel
theorem dX11_odds_55 : decode cX11_odds 55 = .ok (.istore 7, 2) := by decide +kernel
theorem dX11_odds_57 : decode cX11_odds 57 = .ok (.iload 7, 2) := by decide +kernel
theorem dX11_odds_59 : decode cX11_odds 59 = .ok (.ifCond .eq 21, 3) := by decide +kernel
theorem dX11_odds_62 : decode cX11_odds 62 = .ok (.iload 6, 2) := by decide +kernel
theorem dX11_odds_64 : decode cX11_odds 64 = .ok (.iload 7, 2) := by decide +kernel
theorem dX11_odds_66 : decode cX11_odds 66 = .ok (.irem, 1) := by decide +kernel
theorem dX11_odds_67 : decode cX11_odds 67 = .ok (.istore 8, 2) := by decide +kernel
theorem dX11_odds_69 : decode cX11_odds 69 = .ok (.iload 7, 2) := by decide +kernel
theorem dX11_odds_71 : decode cX11_odds 71 = .ok (.istore 6, 2) := by decide +kernel
theorem dX11_odds_73 : decode cX11_odds 73 = .ok (.iload 8, 2) := by decide +kernel
theorem dX11_odds_75 : decode cX11_odds 75 = .ok (.istore 7, 2) := by decide +kernel
theorem dX11_odds_77 : decode cX11_odds 77 = .ok (.goto (-20), 3) := by decide +kernel
theorem dX11_odds_80 : decode cX11_odds 80 = .ok (.iload_n 3, 1) := by decide +kernel
theorem dX11_odds_81 : decode cX11_odds 81 = .ok (.ifCond .ne 11, 3) := by decide +kernel
theorem dX11_odds_84 : decode cX11_odds 84 = .ok (.iload 4, 2) := by decide +kernel
theorem dX11_odds_86 : decode cX11_odds 86 = .ok (.iload 6, 2) := by decide +kernel
theorem dX11_odds_88 : decode cX11_odds 88 = .ok (.idiv, 1) := by decide +kernel
theorem dX11_odds_89 : decode cX11_odds 89 = .ok (.goto 8, 3) := by decide +kernel
theorem dX11_odds_92 : decode cX11_odds 92 = .ok (.iload 5, 2) := by decide +kernel
theorem dX11_odds_94 : decode cX11_odds 94 = .ok (.iload 6, 2) := by decide +kernel
theorem dX11_odds_96 : decode cX11_odds 96 = .ok (.idiv, 1) := by decide +kernel
theorem dX11_odds_97 : decode cX11_odds 97 = .ok (.ireturn, 1) := by decide +kernel
theorem dX11_likeliest_0 : decode cX11_likeliest 0 = .ok (.aload_n 0, 1) := by decide +kernel
theorem dX11_likeliest_1 : decode cX11_likeliest 1 = .ok (.iload_n 1, 1) := by decide +kernel
theorem dX11_likeliest_2 : decode cX11_likeliest 2 = .ok (.invokevirtual 186, 3) := by decide +kernel
theorem dX11_likeliest_5 : decode cX11_likeliest 5 = .ok (.ifCond .eq 12, 3) := by decide +kernel
theorem dX11_likeliest_8 : decode cX11_likeliest 8 = .ok (.aload_n 0, 1) := by decide +kernel
theorem dX11_likeliest_9 : decode cX11_likeliest 9 = .ok (.iconst 0, 1) := by decide +kernel
theorem dX11_likeliest_10 : decode cX11_likeliest 10 = .ok (.iload_n 1, 1) := by decide +kernel
theorem dX11_likeliest_11 : decode cX11_likeliest 11 = .ok (.invokevirtual 197, 3) := by decide +kernel
theorem dX11_likeliest_14 : decode cX11_likeliest 14 = .ok (.goto 5, 3) := by decide +kernel
theorem dX11_likeliest_17 : decode cX11_likeliest 17 = .ok (.ldc 192, 2) := by decide +kernel
theorem dX11_likeliest_19 : decode cX11_likeliest 19 = .ok (.ireturn, 1) := by decide +kernel
theorem dX11_loaf_0 : decode cX11_loaf 0 = .ok (.aload_n 0, 1) := by decide +kernel
theorem dX11_loaf_1 : decode cX11_loaf 1 = .ok (.iload_n 1, 1) := by decide +kernel
theorem dX11_loaf_2 : decode cX11_loaf 2 = .ok (.invokevirtual 200, 3) := by decide +kernel
theorem dX11_loaf_5 : decode cX11_loaf 5 = .ok (.ifCond .ne 6, 3) := by decide +kernel
theorem dX11_loaf_8 : decode cX11_loaf 8 = .ok (.ldc 192, 2) := by decide +kernel
theorem dX11_loaf_10 : decode cX11_loaf 10 = .ok (.ireturn, 1) := by decide +kernel
theorem dX11_loaf_11 : decode cX11_loaf 11 = .ok (.iload_n 2, 1) := by decide +kernel
theorem dX11_loaf_12 : decode cX11_loaf 12 = .ok (.tableswitch 91 0 5 #[40, 47, 54, 61, 71, 81], 40) := by decide +kernel
theorem dX11_loaf_52 : decode cX11_loaf 52 = .ok (.aload_n 0, 1) := by decide +kernel
theorem dX11_loaf_53 : decode cX11_loaf 53 = .ok (.getfield 17, 3) := by decide +kernel
theorem dX11_loaf_56 : decode cX11_loaf 56 = .ok (.iload_n 1, 1) := by decide +kernel
theorem dX11_loaf_57 : decode cX11_loaf 57 = .ok (.iaload, 1) := by decide +kernel
theorem dX11_loaf_58 : decode cX11_loaf 58 = .ok (.ireturn, 1) := by decide +kernel
theorem dX11_loaf_59 : decode cX11_loaf 59 = .ok (.aload_n 0, 1) := by decide +kernel
theorem dX11_loaf_60 : decode cX11_loaf 60 = .ok (.getfield 20, 3) := by decide +kernel
theorem dX11_loaf_63 : decode cX11_loaf 63 = .ok (.iload_n 1, 1) := by decide +kernel
theorem dX11_loaf_64 : decode cX11_loaf 64 = .ok (.iaload, 1) := by decide +kernel
theorem dX11_loaf_65 : decode cX11_loaf 65 = .ok (.ireturn, 1) := by decide +kernel
theorem dX11_loaf_66 : decode cX11_loaf 66 = .ok (.aload_n 0, 1) := by decide +kernel
theorem dX11_loaf_67 : decode cX11_loaf 67 = .ok (.getfield 23, 3) := by decide +kernel
theorem dX11_loaf_70 : decode cX11_loaf 70 = .ok (.iload_n 1, 1) := by decide +kernel
theorem dX11_loaf_71 : decode cX11_loaf 71 = .ok (.iaload, 1) := by decide +kernel
theorem dX11_loaf_72 : decode cX11_loaf 72 = .ok (.ireturn, 1) := by decide +kernel
theorem dX11_loaf_73 : decode cX11_loaf 73 = .ok (.aload_n 0, 1) := by decide +kernel
theorem dX11_loaf_74 : decode cX11_loaf 74 = .ok (.getfield 7, 3) := by decide +kernel
theorem dX11_loaf_77 : decode cX11_loaf 77 = .ok (.bipush 30, 2) := by decide +kernel
theorem dX11_loaf_79 : decode cX11_loaf 79 = .ok (.iload_n 1, 1) := by decide +kernel
theorem dX11_loaf_80 : decode cX11_loaf 80 = .ok (.iadd, 1) := by decide +kernel
theorem dX11_loaf_81 : decode cX11_loaf 81 = .ok (.iaload, 1) := by decide +kernel
theorem dX11_loaf_82 : decode cX11_loaf 82 = .ok (.ireturn, 1) := by decide +kernel
theorem dX11_loaf_83 : decode cX11_loaf 83 = .ok (.aload_n 0, 1) := by decide +kernel
theorem dX11_loaf_84 : decode cX11_loaf 84 = .ok (.getfield 7, 3) := by decide +kernel
theorem dX11_loaf_87 : decode cX11_loaf 87 = .ok (.bipush 37, 2) := by decide +kernel
theorem dX11_loaf_89 : decode cX11_loaf 89 = .ok (.iload_n 1, 1) := by decide +kernel
theorem dX11_loaf_90 : decode cX11_loaf 90 = .ok (.iadd, 1) := by decide +kernel
theorem dX11_loaf_91 : decode cX11_loaf 91 = .ok (.iaload, 1) := by decide +kernel
theorem dX11_loaf_92 : decode cX11_loaf 92 = .ok (.ireturn, 1) := by decide +kernel
theorem dX11_loaf_93 : decode cX11_loaf 93 = .ok (.aload_n 0, 1) := by decide +kernel
theorem dX11_loaf_94 : decode cX11_loaf 94 = .ok (.getfield 7, 3) := by decide +kernel
theorem dX11_loaf_97 : decode cX11_loaf 97 = .ok (.bipush 44, 2) := by decide +kernel
theorem dX11_loaf_99 : decode cX11_loaf 99 = .ok (.iload_n 1, 1) := by decide +kernel
theorem dX11_loaf_100 : decode cX11_loaf 100 = .ok (.iadd, 1) := by decide +kernel
theorem dX11_loaf_101 : decode cX11_loaf 101 = .ok (.iaload, 1) := by decide +kernel
theorem dX11_loaf_102 : decode cX11_loaf 102 = .ok (.ireturn, 1) := by decide +kernel
theorem dX11_loaf_103 : decode cX11_loaf 103 = .ok (.ldc 88, 2) := by decide +kernel
theorem dX11_loaf_105 : decode cX11_loaf 105 = .ok (.ireturn, 1) := by decide +kernel
theorem dX11_worthOf_0 : decode cX11_worthOf 0 = .ok (.ldc2_w 203, 3) := by decide +kernel
theorem dX11_worthOf_3 : decode cX11_worthOf 3 = .ok (.aload_n 0, 1) := by decide +kernel
theorem dX11_worthOf_4 : decode cX11_worthOf 4 = .ok (.getfield 23, 3) := by decide +kernel
theorem dX11_worthOf_7 : decode cX11_worthOf 7 = .ok (.iload_n 1, 1) := by decide +kernel
theorem dX11_worthOf_8 : decode cX11_worthOf 8 = .ok (.iaload, 1) := by decide +kernel
theorem dX11_worthOf_9 : decode cX11_worthOf 9 = .ok (.i2l, 1) := by decide +kernel
theorem dX11_worthOf_10 : decode cX11_worthOf 10 = .ok (.lmul, 1) := by decide +kernel
theorem dX11_worthOf_11 : decode cX11_worthOf 11 = .ok (.aload_n 0, 1) := by decide +kernel
theorem dX11_worthOf_12 : decode cX11_worthOf 12 = .ok (.iconst 0, 1) := by decide +kernel
theorem dX11_worthOf_13 : decode cX11_worthOf 13 = .ok (.iload_n 2, 1) := by decide +kernel
theorem dX11_worthOf_14 : decode cX11_worthOf 14 = .ok (.aload_n 0, 1) := by decide +kernel
theorem dX11_worthOf_15 : decode cX11_worthOf 15 = .ok (.getfield 20, 3) := by decide +kernel
theorem dX11_worthOf_18 : decode cX11_worthOf 18 = .ok (.iload_n 1, 1) := by decide +kernel
theorem dX11_worthOf_19 : decode cX11_worthOf 19 = .ok (.iaload, 1) := by decide +kernel
theorem dX11_worthOf_20 : decode cX11_worthOf 20 = .ok (.invokevirtual 182, 3) := by decide +kernel
theorem dX11_worthOf_23 : decode cX11_worthOf 23 = .ok (.i2l, 1) := by decide +kernel
theorem dX11_worthOf_24 : decode cX11_worthOf 24 = .ok (.lmul, 1) := by decide +kernel
theorem dX11_worthOf_25 : decode cX11_worthOf 25 = .ok (.aload_n 0, 1) := by decide +kernel
theorem dX11_worthOf_26 : decode cX11_worthOf 26 = .ok (.iconst 0, 1) := by decide +kernel
theorem dX11_worthOf_27 : decode cX11_worthOf 27 = .ok (.iload_n 2, 1) := by decide +kernel
theorem dX11_worthOf_28 : decode cX11_worthOf 28 = .ok (.invokevirtual 193, 3) := by decide +kernel
theorem dX11_worthOf_31 : decode cX11_worthOf 31 = .ok (.i2l, 1) := by decide +kernel
theorem dX11_worthOf_32 : decode cX11_worthOf 32 = .ok (.ldiv, 1) := by decide +kernel
theorem dX11_worthOf_33 : decode cX11_worthOf 33 = .ok (.l2i, 1) := by decide +kernel
theorem dX11_worthOf_34 : decode cX11_worthOf 34 = .ok (.ireturn, 1) := by decide +kernel
theorem dX11_worth_0 : decode cX11_worth 0 = .ok (.aload_n 0, 1) := by decide +kernel
theorem dX11_worth_1 : decode cX11_worth 1 = .ok (.iload_n 1, 1) := by decide +kernel
theorem dX11_worth_2 : decode cX11_worth 2 = .ok (.invokevirtual 200, 3) := by decide +kernel
theorem dX11_worth_5 : decode cX11_worth 5 = .ok (.ifCond .eq 11, 3) := by decide +kernel
theorem dX11_worth_8 : decode cX11_worth 8 = .ok (.aload_n 0, 1) := by decide +kernel
theorem dX11_worth_9 : decode cX11_worth 9 = .ok (.iload_n 2, 1) := by decide +kernel
theorem dX11_worth_10 : decode cX11_worth 10 = .ok (.invokevirtual 186, 3) := by decide +kernel
theorem dX11_worth_13 : decode cX11_worth 13 = .ok (.ifCond .ne 6, 3) := by decide +kernel
theorem dX11_worth_16 : decode cX11_worth 16 = .ok (.ldc 192, 2) := by decide +kernel
theorem dX11_worth_18 : decode cX11_worth 18 = .ok (.ireturn, 1) := by decide +kernel
theorem dX11_worth_19 : decode cX11_worth 19 = .ok (.aload_n 0, 1) := by decide +kernel
theorem dX11_worth_20 : decode cX11_worth 20 = .ok (.getfield 17, 3) := by decide +kernel
theorem dX11_worth_23 : decode cX11_worth 23 = .ok (.iload_n 1, 1) := by decide +kernel
theorem dX11_worth_24 : decode cX11_worth 24 = .ok (.iaload, 1) := by decide +kernel
theorem dX11_worth_25 : decode cX11_worth 25 = .ok (.iload_n 2, 1) := by decide +kernel
theorem dX11_worth_26 : decode cX11_worth 26 = .ok (.if_icmp .ne 8, 3) := by decide +kernel
theorem dX11_worth_29 : decode cX11_worth 29 = .ok (.ldc 205, 2) := by decide +kernel
theorem dX11_worth_31 : decode cX11_worth 31 = .ok (.goto 9, 3) := by decide +kernel
theorem dX11_worth_34 : decode cX11_worth 34 = .ok (.aload_n 0, 1) := by decide +kernel
theorem dX11_worth_35 : decode cX11_worth 35 = .ok (.iload_n 1, 1) := by decide +kernel
theorem dX11_worth_36 : decode cX11_worth 36 = .ok (.iload_n 2, 1) := by decide +kernel
theorem dX11_worth_37 : decode cX11_worth 37 = .ok (.invokevirtual 206, 3) := by decide +kernel
theorem dX11_worth_40 : decode cX11_worth 40 = .ok (.ireturn, 1) := by decide +kernel
theorem dX11_isFresh_0 : decode cX11_isFresh 0 = .ok (.aload_n 0, 1) := by decide +kernel
theorem dX11_isFresh_1 : decode cX11_isFresh 1 = .ok (.getfield 7, 3) := by decide +kernel
theorem dX11_isFresh_4 : decode cX11_isFresh 4 = .ok (.bipush 37, 2) := by decide +kernel
theorem dX11_isFresh_6 : decode cX11_isFresh 6 = .ok (.iload_n 1, 1) := by decide +kernel
theorem dX11_isFresh_7 : decode cX11_isFresh 7 = .ok (.iadd, 1) := by decide +kernel
theorem dX11_isFresh_8 : decode cX11_isFresh 8 = .ok (.iaload, 1) := by decide +kernel
theorem dX11_isFresh_9 : decode cX11_isFresh 9 = .ok (.iconst (-1), 1) := by decide +kernel
theorem dX11_isFresh_10 : decode cX11_isFresh 10 = .ok (.if_icmp .ne 7, 3) := by decide +kernel
theorem dX11_isFresh_13 : decode cX11_isFresh 13 = .ok (.iconst 1, 1) := by decide +kernel
theorem dX11_isFresh_14 : decode cX11_isFresh 14 = .ok (.goto 4, 3) := by decide +kernel
theorem dX11_isFresh_17 : decode cX11_isFresh 17 = .ok (.iconst 0, 1) := by decide +kernel
theorem dX11_isFresh_18 : decode cX11_isFresh 18 = .ok (.ireturn, 1) := by decide +kernel
theorem dX11_onPillow_0 : decode cX11_onPillow 0 = .ok (.iconst (-1), 1) := by decide +kernel
theorem dX11_onPillow_1 : decode cX11_onPillow 1 = .ok (.istore_n 2, 1) := by decide +kernel
theorem dX11_onPillow_2 : decode cX11_onPillow 2 = .ok (.iconst 0, 1) := by decide +kernel
theorem dX11_onPillow_3 : decode cX11_onPillow 3 = .ok (.istore_n 3, 1) := by decide +kernel
theorem dX11_onPillow_4 : decode cX11_onPillow 4 = .ok (.iload_n 3, 1) := by decide +kernel
theorem dX11_onPillow_5 : decode cX11_onPillow 5 = .ok (.aload_n 0, 1) := by decide +kernel
theorem dX11_onPillow_6 : decode cX11_onPillow 6 = .ok (.getfield 83, 3) := by decide +kernel
theorem dX11_onPillow_9 : decode cX11_onPillow 9 = .ok (.if_icmp .ge 28, 3) := by decide +kernel
theorem dX11_onPillow_12 : decode cX11_onPillow 12 = .ok (.aload_n 0, 1) := by decide +kernel
theorem dX11_onPillow_13 : decode cX11_onPillow 13 = .ok (.getfield 7, 3) := by decide +kernel
theorem dX11_onPillow_16 : decode cX11_onPillow 16 = .ok (.bipush 30, 2) := by decide +kernel
theorem dX11_onPillow_18 : decode cX11_onPillow 18 = .ok (.iload_n 3, 1) := by decide +kernel
theorem dX11_onPillow_19 : decode cX11_onPillow 19 = .ok (.iadd, 1) := by decide +kernel
theorem dX11_onPillow_20 : decode cX11_onPillow 20 = .ok (.iaload, 1) := by decide +kernel
theorem dX11_onPillow_21 : decode cX11_onPillow 21 = .ok (.iload_n 1, 1) := by decide +kernel
theorem dX11_onPillow_22 : decode cX11_onPillow 22 = .ok (.if_icmp .ne 7, 3) := by decide +kernel
theorem dX11_onPillow_25 : decode cX11_onPillow 25 = .ok (.iload_n 3, 1) := by decide +kernel
theorem dX11_onPillow_26 : decode cX11_onPillow 26 = .ok (.goto 4, 3) := by decide +kernel
theorem dX11_onPillow_29 : decode cX11_onPillow 29 = .ok (.iload_n 2, 1) := by decide +kernel
theorem dX11_onPillow_30 : decode cX11_onPillow 30 = .ok (.istore_n 2, 1) := by decide +kernel
theorem dX11_onPillow_31 : decode cX11_onPillow 31 = .ok (.iinc 3 1, 3) := by decide +kernel
theorem dX11_onPillow_34 : decode cX11_onPillow 34 = .ok (.goto (-30), 3) := by decide +kernel
theorem dX11_onPillow_37 : decode cX11_onPillow 37 = .ok (.iload_n 2, 1) := by decide +kernel
theorem dX11_onPillow_38 : decode cX11_onPillow 38 = .ok (.ireturn, 1) := by decide +kernel
theorem dX11_lay_0 : decode cX11_lay 0 = .ok (.aload_n 0, 1) := by decide +kernel
theorem dX11_lay_1 : decode cX11_lay 1 = .ok (.iload_n 1, 1) := by decide +kernel
theorem dX11_lay_2 : decode cX11_lay 2 = .ok (.invokevirtual 200, 3) := by decide +kernel
theorem dX11_lay_5 : decode cX11_lay 5 = .ok (.ifCond .eq 11, 3) := by decide +kernel
theorem dX11_lay_8 : decode cX11_lay 8 = .ok (.aload_n 0, 1) := by decide +kernel
theorem dX11_lay_9 : decode cX11_lay 9 = .ok (.iload_n 2, 1) := by decide +kernel
theorem dX11_lay_10 : decode cX11_lay 10 = .ok (.invokevirtual 186, 3) := by decide +kernel
theorem dX11_lay_13 : decode cX11_lay 13 = .ok (.ifCond .ne 6, 3) := by decide +kernel
theorem dX11_lay_16 : decode cX11_lay 16 = .ok (.ldc 192, 2) := by decide +kernel
theorem dX11_lay_18 : decode cX11_lay 18 = .ok (.ireturn, 1) := by decide +kernel
theorem dX11_lay_19 : decode cX11_lay 19 = .ok (.aload_n 0, 1) := by decide +kernel
theorem dX11_lay_20 : decode cX11_lay 20 = .ok (.iload_n 1, 1) := by decide +kernel
theorem dX11_lay_21 : decode cX11_lay 21 = .ok (.invokevirtual 209, 3) := by decide +kernel
theorem dX11_lay_24 : decode cX11_lay 24 = .ok (.ifCond .eq 35, 3) := by decide +kernel
theorem dX11_lay_27 : decode cX11_lay 27 = .ok (.aload_n 0, 1) := by decide +kernel
theorem dX11_lay_28 : decode cX11_lay 28 = .ok (.getfield 7, 3) := by decide +kernel
theorem dX11_lay_31 : decode cX11_lay 31 = .ok (.bipush 30, 2) := by decide +kernel
theorem dX11_lay_33 : decode cX11_lay 33 = .ok (.iload_n 1, 1) := by decide +kernel
theorem dX11_lay_34 : decode cX11_lay 34 = .ok (.iadd, 1) := by decide +kernel
theorem dX11_lay_35 : decode cX11_lay 35 = .ok (.iaload, 1) := by decide +kernel
theorem dX11_lay_36 : decode cX11_lay 36 = .ok (.iconst (-1), 1) := by decide +kernel
theorem dX11_lay_37 : decode cX11_lay 37 = .ok (.if_icmp .ne 22, 3) := by decide +kernel
theorem dX11_lay_40 : decode cX11_lay 40 = .ok (.aload_n 0, 1) := by decide +kernel
theorem dX11_lay_41 : decode cX11_lay 41 = .ok (.getfield 17, 3) := by decide +kernel
theorem dX11_lay_44 : decode cX11_lay 44 = .ok (.iload_n 1, 1) := by decide +kernel
theorem dX11_lay_45 : decode cX11_lay 45 = .ok (.iaload, 1) := by decide +kernel
theorem dX11_lay_46 : decode cX11_lay 46 = .ok (.iload_n 2, 1) := by decide +kernel
theorem dX11_lay_47 : decode cX11_lay 47 = .ok (.if_icmp .eq 12, 3) := by decide +kernel
theorem dX11_lay_50 : decode cX11_lay 50 = .ok (.aload_n 0, 1) := by decide +kernel
theorem dX11_lay_51 : decode cX11_lay 51 = .ok (.iload_n 2, 1) := by decide +kernel
theorem dX11_lay_52 : decode cX11_lay 52 = .ok (.invokevirtual 212, 3) := by decide +kernel
theorem dX11_lay_55 : decode cX11_lay 55 = .ok (.iconst (-1), 1) := by decide +kernel
theorem dX11_lay_56 : decode cX11_lay 56 = .ok (.if_icmp .eq 6, 3) := by decide +kernel
theorem dX11_lay_59 : decode cX11_lay 59 = .ok (.ldc 205, 2) := by decide +kernel
theorem dX11_lay_61 : decode cX11_lay 61 = .ok (.ireturn, 1) := by decide +kernel
theorem dX11_lay_62 : decode cX11_lay 62 = .ok (.aload_n 0, 1) := by decide +kernel
theorem dX11_lay_63 : decode cX11_lay 63 = .ok (.getfield 7, 3) := by decide +kernel
theorem dX11_lay_66 : decode cX11_lay 66 = .ok (.bipush 30, 2) := by decide +kernel
theorem dX11_lay_68 : decode cX11_lay 68 = .ok (.iload_n 1, 1) := by decide +kernel
theorem dX11_lay_69 : decode cX11_lay 69 = .ok (.iadd, 1) := by decide +kernel
theorem dX11_lay_70 : decode cX11_lay 70 = .ok (.iload_n 2, 1) := by decide +kernel
theorem dX11_lay_71 : decode cX11_lay 71 = .ok (.iastore, 1) := by decide +kernel
theorem dX11_lay_72 : decode cX11_lay 72 = .ok (.aload_n 0, 1) := by decide +kernel
theorem dX11_lay_73 : decode cX11_lay 73 = .ok (.bipush 9, 2) := by decide +kernel
theorem dX11_lay_75 : decode cX11_lay 75 = .ok (.invokevirtual 179, 3) := by decide +kernel
theorem dX11_lay_78 : decode cX11_lay 78 = .ok (.ireturn, 1) := by decide +kernel
theorem dX11_takeOff_0 : decode cX11_takeOff 0 = .ok (.aload_n 0, 1) := by decide +kernel
theorem dX11_takeOff_1 : decode cX11_takeOff 1 = .ok (.iload_n 1, 1) := by decide +kernel
theorem dX11_takeOff_2 : decode cX11_takeOff 2 = .ok (.invokevirtual 200, 3) := by decide +kernel
theorem dX11_takeOff_5 : decode cX11_takeOff 5 = .ok (.ifCond .ne 6, 3) := by decide +kernel
theorem dX11_takeOff_8 : decode cX11_takeOff 8 = .ok (.ldc 192, 2) := by decide +kernel
theorem dX11_takeOff_10 : decode cX11_takeOff 10 = .ok (.ireturn, 1) := by decide +kernel
theorem dX11_takeOff_11 : decode cX11_takeOff 11 = .ok (.aload_n 0, 1) := by decide +kernel
theorem dX11_takeOff_12 : decode cX11_takeOff 12 = .ok (.getfield 7, 3) := by decide +kernel
theorem dX11_takeOff_15 : decode cX11_takeOff 15 = .ok (.bipush 30, 2) := by decide +kernel
theorem dX11_takeOff_17 : decode cX11_takeOff 17 = .ok (.iload_n 1, 1) := by decide +kernel
theorem dX11_takeOff_18 : decode cX11_takeOff 18 = .ok (.iadd, 1) := by decide +kernel
theorem dX11_takeOff_19 : decode cX11_takeOff 19 = .ok (.iaload, 1) := by decide +kernel
theorem dX11_takeOff_20 : decode cX11_takeOff 20 = .ok (.istore_n 2, 1) := by decide +kernel
theorem dX11_takeOff_21 : decode cX11_takeOff 21 = .ok (.aload_n 0, 1) := by decide +kernel
theorem dX11_takeOff_22 : decode cX11_takeOff 22 = .ok (.getfield 7, 3) := by decide +kernel
theorem dX11_takeOff_25 : decode cX11_takeOff 25 = .ok (.bipush 30, 2) := by decide +kernel
theorem dX11_takeOff_27 : decode cX11_takeOff 27 = .ok (.iload_n 1, 1) := by decide +kernel
theorem dX11_takeOff_28 : decode cX11_takeOff 28 = .ok (.iadd, 1) := by decide +kernel
theorem dX11_takeOff_29 : decode cX11_takeOff 29 = .ok (.iconst (-1), 1) := by decide +kernel
theorem dX11_takeOff_30 : decode cX11_takeOff 30 = .ok (.iastore, 1) := by decide +kernel
theorem dX11_takeOff_31 : decode cX11_takeOff 31 = .ok (.iload_n 2, 1) := by decide +kernel
theorem dX11_takeOff_32 : decode cX11_takeOff 32 = .ok (.iconst (-1), 1) := by decide +kernel
theorem dX11_takeOff_33 : decode cX11_takeOff 33 = .ok (.if_icmp .ne 8, 3) := by decide +kernel
theorem dX11_takeOff_36 : decode cX11_takeOff 36 = .ok (.ldc 205, 2) := by decide +kernel
theorem dX11_takeOff_38 : decode cX11_takeOff 38 = .ok (.goto 4, 3) := by decide +kernel
theorem dX11_takeOff_41 : decode cX11_takeOff 41 = .ok (.iload_n 2, 1) := by decide +kernel
theorem dX11_takeOff_42 : decode cX11_takeOff 42 = .ok (.ireturn, 1) := by decide +kernel
theorem dX11_isAwake_0 : decode cX11_isAwake 0 = .ok (.aload_n 0, 1) := by decide +kernel
theorem dX11_isAwake_1 : decode cX11_isAwake 1 = .ok (.getfield 7, 3) := by decide +kernel
theorem dX11_isAwake_4 : decode cX11_isAwake 4 = .ok (.bipush 51, 2) := by decide +kernel
theorem dX11_isAwake_6 : decode cX11_isAwake 6 = .ok (.iaload, 1) := by decide +kernel
theorem dX11_isAwake_7 : decode cX11_isAwake 7 = .ok (.iload_n 1, 1) := by decide +kernel
theorem dX11_isAwake_8 : decode cX11_isAwake 8 = .ok (.invokestatic 215, 3) := by decide +kernel
theorem dX11_isAwake_11 : decode cX11_isAwake 11 = .ok (.ireturn, 1) := by decide +kernel
theorem dX11_wake_0 : decode cX11_wake 0 = .ok (.aload_n 0, 1) := by decide +kernel
theorem dX11_wake_1 : decode cX11_wake 1 = .ok (.iload_n 1, 1) := by decide +kernel
theorem dX11_wake_2 : decode cX11_wake 2 = .ok (.invokevirtual 186, 3) := by decide +kernel
theorem dX11_wake_5 : decode cX11_wake 5 = .ok (.ifCond .ne 6, 3) := by decide +kernel
theorem dX11_wake_8 : decode cX11_wake 8 = .ok (.ldc 192, 2) := by decide +kernel
theorem dX11_wake_10 : decode cX11_wake 10 = .ok (.ireturn, 1) := by decide +kernel
theorem dX11_wake_11 : decode cX11_wake 11 = .ok (.aload_n 0, 1) := by decide +kernel
theorem dX11_wake_12 : decode cX11_wake 12 = .ok (.iload_n 1, 1) := by decide +kernel
theorem dX11_wake_13 : decode cX11_wake 13 = .ok (.invokevirtual 218, 3) := by decide +kernel
theorem dX11_wake_16 : decode cX11_wake 16 = .ok (.ifCond .eq 7, 3) := by decide +kernel
theorem dX11_wake_19 : decode cX11_wake 19 = .ok (.iconst 1, 1) := by decide +kernel
theorem dX11_wake_20 : decode cX11_wake 20 = .ok (.goto 4, 3) := by decide +kernel
theorem dX11_wake_23 : decode cX11_wake 23 = .ok (.iconst 0, 1) := by decide +kernel
theorem dX11_wake_24 : decode cX11_wake 24 = .ok (.istore_n 3, 1) := by decide +kernel
theorem dX11_wake_25 : decode cX11_wake 25 = .ok (.aload_n 0, 1) := by decide +kernel
theorem dX11_wake_26 : decode cX11_wake 26 = .ok (.getfield 7, 3) := by decide +kernel
theorem dX11_wake_29 : decode cX11_wake 29 = .ok (.bipush 51, 2) := by decide +kernel
theorem dX11_wake_31 : decode cX11_wake 31 = .ok (.iload_n 2, 1) := by decide +kernel
theorem dX11_wake_32 : decode cX11_wake 32 = .ok (.ifCond .eq 17, 3) := by decide +kernel
theorem dX11_wake_35 : decode cX11_wake 35 = .ok (.aload_n 0, 1) := by decide +kernel
theorem dX11_wake_36 : decode cX11_wake 36 = .ok (.getfield 7, 3) := by decide +kernel
theorem dX11_wake_39 : decode cX11_wake 39 = .ok (.bipush 51, 2) := by decide +kernel
theorem dX11_wake_41 : decode cX11_wake 41 = .ok (.iaload, 1) := by decide +kernel
theorem dX11_wake_42 : decode cX11_wake 42 = .ok (.iconst 1, 1) := by decide +kernel
theorem dX11_wake_43 : decode cX11_wake 43 = .ok (.iload_n 1, 1) := by decide +kernel
theorem dX11_wake_44 : decode cX11_wake 44 = .ok (.ishl, 1) := by decide +kernel
theorem dX11_wake_45 : decode cX11_wake 45 = .ok (.ior, 1) := by decide +kernel
theorem dX11_wake_46 : decode cX11_wake 46 = .ok (.goto 16, 3) := by decide +kernel
theorem dX11_wake_49 : decode cX11_wake 49 = .ok (.aload_n 0, 1) := by decide +kernel
theorem dX11_wake_50 : decode cX11_wake 50 = .ok (.getfield 7, 3) := by decide +kernel
theorem dX11_wake_53 : decode cX11_wake 53 = .ok (.bipush 51, 2) := by decide +kernel
theorem dX11_wake_55 : decode cX11_wake 55 = .ok (.iaload, 1) := by decide +kernel
theorem dX11_wake_56 : decode cX11_wake 56 = .ok (.iconst 1, 1) := by decide +kernel
theorem dX11_wake_57 : decode cX11_wake 57 = .ok (.iload_n 1, 1) := by decide +kernel
theorem dX11_wake_58 : decode cX11_wake 58 = .ok (.ishl, 1) := by decide +kernel
theorem dX11_wake_59 : decode cX11_wake 59 = .ok (.iconst (-1), 1) := by decide +kernel
theorem dX11_wake_60 : decode cX11_wake 60 = .ok (.ixor, 1) := by decide +kernel
theorem dX11_wake_61 : decode cX11_wake 61 = .ok (.iand, 1) := by decide +kernel
theorem dX11_wake_62 : decode cX11_wake 62 = .ok (.iastore, 1) := by decide +kernel
theorem dX11_wake_63 : decode cX11_wake 63 = .ok (.iload_n 3, 1) := by decide +kernel
theorem dX11_wake_64 : decode cX11_wake 64 = .ok (.ireturn, 1) := by decide +kernel
theorem dX11_draw_0 : decode cX11_draw 0 = .ok (.aload_n 0, 1) := by decide +kernel
theorem dX11_draw_1 : decode cX11_draw 1 = .ok (.getfield 7, 3) := by decide +kernel
theorem dX11_draw_4 : decode cX11_draw 4 = .ok (.bipush 54, 2) := by decide +kernel
theorem dX11_draw_6 : decode cX11_draw 6 = .ok (.aload_n 0, 1) := by decide +kernel
theorem dX11_draw_7 : decode cX11_draw 7 = .ok (.getfield 7, 3) := by decide +kernel
theorem dX11_draw_10 : decode cX11_draw 10 = .ok (.bipush 54, 2) := by decide +kernel
theorem dX11_draw_12 : decode cX11_draw 12 = .ok (.iaload, 1) := by decide +kernel
theorem dX11_draw_13 : decode cX11_draw 13 = .ok (.i2l, 1) := by decide +kernel
theorem dX11_draw_14 : decode cX11_draw 14 = .ok (.ldc2_w 221, 3) := by decide +kernel
theorem dX11_draw_17 : decode cX11_draw 17 = .ok (.lmul, 1) := by decide +kernel
theorem dX11_draw_18 : decode cX11_draw 18 = .ok (.ldc2_w 223, 3) := by decide +kernel
theorem dX11_draw_21 : decode cX11_draw 21 = .ok (.ladd, 1) := by decide +kernel
theorem dX11_draw_22 : decode cX11_draw 22 = .ok (.ldc2_w 225, 3) := by decide +kernel
theorem dX11_draw_25 : decode cX11_draw 25 = .ok (.lrem, 1) := by decide +kernel
theorem dX11_draw_26 : decode cX11_draw 26 = .ok (.l2i, 1) := by decide +kernel
theorem dX11_draw_27 : decode cX11_draw 27 = .ok (.iastore, 1) := by decide +kernel
theorem dX11_draw_28 : decode cX11_draw 28 = .ok (.aload_n 0, 1) := by decide +kernel
theorem dX11_draw_29 : decode cX11_draw 29 = .ok (.getfield 7, 3) := by decide +kernel
theorem dX11_draw_32 : decode cX11_draw 32 = .ok (.bipush 54, 2) := by decide +kernel
theorem dX11_draw_34 : decode cX11_draw 34 = .ok (.iaload, 1) := by decide +kernel
theorem dX11_draw_35 : decode cX11_draw 35 = .ok (.ldc 227, 2) := by decide +kernel
theorem dX11_draw_37 : decode cX11_draw 37 = .ok (.idiv, 1) := by decide +kernel
theorem dX11_draw_38 : decode cX11_draw 38 = .ok (.iload_n 1, 1) := by decide +kernel
theorem dX11_draw_39 : decode cX11_draw 39 = .ok (.irem, 1) := by decide +kernel
theorem dX11_draw_40 : decode cX11_draw 40 = .ok (.ireturn, 1) := by decide +kernel
theorem dX11_dreamsNow_0 : decode cX11_dreamsNow 0 = .ok (.aload_n 0, 1) := by decide +kernel
theorem dX11_dreamsNow_1 : decode cX11_dreamsNow 1 = .ok (.aload_n 0, 1) := by decide +kernel
theorem dX11_dreamsNow_2 : decode cX11_dreamsNow 2 = .ok (.iconst 0, 1) := by decide +kernel
theorem dX11_dreamsNow_3 : decode cX11_dreamsNow 3 = .ok (.iload_n 1, 1) := by decide +kernel
theorem dX11_dreamsNow_4 : decode cX11_dreamsNow 4 = .ok (.invokevirtual 193, 3) := by decide +kernel
theorem dX11_dreamsNow_7 : decode cX11_dreamsNow 7 = .ok (.invokevirtual 228, 3) := by decide +kernel
theorem dX11_dreamsNow_10 : decode cX11_dreamsNow 10 = .ok (.istore_n 2, 1) := by decide +kernel
theorem dX11_dreamsNow_11 : decode cX11_dreamsNow 11 = .ok (.iconst 0, 1) := by decide +kernel
theorem dX11_dreamsNow_12 : decode cX11_dreamsNow 12 = .ok (.istore_n 3, 1) := by decide +kernel
theorem dX11_dreamsNow_13 : decode cX11_dreamsNow 13 = .ok (.iload_n 2, 1) := by decide +kernel
theorem dX11_dreamsNow_14 : decode cX11_dreamsNow 14 = .ok (.aload_n 0, 1) := by decide +kernel
theorem dX11_dreamsNow_15 : decode cX11_dreamsNow 15 = .ok (.iconst 0, 1) := by decide +kernel
theorem dX11_dreamsNow_16 : decode cX11_dreamsNow 16 = .ok (.iload_n 1, 1) := by decide +kernel
theorem dX11_dreamsNow_17 : decode cX11_dreamsNow 17 = .ok (.iload_n 3, 1) := by decide +kernel
theorem dX11_dreamsNow_18 : decode cX11_dreamsNow 18 = .ok (.invokevirtual 182, 3) := by decide +kernel
theorem dX11_dreamsNow_21 : decode cX11_dreamsNow 21 = .ok (.if_icmp .lt 19, 3) := by decide +kernel
theorem dX11_dreamsNow_24 : decode cX11_dreamsNow 24 = .ok (.iload_n 2, 1) := by decide +kernel
theorem dX11_dreamsNow_25 : decode cX11_dreamsNow 25 = .ok (.aload_n 0, 1) := by decide +kernel
theorem dX11_dreamsNow_26 : decode cX11_dreamsNow 26 = .ok (.iconst 0, 1) := by decide +kernel
theorem dX11_dreamsNow_27 : decode cX11_dreamsNow 27 = .ok (.iload_n 1, 1) := by decide +kernel
theorem dX11_dreamsNow_28 : decode cX11_dreamsNow 28 = .ok (.iload_n 3, 1) := by decide +kernel
theorem dX11_dreamsNow_29 : decode cX11_dreamsNow 29 = .ok (.invokevirtual 182, 3) := by decide +kernel
theorem dX11_dreamsNow_32 : decode cX11_dreamsNow 32 = .ok (.isub, 1) := by decide +kernel
theorem dX11_dreamsNow_33 : decode cX11_dreamsNow 33 = .ok (.istore_n 2, 1) := by decide +kernel
theorem dX11_dreamsNow_34 : decode cX11_dreamsNow 34 = .ok (.iinc 3 1, 3) := by decide +kernel
theorem dX11_dreamsNow_37 : decode cX11_dreamsNow 37 = .ok (.goto (-24), 3) := by decide +kernel
theorem dX11_dreamsNow_40 : decode cX11_dreamsNow 40 = .ok (.aload_n 0, 1) := by decide +kernel
theorem dX11_dreamsNow_41 : decode cX11_dreamsNow 41 = .ok (.iload_n 1, 1) := by decide +kernel
theorem dX11_dreamsNow_42 : decode cX11_dreamsNow 42 = .ok (.invokevirtual 212, 3) := by decide +kernel
theorem dX11_dreamsNow_45 : decode cX11_dreamsNow 45 = .ok (.istore 4, 2) := by decide +kernel
theorem dX11_dreamsNow_47 : decode cX11_dreamsNow 47 = .ok (.iload 4, 2) := by decide +kernel
theorem dX11_dreamsNow_49 : decode cX11_dreamsNow 49 = .ok (.iconst (-1), 1) := by decide +kernel
theorem dX11_dreamsNow_50 : decode cX11_dreamsNow 50 = .ok (.if_icmp .eq 25, 3) := by decide +kernel
theorem dX11_dreamsNow_53 : decode cX11_dreamsNow 53 = .ok (.aload_n 0, 1) := by decide +kernel
theorem dX11_dreamsNow_54 : decode cX11_dreamsNow 54 = .ok (.getfield 7, 3) := by decide +kernel
theorem dX11_dreamsNow_57 : decode cX11_dreamsNow 57 = .ok (.bipush 37, 2) := by decide +kernel
theorem dX11_dreamsNow_59 : decode cX11_dreamsNow 59 = .ok (.iload 4, 2) := by decide +kernel
theorem dX11_dreamsNow_61 : decode cX11_dreamsNow 61 = .ok (.iadd, 1) := by decide +kernel
theorem dX11_dreamsNow_62 : decode cX11_dreamsNow 62 = .ok (.iload_n 3, 1) := by decide +kernel
theorem dX11_dreamsNow_63 : decode cX11_dreamsNow 63 = .ok (.iastore, 1) := by decide +kernel
theorem dX11_dreamsNow_64 : decode cX11_dreamsNow 64 = .ok (.aload_n 0, 1) := by decide +kernel
theorem dX11_dreamsNow_65 : decode cX11_dreamsNow 65 = .ok (.getfield 7, 3) := by decide +kernel
theorem dX11_dreamsNow_68 : decode cX11_dreamsNow 68 = .ok (.bipush 30, 2) := by decide +kernel
theorem dX11_dreamsNow_70 : decode cX11_dreamsNow 70 = .ok (.iload 4, 2) := by decide +kernel
theorem dX11_dreamsNow_72 : decode cX11_dreamsNow 72 = .ok (.iadd, 1) := by decide +kernel
theorem dX11_dreamsNow_73 : decode cX11_dreamsNow 73 = .ok (.iconst (-1), 1) := by decide +kernel
theorem dX11_dreamsNow_74 : decode cX11_dreamsNow 74 = .ok (.iastore, 1) := by decide +kernel
theorem dX11_dreamsNow_75 : decode cX11_dreamsNow 75 = .ok (.return_, 1) := by decide +kernel
theorem dX11_night_0 : decode cX11_night 0 = .ok (.iload_n 1, 1) := by decide +kernel
theorem dX11_night_1 : decode cX11_night 1 = .ok (.i2l, 1) := by decide +kernel
theorem dX11_night_2 : decode cX11_night 2 = .ok (.lconst 1, 1) := by decide +kernel
theorem dX11_night_3 : decode cX11_night 3 = .ok (.ldc2_w 231, 3) := by decide +kernel
theorem dX11_night_6 : decode cX11_night 6 = .ok (.invokestatic 76, 3) := by decide +kernel
theorem dX11_night_9 : decode cX11_night 9 = .ok (.ifCond .ne 6, 3) := by decide +kernel
theorem dX11_night_12 : decode cX11_night 12 = .ok (.ldc 88, 2) := by decide +kernel
theorem dX11_night_14 : decode cX11_night 14 = .ok (.ireturn, 1) := by decide +kernel
theorem dX11_night_15 : decode cX11_night 15 = .ok (.aload_n 0, 1) := by decide +kernel
theorem dX11_night_16 : decode cX11_night 16 = .ok (.getfield 80, 3) := by decide +kernel
theorem dX11_night_19 : decode cX11_night 19 = .ok (.ifCond .ne 6, 3) := by decide +kernel
theorem dX11_night_22 : decode cX11_night 22 = .ok (.ldc 205, 2) := by decide +kernel
theorem dX11_night_24 : decode cX11_night 24 = .ok (.ireturn, 1) := by decide +kernel
theorem dX11_night_25 : decode cX11_night 25 = .ok (.aload_n 0, 1) := by decide +kernel
theorem dX11_night_26 : decode cX11_night 26 = .ok (.getfield 7, 3) := by decide +kernel
theorem dX11_night_29 : decode cX11_night 29 = .ok (.bipush 52, 2) := by decide +kernel
theorem dX11_night_31 : decode cX11_night 31 = .ok (.iaload, 1) := by decide +kernel
theorem dX11_night_32 : decode cX11_night 32 = .ok (.ldc 233, 2) := by decide +kernel
theorem dX11_night_34 : decode cX11_night 34 = .ok (.if_icmp .le 6, 3) := by decide +kernel
theorem dX11_night_37 : decode cX11_night 37 = .ok (.ldc 92, 2) := by decide +kernel
theorem dX11_night_39 : decode cX11_night 39 = .ok (.ireturn, 1) := by decide +kernel
theorem dX11_night_40 : decode cX11_night 40 = .ok (.iconst 0, 1) := by decide +kernel
theorem dX11_night_41 : decode cX11_night 41 = .ok (.istore_n 2, 1) := by decide +kernel
theorem dX11_night_42 : decode cX11_night 42 = .ok (.iload_n 2, 1) := by decide +kernel
theorem dX11_night_43 : decode cX11_night 43 = .ok (.iload_n 1, 1) := by decide +kernel
theorem dX11_night_44 : decode cX11_night 44 = .ok (.if_icmp .ge 49, 3) := by decide +kernel
theorem dX11_night_47 : decode cX11_night 47 = .ok (.iconst 0, 1) := by decide +kernel
theorem dX11_night_48 : decode cX11_night 48 = .ok (.istore_n 3, 1) := by decide +kernel
theorem dX11_night_49 : decode cX11_night 49 = .ok (.iload_n 3, 1) := by decide +kernel
theorem dX11_night_50 : decode cX11_night 50 = .ok (.aload_n 0, 1) := by decide +kernel
theorem dX11_night_51 : decode cX11_night 51 = .ok (.getfield 73, 3) := by decide +kernel
theorem dX11_night_54 : decode cX11_night 54 = .ok (.if_icmp .ge 22, 3) := by decide +kernel
theorem dX11_night_57 : decode cX11_night 57 = .ok (.aload_n 0, 1) := by decide +kernel
theorem dX11_night_58 : decode cX11_night 58 = .ok (.iload_n 3, 1) := by decide +kernel
theorem dX11_night_59 : decode cX11_night 59 = .ok (.invokevirtual 218, 3) := by decide +kernel
theorem dX11_night_62 : decode cX11_night 62 = .ok (.ifCond .ne 8, 3) := by decide +kernel
theorem dX11_night_65 : decode cX11_night 65 = .ok (.aload_n 0, 1) := by decide +kernel
theorem dX11_night_66 : decode cX11_night 66 = .ok (.iload_n 3, 1) := by decide +kernel
theorem dX11_night_67 : decode cX11_night 67 = .ok (.invokevirtual 234, 3) := by decide +kernel
theorem dX11_night_70 : decode cX11_night 70 = .ok (.iinc 3 1, 3) := by decide +kernel
theorem dX11_night_73 : decode cX11_night 73 = .ok (.goto (-24), 3) := by decide +kernel
theorem dX11_night_76 : decode cX11_night 76 = .ok (.aload_n 0, 1) := by decide +kernel
theorem dX11_night_77 : decode cX11_night 77 = .ok (.getfield 7, 3) := by decide +kernel
theorem dX11_night_80 : decode cX11_night 80 = .ok (.bipush 52, 2) := by decide +kernel
theorem dX11_night_82 : decode cX11_night 82 = .ok (.dup2, 1) := by decide +kernel
theorem dX11_night_83 : decode cX11_night 83 = .ok (.iaload, 1) := by decide +kernel
theorem dX11_night_84 : decode cX11_night 84 = .ok (.iconst 1, 1) := by decide +kernel
theorem dX11_night_85 : decode cX11_night 85 = .ok (.iadd, 1) := by decide +kernel
theorem dX11_night_86 : decode cX11_night 86 = .ok (.iastore, 1) := by decide +kernel
theorem dX11_night_87 : decode cX11_night 87 = .ok (.iinc 2 1, 3) := by decide +kernel
theorem dX11_night_90 : decode cX11_night 90 = .ok (.goto (-48), 3) := by decide +kernel
theorem dX11_night_93 : decode cX11_night 93 = .ok (.aload_n 0, 1) := by decide +kernel
theorem dX11_night_94 : decode cX11_night 94 = .ok (.bipush 10, 2) := by decide +kernel
theorem dX11_night_96 : decode cX11_night 96 = .ok (.invokevirtual 179, 3) := by decide +kernel
theorem dX11_night_99 : decode cX11_night 99 = .ok (.ireturn, 1) := by decide +kernel
theorem dX11_grows_0 : decode cX11_grows 0 = .ok (.aload_n 0, 1) := by decide +kernel
theorem dX11_grows_1 : decode cX11_grows 1 = .ok (.iload_n 1, 1) := by decide +kernel
theorem dX11_grows_2 : decode cX11_grows 2 = .ok (.iload_n 2, 1) := by decide +kernel
theorem dX11_grows_3 : decode cX11_grows 3 = .ok (.iload_n 3, 1) := by decide +kernel
theorem dX11_grows_4 : decode cX11_grows 4 = .ok (.invokevirtual 182, 3) := by decide +kernel
theorem dX11_grows_7 : decode cX11_grows 7 = .ok (.aload_n 0, 1) := by decide +kernel
theorem dX11_grows_8 : decode cX11_grows 8 = .ok (.getfield 163, 3) := by decide +kernel
theorem dX11_grows_11 : decode cX11_grows 11 = .ok (.iadd, 1) := by decide +kernel
theorem dX11_grows_12 : decode cX11_grows 12 = .ok (.istore 4, 2) := by decide +kernel
theorem dX11_grows_14 : decode cX11_grows 14 = .ok (.aload_n 0, 1) := by decide +kernel
theorem dX11_grows_15 : decode cX11_grows 15 = .ok (.getfield 7, 3) := by decide +kernel
theorem dX11_grows_18 : decode cX11_grows 18 = .ok (.iload_n 1, 1) := by decide +kernel
theorem dX11_grows_19 : decode cX11_grows 19 = .ok (.iconst 0, 1) := by decide +kernel
theorem dX11_grows_20 : decode cX11_grows 20 = .ok (.iadd, 1) := by decide +kernel
theorem dX11_grows_21 : decode cX11_grows 21 = .ok (.iconst 5, 1) := by decide +kernel
theorem dX11_grows_22 : decode cX11_grows 22 = .ok (.iload_n 2, 1) := by decide +kernel
theorem dX11_grows_23 : decode cX11_grows 23 = .ok (.imul, 1) := by decide +kernel
theorem dX11_grows_24 : decode cX11_grows 24 = .ok (.iadd, 1) := by decide +kernel
theorem dX11_grows_25 : decode cX11_grows 25 = .ok (.iload_n 3, 1) := by decide +kernel
theorem dX11_grows_26 : decode cX11_grows 26 = .ok (.iadd, 1) := by decide +kernel
theorem dX11_grows_27 : decode cX11_grows 27 = .ok (.iload 4, 2) := by decide +kernel
theorem dX11_grows_29 : decode cX11_grows 29 = .ok (.bipush 9, 2) := by decide +kernel
theorem dX11_grows_31 : decode cX11_grows 31 = .ok (.if_icmp .le 8, 3) := by decide +kernel
theorem dX11_grows_34 : decode cX11_grows 34 = .ok (.bipush 9, 2) := by decide +kernel
theorem dX11_grows_36 : decode cX11_grows 36 = .ok (.goto 5, 3) := by decide +kernel
theorem dX11_grows_39 : decode cX11_grows 39 = .ok (.iload 4, 2) := by decide +kernel
theorem dX11_grows_41 : decode cX11_grows 41 = .ok (.iastore, 1) := by decide +kernel
theorem dX11_grows_42 : decode cX11_grows 42 = .ok (.return_, 1) := by decide +kernel
theorem dX11_eat_0 : decode cX11_eat 0 = .ok (.aload_n 0, 1) := by decide +kernel
theorem dX11_eat_1 : decode cX11_eat 1 = .ok (.iload_n 1, 1) := by decide +kernel
theorem dX11_eat_2 : decode cX11_eat 2 = .ok (.invokevirtual 200, 3) := by decide +kernel
theorem dX11_eat_5 : decode cX11_eat 5 = .ok (.ifCond .ne 6, 3) := by decide +kernel
theorem dX11_eat_8 : decode cX11_eat 8 = .ok (.ldc 192, 2) := by decide +kernel
theorem dX11_eat_10 : decode cX11_eat 10 = .ok (.ireturn, 1) := by decide +kernel
theorem dX11_eat_11 : decode cX11_eat 11 = .ok (.aload_n 0, 1) := by decide +kernel
theorem dX11_eat_12 : decode cX11_eat 12 = .ok (.iload_n 1, 1) := by decide +kernel
theorem dX11_eat_13 : decode cX11_eat 13 = .ok (.invokevirtual 209, 3) := by decide +kernel
theorem dX11_eat_16 : decode cX11_eat 16 = .ok (.ifCond .eq 6, 3) := by decide +kernel
theorem dX11_eat_19 : decode cX11_eat 19 = .ok (.ldc 205, 2) := by decide +kernel
theorem dX11_eat_21 : decode cX11_eat 21 = .ok (.ireturn, 1) := by decide +kernel
theorem dX11_eat_22 : decode cX11_eat 22 = .ok (.aload_n 0, 1) := by decide +kernel
theorem dX11_eat_23 : decode cX11_eat 23 = .ok (.getfield 7, 3) := by decide +kernel
theorem dX11_eat_26 : decode cX11_eat 26 = .ok (.bipush 37, 2) := by decide +kernel
theorem dX11_eat_28 : decode cX11_eat 28 = .ok (.iload_n 1, 1) := by decide +kernel
theorem dX11_eat_29 : decode cX11_eat 29 = .ok (.iadd, 1) := by decide +kernel
theorem dX11_eat_30 : decode cX11_eat 30 = .ok (.iaload, 1) := by decide +kernel
theorem dX11_eat_31 : decode cX11_eat 31 = .ok (.istore_n 2, 1) := by decide +kernel
theorem dX11_eat_32 : decode cX11_eat 32 = .ok (.aload_n 0, 1) := by decide +kernel
theorem dX11_eat_33 : decode cX11_eat 33 = .ok (.getfield 7, 3) := by decide +kernel
theorem dX11_eat_36 : decode cX11_eat 36 = .ok (.bipush 44, 2) := by decide +kernel
theorem dX11_eat_38 : decode cX11_eat 38 = .ok (.iload_n 1, 1) := by decide +kernel
theorem dX11_eat_39 : decode cX11_eat 39 = .ok (.iadd, 1) := by decide +kernel
theorem dX11_eat_40 : decode cX11_eat 40 = .ok (.iaload, 1) := by decide +kernel
theorem dX11_eat_41 : decode cX11_eat 41 = .ok (.ifCond .ne 15, 3) := by decide +kernel
theorem dX11_eat_44 : decode cX11_eat 44 = .ok (.aload_n 0, 1) := by decide +kernel
theorem dX11_eat_45 : decode cX11_eat 45 = .ok (.iconst 0, 1) := by decide +kernel
theorem dX11_eat_46 : decode cX11_eat 46 = .ok (.aload_n 0, 1) := by decide +kernel
theorem dX11_eat_47 : decode cX11_eat 47 = .ok (.getfield 17, 3) := by decide +kernel
theorem dX11_eat_50 : decode cX11_eat 50 = .ok (.iload_n 1, 1) := by decide +kernel
theorem dX11_eat_51 : decode cX11_eat 51 = .ok (.iaload, 1) := by decide +kernel
theorem dX11_eat_52 : decode cX11_eat 52 = .ok (.iload_n 2, 1) := by decide +kernel
theorem dX11_eat_53 : decode cX11_eat 53 = .ok (.invokevirtual 238, 3) := by decide +kernel
theorem dX11_eat_56 : decode cX11_eat 56 = .ok (.aload_n 0, 1) := by decide +kernel
theorem dX11_eat_57 : decode cX11_eat 57 = .ok (.getfield 7, 3) := by decide +kernel
theorem dX11_eat_60 : decode cX11_eat 60 = .ok (.bipush 53, 2) := by decide +kernel
theorem dX11_eat_62 : decode cX11_eat 62 = .ok (.iaload, 1) := by decide +kernel
theorem dX11_eat_63 : decode cX11_eat 63 = .ok (.iload_n 2, 1) := by decide +kernel
theorem dX11_eat_64 : decode cX11_eat 64 = .ok (.aload_n 0, 1) := by decide +kernel
theorem dX11_eat_65 : decode cX11_eat 65 = .ok (.getfield 20, 3) := by decide +kernel
theorem dX11_eat_68 : decode cX11_eat 68 = .ok (.iload_n 1, 1) := by decide +kernel
theorem dX11_eat_69 : decode cX11_eat 69 = .ok (.iaload, 1) := by decide +kernel
theorem dX11_eat_70 : decode cX11_eat 70 = .ok (.if_icmp .ne 12, 3) := by decide +kernel
theorem dX11_eat_73 : decode cX11_eat 73 = .ok (.aload_n 0, 1) := by decide +kernel
theorem dX11_eat_74 : decode cX11_eat 74 = .ok (.getfield 23, 3) := by decide +kernel
theorem dX11_eat_77 : decode cX11_eat 77 = .ok (.iload_n 1, 1) := by decide +kernel
theorem dX11_eat_78 : decode cX11_eat 78 = .ok (.iaload, 1) := by decide +kernel
theorem dX11_eat_79 : decode cX11_eat 79 = .ok (.goto 4, 3) := by decide +kernel
theorem dX11_eat_82 : decode cX11_eat 82 = .ok (.iconst 0, 1) := by decide +kernel
theorem dX11_eat_83 : decode cX11_eat 83 = .ok (.iadd, 1) := by decide +kernel
theorem dX11_eat_84 : decode cX11_eat 84 = .ok (.istore_n 3, 1) := by decide +kernel
theorem dX11_eat_85 : decode cX11_eat 85 = .ok (.aload_n 0, 1) := by decide +kernel
theorem dX11_eat_86 : decode cX11_eat 86 = .ok (.getfield 7, 3) := by decide +kernel
theorem dX11_eat_89 : decode cX11_eat 89 = .ok (.bipush 53, 2) := by decide +kernel
theorem dX11_eat_91 : decode cX11_eat 91 = .ok (.iload_n 3, 1) := by decide +kernel
theorem dX11_eat_92 : decode cX11_eat 92 = .ok (.ldc 242, 2) := by decide +kernel
theorem dX11_eat_94 : decode cX11_eat 94 = .ok (.if_icmp .le 8, 3) := by decide +kernel
theorem dX11_eat_97 : decode cX11_eat 97 = .ok (.ldc 242, 2) := by decide +kernel
theorem dX11_eat_99 : decode cX11_eat 99 = .ok (.goto 4, 3) := by decide +kernel
theorem dX11_eat_102 : decode cX11_eat 102 = .ok (.iload_n 3, 1) := by decide +kernel
theorem dX11_eat_103 : decode cX11_eat 103 = .ok (.iastore, 1) := by decide +kernel
theorem dX11_eat_104 : decode cX11_eat 104 = .ok (.aload_n 0, 1) := by decide +kernel
theorem dX11_eat_105 : decode cX11_eat 105 = .ok (.getfield 7, 3) := by decide +kernel
theorem dX11_eat_108 : decode cX11_eat 108 = .ok (.bipush 37, 2) := by decide +kernel
theorem dX11_eat_110 : decode cX11_eat 110 = .ok (.iload_n 1, 1) := by decide +kernel
theorem dX11_eat_111 : decode cX11_eat 111 = .ok (.iadd, 1) := by decide +kernel
theorem dX11_eat_112 : decode cX11_eat 112 = .ok (.iconst (-1), 1) := by decide +kernel
theorem dX11_eat_113 : decode cX11_eat 113 = .ok (.iastore, 1) := by decide +kernel
theorem dX11_eat_114 : decode cX11_eat 114 = .ok (.aload_n 0, 1) := by decide +kernel
theorem dX11_eat_115 : decode cX11_eat 115 = .ok (.getfield 7, 3) := by decide +kernel
theorem dX11_eat_118 : decode cX11_eat 118 = .ok (.bipush 44, 2) := by decide +kernel
theorem dX11_eat_120 : decode cX11_eat 120 = .ok (.iload_n 1, 1) := by decide +kernel
theorem dX11_eat_121 : decode cX11_eat 121 = .ok (.iadd, 1) := by decide +kernel
theorem dX11_eat_122 : decode cX11_eat 122 = .ok (.iconst 0, 1) := by decide +kernel
theorem dX11_eat_123 : decode cX11_eat 123 = .ok (.iastore, 1) := by decide +kernel
theorem dX11_eat_124 : decode cX11_eat 124 = .ok (.aload_n 0, 1) := by decide +kernel
theorem dX11_eat_125 : decode cX11_eat 125 = .ok (.getfield 7, 3) := by decide +kernel
theorem dX11_eat_128 : decode cX11_eat 128 = .ok (.bipush 53, 2) := by decide +kernel
theorem dX11_eat_130 : decode cX11_eat 130 = .ok (.iaload, 1) := by decide +kernel
theorem dX11_eat_131 : decode cX11_eat 131 = .ok (.ireturn, 1) := by decide +kernel
theorem dX11_salt_0 : decode cX11_salt 0 = .ok (.aload_n 0, 1) := by decide +kernel
theorem dX11_salt_1 : decode cX11_salt 1 = .ok (.iload_n 1, 1) := by decide +kernel
theorem dX11_salt_2 : decode cX11_salt 2 = .ok (.invokevirtual 200, 3) := by decide +kernel
theorem dX11_salt_5 : decode cX11_salt 5 = .ok (.ifCond .ne 6, 3) := by decide +kernel
theorem dX11_salt_8 : decode cX11_salt 8 = .ok (.ldc 192, 2) := by decide +kernel
theorem dX11_salt_10 : decode cX11_salt 10 = .ok (.ireturn, 1) := by decide +kernel
theorem dX11_salt_11 : decode cX11_salt 11 = .ok (.aload_n 0, 1) := by decide +kernel
theorem dX11_salt_12 : decode cX11_salt 12 = .ok (.getfield 7, 3) := by decide +kernel
theorem dX11_salt_15 : decode cX11_salt 15 = .ok (.bipush 44, 2) := by decide +kernel
theorem dX11_salt_17 : decode cX11_salt 17 = .ok (.iload_n 1, 1) := by decide +kernel
theorem dX11_salt_18 : decode cX11_salt 18 = .ok (.iadd, 1) := by decide +kernel
theorem dX11_salt_19 : decode cX11_salt 19 = .ok (.iaload, 1) := by decide +kernel
theorem dX11_salt_20 : decode cX11_salt 20 = .ok (.istore_n 2, 1) := by decide +kernel
theorem dX11_salt_21 : decode cX11_salt 21 = .ok (.aload_n 0, 1) := by decide +kernel
theorem dX11_salt_22 : decode cX11_salt 22 = .ok (.getfield 7, 3) := by decide +kernel
theorem dX11_salt_25 : decode cX11_salt 25 = .ok (.bipush 44, 2) := by decide +kernel
theorem dX11_salt_27 : decode cX11_salt 27 = .ok (.iload_n 1, 1) := by decide +kernel
theorem dX11_salt_28 : decode cX11_salt 28 = .ok (.iadd, 1) := by decide +kernel
theorem dX11_salt_29 : decode cX11_salt 29 = .ok (.iconst 1, 1) := by decide +kernel
theorem dX11_salt_30 : decode cX11_salt 30 = .ok (.iastore, 1) := by decide +kernel
theorem dX11_salt_31 : decode cX11_salt 31 = .ok (.iload_n 2, 1) := by decide +kernel
theorem dX11_salt_32 : decode cX11_salt 32 = .ok (.ireturn, 1) := by decide +kernel
theorem dX11_mayLie_0 : decode cX11_mayLie 0 = .ok (.aload_n 0, 1) := by decide +kernel
theorem dX11_mayLie_1 : decode cX11_mayLie 1 = .ok (.iload_n 1, 1) := by decide +kernel
theorem dX11_mayLie_2 : decode cX11_mayLie 2 = .ok (.invokevirtual 209, 3) := by decide +kernel
theorem dX11_mayLie_5 : decode cX11_mayLie 5 = .ok (.ifCond .eq 25, 3) := by decide +kernel
theorem dX11_mayLie_8 : decode cX11_mayLie 8 = .ok (.aload_n 0, 1) := by decide +kernel
theorem dX11_mayLie_9 : decode cX11_mayLie 9 = .ok (.getfield 17, 3) := by decide +kernel
theorem dX11_mayLie_12 : decode cX11_mayLie 12 = .ok (.iload_n 1, 1) := by decide +kernel
theorem dX11_mayLie_13 : decode cX11_mayLie 13 = .ok (.iaload, 1) := by decide +kernel
theorem dX11_mayLie_14 : decode cX11_mayLie 14 = .ok (.iload_n 2, 1) := by decide +kernel
theorem dX11_mayLie_15 : decode cX11_mayLie 15 = .ok (.if_icmp .eq 15, 3) := by decide +kernel
theorem dX11_mayLie_18 : decode cX11_mayLie 18 = .ok (.aload_n 0, 1) := by decide +kernel
theorem dX11_mayLie_19 : decode cX11_mayLie 19 = .ok (.iload_n 2, 1) := by decide +kernel
theorem dX11_mayLie_20 : decode cX11_mayLie 20 = .ok (.invokevirtual 218, 3) := by decide +kernel
theorem dX11_mayLie_23 : decode cX11_mayLie 23 = .ok (.ifCond .ne 7, 3) := by decide +kernel
theorem dX11_mayLie_26 : decode cX11_mayLie 26 = .ok (.iconst 1, 1) := by decide +kernel
theorem dX11_mayLie_27 : decode cX11_mayLie 27 = .ok (.goto 4, 3) := by decide +kernel
theorem dX11_mayLie_30 : decode cX11_mayLie 30 = .ok (.iconst 0, 1) := by decide +kernel
theorem dX11_mayLie_31 : decode cX11_mayLie 31 = .ok (.ireturn, 1) := by decide +kernel
theorem dX11_findBeds_0 : decode cX11_findBeds 0 = .ok (.aload_n 0, 1) := by decide +kernel
theorem dX11_findBeds_1 : decode cX11_findBeds 1 = .ok (.getfield 83, 3) := by decide +kernel
theorem dX11_findBeds_4 : decode cX11_findBeds 4 = .ok (.istore_n 1, 1) := by decide +kernel
theorem dX11_findBeds_5 : decode cX11_findBeds 5 = .ok (.iload_n 1, 1) := by decide +kernel
theorem dX11_findBeds_6 : decode cX11_findBeds 6 = .ok (.ifCond .lt 163, 3) := by decide +kernel
theorem dX11_findBeds_9 : decode cX11_findBeds 9 = .ok (.iconst 0, 1) := by decide +kernel
theorem dX11_findBeds_10 : decode cX11_findBeds 10 = .ok (.istore_n 2, 1) := by decide +kernel
theorem dX11_findBeds_11 : decode cX11_findBeds 11 = .ok (.iload_n 2, 1) := by decide +kernel
theorem dX11_findBeds_12 : decode cX11_findBeds 12 = .ok (.bipush 64, 2) := by decide +kernel
theorem dX11_findBeds_14 : decode cX11_findBeds 14 = .ok (.if_icmp .ge 149, 3) := by decide +kernel
theorem dX11_findBeds_17 : decode cX11_findBeds 17 = .ok (.iload_n 1, 1) := by decide +kernel
theorem dX11_findBeds_18 : decode cX11_findBeds 18 = .ok (.aload_n 0, 1) := by decide +kernel
theorem dX11_findBeds_19 : decode cX11_findBeds 19 = .ok (.getfield 83, 3) := by decide +kernel
theorem dX11_findBeds_22 : decode cX11_findBeds 22 = .ok (.if_icmp .ne 7, 3) := by decide +kernel
theorem dX11_findBeds_25 : decode cX11_findBeds 25 = .ok (.iconst 0, 1) := by decide +kernel
theorem dX11_findBeds_26 : decode cX11_findBeds 26 = .ok (.goto 16, 3) := by decide +kernel
theorem dX11_findBeds_29 : decode cX11_findBeds 29 = .ok (.aload_n 0, 1) := by decide +kernel
theorem dX11_findBeds_30 : decode cX11_findBeds 30 = .ok (.getfield 39, 3) := by decide +kernel
theorem dX11_findBeds_33 : decode cX11_findBeds 33 = .ok (.bipush 64, 2) := by decide +kernel
theorem dX11_findBeds_35 : decode cX11_findBeds 35 = .ok (.iload_n 1, 1) := by decide +kernel
theorem dX11_findBeds_36 : decode cX11_findBeds 36 = .ok (.iconst 1, 1) := by decide +kernel
theorem dX11_findBeds_37 : decode cX11_findBeds 37 = .ok (.iadd, 1) := by decide +kernel
theorem dX11_findBeds_38 : decode cX11_findBeds 38 = .ok (.imul, 1) := by decide +kernel
theorem dX11_findBeds_39 : decode cX11_findBeds 39 = .ok (.iload_n 2, 1) := by decide +kernel
theorem dX11_findBeds_40 : decode cX11_findBeds 40 = .ok (.iadd, 1) := by decide +kernel
theorem dX11_findBeds_41 : decode cX11_findBeds 41 = .ok (.iaload, 1) := by decide +kernel
theorem dX11_findBeds_42 : decode cX11_findBeds 42 = .ok (.istore_n 3, 1) := by decide +kernel
theorem dX11_findBeds_43 : decode cX11_findBeds 43 = .ok (.iconst 0, 1) := by decide +kernel
theorem dX11_findBeds_44 : decode cX11_findBeds 44 = .ok (.istore 4, 2) := by decide +kernel
theorem dX11_findBeds_46 : decode cX11_findBeds 46 = .ok (.iload 4, 2) := by decide +kernel
theorem dX11_findBeds_48 : decode cX11_findBeds 48 = .ok (.aload_n 0, 1) := by decide +kernel
theorem dX11_findBeds_49 : decode cX11_findBeds 49 = .ok (.getfield 73, 3) := by decide +kernel
theorem dX11_findBeds_52 : decode cX11_findBeds 52 = .ok (.if_icmp .ge 93, 3) := by decide +kernel
theorem dX11_findBeds_55 : decode cX11_findBeds 55 = .ok (.iload_n 1, 1) := by decide +kernel
theorem dX11_findBeds_56 : decode cX11_findBeds 56 = .ok (.aload_n 0, 1) := by decide +kernel
theorem dX11_findBeds_57 : decode cX11_findBeds 57 = .ok (.getfield 83, 3) := by decide +kernel
theorem dX11_findBeds_60 : decode cX11_findBeds 60 = .ok (.if_icmp .ge 85, 3) := by decide +kernel
theorem dX11_findBeds_63 : decode cX11_findBeds 63 = .ok (.iload_n 2, 1) := by decide +kernel
theorem dX11_findBeds_64 : decode cX11_findBeds 64 = .ok (.iload 4, 2) := by decide +kernel
theorem dX11_findBeds_66 : decode cX11_findBeds 66 = .ok (.invokestatic 215, 3) := by decide +kernel
theorem dX11_findBeds_69 : decode cX11_findBeds 69 = .ok (.ifCond .ne 17, 3) := by decide +kernel
theorem dX11_findBeds_72 : decode cX11_findBeds 72 = .ok (.aload_n 0, 1) := by decide +kernel
theorem dX11_findBeds_73 : decode cX11_findBeds 73 = .ok (.iload_n 1, 1) := by decide +kernel
theorem dX11_findBeds_74 : decode cX11_findBeds 74 = .ok (.iload 4, 2) := by decide +kernel
theorem dX11_findBeds_76 : decode cX11_findBeds 76 = .ok (.invokevirtual 243, 3) := by decide +kernel
theorem dX11_findBeds_79 : decode cX11_findBeds 79 = .ok (.ifCond .eq 7, 3) := by decide +kernel
theorem dX11_findBeds_82 : decode cX11_findBeds 82 = .ok (.iconst 1, 1) := by decide +kernel
theorem dX11_findBeds_83 : decode cX11_findBeds 83 = .ok (.goto 4, 3) := by decide +kernel
theorem dX11_findBeds_86 : decode cX11_findBeds 86 = .ok (.iconst 0, 1) := by decide +kernel
theorem dX11_findBeds_87 : decode cX11_findBeds 87 = .ok (.istore 5, 2) := by decide +kernel
theorem dX11_findBeds_89 : decode cX11_findBeds 89 = .ok (.iload 5, 2) := by decide +kernel
theorem dX11_findBeds_91 : decode cX11_findBeds 91 = .ok (.ifCond .eq 32, 3) := by decide +kernel
theorem dX11_findBeds_94 : decode cX11_findBeds 94 = .ok (.aload_n 0, 1) := by decide +kernel
theorem dX11_findBeds_95 : decode cX11_findBeds 95 = .ok (.iload_n 1, 1) := by decide +kernel
theorem dX11_findBeds_96 : decode cX11_findBeds 96 = .ok (.iload 4, 2) := by decide +kernel
theorem dX11_findBeds_98 : decode cX11_findBeds 98 = .ok (.invokevirtual 206, 3) := by decide +kernel
theorem dX11_findBeds_101 : decode cX11_findBeds 101 = .ok (.aload_n 0, 1) := by decide +kernel
theorem dX11_findBeds_102 : decode cX11_findBeds 102 = .ok (.getfield 39, 3) := by decide +kernel
theorem dX11_findBeds_105 : decode cX11_findBeds 105 = .ok (.bipush 64, 2) := by decide +kernel
theorem dX11_findBeds_107 : decode cX11_findBeds 107 = .ok (.iload_n 1, 1) := by decide +kernel
theorem dX11_findBeds_108 : decode cX11_findBeds 108 = .ok (.iconst 1, 1) := by decide +kernel
theorem dX11_findBeds_109 : decode cX11_findBeds 109 = .ok (.iadd, 1) := by decide +kernel
theorem dX11_findBeds_110 : decode cX11_findBeds 110 = .ok (.imul, 1) := by decide +kernel
theorem dX11_findBeds_111 : decode cX11_findBeds 111 = .ok (.iload_n 2, 1) := by decide +kernel
theorem dX11_findBeds_112 : decode cX11_findBeds 112 = .ok (.iconst 1, 1) := by decide +kernel
theorem dX11_findBeds_113 : decode cX11_findBeds 113 = .ok (.iload 4, 2) := by decide +kernel
theorem dX11_findBeds_115 : decode cX11_findBeds 115 = .ok (.ishl, 1) := by decide +kernel
theorem dX11_findBeds_116 : decode cX11_findBeds 116 = .ok (.ior, 1) := by decide +kernel
theorem dX11_findBeds_117 : decode cX11_findBeds 117 = .ok (.iadd, 1) := by decide +kernel
theorem dX11_findBeds_118 : decode cX11_findBeds 118 = .ok (.iaload, 1) := by decide +kernel
theorem dX11_findBeds_119 : decode cX11_findBeds 119 = .ok (.iadd, 1) := by decide +kernel
theorem dX11_findBeds_120 : decode cX11_findBeds 120 = .ok (.goto 4, 3) := by decide +kernel
theorem dX11_findBeds_123 : decode cX11_findBeds 123 = .ok (.iconst 0, 1) := by decide +kernel
theorem dX11_findBeds_124 : decode cX11_findBeds 124 = .ok (.istore 6, 2) := by decide +kernel
theorem dX11_findBeds_126 : decode cX11_findBeds 126 = .ok (.iload 6, 2) := by decide +kernel
theorem dX11_findBeds_128 : decode cX11_findBeds 128 = .ok (.iload_n 3, 1) := by decide +kernel
theorem dX11_findBeds_129 : decode cX11_findBeds 129 = .ok (.if_icmp .le 8, 3) := by decide +kernel
theorem dX11_findBeds_132 : decode cX11_findBeds 132 = .ok (.iload 6, 2) := by decide +kernel
theorem dX11_findBeds_134 : decode cX11_findBeds 134 = .ok (.goto 4, 3) := by decide +kernel
theorem dX11_findBeds_137 : decode cX11_findBeds 137 = .ok (.iload_n 3, 1) := by decide +kernel
theorem dX11_findBeds_138 : decode cX11_findBeds 138 = .ok (.istore_n 3, 1) := by decide +kernel
theorem dX11_findBeds_139 : decode cX11_findBeds 139 = .ok (.iinc 4 1, 3) := by decide +kernel
theorem dX11_findBeds_142 : decode cX11_findBeds 142 = .ok (.goto (-96), 3) := by decide +kernel
theorem dX11_findBeds_145 : decode cX11_findBeds 145 = .ok (.aload_n 0, 1) := by decide +kernel
theorem dX11_findBeds_146 : decode cX11_findBeds 146 = .ok (.getfield 39, 3) := by decide +kernel
theorem dX11_findBeds_149 : decode cX11_findBeds 149 = .ok (.bipush 64, 2) := by decide +kernel
theorem dX11_findBeds_151 : decode cX11_findBeds 151 = .ok (.iload_n 1, 1) := by decide +kernel
theorem dX11_findBeds_152 : decode cX11_findBeds 152 = .ok (.imul, 1) := by decide +kernel
theorem dX11_findBeds_153 : decode cX11_findBeds 153 = .ok (.iload_n 2, 1) := by decide +kernel
theorem dX11_findBeds_154 : decode cX11_findBeds 154 = .ok (.iadd, 1) := by decide +kernel
theorem dX11_findBeds_155 : decode cX11_findBeds 155 = .ok (.iload_n 3, 1) := by decide +kernel
theorem dX11_findBeds_156 : decode cX11_findBeds 156 = .ok (.iastore, 1) := by decide +kernel
theorem dX11_findBeds_157 : decode cX11_findBeds 157 = .ok (.iinc 2 1, 3) := by decide +kernel
theorem dX11_findBeds_160 : decode cX11_findBeds 160 = .ok (.goto (-149), 3) := by decide +kernel
theorem dX11_findBeds_163 : decode cX11_findBeds 163 = .ok (.iinc 1 (-1), 3) := by decide +kernel
theorem dX11_findBeds_166 : decode cX11_findBeds 166 = .ok (.goto (-161), 3) := by decide +kernel
theorem dX11_findBeds_169 : decode cX11_findBeds 169 = .ok (.iconst 0, 1) := by decide +kernel
theorem dX11_findBeds_170 : decode cX11_findBeds 170 = .ok (.istore_n 1, 1) := by decide +kernel
theorem dX11_findBeds_171 : decode cX11_findBeds 171 = .ok (.iconst 0, 1) := by decide +kernel
theorem dX11_findBeds_172 : decode cX11_findBeds 172 = .ok (.istore_n 2, 1) := by decide +kernel
theorem dX11_findBeds_173 : decode cX11_findBeds 173 = .ok (.iload_n 2, 1) := by decide +kernel
theorem dX11_findBeds_174 : decode cX11_findBeds 174 = .ok (.aload_n 0, 1) := by decide +kernel
theorem dX11_findBeds_175 : decode cX11_findBeds 175 = .ok (.getfield 83, 3) := by decide +kernel
theorem dX11_findBeds_178 : decode cX11_findBeds 178 = .ok (.if_icmp .ge 184, 3) := by decide +kernel
theorem dX11_findBeds_181 : decode cX11_findBeds 181 = .ok (.aload_n 0, 1) := by decide +kernel
theorem dX11_findBeds_182 : decode cX11_findBeds 182 = .ok (.getfield 42, 3) := by decide +kernel
theorem dX11_findBeds_185 : decode cX11_findBeds 185 = .ok (.iload_n 2, 1) := by decide +kernel
theorem dX11_findBeds_186 : decode cX11_findBeds 186 = .ok (.iconst (-1), 1) := by decide +kernel
theorem dX11_findBeds_187 : decode cX11_findBeds 187 = .ok (.iastore, 1) := by decide +kernel
theorem dX11_findBeds_188 : decode cX11_findBeds 188 = .ok (.aload_n 0, 1) := by decide +kernel
theorem dX11_findBeds_189 : decode cX11_findBeds 189 = .ok (.getfield 73, 3) := by decide +kernel
theorem dX11_findBeds_192 : decode cX11_findBeds 192 = .ok (.iconst 1, 1) := by decide +kernel
theorem dX11_findBeds_193 : decode cX11_findBeds 193 = .ok (.isub, 1) := by decide +kernel
theorem dX11_findBeds_194 : decode cX11_findBeds 194 = .ok (.istore_n 3, 1) := by decide +kernel
theorem dX11_findBeds_195 : decode cX11_findBeds 195 = .ok (.iload_n 3, 1) := by decide +kernel
theorem dX11_findBeds_196 : decode cX11_findBeds 196 = .ok (.ifCond .lt 92, 3) := by decide +kernel
theorem dX11_findBeds_199 : decode cX11_findBeds 199 = .ok (.iload_n 1, 1) := by decide +kernel
theorem dX11_findBeds_200 : decode cX11_findBeds 200 = .ok (.iload_n 3, 1) := by decide +kernel
theorem dX11_findBeds_201 : decode cX11_findBeds 201 = .ok (.invokestatic 215, 3) := by decide +kernel
theorem dX11_findBeds_204 : decode cX11_findBeds 204 = .ok (.ifCond .ne 54, 3) := by decide +kernel
theorem dX11_findBeds_207 : decode cX11_findBeds 207 = .ok (.aload_n 0, 1) := by decide +kernel
theorem dX11_findBeds_208 : decode cX11_findBeds 208 = .ok (.iload_n 2, 1) := by decide +kernel
theorem dX11_findBeds_209 : decode cX11_findBeds 209 = .ok (.iload_n 3, 1) := by decide +kernel
theorem dX11_findBeds_210 : decode cX11_findBeds 210 = .ok (.invokevirtual 243, 3) := by decide +kernel
theorem dX11_findBeds_213 : decode cX11_findBeds 213 = .ok (.ifCond .eq 45, 3) := by decide +kernel
theorem dX11_findBeds_216 : decode cX11_findBeds 216 = .ok (.aload_n 0, 1) := by decide +kernel
theorem dX11_findBeds_217 : decode cX11_findBeds 217 = .ok (.iload_n 2, 1) := by decide +kernel
theorem dX11_findBeds_218 : decode cX11_findBeds 218 = .ok (.iload_n 3, 1) := by decide +kernel
theorem dX11_findBeds_219 : decode cX11_findBeds 219 = .ok (.invokevirtual 206, 3) := by decide +kernel
theorem dX11_findBeds_222 : decode cX11_findBeds 222 = .ok (.aload_n 0, 1) := by decide +kernel
theorem dX11_findBeds_223 : decode cX11_findBeds 223 = .ok (.getfield 39, 3) := by decide +kernel
theorem dX11_findBeds_226 : decode cX11_findBeds 226 = .ok (.bipush 64, 2) := by decide +kernel
theorem dX11_findBeds_228 : decode cX11_findBeds 228 = .ok (.iload_n 2, 1) := by decide +kernel
theorem dX11_findBeds_229 : decode cX11_findBeds 229 = .ok (.iconst 1, 1) := by decide +kernel
theorem dX11_findBeds_230 : decode cX11_findBeds 230 = .ok (.iadd, 1) := by decide +kernel
theorem dX11_findBeds_231 : decode cX11_findBeds 231 = .ok (.imul, 1) := by decide +kernel
theorem dX11_findBeds_232 : decode cX11_findBeds 232 = .ok (.iload_n 1, 1) := by decide +kernel
theorem dX11_findBeds_233 : decode cX11_findBeds 233 = .ok (.iconst 1, 1) := by decide +kernel
theorem dX11_findBeds_234 : decode cX11_findBeds 234 = .ok (.iload_n 3, 1) := by decide +kernel
theorem dX11_findBeds_235 : decode cX11_findBeds 235 = .ok (.ishl, 1) := by decide +kernel
theorem dX11_findBeds_236 : decode cX11_findBeds 236 = .ok (.ior, 1) := by decide +kernel
theorem dX11_findBeds_237 : decode cX11_findBeds 237 = .ok (.iadd, 1) := by decide +kernel
theorem dX11_findBeds_238 : decode cX11_findBeds 238 = .ok (.iaload, 1) := by decide +kernel
theorem dX11_findBeds_239 : decode cX11_findBeds 239 = .ok (.iadd, 1) := by decide +kernel
theorem dX11_findBeds_240 : decode cX11_findBeds 240 = .ok (.aload_n 0, 1) := by decide +kernel
theorem dX11_findBeds_241 : decode cX11_findBeds 241 = .ok (.getfield 39, 3) := by decide +kernel
theorem dX11_findBeds_244 : decode cX11_findBeds 244 = .ok (.bipush 64, 2) := by decide +kernel
theorem dX11_findBeds_246 : decode cX11_findBeds 246 = .ok (.iload_n 2, 1) := by decide +kernel
theorem dX11_findBeds_247 : decode cX11_findBeds 247 = .ok (.imul, 1) := by decide +kernel
theorem dX11_findBeds_248 : decode cX11_findBeds 248 = .ok (.iload_n 1, 1) := by decide +kernel
theorem dX11_findBeds_249 : decode cX11_findBeds 249 = .ok (.iadd, 1) := by decide +kernel
theorem dX11_findBeds_250 : decode cX11_findBeds 250 = .ok (.iaload, 1) := by decide +kernel
theorem dX11_findBeds_251 : decode cX11_findBeds 251 = .ok (.if_icmp .ne 7, 3) := by decide +kernel
theorem dX11_findBeds_254 : decode cX11_findBeds 254 = .ok (.iconst 1, 1) := by decide +kernel
theorem dX11_findBeds_255 : decode cX11_findBeds 255 = .ok (.goto 4, 3) := by decide +kernel
theorem dX11_findBeds_258 : decode cX11_findBeds 258 = .ok (.iconst 0, 1) := by decide +kernel
theorem dX11_findBeds_259 : decode cX11_findBeds 259 = .ok (.istore 4, 2) := by decide +kernel
theorem dX11_findBeds_261 : decode cX11_findBeds 261 = .ok (.aload_n 0, 1) := by decide +kernel
theorem dX11_findBeds_262 : decode cX11_findBeds 262 = .ok (.getfield 42, 3) := by decide +kernel
theorem dX11_findBeds_265 : decode cX11_findBeds 265 = .ok (.iload_n 2, 1) := by decide +kernel
theorem dX11_findBeds_266 : decode cX11_findBeds 266 = .ok (.iload 4, 2) := by decide +kernel
theorem dX11_findBeds_268 : decode cX11_findBeds 268 = .ok (.ifCond .eq 7, 3) := by decide +kernel
theorem dX11_findBeds_271 : decode cX11_findBeds 271 = .ok (.iload_n 3, 1) := by decide +kernel
theorem dX11_findBeds_272 : decode cX11_findBeds 272 = .ok (.goto 9, 3) := by decide +kernel
theorem dX11_findBeds_275 : decode cX11_findBeds 275 = .ok (.aload_n 0, 1) := by decide +kernel
theorem dX11_findBeds_276 : decode cX11_findBeds 276 = .ok (.getfield 42, 3) := by decide +kernel
theorem dX11_findBeds_279 : decode cX11_findBeds 279 = .ok (.iload_n 2, 1) := by decide +kernel
theorem dX11_findBeds_280 : decode cX11_findBeds 280 = .ok (.iaload, 1) := by decide +kernel
theorem dX11_findBeds_281 : decode cX11_findBeds 281 = .ok (.iastore, 1) := by decide +kernel
theorem dX11_findBeds_282 : decode cX11_findBeds 282 = .ok (.iinc 3 (-1), 3) := by decide +kernel
theorem dX11_findBeds_285 : decode cX11_findBeds 285 = .ok (.goto (-90), 3) := by decide +kernel
theorem dX11_findBeds_288 : decode cX11_findBeds 288 = .ok (.aload_n 0, 1) := by decide +kernel
theorem dX11_findBeds_289 : decode cX11_findBeds 289 = .ok (.getfield 42, 3) := by decide +kernel
theorem dX11_findBeds_292 : decode cX11_findBeds 292 = .ok (.iload_n 2, 1) := by decide +kernel
theorem dX11_findBeds_293 : decode cX11_findBeds 293 = .ok (.aload_n 0, 1) := by decide +kernel
theorem dX11_findBeds_294 : decode cX11_findBeds 294 = .ok (.getfield 39, 3) := by decide +kernel
theorem dX11_findBeds_297 : decode cX11_findBeds 297 = .ok (.bipush 64, 2) := by decide +kernel
theorem dX11_findBeds_299 : decode cX11_findBeds 299 = .ok (.iload_n 2, 1) := by decide +kernel
theorem dX11_findBeds_300 : decode cX11_findBeds 300 = .ok (.iconst 1, 1) := by decide +kernel
theorem dX11_findBeds_301 : decode cX11_findBeds 301 = .ok (.iadd, 1) := by decide +kernel
theorem dX11_findBeds_302 : decode cX11_findBeds 302 = .ok (.imul, 1) := by decide +kernel
theorem dX11_findBeds_303 : decode cX11_findBeds 303 = .ok (.iload_n 1, 1) := by decide +kernel
theorem dX11_findBeds_304 : decode cX11_findBeds 304 = .ok (.iadd, 1) := by decide +kernel
theorem dX11_findBeds_305 : decode cX11_findBeds 305 = .ok (.iaload, 1) := by decide +kernel
theorem dX11_findBeds_306 : decode cX11_findBeds 306 = .ok (.aload_n 0, 1) := by decide +kernel
theorem dX11_findBeds_307 : decode cX11_findBeds 307 = .ok (.getfield 39, 3) := by decide +kernel
theorem dX11_findBeds_310 : decode cX11_findBeds 310 = .ok (.bipush 64, 2) := by decide +kernel
theorem dX11_findBeds_312 : decode cX11_findBeds 312 = .ok (.iload_n 2, 1) := by decide +kernel
theorem dX11_findBeds_313 : decode cX11_findBeds 313 = .ok (.imul, 1) := by decide +kernel
theorem dX11_findBeds_314 : decode cX11_findBeds 314 = .ok (.iload_n 1, 1) := by decide +kernel
theorem dX11_findBeds_315 : decode cX11_findBeds 315 = .ok (.iadd, 1) := by decide +kernel
theorem dX11_findBeds_316 : decode cX11_findBeds 316 = .ok (.iaload, 1) := by decide +kernel
theorem dX11_findBeds_317 : decode cX11_findBeds 317 = .ok (.if_icmp .ne 7, 3) := by decide +kernel
theorem dX11_findBeds_320 : decode cX11_findBeds 320 = .ok (.iconst (-1), 1) := by decide +kernel
theorem dX11_findBeds_321 : decode cX11_findBeds 321 = .ok (.goto 9, 3) := by decide +kernel
theorem dX11_findBeds_324 : decode cX11_findBeds 324 = .ok (.aload_n 0, 1) := by decide +kernel
theorem dX11_findBeds_325 : decode cX11_findBeds 325 = .ok (.getfield 42, 3) := by decide +kernel
theorem dX11_findBeds_328 : decode cX11_findBeds 328 = .ok (.iload_n 2, 1) := by decide +kernel
theorem dX11_findBeds_329 : decode cX11_findBeds 329 = .ok (.iaload, 1) := by decide +kernel
theorem dX11_findBeds_330 : decode cX11_findBeds 330 = .ok (.iastore, 1) := by decide +kernel
theorem dX11_findBeds_331 : decode cX11_findBeds 331 = .ok (.iload_n 1, 1) := by decide +kernel
theorem dX11_findBeds_332 : decode cX11_findBeds 332 = .ok (.aload_n 0, 1) := by decide +kernel
theorem dX11_findBeds_333 : decode cX11_findBeds 333 = .ok (.getfield 42, 3) := by decide +kernel
theorem dX11_findBeds_336 : decode cX11_findBeds 336 = .ok (.iload_n 2, 1) := by decide +kernel
theorem dX11_findBeds_337 : decode cX11_findBeds 337 = .ok (.iaload, 1) := by decide +kernel
theorem dX11_findBeds_338 : decode cX11_findBeds 338 = .ok (.iconst (-1), 1) := by decide +kernel
theorem dX11_findBeds_339 : decode cX11_findBeds 339 = .ok (.if_icmp .ne 7, 3) := by decide +kernel
theorem dX11_findBeds_342 : decode cX11_findBeds 342 = .ok (.iconst 0, 1) := by decide +kernel
theorem dX11_findBeds_343 : decode cX11_findBeds 343 = .ok (.goto 11, 3) := by decide +kernel
theorem dX11_findBeds_346 : decode cX11_findBeds 346 = .ok (.iconst 1, 1) := by decide +kernel
theorem dX11_findBeds_347 : decode cX11_findBeds 347 = .ok (.aload_n 0, 1) := by decide +kernel
theorem dX11_findBeds_348 : decode cX11_findBeds 348 = .ok (.getfield 42, 3) := by decide +kernel
theorem dX11_findBeds_351 : decode cX11_findBeds 351 = .ok (.iload_n 2, 1) := by decide +kernel
theorem dX11_findBeds_352 : decode cX11_findBeds 352 = .ok (.iaload, 1) := by decide +kernel
theorem dX11_findBeds_353 : decode cX11_findBeds 353 = .ok (.ishl, 1) := by decide +kernel
theorem dX11_findBeds_354 : decode cX11_findBeds 354 = .ok (.ior, 1) := by decide +kernel
theorem dX11_findBeds_355 : decode cX11_findBeds 355 = .ok (.istore_n 1, 1) := by decide +kernel
theorem dX11_findBeds_356 : decode cX11_findBeds 356 = .ok (.iinc 2 1, 3) := by decide +kernel
theorem dX11_findBeds_359 : decode cX11_findBeds 359 = .ok (.goto (-186), 3) := by decide +kernel
theorem dX11_findBeds_362 : decode cX11_findBeds 362 = .ok (.return_, 1) := by decide +kernel
theorem dX11_beds_0 : decode cX11_beds 0 = .ok (.iload_n 1, 1) := by decide +kernel
theorem dX11_beds_1 : decode cX11_beds 1 = .ok (.iconst (-1), 1) := by decide +kernel
theorem dX11_beds_2 : decode cX11_beds 2 = .ok (.if_icmp .eq 14, 3) := by decide +kernel
theorem dX11_beds_5 : decode cX11_beds 5 = .ok (.aload_n 0, 1) := by decide +kernel
theorem dX11_beds_6 : decode cX11_beds 6 = .ok (.iload_n 1, 1) := by decide +kernel
theorem dX11_beds_7 : decode cX11_beds 7 = .ok (.invokevirtual 200, 3) := by decide +kernel
theorem dX11_beds_10 : decode cX11_beds 10 = .ok (.ifCond .ne 6, 3) := by decide +kernel
theorem dX11_beds_13 : decode cX11_beds 13 = .ok (.ldc 192, 2) := by decide +kernel
theorem dX11_beds_15 : decode cX11_beds 15 = .ok (.ireturn, 1) := by decide +kernel
theorem dX11_beds_16 : decode cX11_beds 16 = .ok (.aload_n 0, 1) := by decide +kernel
theorem dX11_beds_17 : decode cX11_beds 17 = .ok (.invokevirtual 246, 3) := by decide +kernel
theorem dX11_beds_20 : decode cX11_beds 20 = .ok (.iload_n 1, 1) := by decide +kernel
theorem dX11_beds_21 : decode cX11_beds 21 = .ok (.iconst (-1), 1) := by decide +kernel
theorem dX11_beds_22 : decode cX11_beds 22 = .ok (.if_icmp .ne 12, 3) := by decide +kernel
theorem dX11_beds_25 : decode cX11_beds 25 = .ok (.aload_n 0, 1) := by decide +kernel
theorem dX11_beds_26 : decode cX11_beds 26 = .ok (.getfield 39, 3) := by decide +kernel
theorem dX11_beds_29 : decode cX11_beds 29 = .ok (.iconst 0, 1) := by decide +kernel
theorem dX11_beds_30 : decode cX11_beds 30 = .ok (.iaload, 1) := by decide +kernel
theorem dX11_beds_31 : decode cX11_beds 31 = .ok (.goto 9, 3) := by decide +kernel
theorem dX11_beds_34 : decode cX11_beds 34 = .ok (.aload_n 0, 1) := by decide +kernel
theorem dX11_beds_35 : decode cX11_beds 35 = .ok (.getfield 42, 3) := by decide +kernel
theorem dX11_beds_38 : decode cX11_beds 38 = .ok (.iload_n 1, 1) := by decide +kernel
theorem dX11_beds_39 : decode cX11_beds 39 = .ok (.iaload, 1) := by decide +kernel
theorem dX11_beds_40 : decode cX11_beds 40 = .ok (.ireturn, 1) := by decide +kernel
theorem dX11_feedings_0 : decode cX11_feedings 0 = .ok (.aload_n 0, 1) := by decide +kernel
theorem dX11_feedings_1 : decode cX11_feedings 1 = .ok (.iload_n 1, 1) := by decide +kernel
theorem dX11_feedings_2 : decode cX11_feedings 2 = .ok (.invokevirtual 186, 3) := by decide +kernel
theorem dX11_feedings_5 : decode cX11_feedings 5 = .ok (.ifCond .eq 11, 3) := by decide +kernel
theorem dX11_feedings_8 : decode cX11_feedings 8 = .ok (.aload_n 0, 1) := by decide +kernel
theorem dX11_feedings_9 : decode cX11_feedings 9 = .ok (.iload_n 2, 1) := by decide +kernel
theorem dX11_feedings_10 : decode cX11_feedings 10 = .ok (.invokevirtual 189, 3) := by decide +kernel
theorem dX11_feedings_13 : decode cX11_feedings 13 = .ok (.ifCond .ne 6, 3) := by decide +kernel
theorem dX11_feedings_16 : decode cX11_feedings 16 = .ok (.ldc 192, 2) := by decide +kernel
theorem dX11_feedings_18 : decode cX11_feedings 18 = .ok (.ireturn, 1) := by decide +kernel
theorem dX11_feedings_19 : decode cX11_feedings 19 = .ok (.aload_n 0, 1) := by decide +kernel
theorem dX11_feedings_20 : decode cX11_feedings 20 = .ok (.iconst 0, 1) := by decide +kernel
theorem dX11_feedings_21 : decode cX11_feedings 21 = .ok (.bipush 55, 2) := by decide +kernel
theorem dX11_feedings_23 : decode cX11_feedings 23 = .ok (.invokevirtual 249, 3) := by decide +kernel
theorem dX11_feedings_26 : decode cX11_feedings 26 = .ok (.iconst 0, 1) := by decide +kernel
theorem dX11_feedings_27 : decode cX11_feedings 27 = .ok (.istore_n 3, 1) := by decide +kernel
theorem dX11_feedings_28 : decode cX11_feedings 28 = .ok (.iload_n 3, 1) := by decide +kernel
theorem dX11_feedings_29 : decode cX11_feedings 29 = .ok (.bipush 9, 2) := by decide +kernel
theorem dX11_feedings_31 : decode cX11_feedings 31 = .ok (.if_icmp .gt 30, 3) := by decide +kernel
theorem dX11_feedings_34 : decode cX11_feedings 34 = .ok (.aload_n 0, 1) := by decide +kernel
theorem dX11_feedings_35 : decode cX11_feedings 35 = .ok (.bipush 55, 2) := by decide +kernel
theorem dX11_feedings_37 : decode cX11_feedings 37 = .ok (.iload_n 1, 1) := by decide +kernel
theorem dX11_feedings_38 : decode cX11_feedings 38 = .ok (.invokevirtual 197, 3) := by decide +kernel
theorem dX11_feedings_41 : decode cX11_feedings 41 = .ok (.iload_n 2, 1) := by decide +kernel
theorem dX11_feedings_42 : decode cX11_feedings 42 = .ok (.if_icmp .ne 5, 3) := by decide +kernel
theorem dX11_feedings_45 : decode cX11_feedings 45 = .ok (.iload_n 3, 1) := by decide +kernel
theorem dX11_feedings_46 : decode cX11_feedings 46 = .ok (.ireturn, 1) := by decide +kernel
theorem dX11_feedings_47 : decode cX11_feedings 47 = .ok (.aload_n 0, 1) := by decide +kernel
theorem dX11_feedings_48 : decode cX11_feedings 48 = .ok (.bipush 55, 2) := by decide +kernel
theorem dX11_feedings_50 : decode cX11_feedings 50 = .ok (.iload_n 1, 1) := by decide +kernel
theorem dX11_feedings_51 : decode cX11_feedings 51 = .ok (.iload_n 2, 1) := by decide +kernel
theorem dX11_feedings_52 : decode cX11_feedings 52 = .ok (.invokevirtual 238, 3) := by decide +kernel
theorem dX11_feedings_55 : decode cX11_feedings 55 = .ok (.iinc 3 1, 3) := by decide +kernel
theorem dX11_feedings_58 : decode cX11_feedings 58 = .ok (.goto (-30), 3) := by decide +kernel
theorem dX11_feedings_61 : decode cX11_feedings 61 = .ok (.iconst (-1), 1) := by decide +kernel
theorem dX11_feedings_62 : decode cX11_feedings 62 = .ok (.ireturn, 1) := by decide +kernel
theorem dX11_foretells_0 : decode cX11_foretells 0 = .ok (.iconst 0, 1) := by decide +kernel
theorem dX11_foretells_1 : decode cX11_foretells 1 = .ok (.istore_n 2, 1) := by decide +kernel
theorem dX11_foretells_2 : decode cX11_foretells 2 = .ok (.iconst 0, 1) := by decide +kernel
theorem dX11_foretells_3 : decode cX11_foretells 3 = .ok (.istore_n 3, 1) := by decide +kernel
theorem dX11_foretells_4 : decode cX11_foretells 4 = .ok (.iload_n 3, 1) := by decide +kernel
theorem dX11_foretells_5 : decode cX11_foretells 5 = .ok (.aload_n 0, 1) := by decide +kernel
theorem dX11_foretells_6 : decode cX11_foretells 6 = .ok (.getfield 83, 3) := by decide +kernel
theorem dX11_foretells_9 : decode cX11_foretells 9 = .ok (.if_icmp .ge 66, 3) := by decide +kernel
theorem dX11_foretells_12 : decode cX11_foretells 12 = .ok (.aload_n 0, 1) := by decide +kernel
theorem dX11_foretells_13 : decode cX11_foretells 13 = .ok (.getfield 42, 3) := by decide +kernel
theorem dX11_foretells_16 : decode cX11_foretells 16 = .ok (.iload_n 3, 1) := by decide +kernel
theorem dX11_foretells_17 : decode cX11_foretells 17 = .ok (.iaload, 1) := by decide +kernel
theorem dX11_foretells_18 : decode cX11_foretells 18 = .ok (.iconst (-1), 1) := by decide +kernel
theorem dX11_foretells_19 : decode cX11_foretells 19 = .ok (.if_icmp .eq 20, 3) := by decide +kernel
theorem dX11_foretells_22 : decode cX11_foretells 22 = .ok (.iload_n 1, 1) := by decide +kernel
theorem dX11_foretells_23 : decode cX11_foretells 23 = .ok (.aload_n 0, 1) := by decide +kernel
theorem dX11_foretells_24 : decode cX11_foretells 24 = .ok (.getfield 42, 3) := by decide +kernel
theorem dX11_foretells_27 : decode cX11_foretells 27 = .ok (.iload_n 3, 1) := by decide +kernel
theorem dX11_foretells_28 : decode cX11_foretells 28 = .ok (.iaload, 1) := by decide +kernel
theorem dX11_foretells_29 : decode cX11_foretells 29 = .ok (.invokestatic 215, 3) := by decide +kernel
theorem dX11_foretells_32 : decode cX11_foretells 32 = .ok (.ifCond .ne 7, 3) := by decide +kernel
theorem dX11_foretells_35 : decode cX11_foretells 35 = .ok (.iconst 1, 1) := by decide +kernel
theorem dX11_foretells_36 : decode cX11_foretells 36 = .ok (.goto 4, 3) := by decide +kernel
theorem dX11_foretells_39 : decode cX11_foretells 39 = .ok (.iconst 0, 1) := by decide +kernel
theorem dX11_foretells_40 : decode cX11_foretells 40 = .ok (.istore 4, 2) := by decide +kernel
theorem dX11_foretells_42 : decode cX11_foretells 42 = .ok (.aload_n 0, 1) := by decide +kernel
theorem dX11_foretells_43 : decode cX11_foretells 43 = .ok (.getfield 45, 3) := by decide +kernel
theorem dX11_foretells_46 : decode cX11_foretells 46 = .ok (.iload_n 3, 1) := by decide +kernel
theorem dX11_foretells_47 : decode cX11_foretells 47 = .ok (.iload 4, 2) := by decide +kernel
theorem dX11_foretells_49 : decode cX11_foretells 49 = .ok (.ifCond .eq 18, 3) := by decide +kernel
theorem dX11_foretells_52 : decode cX11_foretells 52 = .ok (.aload_n 0, 1) := by decide +kernel
theorem dX11_foretells_53 : decode cX11_foretells 53 = .ok (.bipush 55, 2) := by decide +kernel
theorem dX11_foretells_55 : decode cX11_foretells 55 = .ok (.aload_n 0, 1) := by decide +kernel
theorem dX11_foretells_56 : decode cX11_foretells 56 = .ok (.getfield 42, 3) := by decide +kernel
theorem dX11_foretells_59 : decode cX11_foretells 59 = .ok (.iload_n 3, 1) := by decide +kernel
theorem dX11_foretells_60 : decode cX11_foretells 60 = .ok (.iaload, 1) := by decide +kernel
theorem dX11_foretells_61 : decode cX11_foretells 61 = .ok (.invokevirtual 197, 3) := by decide +kernel
theorem dX11_foretells_64 : decode cX11_foretells 64 = .ok (.goto 4, 3) := by decide +kernel
theorem dX11_foretells_67 : decode cX11_foretells 67 = .ok (.iconst (-1), 1) := by decide +kernel
theorem dX11_foretells_68 : decode cX11_foretells 68 = .ok (.iastore, 1) := by decide +kernel
theorem dX11_foretells_69 : decode cX11_foretells 69 = .ok (.iinc 3 1, 3) := by decide +kernel
theorem dX11_foretells_72 : decode cX11_foretells 72 = .ok (.goto (-68), 3) := by decide +kernel
theorem dX11_foretells_75 : decode cX11_foretells 75 = .ok (.iconst 0, 1) := by decide +kernel
theorem dX11_foretells_76 : decode cX11_foretells 76 = .ok (.istore_n 3, 1) := by decide +kernel
theorem dX11_foretells_77 : decode cX11_foretells 77 = .ok (.iload_n 3, 1) := by decide +kernel
theorem dX11_foretells_78 : decode cX11_foretells 78 = .ok (.aload_n 0, 1) := by decide +kernel
theorem dX11_foretells_79 : decode cX11_foretells 79 = .ok (.getfield 83, 3) := by decide +kernel
theorem dX11_foretells_82 : decode cX11_foretells 82 = .ok (.if_icmp .ge 90, 3) := by decide +kernel
theorem dX11_foretells_85 : decode cX11_foretells 85 = .ok (.aload_n 0, 1) := by decide +kernel
theorem dX11_foretells_86 : decode cX11_foretells 86 = .ok (.getfield 45, 3) := by decide +kernel
theorem dX11_foretells_89 : decode cX11_foretells 89 = .ok (.iload_n 3, 1) := by decide +kernel
theorem dX11_foretells_90 : decode cX11_foretells 90 = .ok (.iaload, 1) := by decide +kernel
theorem dX11_foretells_91 : decode cX11_foretells 91 = .ok (.iconst (-1), 1) := by decide +kernel
theorem dX11_foretells_92 : decode cX11_foretells 92 = .ok (.if_icmp .eq 74, 3) := by decide +kernel
theorem dX11_foretells_95 : decode cX11_foretells 95 = .ok (.aload_n 0, 1) := by decide +kernel
theorem dX11_foretells_96 : decode cX11_foretells 96 = .ok (.bipush 55, 2) := by decide +kernel
theorem dX11_foretells_98 : decode cX11_foretells 98 = .ok (.aload_n 0, 1) := by decide +kernel
theorem dX11_foretells_99 : decode cX11_foretells 99 = .ok (.getfield 17, 3) := by decide +kernel
theorem dX11_foretells_102 : decode cX11_foretells 102 = .ok (.iload_n 3, 1) := by decide +kernel
theorem dX11_foretells_103 : decode cX11_foretells 103 = .ok (.iaload, 1) := by decide +kernel
theorem dX11_foretells_104 : decode cX11_foretells 104 = .ok (.aload_n 0, 1) := by decide +kernel
theorem dX11_foretells_105 : decode cX11_foretells 105 = .ok (.getfield 45, 3) := by decide +kernel
theorem dX11_foretells_108 : decode cX11_foretells 108 = .ok (.iload_n 3, 1) := by decide +kernel
theorem dX11_foretells_109 : decode cX11_foretells 109 = .ok (.iaload, 1) := by decide +kernel
theorem dX11_foretells_110 : decode cX11_foretells 110 = .ok (.invokevirtual 182, 3) := by decide +kernel
theorem dX11_foretells_113 : decode cX11_foretells 113 = .ok (.istore 4, 2) := by decide +kernel
theorem dX11_foretells_115 : decode cX11_foretells 115 = .ok (.aload_n 0, 1) := by decide +kernel
theorem dX11_foretells_116 : decode cX11_foretells 116 = .ok (.bipush 55, 2) := by decide +kernel
theorem dX11_foretells_118 : decode cX11_foretells 118 = .ok (.aload_n 0, 1) := by decide +kernel
theorem dX11_foretells_119 : decode cX11_foretells 119 = .ok (.getfield 17, 3) := by decide +kernel
theorem dX11_foretells_122 : decode cX11_foretells 122 = .ok (.iload_n 3, 1) := by decide +kernel
theorem dX11_foretells_123 : decode cX11_foretells 123 = .ok (.iaload, 1) := by decide +kernel
theorem dX11_foretells_124 : decode cX11_foretells 124 = .ok (.aload_n 0, 1) := by decide +kernel
theorem dX11_foretells_125 : decode cX11_foretells 125 = .ok (.getfield 45, 3) := by decide +kernel
theorem dX11_foretells_128 : decode cX11_foretells 128 = .ok (.iload_n 3, 1) := by decide +kernel
theorem dX11_foretells_129 : decode cX11_foretells 129 = .ok (.iaload, 1) := by decide +kernel
theorem dX11_foretells_130 : decode cX11_foretells 130 = .ok (.invokevirtual 238, 3) := by decide +kernel
theorem dX11_foretells_133 : decode cX11_foretells 133 = .ok (.iload_n 2, 1) := by decide +kernel
theorem dX11_foretells_134 : decode cX11_foretells 134 = .ok (.ifCond .ne 26, 3) := by decide +kernel
theorem dX11_foretells_137 : decode cX11_foretells 137 = .ok (.iload 4, 2) := by decide +kernel
theorem dX11_foretells_139 : decode cX11_foretells 139 = .ok (.aload_n 0, 1) := by decide +kernel
theorem dX11_foretells_140 : decode cX11_foretells 140 = .ok (.bipush 55, 2) := by decide +kernel
theorem dX11_foretells_142 : decode cX11_foretells 142 = .ok (.aload_n 0, 1) := by decide +kernel
theorem dX11_foretells_143 : decode cX11_foretells 143 = .ok (.getfield 17, 3) := by decide +kernel
theorem dX11_foretells_146 : decode cX11_foretells 146 = .ok (.iload_n 3, 1) := by decide +kernel
theorem dX11_foretells_147 : decode cX11_foretells 147 = .ok (.iaload, 1) := by decide +kernel
theorem dX11_foretells_148 : decode cX11_foretells 148 = .ok (.aload_n 0, 1) := by decide +kernel
theorem dX11_foretells_149 : decode cX11_foretells 149 = .ok (.getfield 45, 3) := by decide +kernel
theorem dX11_foretells_152 : decode cX11_foretells 152 = .ok (.iload_n 3, 1) := by decide +kernel
theorem dX11_foretells_153 : decode cX11_foretells 153 = .ok (.iaload, 1) := by decide +kernel
theorem dX11_foretells_154 : decode cX11_foretells 154 = .ok (.invokevirtual 182, 3) := by decide +kernel
theorem dX11_foretells_157 : decode cX11_foretells 157 = .ok (.if_icmp .eq 7, 3) := by decide +kernel
theorem dX11_foretells_160 : decode cX11_foretells 160 = .ok (.iconst 1, 1) := by decide +kernel
theorem dX11_foretells_161 : decode cX11_foretells 161 = .ok (.goto 4, 3) := by decide +kernel
theorem dX11_foretells_164 : decode cX11_foretells 164 = .ok (.iconst 0, 1) := by decide +kernel
theorem dX11_foretells_165 : decode cX11_foretells 165 = .ok (.istore_n 2, 1) := by decide +kernel
theorem dX11_foretells_166 : decode cX11_foretells 166 = .ok (.iinc 3 1, 3) := by decide +kernel
theorem dX11_foretells_169 : decode cX11_foretells 169 = .ok (.goto (-92), 3) := by decide +kernel
theorem dX11_foretells_172 : decode cX11_foretells 172 = .ok (.iload_n 2, 1) := by decide +kernel
theorem dX11_foretells_173 : decode cX11_foretells 173 = .ok (.ireturn, 1) := by decide +kernel
theorem dX11_foretellsMany_0 : decode cX11_foretellsMany 0 = .ok (.aload_n 0, 1) := by decide +kernel
theorem dX11_foretellsMany_1 : decode cX11_foretellsMany 1 = .ok (.iconst 0, 1) := by decide +kernel
theorem dX11_foretellsMany_2 : decode cX11_foretellsMany 2 = .ok (.bipush 55, 2) := by decide +kernel
theorem dX11_foretellsMany_4 : decode cX11_foretellsMany 4 = .ok (.invokevirtual 249, 3) := by decide +kernel
theorem dX11_foretellsMany_7 : decode cX11_foretellsMany 7 = .ok (.iconst 1, 1) := by decide +kernel
theorem dX11_foretellsMany_8 : decode cX11_foretellsMany 8 = .ok (.istore_n 3, 1) := by decide +kernel
theorem dX11_foretellsMany_9 : decode cX11_foretellsMany 9 = .ok (.iconst 0, 1) := by decide +kernel
theorem dX11_foretellsMany_10 : decode cX11_foretellsMany 10 = .ok (.istore 4, 2) := by decide +kernel
theorem dX11_foretellsMany_12 : decode cX11_foretellsMany 12 = .ok (.iload 4, 2) := by decide +kernel
theorem dX11_foretellsMany_14 : decode cX11_foretellsMany 14 = .ok (.iload_n 1, 1) := by decide +kernel
theorem dX11_foretellsMany_15 : decode cX11_foretellsMany 15 = .ok (.if_icmp .ge 19, 3) := by decide +kernel
theorem dX11_foretellsMany_18 : decode cX11_foretellsMany 18 = .ok (.iload_n 3, 1) := by decide +kernel
theorem dX11_foretellsMany_19 : decode cX11_foretellsMany 19 = .ok (.ifCond .eq 15, 3) := by decide +kernel
theorem dX11_foretellsMany_22 : decode cX11_foretellsMany 22 = .ok (.aload_n 0, 1) := by decide +kernel
theorem dX11_foretellsMany_23 : decode cX11_foretellsMany 23 = .ok (.iload_n 2, 1) := by decide +kernel
theorem dX11_foretellsMany_24 : decode cX11_foretellsMany 24 = .ok (.invokevirtual 253, 3) := by decide +kernel
theorem dX11_foretellsMany_27 : decode cX11_foretellsMany 27 = .ok (.istore_n 3, 1) := by decide +kernel
theorem dX11_foretellsMany_28 : decode cX11_foretellsMany 28 = .ok (.iinc 4 1, 3) := by decide +kernel
theorem dX11_foretellsMany_31 : decode cX11_foretellsMany 31 = .ok (.goto (-19), 3) := by decide +kernel
theorem dX11_foretellsMany_34 : decode cX11_foretellsMany 34 = .ok (.return_, 1) := by decide +kernel
theorem dX11_foretold_0 : decode cX11_foretold 0 = .ok (.aload_n 0, 1) := by decide +kernel
theorem dX11_foretold_1 : decode cX11_foretold 1 = .ok (.iload_n 1, 1) := by decide +kernel
theorem dX11_foretold_2 : decode cX11_foretold 2 = .ok (.invokevirtual 186, 3) := by decide +kernel
theorem dX11_foretold_5 : decode cX11_foretold 5 = .ok (.ifCond .eq 16, 3) := by decide +kernel
theorem dX11_foretold_8 : decode cX11_foretold 8 = .ok (.iload_n 2, 1) := by decide +kernel
theorem dX11_foretold_9 : decode cX11_foretold 9 = .ok (.iconst (-1), 1) := by decide +kernel
theorem dX11_foretold_10 : decode cX11_foretold 10 = .ok (.if_icmp .eq 14, 3) := by decide +kernel
theorem dX11_foretold_13 : decode cX11_foretold 13 = .ok (.aload_n 0, 1) := by decide +kernel
theorem dX11_foretold_14 : decode cX11_foretold 14 = .ok (.iload_n 2, 1) := by decide +kernel
theorem dX11_foretold_15 : decode cX11_foretold 15 = .ok (.invokevirtual 189, 3) := by decide +kernel
theorem dX11_foretold_18 : decode cX11_foretold 18 = .ok (.ifCond .ne 6, 3) := by decide +kernel
theorem dX11_foretold_21 : decode cX11_foretold 21 = .ok (.ldc 192, 2) := by decide +kernel
theorem dX11_foretold_23 : decode cX11_foretold 23 = .ok (.ireturn, 1) := by decide +kernel
theorem dX11_foretold_24 : decode cX11_foretold 24 = .ok (.iload_n 3, 1) := by decide +kernel
theorem dX11_foretold_25 : decode cX11_foretold 25 = .ok (.i2l, 1) := by decide +kernel
theorem dX11_foretold_26 : decode cX11_foretold 26 = .ok (.lconst 0, 1) := by decide +kernel
theorem dX11_foretold_27 : decode cX11_foretold 27 = .ok (.ldc2_w 256, 3) := by decide +kernel
theorem dX11_foretold_30 : decode cX11_foretold 30 = .ok (.invokestatic 76, 3) := by decide +kernel
theorem dX11_foretold_33 : decode cX11_foretold 33 = .ok (.ifCond .ne 6, 3) := by decide +kernel
theorem dX11_foretold_36 : decode cX11_foretold 36 = .ok (.ldc 88, 2) := by decide +kernel
theorem dX11_foretold_38 : decode cX11_foretold 38 = .ok (.ireturn, 1) := by decide +kernel
theorem dX11_foretold_39 : decode cX11_foretold 39 = .ok (.aload_n 0, 1) := by decide +kernel
theorem dX11_foretold_40 : decode cX11_foretold 40 = .ok (.invokevirtual 246, 3) := by decide +kernel
theorem dX11_foretold_43 : decode cX11_foretold 43 = .ok (.aload_n 0, 1) := by decide +kernel
theorem dX11_foretold_44 : decode cX11_foretold 44 = .ok (.iload_n 3, 1) := by decide +kernel
theorem dX11_foretold_45 : decode cX11_foretold 45 = .ok (.iconst 0, 1) := by decide +kernel
theorem dX11_foretold_46 : decode cX11_foretold 46 = .ok (.invokevirtual 258, 3) := by decide +kernel
theorem dX11_foretold_49 : decode cX11_foretold 49 = .ok (.iload_n 2, 1) := by decide +kernel
theorem dX11_foretold_50 : decode cX11_foretold 50 = .ok (.iconst (-1), 1) := by decide +kernel
theorem dX11_foretold_51 : decode cX11_foretold 51 = .ok (.if_icmp .ne 13, 3) := by decide +kernel
theorem dX11_foretold_54 : decode cX11_foretold 54 = .ok (.aload_n 0, 1) := by decide +kernel
theorem dX11_foretold_55 : decode cX11_foretold 55 = .ok (.bipush 55, 2) := by decide +kernel
theorem dX11_foretold_57 : decode cX11_foretold 57 = .ok (.iload_n 1, 1) := by decide +kernel
theorem dX11_foretold_58 : decode cX11_foretold 58 = .ok (.invokevirtual 197, 3) := by decide +kernel
theorem dX11_foretold_61 : decode cX11_foretold 61 = .ok (.goto 11, 3) := by decide +kernel
theorem dX11_foretold_64 : decode cX11_foretold 64 = .ok (.aload_n 0, 1) := by decide +kernel
theorem dX11_foretold_65 : decode cX11_foretold 65 = .ok (.bipush 55, 2) := by decide +kernel
theorem dX11_foretold_67 : decode cX11_foretold 67 = .ok (.iload_n 1, 1) := by decide +kernel
theorem dX11_foretold_68 : decode cX11_foretold 68 = .ok (.iload_n 2, 1) := by decide +kernel
theorem dX11_foretold_69 : decode cX11_foretold 69 = .ok (.invokevirtual 182, 3) := by decide +kernel
theorem dX11_foretold_72 : decode cX11_foretold 72 = .ok (.ireturn, 1) := by decide +kernel
theorem dX11_settled_0 : decode cX11_settled 0 = .ok (.aload_n 0, 1) := by decide +kernel
theorem dX11_settled_1 : decode cX11_settled 1 = .ok (.invokevirtual 246, 3) := by decide +kernel
theorem dX11_settled_4 : decode cX11_settled 4 = .ok (.aload_n 0, 1) := by decide +kernel
theorem dX11_settled_5 : decode cX11_settled 5 = .ok (.iconst 0, 1) := by decide +kernel
theorem dX11_settled_6 : decode cX11_settled 6 = .ok (.bipush 55, 2) := by decide +kernel
theorem dX11_settled_8 : decode cX11_settled 8 = .ok (.invokevirtual 249, 3) := by decide +kernel
theorem dX11_settled_11 : decode cX11_settled 11 = .ok (.iconst 0, 1) := by decide +kernel
theorem dX11_settled_12 : decode cX11_settled 12 = .ok (.istore_n 1, 1) := by decide +kernel
theorem dX11_settled_13 : decode cX11_settled 13 = .ok (.iload_n 1, 1) := by decide +kernel
theorem dX11_settled_14 : decode cX11_settled 14 = .ok (.sipush 200, 3) := by decide +kernel
theorem dX11_settled_17 : decode cX11_settled 17 = .ok (.if_icmp .gt 19, 3) := by decide +kernel
theorem dX11_settled_20 : decode cX11_settled 20 = .ok (.aload_n 0, 1) := by decide +kernel
theorem dX11_settled_21 : decode cX11_settled 21 = .ok (.iconst 0, 1) := by decide +kernel
theorem dX11_settled_22 : decode cX11_settled 22 = .ok (.invokevirtual 253, 3) := by decide +kernel
theorem dX11_settled_25 : decode cX11_settled 25 = .ok (.ifCond .ne 5, 3) := by decide +kernel
theorem dX11_settled_28 : decode cX11_settled 28 = .ok (.iload_n 1, 1) := by decide +kernel
theorem dX11_settled_29 : decode cX11_settled 29 = .ok (.ireturn, 1) := by decide +kernel
theorem dX11_settled_30 : decode cX11_settled 30 = .ok (.iinc 1 1, 3) := by decide +kernel
theorem dX11_settled_33 : decode cX11_settled 33 = .ok (.goto (-20), 3) := by decide +kernel
theorem dX11_settled_36 : decode cX11_settled 36 = .ok (.iconst (-1), 1) := by decide +kernel
theorem dX11_settled_37 : decode cX11_settled 37 = .ok (.ireturn, 1) := by decide +kernel
theorem dX11_isCalm_0 : decode cX11_isCalm 0 = .ok (.iconst 1, 1) := by decide +kernel
theorem dX11_isCalm_1 : decode cX11_isCalm 1 = .ok (.istore_n 1, 1) := by decide +kernel
theorem dX11_isCalm_2 : decode cX11_isCalm 2 = .ok (.iconst 0, 1) := by decide +kernel
theorem dX11_isCalm_3 : decode cX11_isCalm 3 = .ok (.istore_n 2, 1) := by decide +kernel
theorem dX11_isCalm_4 : decode cX11_isCalm 4 = .ok (.iload_n 2, 1) := by decide +kernel
theorem dX11_isCalm_5 : decode cX11_isCalm 5 = .ok (.aload_n 0, 1) := by decide +kernel
theorem dX11_isCalm_6 : decode cX11_isCalm 6 = .ok (.getfield 73, 3) := by decide +kernel
theorem dX11_isCalm_9 : decode cX11_isCalm 9 = .ok (.if_icmp .ge 33, 3) := by decide +kernel
theorem dX11_isCalm_12 : decode cX11_isCalm 12 = .ok (.iload_n 1, 1) := by decide +kernel
theorem dX11_isCalm_13 : decode cX11_isCalm 13 = .ok (.ifCond .eq 21, 3) := by decide +kernel
theorem dX11_isCalm_16 : decode cX11_isCalm 16 = .ok (.aload_n 0, 1) := by decide +kernel
theorem dX11_isCalm_17 : decode cX11_isCalm 17 = .ok (.bipush 55, 2) := by decide +kernel
theorem dX11_isCalm_19 : decode cX11_isCalm 19 = .ok (.iload_n 2, 1) := by decide +kernel
theorem dX11_isCalm_20 : decode cX11_isCalm 20 = .ok (.invokevirtual 197, 3) := by decide +kernel
theorem dX11_isCalm_23 : decode cX11_isCalm 23 = .ok (.aload_n 0, 1) := by decide +kernel
theorem dX11_isCalm_24 : decode cX11_isCalm 24 = .ok (.getfield 166, 3) := by decide +kernel
theorem dX11_isCalm_27 : decode cX11_isCalm 27 = .ok (.if_icmp .eq 7, 3) := by decide +kernel
theorem dX11_isCalm_30 : decode cX11_isCalm 30 = .ok (.iconst 1, 1) := by decide +kernel
theorem dX11_isCalm_31 : decode cX11_isCalm 31 = .ok (.goto 4, 3) := by decide +kernel
theorem dX11_isCalm_34 : decode cX11_isCalm 34 = .ok (.iconst 0, 1) := by decide +kernel
theorem dX11_isCalm_35 : decode cX11_isCalm 35 = .ok (.istore_n 1, 1) := by decide +kernel
theorem dX11_isCalm_36 : decode cX11_isCalm 36 = .ok (.iinc 2 1, 3) := by decide +kernel
theorem dX11_isCalm_39 : decode cX11_isCalm 39 = .ok (.goto (-35), 3) := by decide +kernel
theorem dX11_isCalm_42 : decode cX11_isCalm 42 = .ok (.iload_n 1, 1) := by decide +kernel
theorem dX11_isCalm_43 : decode cX11_isCalm 43 = .ok (.ireturn, 1) := by decide +kernel
theorem dX11_awake_0 : decode cX11_awake 0 = .ok (.iload_n 1, 1) := by decide +kernel
theorem dX11_awake_1 : decode cX11_awake 1 = .ok (.i2l, 1) := by decide +kernel
theorem dX11_awake_2 : decode cX11_awake 2 = .ok (.lconst 0, 1) := by decide +kernel
theorem dX11_awake_3 : decode cX11_awake 3 = .ok (.ldc2_w 256, 3) := by decide +kernel
theorem dX11_awake_6 : decode cX11_awake 6 = .ok (.invokestatic 76, 3) := by decide +kernel
theorem dX11_awake_9 : decode cX11_awake 9 = .ok (.ifCond .eq 13, 3) := by decide +kernel
theorem dX11_awake_12 : decode cX11_awake 12 = .ok (.iload_n 2, 1) := by decide +kernel
theorem dX11_awake_13 : decode cX11_awake 13 = .ok (.i2l, 1) := by decide +kernel
theorem dX11_awake_14 : decode cX11_awake 14 = .ok (.lconst 0, 1) := by decide +kernel
theorem dX11_awake_15 : decode cX11_awake 15 = .ok (.lconst 1, 1) := by decide +kernel
theorem dX11_awake_16 : decode cX11_awake 16 = .ok (.invokestatic 76, 3) := by decide +kernel
theorem dX11_awake_19 : decode cX11_awake 19 = .ok (.ifCond .ne 6, 3) := by decide +kernel
theorem dX11_awake_22 : decode cX11_awake 22 = .ok (.ldc 88, 2) := by decide +kernel
theorem dX11_awake_24 : decode cX11_awake 24 = .ok (.ireturn, 1) := by decide +kernel
theorem dX11_awake_25 : decode cX11_awake 25 = .ok (.aload_n 0, 1) := by decide +kernel
theorem dX11_awake_26 : decode cX11_awake 26 = .ok (.invokevirtual 246, 3) := by decide +kernel
theorem dX11_awake_29 : decode cX11_awake 29 = .ok (.iconst (-1), 1) := by decide +kernel
theorem dX11_awake_30 : decode cX11_awake 30 = .ok (.istore_n 3, 1) := by decide +kernel
theorem dX11_awake_31 : decode cX11_awake 31 = .ok (.iconst 0, 1) := by decide +kernel
theorem dX11_awake_32 : decode cX11_awake 32 = .ok (.istore 4, 2) := by decide +kernel
theorem dX11_awake_34 : decode cX11_awake 34 = .ok (.iload 4, 2) := by decide +kernel
theorem dX11_awake_36 : decode cX11_awake 36 = .ok (.iconst 1, 1) := by decide +kernel
theorem dX11_awake_37 : decode cX11_awake 37 = .ok (.aload_n 0, 1) := by decide +kernel
theorem dX11_awake_38 : decode cX11_awake 38 = .ok (.getfield 73, 3) := by decide +kernel
theorem dX11_awake_41 : decode cX11_awake 41 = .ok (.ishl, 1) := by decide +kernel
theorem dX11_awake_42 : decode cX11_awake 42 = .ok (.if_icmp .ge 72, 3) := by decide +kernel
theorem dX11_awake_45 : decode cX11_awake 45 = .ok (.iload 4, 2) := by decide +kernel
theorem dX11_awake_47 : decode cX11_awake 47 = .ok (.aload_n 0, 1) := by decide +kernel
theorem dX11_awake_48 : decode cX11_awake 48 = .ok (.getfield 7, 3) := by decide +kernel
theorem dX11_awake_51 : decode cX11_awake 51 = .ok (.bipush 51, 2) := by decide +kernel
theorem dX11_awake_53 : decode cX11_awake 53 = .ok (.iaload, 1) := by decide +kernel
theorem dX11_awake_54 : decode cX11_awake 54 = .ok (.iand, 1) := by decide +kernel
theorem dX11_awake_55 : decode cX11_awake 55 = .ok (.ifCond .ne 24, 3) := by decide +kernel
theorem dX11_awake_58 : decode cX11_awake 58 = .ok (.iload_n 3, 1) := by decide +kernel
theorem dX11_awake_59 : decode cX11_awake 59 = .ok (.iconst (-1), 1) := by decide +kernel
theorem dX11_awake_60 : decode cX11_awake 60 = .ok (.if_icmp .eq 15, 3) := by decide +kernel
theorem dX11_awake_63 : decode cX11_awake 63 = .ok (.iload 4, 2) := by decide +kernel
theorem dX11_awake_65 : decode cX11_awake 65 = .ok (.invokestatic 261, 3) := by decide +kernel
theorem dX11_awake_68 : decode cX11_awake 68 = .ok (.iload_n 3, 1) := by decide +kernel
theorem dX11_awake_69 : decode cX11_awake 69 = .ok (.invokestatic 261, 3) := by decide +kernel
theorem dX11_awake_72 : decode cX11_awake 72 = .ok (.if_icmp .ge 7, 3) := by decide +kernel
theorem dX11_awake_75 : decode cX11_awake 75 = .ok (.iconst 1, 1) := by decide +kernel
theorem dX11_awake_76 : decode cX11_awake 76 = .ok (.goto 4, 3) := by decide +kernel
theorem dX11_awake_79 : decode cX11_awake 79 = .ok (.iconst 0, 1) := by decide +kernel
theorem dX11_awake_80 : decode cX11_awake 80 = .ok (.istore 5, 2) := by decide +kernel
theorem dX11_awake_82 : decode cX11_awake 82 = .ok (.iload 5, 2) := by decide +kernel
theorem dX11_awake_84 : decode cX11_awake 84 = .ok (.ifCond .eq 24, 3) := by decide +kernel
theorem dX11_awake_87 : decode cX11_awake 87 = .ok (.aload_n 0, 1) := by decide +kernel
theorem dX11_awake_88 : decode cX11_awake 88 = .ok (.iload_n 1, 1) := by decide +kernel
theorem dX11_awake_89 : decode cX11_awake 89 = .ok (.iload 4, 2) := by decide +kernel
theorem dX11_awake_91 : decode cX11_awake 91 = .ok (.invokevirtual 258, 3) := by decide +kernel
theorem dX11_awake_94 : decode cX11_awake 94 = .ok (.aload_n 0, 1) := by decide +kernel
theorem dX11_awake_95 : decode cX11_awake 95 = .ok (.invokevirtual 264, 3) := by decide +kernel
theorem dX11_awake_98 : decode cX11_awake 98 = .ok (.ifCond .eq 8, 3) := by decide +kernel
theorem dX11_awake_101 : decode cX11_awake 101 = .ok (.iload 4, 2) := by decide +kernel
theorem dX11_awake_103 : decode cX11_awake 103 = .ok (.goto 4, 3) := by decide +kernel
theorem dX11_awake_106 : decode cX11_awake 106 = .ok (.iload_n 3, 1) := by decide +kernel
theorem dX11_awake_107 : decode cX11_awake 107 = .ok (.istore_n 3, 1) := by decide +kernel
theorem dX11_awake_108 : decode cX11_awake 108 = .ok (.iinc 4 1, 3) := by decide +kernel
theorem dX11_awake_111 : decode cX11_awake 111 = .ok (.goto (-77), 3) := by decide +kernel
theorem dX11_awake_114 : decode cX11_awake 114 = .ok (.iload_n 3, 1) := by decide +kernel
theorem dX11_awake_115 : decode cX11_awake 115 = .ok (.iconst (-1), 1) := by decide +kernel
theorem dX11_awake_116 : decode cX11_awake 116 = .ok (.if_icmp .eq 8, 3) := by decide +kernel
theorem dX11_awake_119 : decode cX11_awake 119 = .ok (.iload_n 2, 1) := by decide +kernel
theorem dX11_awake_120 : decode cX11_awake 120 = .ok (.iconst 1, 1) := by decide +kernel
theorem dX11_awake_121 : decode cX11_awake 121 = .ok (.if_icmp .ne 7, 3) := by decide +kernel
theorem dX11_awake_124 : decode cX11_awake 124 = .ok (.iload_n 3, 1) := by decide +kernel
theorem dX11_awake_125 : decode cX11_awake 125 = .ok (.goto 7, 3) := by decide +kernel
theorem dX11_awake_128 : decode cX11_awake 128 = .ok (.iload_n 3, 1) := by decide +kernel
theorem dX11_awake_129 : decode cX11_awake 129 = .ok (.invokestatic 261, 3) := by decide +kernel
theorem dX11_awake_132 : decode cX11_awake 132 = .ok (.ireturn, 1) := by decide +kernel
theorem dX11_bite_0 : decode cX11_bite 0 = .ok (.aload_n 0, 1) := by decide +kernel
theorem dX11_bite_1 : decode cX11_bite 1 = .ok (.iload_n 1, 1) := by decide +kernel
theorem dX11_bite_2 : decode cX11_bite 2 = .ok (.invokevirtual 189, 3) := by decide +kernel
theorem dX11_bite_5 : decode cX11_bite 5 = .ok (.ifCond .ne 6, 3) := by decide +kernel
theorem dX11_bite_8 : decode cX11_bite 8 = .ok (.ldc 192, 2) := by decide +kernel
theorem dX11_bite_10 : decode cX11_bite 10 = .ok (.ireturn, 1) := by decide +kernel
theorem dX11_bite_11 : decode cX11_bite 11 = .ok (.aload_n 0, 1) := by decide +kernel
theorem dX11_bite_12 : decode cX11_bite 12 = .ok (.getfield 169, 3) := by decide +kernel
theorem dX11_bite_15 : decode cX11_bite 15 = .ok (.bipush 8, 2) := by decide +kernel
theorem dX11_bite_17 : decode cX11_bite 17 = .ok (.if_icmp .ne 6, 3) := by decide +kernel
theorem dX11_bite_20 : decode cX11_bite 20 = .ok (.ldc 92, 2) := by decide +kernel
theorem dX11_bite_22 : decode cX11_bite 22 = .ok (.ireturn, 1) := by decide +kernel
theorem dX11_bite_23 : decode cX11_bite 23 = .ok (.aload_n 0, 1) := by decide +kernel
theorem dX11_bite_24 : decode cX11_bite 24 = .ok (.getfield 48, 3) := by decide +kernel
theorem dX11_bite_27 : decode cX11_bite 27 = .ok (.aload_n 0, 1) := by decide +kernel
theorem dX11_bite_28 : decode cX11_bite 28 = .ok (.getfield 169, 3) := by decide +kernel
theorem dX11_bite_31 : decode cX11_bite 31 = .ok (.iload_n 1, 1) := by decide +kernel
theorem dX11_bite_32 : decode cX11_bite 32 = .ok (.iastore, 1) := by decide +kernel
theorem dX11_bite_33 : decode cX11_bite 33 = .ok (.aload_n 0, 1) := by decide +kernel
theorem dX11_bite_34 : decode cX11_bite 34 = .ok (.dup, 1) := by decide +kernel
theorem dX11_bite_35 : decode cX11_bite 35 = .ok (.getfield 169, 3) := by decide +kernel
theorem dX11_bite_38 : decode cX11_bite 38 = .ok (.iconst 1, 1) := by decide +kernel
theorem dX11_bite_39 : decode cX11_bite 39 = .ok (.iadd, 1) := by decide +kernel
theorem dX11_bite_40 : decode cX11_bite 40 = .ok (.putfield 169, 3) := by decide +kernel
theorem dX11_bite_43 : decode cX11_bite 43 = .ok (.aload_n 0, 1) := by decide +kernel
theorem dX11_bite_44 : decode cX11_bite 44 = .ok (.getfield 169, 3) := by decide +kernel
theorem dX11_bite_47 : decode cX11_bite 47 = .ok (.ireturn, 1) := by decide +kernel
theorem dX11_mayBe_0 : decode cX11_mayBe 0 = .ok (.iconst 0, 1) := by decide +kernel
theorem dX11_mayBe_1 : decode cX11_mayBe 1 = .ok (.istore_n 1, 1) := by decide +kernel
theorem dX11_mayBe_2 : decode cX11_mayBe 2 = .ok (.iconst 0, 1) := by decide +kernel
theorem dX11_mayBe_3 : decode cX11_mayBe 3 = .ok (.istore_n 2, 1) := by decide +kernel
theorem dX11_mayBe_4 : decode cX11_mayBe 4 = .ok (.iload_n 2, 1) := by decide +kernel
theorem dX11_mayBe_5 : decode cX11_mayBe 5 = .ok (.aload_n 0, 1) := by decide +kernel
theorem dX11_mayBe_6 : decode cX11_mayBe 6 = .ok (.getfield 73, 3) := by decide +kernel
theorem dX11_mayBe_9 : decode cX11_mayBe 9 = .ok (.if_icmp .ge 69, 3) := by decide +kernel
theorem dX11_mayBe_12 : decode cX11_mayBe 12 = .ok (.iconst 1, 1) := by decide +kernel
theorem dX11_mayBe_13 : decode cX11_mayBe 13 = .ok (.istore_n 3, 1) := by decide +kernel
theorem dX11_mayBe_14 : decode cX11_mayBe 14 = .ok (.iconst 0, 1) := by decide +kernel
theorem dX11_mayBe_15 : decode cX11_mayBe 15 = .ok (.istore 4, 2) := by decide +kernel
theorem dX11_mayBe_17 : decode cX11_mayBe 17 = .ok (.iload 4, 2) := by decide +kernel
theorem dX11_mayBe_19 : decode cX11_mayBe 19 = .ok (.aload_n 0, 1) := by decide +kernel
theorem dX11_mayBe_20 : decode cX11_mayBe 20 = .ok (.getfield 169, 3) := by decide +kernel
theorem dX11_mayBe_23 : decode cX11_mayBe 23 = .ok (.if_icmp .ge 35, 3) := by decide +kernel
theorem dX11_mayBe_26 : decode cX11_mayBe 26 = .ok (.iload_n 3, 1) := by decide +kernel
theorem dX11_mayBe_27 : decode cX11_mayBe 27 = .ok (.ifCond .eq 23, 3) := by decide +kernel
theorem dX11_mayBe_30 : decode cX11_mayBe 30 = .ok (.aload_n 0, 1) := by decide +kernel
theorem dX11_mayBe_31 : decode cX11_mayBe 31 = .ok (.iconst 0, 1) := by decide +kernel
theorem dX11_mayBe_32 : decode cX11_mayBe 32 = .ok (.iload_n 2, 1) := by decide +kernel
theorem dX11_mayBe_33 : decode cX11_mayBe 33 = .ok (.aload_n 0, 1) := by decide +kernel
theorem dX11_mayBe_34 : decode cX11_mayBe 34 = .ok (.getfield 48, 3) := by decide +kernel
theorem dX11_mayBe_37 : decode cX11_mayBe 37 = .ok (.iload 4, 2) := by decide +kernel
theorem dX11_mayBe_39 : decode cX11_mayBe 39 = .ok (.iaload, 1) := by decide +kernel
theorem dX11_mayBe_40 : decode cX11_mayBe 40 = .ok (.invokevirtual 182, 3) := by decide +kernel
theorem dX11_mayBe_43 : decode cX11_mayBe 43 = .ok (.ifCond .le 7, 3) := by decide +kernel
theorem dX11_mayBe_46 : decode cX11_mayBe 46 = .ok (.iconst 1, 1) := by decide +kernel
theorem dX11_mayBe_47 : decode cX11_mayBe 47 = .ok (.goto 4, 3) := by decide +kernel
theorem dX11_mayBe_50 : decode cX11_mayBe 50 = .ok (.iconst 0, 1) := by decide +kernel
theorem dX11_mayBe_51 : decode cX11_mayBe 51 = .ok (.istore_n 3, 1) := by decide +kernel
theorem dX11_mayBe_52 : decode cX11_mayBe 52 = .ok (.iinc 4 1, 3) := by decide +kernel
theorem dX11_mayBe_55 : decode cX11_mayBe 55 = .ok (.goto (-38), 3) := by decide +kernel
theorem dX11_mayBe_58 : decode cX11_mayBe 58 = .ok (.iload_n 1, 1) := by decide +kernel
theorem dX11_mayBe_59 : decode cX11_mayBe 59 = .ok (.iload_n 3, 1) := by decide +kernel
theorem dX11_mayBe_60 : decode cX11_mayBe 60 = .ok (.ifCond .eq 9, 3) := by decide +kernel
theorem dX11_mayBe_63 : decode cX11_mayBe 63 = .ok (.iconst 1, 1) := by decide +kernel
theorem dX11_mayBe_64 : decode cX11_mayBe 64 = .ok (.iload_n 2, 1) := by decide +kernel
theorem dX11_mayBe_65 : decode cX11_mayBe 65 = .ok (.ishl, 1) := by decide +kernel
theorem dX11_mayBe_66 : decode cX11_mayBe 66 = .ok (.goto 4, 3) := by decide +kernel
theorem dX11_mayBe_69 : decode cX11_mayBe 69 = .ok (.iconst 0, 1) := by decide +kernel
theorem dX11_mayBe_70 : decode cX11_mayBe 70 = .ok (.ior, 1) := by decide +kernel
theorem dX11_mayBe_71 : decode cX11_mayBe 71 = .ok (.istore_n 1, 1) := by decide +kernel
theorem dX11_mayBe_72 : decode cX11_mayBe 72 = .ok (.iinc 2 1, 3) := by decide +kernel
theorem dX11_mayBe_75 : decode cX11_mayBe 75 = .ok (.goto (-71), 3) := by decide +kernel
theorem dX11_mayBe_78 : decode cX11_mayBe 78 = .ok (.iload_n 1, 1) := by decide +kernel
theorem dX11_mayBe_79 : decode cX11_mayBe 79 = .ok (.ireturn, 1) := by decide +kernel
theorem dX11_partOf_0 : decode cX11_partOf 0 = .ok (.ldc2_w 267, 3) := by decide +kernel
theorem dX11_partOf_3 : decode cX11_partOf 3 = .ok (.lstore_n 2, 1) := by decide +kernel
theorem dX11_partOf_4 : decode cX11_partOf 4 = .ok (.iconst 0, 1) := by decide +kernel
theorem dX11_partOf_5 : decode cX11_partOf 5 = .ok (.istore 4, 2) := by decide +kernel
theorem dX11_partOf_7 : decode cX11_partOf 7 = .ok (.iload 4, 2) := by decide +kernel
theorem dX11_partOf_9 : decode cX11_partOf 9 = .ok (.aload_n 0, 1) := by decide +kernel
theorem dX11_partOf_10 : decode cX11_partOf 10 = .ok (.getfield 169, 3) := by decide +kernel
theorem dX11_partOf_13 : decode cX11_partOf 13 = .ok (.if_icmp .ge 34, 3) := by decide +kernel
theorem dX11_partOf_16 : decode cX11_partOf 16 = .ok (.lload_n 2, 1) := by decide +kernel
theorem dX11_partOf_17 : decode cX11_partOf 17 = .ok (.aload_n 0, 1) := by decide +kernel
theorem dX11_partOf_18 : decode cX11_partOf 18 = .ok (.iconst 0, 1) := by decide +kernel
theorem dX11_partOf_19 : decode cX11_partOf 19 = .ok (.iload_n 1, 1) := by decide +kernel
theorem dX11_partOf_20 : decode cX11_partOf 20 = .ok (.aload_n 0, 1) := by decide +kernel
theorem dX11_partOf_21 : decode cX11_partOf 21 = .ok (.getfield 48, 3) := by decide +kernel
theorem dX11_partOf_24 : decode cX11_partOf 24 = .ok (.iload 4, 2) := by decide +kernel
theorem dX11_partOf_26 : decode cX11_partOf 26 = .ok (.iaload, 1) := by decide +kernel
theorem dX11_partOf_27 : decode cX11_partOf 27 = .ok (.invokevirtual 182, 3) := by decide +kernel
theorem dX11_partOf_30 : decode cX11_partOf 30 = .ok (.i2l, 1) := by decide +kernel
theorem dX11_partOf_31 : decode cX11_partOf 31 = .ok (.lmul, 1) := by decide +kernel
theorem dX11_partOf_32 : decode cX11_partOf 32 = .ok (.aload_n 0, 1) := by decide +kernel
theorem dX11_partOf_33 : decode cX11_partOf 33 = .ok (.iconst 0, 1) := by decide +kernel
theorem dX11_partOf_34 : decode cX11_partOf 34 = .ok (.iload_n 1, 1) := by decide +kernel
theorem dX11_partOf_35 : decode cX11_partOf 35 = .ok (.invokevirtual 193, 3) := by decide +kernel
theorem dX11_partOf_38 : decode cX11_partOf 38 = .ok (.i2l, 1) := by decide +kernel
theorem dX11_partOf_39 : decode cX11_partOf 39 = .ok (.ldiv, 1) := by decide +kernel
theorem dX11_partOf_40 : decode cX11_partOf 40 = .ok (.lstore_n 2, 1) := by decide +kernel
theorem dX11_partOf_41 : decode cX11_partOf 41 = .ok (.iinc 4 1, 3) := by decide +kernel
theorem dX11_partOf_44 : decode cX11_partOf 44 = .ok (.goto (-37), 3) := by decide +kernel
theorem dX11_partOf_47 : decode cX11_partOf 47 = .ok (.lload_n 2, 1) := by decide +kernel
theorem dX11_partOf_48 : decode cX11_partOf 48 = .ok (.lreturn, 1) := by decide +kernel
theorem dX11_whose_0 : decode cX11_whose 0 = .ok (.iconst (-1), 1) := by decide +kernel
theorem dX11_whose_1 : decode cX11_whose 1 = .ok (.istore_n 1, 1) := by decide +kernel
theorem dX11_whose_2 : decode cX11_whose 2 = .ok (.lconst 0, 1) := by decide +kernel
theorem dX11_whose_3 : decode cX11_whose 3 = .ok (.lstore_n 2, 1) := by decide +kernel
theorem dX11_whose_4 : decode cX11_whose 4 = .ok (.iconst 0, 1) := by decide +kernel
theorem dX11_whose_5 : decode cX11_whose 5 = .ok (.istore 4, 2) := by decide +kernel
theorem dX11_whose_7 : decode cX11_whose 7 = .ok (.iload 4, 2) := by decide +kernel
theorem dX11_whose_9 : decode cX11_whose 9 = .ok (.aload_n 0, 1) := by decide +kernel
theorem dX11_whose_10 : decode cX11_whose 10 = .ok (.getfield 73, 3) := by decide +kernel
theorem dX11_whose_13 : decode cX11_whose 13 = .ok (.if_icmp .ge 45, 3) := by decide +kernel
theorem dX11_whose_16 : decode cX11_whose 16 = .ok (.aload_n 0, 1) := by decide +kernel
theorem dX11_whose_17 : decode cX11_whose 17 = .ok (.iload 4, 2) := by decide +kernel
theorem dX11_whose_19 : decode cX11_whose 19 = .ok (.invokevirtual 269, 3) := by decide +kernel
theorem dX11_whose_22 : decode cX11_whose 22 = .ok (.lstore 5, 2) := by decide +kernel
theorem dX11_whose_24 : decode cX11_whose 24 = .ok (.lload 5, 2) := by decide +kernel
theorem dX11_whose_26 : decode cX11_whose 26 = .ok (.lload_n 2, 1) := by decide +kernel
theorem dX11_whose_27 : decode cX11_whose 27 = .ok (.lcmp, 1) := by decide +kernel
theorem dX11_whose_28 : decode cX11_whose 28 = .ok (.ifCond .le 8, 3) := by decide +kernel
theorem dX11_whose_31 : decode cX11_whose 31 = .ok (.iload 4, 2) := by decide +kernel
theorem dX11_whose_33 : decode cX11_whose 33 = .ok (.goto 4, 3) := by decide +kernel
theorem dX11_whose_36 : decode cX11_whose 36 = .ok (.iload_n 1, 1) := by decide +kernel
theorem dX11_whose_37 : decode cX11_whose 37 = .ok (.istore_n 1, 1) := by decide +kernel
theorem dX11_whose_38 : decode cX11_whose 38 = .ok (.lload 5, 2) := by decide +kernel
theorem dX11_whose_40 : decode cX11_whose 40 = .ok (.lload_n 2, 1) := by decide +kernel
theorem dX11_whose_41 : decode cX11_whose 41 = .ok (.lcmp, 1) := by decide +kernel
theorem dX11_whose_42 : decode cX11_whose 42 = .ok (.ifCond .le 8, 3) := by decide +kernel
theorem dX11_whose_45 : decode cX11_whose 45 = .ok (.lload 5, 2) := by decide +kernel
theorem dX11_whose_47 : decode cX11_whose 47 = .ok (.goto 4, 3) := by decide +kernel
theorem dX11_whose_50 : decode cX11_whose 50 = .ok (.lload_n 2, 1) := by decide +kernel
theorem dX11_whose_51 : decode cX11_whose 51 = .ok (.lstore_n 2, 1) := by decide +kernel
theorem dX11_whose_52 : decode cX11_whose 52 = .ok (.iinc 4 1, 3) := by decide +kernel
theorem dX11_whose_55 : decode cX11_whose 55 = .ok (.goto (-48), 3) := by decide +kernel
theorem dX11_whose_58 : decode cX11_whose 58 = .ok (.iload_n 1, 1) := by decide +kernel
theorem dX11_whose_59 : decode cX11_whose 59 = .ok (.ireturn, 1) := by decide +kernel
theorem dX11_howLikely_0 : decode cX11_howLikely 0 = .ok (.aload_n 0, 1) := by decide +kernel
theorem dX11_howLikely_1 : decode cX11_howLikely 1 = .ok (.iload_n 1, 1) := by decide +kernel
theorem dX11_howLikely_2 : decode cX11_howLikely 2 = .ok (.invokevirtual 186, 3) := by decide +kernel
theorem dX11_howLikely_5 : decode cX11_howLikely 5 = .ok (.ifCond .ne 6, 3) := by decide +kernel
theorem dX11_howLikely_8 : decode cX11_howLikely 8 = .ok (.ldc 192, 2) := by decide +kernel
theorem dX11_howLikely_10 : decode cX11_howLikely 10 = .ok (.ireturn, 1) := by decide +kernel
theorem dX11_howLikely_11 : decode cX11_howLikely 11 = .ok (.lconst 0, 1) := by decide +kernel
theorem dX11_howLikely_12 : decode cX11_howLikely 12 = .ok (.lstore_n 2, 1) := by decide +kernel
theorem dX11_howLikely_13 : decode cX11_howLikely 13 = .ok (.iconst 0, 1) := by decide +kernel
theorem dX11_howLikely_14 : decode cX11_howLikely 14 = .ok (.istore 4, 2) := by decide +kernel
theorem dX11_howLikely_16 : decode cX11_howLikely 16 = .ok (.iload 4, 2) := by decide +kernel
theorem dX11_howLikely_18 : decode cX11_howLikely 18 = .ok (.aload_n 0, 1) := by decide +kernel
theorem dX11_howLikely_19 : decode cX11_howLikely 19 = .ok (.getfield 73, 3) := by decide +kernel
theorem dX11_howLikely_22 : decode cX11_howLikely 22 = .ok (.if_icmp .ge 18, 3) := by decide +kernel
theorem dX11_howLikely_25 : decode cX11_howLikely 25 = .ok (.lload_n 2, 1) := by decide +kernel
theorem dX11_howLikely_26 : decode cX11_howLikely 26 = .ok (.aload_n 0, 1) := by decide +kernel
theorem dX11_howLikely_27 : decode cX11_howLikely 27 = .ok (.iload 4, 2) := by decide +kernel
theorem dX11_howLikely_29 : decode cX11_howLikely 29 = .ok (.invokevirtual 269, 3) := by decide +kernel
theorem dX11_howLikely_32 : decode cX11_howLikely 32 = .ok (.ladd, 1) := by decide +kernel
theorem dX11_howLikely_33 : decode cX11_howLikely 33 = .ok (.lstore_n 2, 1) := by decide +kernel
theorem dX11_howLikely_34 : decode cX11_howLikely 34 = .ok (.iinc 4 1, 3) := by decide +kernel
theorem dX11_howLikely_37 : decode cX11_howLikely 37 = .ok (.goto (-21), 3) := by decide +kernel
theorem dX11_howLikely_40 : decode cX11_howLikely 40 = .ok (.lload_n 2, 1) := by decide +kernel
theorem dX11_howLikely_41 : decode cX11_howLikely 41 = .ok (.lconst 0, 1) := by decide +kernel
theorem dX11_howLikely_42 : decode cX11_howLikely 42 = .ok (.lcmp, 1) := by decide +kernel
theorem dX11_howLikely_43 : decode cX11_howLikely 43 = .ok (.ifCond .ne 7, 3) := by decide +kernel
theorem dX11_howLikely_46 : decode cX11_howLikely 46 = .ok (.iconst 0, 1) := by decide +kernel
theorem dX11_howLikely_47 : decode cX11_howLikely 47 = .ok (.goto 15, 3) := by decide +kernel
theorem dX11_howLikely_50 : decode cX11_howLikely 50 = .ok (.aload_n 0, 1) := by decide +kernel
theorem dX11_howLikely_51 : decode cX11_howLikely 51 = .ok (.iload_n 1, 1) := by decide +kernel
theorem dX11_howLikely_52 : decode cX11_howLikely 52 = .ok (.invokevirtual 269, 3) := by decide +kernel
theorem dX11_howLikely_55 : decode cX11_howLikely 55 = .ok (.ldc2_w 203, 3) := by decide +kernel
theorem dX11_howLikely_58 : decode cX11_howLikely 58 = .ok (.lmul, 1) := by decide +kernel
theorem dX11_howLikely_59 : decode cX11_howLikely 59 = .ok (.lload_n 2, 1) := by decide +kernel
theorem dX11_howLikely_60 : decode cX11_howLikely 60 = .ok (.ldiv, 1) := by decide +kernel
theorem dX11_howLikely_61 : decode cX11_howLikely 61 = .ok (.l2i, 1) := by decide +kernel
theorem dX11_howLikely_62 : decode cX11_howLikely 62 = .ok (.ireturn, 1) := by decide +kernel
theorem dX11_findCrumbs_0 : decode cX11_findCrumbs 0 = .ok (.iconst 0, 1) := by decide +kernel
theorem dX11_findCrumbs_1 : decode cX11_findCrumbs 1 = .ok (.istore_n 1, 1) := by decide +kernel
theorem dX11_findCrumbs_2 : decode cX11_findCrumbs 2 = .ok (.iconst 0, 1) := by decide +kernel
theorem dX11_findCrumbs_3 : decode cX11_findCrumbs 3 = .ok (.istore_n 2, 1) := by decide +kernel
theorem dX11_findCrumbs_4 : decode cX11_findCrumbs 4 = .ok (.iconst 0, 1) := by decide +kernel
theorem dX11_findCrumbs_5 : decode cX11_findCrumbs 5 = .ok (.istore_n 3, 1) := by decide +kernel
theorem dX11_findCrumbs_6 : decode cX11_findCrumbs 6 = .ok (.iconst 0, 1) := by decide +kernel
theorem dX11_findCrumbs_7 : decode cX11_findCrumbs 7 = .ok (.istore 4, 2) := by decide +kernel
theorem dX11_findCrumbs_9 : decode cX11_findCrumbs 9 = .ok (.iload 4, 2) := by decide +kernel
theorem dX11_findCrumbs_11 : decode cX11_findCrumbs 11 = .ok (.bipush 7, 2) := by decide +kernel
theorem dX11_findCrumbs_13 : decode cX11_findCrumbs 13 = .ok (.if_icmp .ge 25, 3) := by decide +kernel
theorem dX11_findCrumbs_16 : decode cX11_findCrumbs 16 = .ok (.aload_n 0, 1) := by decide +kernel
theorem dX11_findCrumbs_17 : decode cX11_findCrumbs 17 = .ok (.getfield 51, 3) := by decide +kernel
theorem dX11_findCrumbs_20 : decode cX11_findCrumbs 20 = .ok (.iload 4, 2) := by decide +kernel
theorem dX11_findCrumbs_22 : decode cX11_findCrumbs 22 = .ok (.iconst (-1), 1) := by decide +kernel
theorem dX11_findCrumbs_23 : decode cX11_findCrumbs 23 = .ok (.iastore, 1) := by decide +kernel
theorem dX11_findCrumbs_24 : decode cX11_findCrumbs 24 = .ok (.aload_n 0, 1) := by decide +kernel
theorem dX11_findCrumbs_25 : decode cX11_findCrumbs 25 = .ok (.getfield 54, 3) := by decide +kernel
theorem dX11_findCrumbs_28 : decode cX11_findCrumbs 28 = .ok (.iload 4, 2) := by decide +kernel
theorem dX11_findCrumbs_30 : decode cX11_findCrumbs 30 = .ok (.iconst (-1), 1) := by decide +kernel
theorem dX11_findCrumbs_31 : decode cX11_findCrumbs 31 = .ok (.iastore, 1) := by decide +kernel
theorem dX11_findCrumbs_32 : decode cX11_findCrumbs 32 = .ok (.iinc 4 1, 3) := by decide +kernel
theorem dX11_findCrumbs_35 : decode cX11_findCrumbs 35 = .ok (.goto (-26), 3) := by decide +kernel
theorem dX11_findCrumbs_38 : decode cX11_findCrumbs 38 = .ok (.iload_n 2, 1) := by decide +kernel
theorem dX11_findCrumbs_39 : decode cX11_findCrumbs 39 = .ok (.ifCond .lt 291, 3) := by decide +kernel
theorem dX11_findCrumbs_42 : decode cX11_findCrumbs 42 = .ok (.iload_n 2, 1) := by decide +kernel
theorem dX11_findCrumbs_43 : decode cX11_findCrumbs 43 = .ok (.aload_n 0, 1) := by decide +kernel
theorem dX11_findCrumbs_44 : decode cX11_findCrumbs 44 = .ok (.getfield 83, 3) := by decide +kernel
theorem dX11_findCrumbs_47 : decode cX11_findCrumbs 47 = .ok (.if_icmp .ne 69, 3) := by decide +kernel
theorem dX11_findCrumbs_50 : decode cX11_findCrumbs 50 = .ok (.iconst 0, 1) := by decide +kernel
theorem dX11_findCrumbs_51 : decode cX11_findCrumbs 51 = .ok (.istore 4, 2) := by decide +kernel
theorem dX11_findCrumbs_53 : decode cX11_findCrumbs 53 = .ok (.iload 4, 2) := by decide +kernel
theorem dX11_findCrumbs_55 : decode cX11_findCrumbs 55 = .ok (.aload_n 0, 1) := by decide +kernel
theorem dX11_findCrumbs_56 : decode cX11_findCrumbs 56 = .ok (.getfield 83, 3) := by decide +kernel
theorem dX11_findCrumbs_59 : decode cX11_findCrumbs 59 = .ok (.if_icmp .ge 48, 3) := by decide +kernel
theorem dX11_findCrumbs_62 : decode cX11_findCrumbs 62 = .ok (.aload_n 0, 1) := by decide +kernel
theorem dX11_findCrumbs_63 : decode cX11_findCrumbs 63 = .ok (.getfield 54, 3) := by decide +kernel
theorem dX11_findCrumbs_66 : decode cX11_findCrumbs 66 = .ok (.iload 4, 2) := by decide +kernel
theorem dX11_findCrumbs_68 : decode cX11_findCrumbs 68 = .ok (.iload_n 1, 1) := by decide +kernel
theorem dX11_findCrumbs_69 : decode cX11_findCrumbs 69 = .ok (.ifCond .eq 20, 3) := by decide +kernel
theorem dX11_findCrumbs_72 : decode cX11_findCrumbs 72 = .ok (.aload_n 0, 1) := by decide +kernel
theorem dX11_findCrumbs_73 : decode cX11_findCrumbs 73 = .ok (.getfield 54, 3) := by decide +kernel
theorem dX11_findCrumbs_76 : decode cX11_findCrumbs 76 = .ok (.iload 4, 2) := by decide +kernel
theorem dX11_findCrumbs_78 : decode cX11_findCrumbs 78 = .ok (.iaload, 1) := by decide +kernel
theorem dX11_findCrumbs_79 : decode cX11_findCrumbs 79 = .ok (.aload_n 0, 1) := by decide +kernel
theorem dX11_findCrumbs_80 : decode cX11_findCrumbs 80 = .ok (.getfield 51, 3) := by decide +kernel
theorem dX11_findCrumbs_83 : decode cX11_findCrumbs 83 = .ok (.iload 4, 2) := by decide +kernel
theorem dX11_findCrumbs_85 : decode cX11_findCrumbs 85 = .ok (.iaload, 1) := by decide +kernel
theorem dX11_findCrumbs_86 : decode cX11_findCrumbs 86 = .ok (.if_icmp .ne 13, 3) := by decide +kernel
theorem dX11_findCrumbs_89 : decode cX11_findCrumbs 89 = .ok (.aload_n 0, 1) := by decide +kernel
theorem dX11_findCrumbs_90 : decode cX11_findCrumbs 90 = .ok (.getfield 51, 3) := by decide +kernel
theorem dX11_findCrumbs_93 : decode cX11_findCrumbs 93 = .ok (.iload 4, 2) := by decide +kernel
theorem dX11_findCrumbs_95 : decode cX11_findCrumbs 95 = .ok (.iaload, 1) := by decide +kernel
theorem dX11_findCrumbs_96 : decode cX11_findCrumbs 96 = .ok (.goto 4, 3) := by decide +kernel
theorem dX11_findCrumbs_99 : decode cX11_findCrumbs 99 = .ok (.iconst (-1), 1) := by decide +kernel
theorem dX11_findCrumbs_100 : decode cX11_findCrumbs 100 = .ok (.iastore, 1) := by decide +kernel
theorem dX11_findCrumbs_101 : decode cX11_findCrumbs 101 = .ok (.iinc 4 1, 3) := by decide +kernel
theorem dX11_findCrumbs_104 : decode cX11_findCrumbs 104 = .ok (.goto (-51), 3) := by decide +kernel
theorem dX11_findCrumbs_107 : decode cX11_findCrumbs 107 = .ok (.iinc 1 1, 3) := by decide +kernel
theorem dX11_findCrumbs_110 : decode cX11_findCrumbs 110 = .ok (.iinc 2 (-1), 3) := by decide +kernel
theorem dX11_findCrumbs_113 : decode cX11_findCrumbs 113 = .ok (.goto (-75), 3) := by decide +kernel
theorem dX11_findCrumbs_116 : decode cX11_findCrumbs 116 = .ok (.aload_n 0, 1) := by decide +kernel
theorem dX11_findCrumbs_117 : decode cX11_findCrumbs 117 = .ok (.iload_n 2, 1) := by decide +kernel
theorem dX11_findCrumbs_118 : decode cX11_findCrumbs 118 = .ok (.invokevirtual 209, 3) := by decide +kernel
theorem dX11_findCrumbs_121 : decode cX11_findCrumbs 121 = .ok (.ifCond .eq 53, 3) := by decide +kernel
theorem dX11_findCrumbs_124 : decode cX11_findCrumbs 124 = .ok (.aload_n 0, 1) := by decide +kernel
theorem dX11_findCrumbs_125 : decode cX11_findCrumbs 125 = .ok (.getfield 51, 3) := by decide +kernel
theorem dX11_findCrumbs_128 : decode cX11_findCrumbs 128 = .ok (.iload_n 2, 1) := by decide +kernel
theorem dX11_findCrumbs_129 : decode cX11_findCrumbs 129 = .ok (.iaload, 1) := by decide +kernel
theorem dX11_findCrumbs_130 : decode cX11_findCrumbs 130 = .ok (.iconst (-1), 1) := by decide +kernel
theorem dX11_findCrumbs_131 : decode cX11_findCrumbs 131 = .ok (.if_icmp .ne 7, 3) := by decide +kernel
theorem dX11_findCrumbs_134 : decode cX11_findCrumbs 134 = .ok (.iconst 1, 1) := by decide +kernel
theorem dX11_findCrumbs_135 : decode cX11_findCrumbs 135 = .ok (.goto 4, 3) := by decide +kernel
theorem dX11_findCrumbs_138 : decode cX11_findCrumbs 138 = .ok (.iconst 0, 1) := by decide +kernel
theorem dX11_findCrumbs_139 : decode cX11_findCrumbs 139 = .ok (.istore 4, 2) := by decide +kernel
theorem dX11_findCrumbs_141 : decode cX11_findCrumbs 141 = .ok (.aload_n 0, 1) := by decide +kernel
theorem dX11_findCrumbs_142 : decode cX11_findCrumbs 142 = .ok (.getfield 51, 3) := by decide +kernel
theorem dX11_findCrumbs_145 : decode cX11_findCrumbs 145 = .ok (.iload_n 2, 1) := by decide +kernel
theorem dX11_findCrumbs_146 : decode cX11_findCrumbs 146 = .ok (.iload 4, 2) := by decide +kernel
theorem dX11_findCrumbs_148 : decode cX11_findCrumbs 148 = .ok (.ifCond .eq 8, 3) := by decide +kernel
theorem dX11_findCrumbs_151 : decode cX11_findCrumbs 151 = .ok (.bipush (-2), 2) := by decide +kernel
theorem dX11_findCrumbs_153 : decode cX11_findCrumbs 153 = .ok (.goto 4, 3) := by decide +kernel
theorem dX11_findCrumbs_156 : decode cX11_findCrumbs 156 = .ok (.iconst (-1), 1) := by decide +kernel
theorem dX11_findCrumbs_157 : decode cX11_findCrumbs 157 = .ok (.iastore, 1) := by decide +kernel
theorem dX11_findCrumbs_158 : decode cX11_findCrumbs 158 = .ok (.iload_n 2, 1) := by decide +kernel
theorem dX11_findCrumbs_159 : decode cX11_findCrumbs 159 = .ok (.iload 4, 2) := by decide +kernel
theorem dX11_findCrumbs_161 : decode cX11_findCrumbs 161 = .ok (.ifCond .eq 7, 3) := by decide +kernel
theorem dX11_findCrumbs_164 : decode cX11_findCrumbs 164 = .ok (.iconst 1, 1) := by decide +kernel
theorem dX11_findCrumbs_165 : decode cX11_findCrumbs 165 = .ok (.goto 4, 3) := by decide +kernel
theorem dX11_findCrumbs_168 : decode cX11_findCrumbs 168 = .ok (.iconst (-1), 1) := by decide +kernel
theorem dX11_findCrumbs_169 : decode cX11_findCrumbs 169 = .ok (.iadd, 1) := by decide +kernel
theorem dX11_findCrumbs_170 : decode cX11_findCrumbs 170 = .ok (.istore_n 2, 1) := by decide +kernel
theorem dX11_findCrumbs_171 : decode cX11_findCrumbs 171 = .ok (.goto (-133), 3) := by decide +kernel
theorem dX11_findCrumbs_174 : decode cX11_findCrumbs 174 = .ok (.iload_n 3, 1) := by decide +kernel
theorem dX11_findCrumbs_175 : decode cX11_findCrumbs 175 = .ok (.aload_n 0, 1) := by decide +kernel
theorem dX11_findCrumbs_176 : decode cX11_findCrumbs 176 = .ok (.getfield 51, 3) := by decide +kernel
theorem dX11_findCrumbs_179 : decode cX11_findCrumbs 179 = .ok (.iload_n 2, 1) := by decide +kernel
theorem dX11_findCrumbs_180 : decode cX11_findCrumbs 180 = .ok (.iaload, 1) := by decide +kernel
theorem dX11_findCrumbs_181 : decode cX11_findCrumbs 181 = .ok (.iconst (-1), 1) := by decide +kernel
theorem dX11_findCrumbs_182 : decode cX11_findCrumbs 182 = .ok (.if_icmp .ne 7, 3) := by decide +kernel
theorem dX11_findCrumbs_185 : decode cX11_findCrumbs 185 = .ok (.iconst (-1), 1) := by decide +kernel
theorem dX11_findCrumbs_186 : decode cX11_findCrumbs 186 = .ok (.goto 13, 3) := by decide +kernel
theorem dX11_findCrumbs_189 : decode cX11_findCrumbs 189 = .ok (.iconst 1, 1) := by decide +kernel
theorem dX11_findCrumbs_190 : decode cX11_findCrumbs 190 = .ok (.aload_n 0, 1) := by decide +kernel
theorem dX11_findCrumbs_191 : decode cX11_findCrumbs 191 = .ok (.getfield 51, 3) := by decide +kernel
theorem dX11_findCrumbs_194 : decode cX11_findCrumbs 194 = .ok (.iload_n 2, 1) := by decide +kernel
theorem dX11_findCrumbs_195 : decode cX11_findCrumbs 195 = .ok (.iaload, 1) := by decide +kernel
theorem dX11_findCrumbs_196 : decode cX11_findCrumbs 196 = .ok (.ishl, 1) := by decide +kernel
theorem dX11_findCrumbs_197 : decode cX11_findCrumbs 197 = .ok (.iconst (-1), 1) := by decide +kernel
theorem dX11_findCrumbs_198 : decode cX11_findCrumbs 198 = .ok (.ixor, 1) := by decide +kernel
theorem dX11_findCrumbs_199 : decode cX11_findCrumbs 199 = .ok (.iand, 1) := by decide +kernel
theorem dX11_findCrumbs_200 : decode cX11_findCrumbs 200 = .ok (.istore_n 3, 1) := by decide +kernel
theorem dX11_findCrumbs_201 : decode cX11_findCrumbs 201 = .ok (.aload_n 0, 1) := by decide +kernel
theorem dX11_findCrumbs_202 : decode cX11_findCrumbs 202 = .ok (.getfield 51, 3) := by decide +kernel
theorem dX11_findCrumbs_205 : decode cX11_findCrumbs 205 = .ok (.iload_n 2, 1) := by decide +kernel
theorem dX11_findCrumbs_206 : decode cX11_findCrumbs 206 = .ok (.iaload, 1) := by decide +kernel
theorem dX11_findCrumbs_207 : decode cX11_findCrumbs 207 = .ok (.iconst 1, 1) := by decide +kernel
theorem dX11_findCrumbs_208 : decode cX11_findCrumbs 208 = .ok (.iadd, 1) := by decide +kernel
theorem dX11_findCrumbs_209 : decode cX11_findCrumbs 209 = .ok (.istore 4, 2) := by decide +kernel
theorem dX11_findCrumbs_211 : decode cX11_findCrumbs 211 = .ok (.iload 4, 2) := by decide +kernel
theorem dX11_findCrumbs_213 : decode cX11_findCrumbs 213 = .ok (.aload_n 0, 1) := by decide +kernel
theorem dX11_findCrumbs_214 : decode cX11_findCrumbs 214 = .ok (.getfield 73, 3) := by decide +kernel
theorem dX11_findCrumbs_217 : decode cX11_findCrumbs 217 = .ok (.if_icmp .ge 48, 3) := by decide +kernel
theorem dX11_findCrumbs_220 : decode cX11_findCrumbs 220 = .ok (.iload_n 3, 1) := by decide +kernel
theorem dX11_findCrumbs_221 : decode cX11_findCrumbs 221 = .ok (.iload 4, 2) := by decide +kernel
theorem dX11_findCrumbs_223 : decode cX11_findCrumbs 223 = .ok (.invokestatic 215, 3) := by decide +kernel
theorem dX11_findCrumbs_226 : decode cX11_findCrumbs 226 = .ok (.ifCond .ne 33, 3) := by decide +kernel
theorem dX11_findCrumbs_229 : decode cX11_findCrumbs 229 = .ok (.iload 4, 2) := by decide +kernel
theorem dX11_findCrumbs_231 : decode cX11_findCrumbs 231 = .ok (.aload_n 0, 1) := by decide +kernel
theorem dX11_findCrumbs_232 : decode cX11_findCrumbs 232 = .ok (.getfield 17, 3) := by decide +kernel
theorem dX11_findCrumbs_235 : decode cX11_findCrumbs 235 = .ok (.iload_n 2, 1) := by decide +kernel
theorem dX11_findCrumbs_236 : decode cX11_findCrumbs 236 = .ok (.iaload, 1) := by decide +kernel
theorem dX11_findCrumbs_237 : decode cX11_findCrumbs 237 = .ok (.if_icmp .eq 22, 3) := by decide +kernel
theorem dX11_findCrumbs_240 : decode cX11_findCrumbs 240 = .ok (.aload_n 0, 1) := by decide +kernel
theorem dX11_findCrumbs_241 : decode cX11_findCrumbs 241 = .ok (.iconst 0, 1) := by decide +kernel
theorem dX11_findCrumbs_242 : decode cX11_findCrumbs 242 = .ok (.iload 4, 2) := by decide +kernel
theorem dX11_findCrumbs_244 : decode cX11_findCrumbs 244 = .ok (.aload_n 0, 1) := by decide +kernel
theorem dX11_findCrumbs_245 : decode cX11_findCrumbs 245 = .ok (.getfield 7, 3) := by decide +kernel
theorem dX11_findCrumbs_248 : decode cX11_findCrumbs 248 = .ok (.bipush 37, 2) := by decide +kernel
theorem dX11_findCrumbs_250 : decode cX11_findCrumbs 250 = .ok (.iload_n 2, 1) := by decide +kernel
theorem dX11_findCrumbs_251 : decode cX11_findCrumbs 251 = .ok (.iadd, 1) := by decide +kernel
theorem dX11_findCrumbs_252 : decode cX11_findCrumbs 252 = .ok (.iaload, 1) := by decide +kernel
theorem dX11_findCrumbs_253 : decode cX11_findCrumbs 253 = .ok (.invokevirtual 182, 3) := by decide +kernel
theorem dX11_findCrumbs_256 : decode cX11_findCrumbs 256 = .ok (.ifCond .ne 9, 3) := by decide +kernel
theorem dX11_findCrumbs_259 : decode cX11_findCrumbs 259 = .ok (.iinc 4 1, 3) := by decide +kernel
theorem dX11_findCrumbs_262 : decode cX11_findCrumbs 262 = .ok (.goto (-51), 3) := by decide +kernel
theorem dX11_findCrumbs_265 : decode cX11_findCrumbs 265 = .ok (.iload 4, 2) := by decide +kernel
theorem dX11_findCrumbs_267 : decode cX11_findCrumbs 267 = .ok (.aload_n 0, 1) := by decide +kernel
theorem dX11_findCrumbs_268 : decode cX11_findCrumbs 268 = .ok (.getfield 73, 3) := by decide +kernel
theorem dX11_findCrumbs_271 : decode cX11_findCrumbs 271 = .ok (.if_icmp .ge 7, 3) := by decide +kernel
theorem dX11_findCrumbs_274 : decode cX11_findCrumbs 274 = .ok (.iconst 1, 1) := by decide +kernel
theorem dX11_findCrumbs_275 : decode cX11_findCrumbs 275 = .ok (.goto 4, 3) := by decide +kernel
theorem dX11_findCrumbs_278 : decode cX11_findCrumbs 278 = .ok (.iconst 0, 1) := by decide +kernel
theorem dX11_findCrumbs_279 : decode cX11_findCrumbs 279 = .ok (.istore 5, 2) := by decide +kernel
theorem dX11_findCrumbs_281 : decode cX11_findCrumbs 281 = .ok (.aload_n 0, 1) := by decide +kernel
theorem dX11_findCrumbs_282 : decode cX11_findCrumbs 282 = .ok (.getfield 51, 3) := by decide +kernel
theorem dX11_findCrumbs_285 : decode cX11_findCrumbs 285 = .ok (.iload_n 2, 1) := by decide +kernel
theorem dX11_findCrumbs_286 : decode cX11_findCrumbs 286 = .ok (.iload 5, 2) := by decide +kernel
theorem dX11_findCrumbs_288 : decode cX11_findCrumbs 288 = .ok (.ifCond .eq 8, 3) := by decide +kernel
theorem dX11_findCrumbs_291 : decode cX11_findCrumbs 291 = .ok (.iload 4, 2) := by decide +kernel
theorem dX11_findCrumbs_293 : decode cX11_findCrumbs 293 = .ok (.goto 4, 3) := by decide +kernel
theorem dX11_findCrumbs_296 : decode cX11_findCrumbs 296 = .ok (.iconst (-1), 1) := by decide +kernel
theorem dX11_findCrumbs_297 : decode cX11_findCrumbs 297 = .ok (.iastore, 1) := by decide +kernel
theorem dX11_findCrumbs_298 : decode cX11_findCrumbs 298 = .ok (.iload_n 3, 1) := by decide +kernel
theorem dX11_findCrumbs_299 : decode cX11_findCrumbs 299 = .ok (.iload 5, 2) := by decide +kernel
theorem dX11_findCrumbs_301 : decode cX11_findCrumbs 301 = .ok (.ifCond .eq 10, 3) := by decide +kernel
theorem dX11_findCrumbs_304 : decode cX11_findCrumbs 304 = .ok (.iconst 1, 1) := by decide +kernel
theorem dX11_findCrumbs_305 : decode cX11_findCrumbs 305 = .ok (.iload 4, 2) := by decide +kernel
theorem dX11_findCrumbs_307 : decode cX11_findCrumbs 307 = .ok (.ishl, 1) := by decide +kernel
theorem dX11_findCrumbs_308 : decode cX11_findCrumbs 308 = .ok (.goto 4, 3) := by decide +kernel
theorem dX11_findCrumbs_311 : decode cX11_findCrumbs 311 = .ok (.iconst 0, 1) := by decide +kernel
theorem dX11_findCrumbs_312 : decode cX11_findCrumbs 312 = .ok (.ior, 1) := by decide +kernel
theorem dX11_findCrumbs_313 : decode cX11_findCrumbs 313 = .ok (.istore_n 3, 1) := by decide +kernel
theorem dX11_findCrumbs_314 : decode cX11_findCrumbs 314 = .ok (.iload_n 2, 1) := by decide +kernel
theorem dX11_findCrumbs_315 : decode cX11_findCrumbs 315 = .ok (.iload 5, 2) := by decide +kernel
theorem dX11_findCrumbs_317 : decode cX11_findCrumbs 317 = .ok (.ifCond .eq 7, 3) := by decide +kernel
theorem dX11_findCrumbs_320 : decode cX11_findCrumbs 320 = .ok (.iconst 1, 1) := by decide +kernel
theorem dX11_findCrumbs_321 : decode cX11_findCrumbs 321 = .ok (.goto 4, 3) := by decide +kernel
theorem dX11_findCrumbs_324 : decode cX11_findCrumbs 324 = .ok (.iconst (-1), 1) := by decide +kernel
theorem dX11_findCrumbs_325 : decode cX11_findCrumbs 325 = .ok (.iadd, 1) := by decide +kernel
theorem dX11_findCrumbs_326 : decode cX11_findCrumbs 326 = .ok (.istore_n 2, 1) := by decide +kernel
theorem dX11_findCrumbs_327 : decode cX11_findCrumbs 327 = .ok (.goto (-289), 3) := by decide +kernel
theorem dX11_findCrumbs_330 : decode cX11_findCrumbs 330 = .ok (.iload_n 1, 1) := by decide +kernel
theorem dX11_findCrumbs_331 : decode cX11_findCrumbs 331 = .ok (.ireturn, 1) := by decide +kernel
theorem dX11_crumbs_0 : decode cX11_crumbs 0 = .ok (.iload_n 1, 1) := by decide +kernel
theorem dX11_crumbs_1 : decode cX11_crumbs 1 = .ok (.iconst (-1), 1) := by decide +kernel
theorem dX11_crumbs_2 : decode cX11_crumbs 2 = .ok (.if_icmp .eq 14, 3) := by decide +kernel
theorem dX11_crumbs_5 : decode cX11_crumbs 5 = .ok (.aload_n 0, 1) := by decide +kernel
theorem dX11_crumbs_6 : decode cX11_crumbs 6 = .ok (.iload_n 1, 1) := by decide +kernel
theorem dX11_crumbs_7 : decode cX11_crumbs 7 = .ok (.invokevirtual 200, 3) := by decide +kernel
theorem dX11_crumbs_10 : decode cX11_crumbs 10 = .ok (.ifCond .ne 6, 3) := by decide +kernel
theorem dX11_crumbs_13 : decode cX11_crumbs 13 = .ok (.ldc 192, 2) := by decide +kernel
theorem dX11_crumbs_15 : decode cX11_crumbs 15 = .ok (.ireturn, 1) := by decide +kernel
theorem dX11_crumbs_16 : decode cX11_crumbs 16 = .ok (.aload_n 0, 1) := by decide +kernel
theorem dX11_crumbs_17 : decode cX11_crumbs 17 = .ok (.invokevirtual 273, 3) := by decide +kernel
theorem dX11_crumbs_20 : decode cX11_crumbs 20 = .ok (.istore_n 2, 1) := by decide +kernel
theorem dX11_crumbs_21 : decode cX11_crumbs 21 = .ok (.iload_n 1, 1) := by decide +kernel
theorem dX11_crumbs_22 : decode cX11_crumbs 22 = .ok (.iconst (-1), 1) := by decide +kernel
theorem dX11_crumbs_23 : decode cX11_crumbs 23 = .ok (.if_icmp .ne 7, 3) := by decide +kernel
theorem dX11_crumbs_26 : decode cX11_crumbs 26 = .ok (.iload_n 2, 1) := by decide +kernel
theorem dX11_crumbs_27 : decode cX11_crumbs 27 = .ok (.goto 25, 3) := by decide +kernel
theorem dX11_crumbs_30 : decode cX11_crumbs 30 = .ok (.iload_n 2, 1) := by decide +kernel
theorem dX11_crumbs_31 : decode cX11_crumbs 31 = .ok (.ifCond .eq 11, 3) := by decide +kernel
theorem dX11_crumbs_34 : decode cX11_crumbs 34 = .ok (.aload_n 0, 1) := by decide +kernel
theorem dX11_crumbs_35 : decode cX11_crumbs 35 = .ok (.iload_n 1, 1) := by decide +kernel
theorem dX11_crumbs_36 : decode cX11_crumbs 36 = .ok (.invokevirtual 209, 3) := by decide +kernel
theorem dX11_crumbs_39 : decode cX11_crumbs 39 = .ok (.ifCond .eq 7, 3) := by decide +kernel
theorem dX11_crumbs_42 : decode cX11_crumbs 42 = .ok (.iconst (-1), 1) := by decide +kernel
theorem dX11_crumbs_43 : decode cX11_crumbs 43 = .ok (.goto 9, 3) := by decide +kernel
theorem dX11_crumbs_46 : decode cX11_crumbs 46 = .ok (.aload_n 0, 1) := by decide +kernel
theorem dX11_crumbs_47 : decode cX11_crumbs 47 = .ok (.getfield 54, 3) := by decide +kernel
theorem dX11_crumbs_50 : decode cX11_crumbs 50 = .ok (.iload_n 1, 1) := by decide +kernel
theorem dX11_crumbs_51 : decode cX11_crumbs 51 = .ok (.iaload, 1) := by decide +kernel
theorem dX11_crumbs_52 : decode cX11_crumbs 52 = .ok (.ireturn, 1) := by decide +kernel
theorem dX11_hire_0 : decode cX11_hire 0 = .ok (.aload_n 0, 1) := by decide +kernel
theorem dX11_hire_1 : decode cX11_hire 1 = .ok (.iload_n 1, 1) := by decide +kernel
theorem dX11_hire_2 : decode cX11_hire 2 = .ok (.invokevirtual 186, 3) := by decide +kernel
theorem dX11_hire_5 : decode cX11_hire 5 = .ok (.ifCond .ne 6, 3) := by decide +kernel
theorem dX11_hire_8 : decode cX11_hire 8 = .ok (.ldc 192, 2) := by decide +kernel
theorem dX11_hire_10 : decode cX11_hire 10 = .ok (.ireturn, 1) := by decide +kernel
theorem dX11_hire_11 : decode cX11_hire 11 = .ok (.iload_n 2, 1) := by decide +kernel
theorem dX11_hire_12 : decode cX11_hire 12 = .ok (.i2l, 1) := by decide +kernel
theorem dX11_hire_13 : decode cX11_hire 13 = .ok (.lconst 0, 1) := by decide +kernel
theorem dX11_hire_14 : decode cX11_hire 14 = .ok (.lconst 1, 1) := by decide +kernel
theorem dX11_hire_15 : decode cX11_hire 15 = .ok (.invokestatic 76, 3) := by decide +kernel
theorem dX11_hire_18 : decode cX11_hire 18 = .ok (.ifCond .ne 6, 3) := by decide +kernel
theorem dX11_hire_21 : decode cX11_hire 21 = .ok (.ldc 88, 2) := by decide +kernel
theorem dX11_hire_23 : decode cX11_hire 23 = .ok (.ireturn, 1) := by decide +kernel
theorem dX11_hire_24 : decode cX11_hire 24 = .ok (.iconst (-1), 1) := by decide +kernel
theorem dX11_hire_25 : decode cX11_hire 25 = .ok (.istore_n 3, 1) := by decide +kernel
theorem dX11_hire_26 : decode cX11_hire 26 = .ok (.iconst 0, 1) := by decide +kernel
theorem dX11_hire_27 : decode cX11_hire 27 = .ok (.istore 4, 2) := by decide +kernel
theorem dX11_hire_29 : decode cX11_hire 29 = .ok (.iconst 0, 1) := by decide +kernel
theorem dX11_hire_30 : decode cX11_hire 30 = .ok (.istore 5, 2) := by decide +kernel
theorem dX11_hire_32 : decode cX11_hire 32 = .ok (.iconst 0, 1) := by decide +kernel
theorem dX11_hire_33 : decode cX11_hire 33 = .ok (.istore 6, 2) := by decide +kernel
theorem dX11_hire_35 : decode cX11_hire 35 = .ok (.iload 6, 2) := by decide +kernel
theorem dX11_hire_37 : decode cX11_hire 37 = .ok (.aload_n 0, 1) := by decide +kernel
theorem dX11_hire_38 : decode cX11_hire 38 = .ok (.getfield 83, 3) := by decide +kernel
theorem dX11_hire_41 : decode cX11_hire 41 = .ok (.if_icmp .ge 100, 3) := by decide +kernel
theorem dX11_hire_44 : decode cX11_hire 44 = .ok (.aload_n 0, 1) := by decide +kernel
theorem dX11_hire_45 : decode cX11_hire 45 = .ok (.iload 6, 2) := by decide +kernel
theorem dX11_hire_47 : decode cX11_hire 47 = .ok (.invokevirtual 209, 3) := by decide +kernel
theorem dX11_hire_50 : decode cX11_hire 50 = .ok (.ifCond .eq 24, 3) := by decide +kernel
theorem dX11_hire_53 : decode cX11_hire 53 = .ok (.aload_n 0, 1) := by decide +kernel
theorem dX11_hire_54 : decode cX11_hire 54 = .ok (.getfield 17, 3) := by decide +kernel
theorem dX11_hire_57 : decode cX11_hire 57 = .ok (.iload 6, 2) := by decide +kernel
theorem dX11_hire_59 : decode cX11_hire 59 = .ok (.iaload, 1) := by decide +kernel
theorem dX11_hire_60 : decode cX11_hire 60 = .ok (.iload_n 1, 1) := by decide +kernel
theorem dX11_hire_61 : decode cX11_hire 61 = .ok (.if_icmp .eq 13, 3) := by decide +kernel
theorem dX11_hire_64 : decode cX11_hire 64 = .ok (.aload_n 0, 1) := by decide +kernel
theorem dX11_hire_65 : decode cX11_hire 65 = .ok (.iload 6, 2) := by decide +kernel
theorem dX11_hire_67 : decode cX11_hire 67 = .ok (.iload_n 1, 1) := by decide +kernel
theorem dX11_hire_68 : decode cX11_hire 68 = .ok (.invokevirtual 206, 3) := by decide +kernel
theorem dX11_hire_71 : decode cX11_hire 71 = .ok (.goto 4, 3) := by decide +kernel
theorem dX11_hire_74 : decode cX11_hire 74 = .ok (.iconst 0, 1) := by decide +kernel
theorem dX11_hire_75 : decode cX11_hire 75 = .ok (.istore 7, 2) := by decide +kernel
theorem dX11_hire_77 : decode cX11_hire 77 = .ok (.iload 7, 2) := by decide +kernel
theorem dX11_hire_79 : decode cX11_hire 79 = .ok (.iload 4, 2) := by decide +kernel
theorem dX11_hire_81 : decode cX11_hire 81 = .ok (.if_icmp .le 8, 3) := by decide +kernel
theorem dX11_hire_84 : decode cX11_hire 84 = .ok (.iload 4, 2) := by decide +kernel
theorem dX11_hire_86 : decode cX11_hire 86 = .ok (.goto 17, 3) := by decide +kernel
theorem dX11_hire_89 : decode cX11_hire 89 = .ok (.iload 7, 2) := by decide +kernel
theorem dX11_hire_91 : decode cX11_hire 91 = .ok (.iload 5, 2) := by decide +kernel
theorem dX11_hire_93 : decode cX11_hire 93 = .ok (.if_icmp .le 8, 3) := by decide +kernel
theorem dX11_hire_96 : decode cX11_hire 96 = .ok (.iload 7, 2) := by decide +kernel
theorem dX11_hire_98 : decode cX11_hire 98 = .ok (.goto 5, 3) := by decide +kernel
theorem dX11_hire_101 : decode cX11_hire 101 = .ok (.iload 5, 2) := by decide +kernel
theorem dX11_hire_103 : decode cX11_hire 103 = .ok (.istore 5, 2) := by decide +kernel
theorem dX11_hire_105 : decode cX11_hire 105 = .ok (.iload 7, 2) := by decide +kernel
theorem dX11_hire_107 : decode cX11_hire 107 = .ok (.iload 4, 2) := by decide +kernel
theorem dX11_hire_109 : decode cX11_hire 109 = .ok (.if_icmp .le 8, 3) := by decide +kernel
theorem dX11_hire_112 : decode cX11_hire 112 = .ok (.iload 6, 2) := by decide +kernel
theorem dX11_hire_114 : decode cX11_hire 114 = .ok (.goto 4, 3) := by decide +kernel
theorem dX11_hire_117 : decode cX11_hire 117 = .ok (.iload_n 3, 1) := by decide +kernel
theorem dX11_hire_118 : decode cX11_hire 118 = .ok (.istore_n 3, 1) := by decide +kernel
theorem dX11_hire_119 : decode cX11_hire 119 = .ok (.iload 7, 2) := by decide +kernel
theorem dX11_hire_121 : decode cX11_hire 121 = .ok (.iload 4, 2) := by decide +kernel
theorem dX11_hire_123 : decode cX11_hire 123 = .ok (.if_icmp .le 8, 3) := by decide +kernel
theorem dX11_hire_126 : decode cX11_hire 126 = .ok (.iload 7, 2) := by decide +kernel
theorem dX11_hire_128 : decode cX11_hire 128 = .ok (.goto 5, 3) := by decide +kernel
theorem dX11_hire_131 : decode cX11_hire 131 = .ok (.iload 4, 2) := by decide +kernel
theorem dX11_hire_133 : decode cX11_hire 133 = .ok (.istore 4, 2) := by decide +kernel
theorem dX11_hire_135 : decode cX11_hire 135 = .ok (.iinc 6 1, 3) := by decide +kernel
theorem dX11_hire_138 : decode cX11_hire 138 = .ok (.goto (-103), 3) := by decide +kernel
theorem dX11_hire_141 : decode cX11_hire 141 = .ok (.iload_n 3, 1) := by decide +kernel
theorem dX11_hire_142 : decode cX11_hire 142 = .ok (.iconst (-1), 1) := by decide +kernel
theorem dX11_hire_143 : decode cX11_hire 143 = .ok (.if_icmp .eq 7, 3) := by decide +kernel
theorem dX11_hire_146 : decode cX11_hire 146 = .ok (.iload_n 2, 1) := by decide +kernel
theorem dX11_hire_147 : decode cX11_hire 147 = .ok (.ifCond .ne 7, 3) := by decide +kernel
theorem dX11_hire_150 : decode cX11_hire 150 = .ok (.iload_n 3, 1) := by decide +kernel
theorem dX11_hire_151 : decode cX11_hire 151 = .ok (.goto 5, 3) := by decide +kernel
theorem dX11_hire_154 : decode cX11_hire 154 = .ok (.iload 5, 2) := by decide +kernel
theorem dX11_hire_156 : decode cX11_hire 156 = .ok (.ireturn, 1) := by decide +kernel
theorem dX11_bread_0 : decode cX11_bread 0 = .ok (.iload_n 1, 1) := by decide +kernel
theorem dX11_bread_1 : decode cX11_bread 1 = .ok (.i2l, 1) := by decide +kernel
theorem dX11_bread_2 : decode cX11_bread 2 = .ok (.lconst 1, 1) := by decide +kernel
theorem dX11_bread_3 : decode cX11_bread 3 = .ok (.ldc2_w 276, 3) := by decide +kernel
theorem dX11_bread_6 : decode cX11_bread 6 = .ok (.invokestatic 76, 3) := by decide +kernel
theorem dX11_bread_9 : decode cX11_bread 9 = .ok (.ifCond .ne 6, 3) := by decide +kernel
theorem dX11_bread_12 : decode cX11_bread 12 = .ok (.ldc 88, 2) := by decide +kernel
theorem dX11_bread_14 : decode cX11_bread 14 = .ok (.ireturn, 1) := by decide +kernel
theorem dX11_bread_15 : decode cX11_bread 15 = .ok (.iconst 0, 1) := by decide +kernel
theorem dX11_bread_16 : decode cX11_bread 16 = .ok (.istore_n 2, 1) := by decide +kernel
theorem dX11_bread_17 : decode cX11_bread 17 = .ok (.iload_n 2, 1) := by decide +kernel
theorem dX11_bread_18 : decode cX11_bread 18 = .ok (.bipush 8, 2) := by decide +kernel
theorem dX11_bread_20 : decode cX11_bread 20 = .ok (.if_icmp .ge 26, 3) := by decide +kernel
theorem dX11_bread_23 : decode cX11_bread 23 = .ok (.aload_n 0, 1) := by decide +kernel
theorem dX11_bread_24 : decode cX11_bread 24 = .ok (.getfield 57, 3) := by decide +kernel
theorem dX11_bread_27 : decode cX11_bread 27 = .ok (.iload_n 2, 1) := by decide +kernel
theorem dX11_bread_28 : decode cX11_bread 28 = .ok (.iload_n 2, 1) := by decide +kernel
theorem dX11_bread_29 : decode cX11_bread 29 = .ok (.ifCond .ne 9, 3) := by decide +kernel
theorem dX11_bread_32 : decode cX11_bread 32 = .ok (.ldc2_w 203, 3) := by decide +kernel
theorem dX11_bread_35 : decode cX11_bread 35 = .ok (.goto 4, 3) := by decide +kernel
theorem dX11_bread_38 : decode cX11_bread 38 = .ok (.lconst 0, 1) := by decide +kernel
theorem dX11_bread_39 : decode cX11_bread 39 = .ok (.lastore, 1) := by decide +kernel
theorem dX11_bread_40 : decode cX11_bread 40 = .ok (.iinc 2 1, 3) := by decide +kernel
theorem dX11_bread_43 : decode cX11_bread 43 = .ok (.goto (-26), 3) := by decide +kernel
theorem dX11_bread_46 : decode cX11_bread 46 = .ok (.iconst 0, 1) := by decide +kernel
theorem dX11_bread_47 : decode cX11_bread 47 = .ok (.istore_n 2, 1) := by decide +kernel
theorem dX11_bread_48 : decode cX11_bread 48 = .ok (.iload_n 2, 1) := by decide +kernel
theorem dX11_bread_49 : decode cX11_bread 49 = .ok (.aload_n 0, 1) := by decide +kernel
theorem dX11_bread_50 : decode cX11_bread 50 = .ok (.getfield 83, 3) := by decide +kernel
theorem dX11_bread_53 : decode cX11_bread 53 = .ok (.if_icmp .ge 104, 3) := by decide +kernel
theorem dX11_bread_56 : decode cX11_bread 56 = .ok (.aload_n 0, 1) := by decide +kernel
theorem dX11_bread_57 : decode cX11_bread 57 = .ok (.getfield 7, 3) := by decide +kernel
theorem dX11_bread_60 : decode cX11_bread 60 = .ok (.bipush 30, 2) := by decide +kernel
theorem dX11_bread_62 : decode cX11_bread 62 = .ok (.iload_n 2, 1) := by decide +kernel
theorem dX11_bread_63 : decode cX11_bread 63 = .ok (.iadd, 1) := by decide +kernel
theorem dX11_bread_64 : decode cX11_bread 64 = .ok (.iaload, 1) := by decide +kernel
theorem dX11_bread_65 : decode cX11_bread 65 = .ok (.istore_n 3, 1) := by decide +kernel
theorem dX11_bread_66 : decode cX11_bread 66 = .ok (.iload_n 3, 1) := by decide +kernel
theorem dX11_bread_67 : decode cX11_bread 67 = .ok (.iconst (-1), 1) := by decide +kernel
theorem dX11_bread_68 : decode cX11_bread 68 = .ok (.if_icmp .eq 83, 3) := by decide +kernel
theorem dX11_bread_71 : decode cX11_bread 71 = .ok (.aload_n 0, 1) := by decide +kernel
theorem dX11_bread_72 : decode cX11_bread 72 = .ok (.iload_n 3, 1) := by decide +kernel
theorem dX11_bread_73 : decode cX11_bread 73 = .ok (.invokevirtual 218, 3) := by decide +kernel
theorem dX11_bread_76 : decode cX11_bread 76 = .ok (.ifCond .ne 75, 3) := by decide +kernel
theorem dX11_bread_79 : decode cX11_bread 79 = .ok (.bipush 6, 2) := by decide +kernel
theorem dX11_bread_81 : decode cX11_bread 81 = .ok (.istore 4, 2) := by decide +kernel
theorem dX11_bread_83 : decode cX11_bread 83 = .ok (.iload 4, 2) := by decide +kernel
theorem dX11_bread_85 : decode cX11_bread 85 = .ok (.ifCond .lt 66, 3) := by decide +kernel
theorem dX11_bread_88 : decode cX11_bread 88 = .ok (.aload_n 0, 1) := by decide +kernel
theorem dX11_bread_89 : decode cX11_bread 89 = .ok (.getfield 57, 3) := by decide +kernel
theorem dX11_bread_92 : decode cX11_bread 92 = .ok (.iload 4, 2) := by decide +kernel
theorem dX11_bread_94 : decode cX11_bread 94 = .ok (.laload, 1) := by decide +kernel
theorem dX11_bread_95 : decode cX11_bread 95 = .ok (.aload_n 0, 1) := by decide +kernel
theorem dX11_bread_96 : decode cX11_bread 96 = .ok (.iconst 0, 1) := by decide +kernel
theorem dX11_bread_97 : decode cX11_bread 97 = .ok (.iload_n 3, 1) := by decide +kernel
theorem dX11_bread_98 : decode cX11_bread 98 = .ok (.aload_n 0, 1) := by decide +kernel
theorem dX11_bread_99 : decode cX11_bread 99 = .ok (.getfield 20, 3) := by decide +kernel
theorem dX11_bread_102 : decode cX11_bread 102 = .ok (.iload_n 2, 1) := by decide +kernel
theorem dX11_bread_103 : decode cX11_bread 103 = .ok (.iaload, 1) := by decide +kernel
theorem dX11_bread_104 : decode cX11_bread 104 = .ok (.invokevirtual 182, 3) := by decide +kernel
theorem dX11_bread_107 : decode cX11_bread 107 = .ok (.i2l, 1) := by decide +kernel
theorem dX11_bread_108 : decode cX11_bread 108 = .ok (.lmul, 1) := by decide +kernel
theorem dX11_bread_109 : decode cX11_bread 109 = .ok (.aload_n 0, 1) := by decide +kernel
theorem dX11_bread_110 : decode cX11_bread 110 = .ok (.iconst 0, 1) := by decide +kernel
theorem dX11_bread_111 : decode cX11_bread 111 = .ok (.iload_n 3, 1) := by decide +kernel
theorem dX11_bread_112 : decode cX11_bread 112 = .ok (.invokevirtual 193, 3) := by decide +kernel
theorem dX11_bread_115 : decode cX11_bread 115 = .ok (.i2l, 1) := by decide +kernel
theorem dX11_bread_116 : decode cX11_bread 116 = .ok (.ldiv, 1) := by decide +kernel
theorem dX11_bread_117 : decode cX11_bread 117 = .ok (.lstore 5, 2) := by decide +kernel
theorem dX11_bread_119 : decode cX11_bread 119 = .ok (.aload_n 0, 1) := by decide +kernel
theorem dX11_bread_120 : decode cX11_bread 120 = .ok (.getfield 57, 3) := by decide +kernel
theorem dX11_bread_123 : decode cX11_bread 123 = .ok (.iload 4, 2) := by decide +kernel
theorem dX11_bread_125 : decode cX11_bread 125 = .ok (.dup2, 1) := by decide +kernel
theorem dX11_bread_126 : decode cX11_bread 126 = .ok (.laload, 1) := by decide +kernel
theorem dX11_bread_127 : decode cX11_bread 127 = .ok (.lload 5, 2) := by decide +kernel
theorem dX11_bread_129 : decode cX11_bread 129 = .ok (.lsub, 1) := by decide +kernel
theorem dX11_bread_130 : decode cX11_bread 130 = .ok (.lastore, 1) := by decide +kernel
theorem dX11_bread_131 : decode cX11_bread 131 = .ok (.aload_n 0, 1) := by decide +kernel
theorem dX11_bread_132 : decode cX11_bread 132 = .ok (.getfield 57, 3) := by decide +kernel
theorem dX11_bread_135 : decode cX11_bread 135 = .ok (.iload 4, 2) := by decide +kernel
theorem dX11_bread_137 : decode cX11_bread 137 = .ok (.iconst 1, 1) := by decide +kernel
theorem dX11_bread_138 : decode cX11_bread 138 = .ok (.iadd, 1) := by decide +kernel
theorem dX11_bread_139 : decode cX11_bread 139 = .ok (.dup2, 1) := by decide +kernel
theorem dX11_bread_140 : decode cX11_bread 140 = .ok (.laload, 1) := by decide +kernel
theorem dX11_bread_141 : decode cX11_bread 141 = .ok (.lload 5, 2) := by decide +kernel
theorem dX11_bread_143 : decode cX11_bread 143 = .ok (.ladd, 1) := by decide +kernel
theorem dX11_bread_144 : decode cX11_bread 144 = .ok (.lastore, 1) := by decide +kernel
theorem dX11_bread_145 : decode cX11_bread 145 = .ok (.iinc 4 (-1), 3) := by decide +kernel
theorem dX11_bread_148 : decode cX11_bread 148 = .ok (.goto (-65), 3) := by decide +kernel
theorem dX11_bread_151 : decode cX11_bread 151 = .ok (.iinc 2 1, 3) := by decide +kernel
theorem dX11_bread_154 : decode cX11_bread 154 = .ok (.goto (-106), 3) := by decide +kernel
theorem dX11_bread_157 : decode cX11_bread 157 = .ok (.lconst 0, 1) := by decide +kernel
theorem dX11_bread_158 : decode cX11_bread 158 = .ok (.lstore_n 2, 1) := by decide +kernel
theorem dX11_bread_159 : decode cX11_bread 159 = .ok (.iload_n 1, 1) := by decide +kernel
theorem dX11_bread_160 : decode cX11_bread 160 = .ok (.istore 4, 2) := by decide +kernel
theorem dX11_bread_162 : decode cX11_bread 162 = .ok (.iload 4, 2) := by decide +kernel
theorem dX11_bread_164 : decode cX11_bread 164 = .ok (.bipush 8, 2) := by decide +kernel
theorem dX11_bread_166 : decode cX11_bread 166 = .ok (.if_icmp .ge 19, 3) := by decide +kernel
theorem dX11_bread_169 : decode cX11_bread 169 = .ok (.lload_n 2, 1) := by decide +kernel
theorem dX11_bread_170 : decode cX11_bread 170 = .ok (.aload_n 0, 1) := by decide +kernel
theorem dX11_bread_171 : decode cX11_bread 171 = .ok (.getfield 57, 3) := by decide +kernel
theorem dX11_bread_174 : decode cX11_bread 174 = .ok (.iload 4, 2) := by decide +kernel
theorem dX11_bread_176 : decode cX11_bread 176 = .ok (.laload, 1) := by decide +kernel
theorem dX11_bread_177 : decode cX11_bread 177 = .ok (.ladd, 1) := by decide +kernel
theorem dX11_bread_178 : decode cX11_bread 178 = .ok (.lstore_n 2, 1) := by decide +kernel
theorem dX11_bread_179 : decode cX11_bread 179 = .ok (.iinc 4 1, 3) := by decide +kernel
theorem dX11_bread_182 : decode cX11_bread 182 = .ok (.goto (-20), 3) := by decide +kernel
theorem dX11_bread_185 : decode cX11_bread 185 = .ok (.lload_n 2, 1) := by decide +kernel
theorem dX11_bread_186 : decode cX11_bread 186 = .ok (.l2i, 1) := by decide +kernel
theorem dX11_bread_187 : decode cX11_bread 187 = .ok (.ireturn, 1) := by decide +kernel
theorem dX11_write_0 : decode cX11_write 0 = .ok (.aload_n 0, 1) := by decide +kernel
theorem dX11_write_1 : decode cX11_write 1 = .ok (.iload_n 1, 1) := by decide +kernel
theorem dX11_write_2 : decode cX11_write 2 = .ok (.invokevirtual 186, 3) := by decide +kernel
theorem dX11_write_5 : decode cX11_write 5 = .ok (.ifCond .eq 11, 3) := by decide +kernel
theorem dX11_write_8 : decode cX11_write 8 = .ok (.aload_n 0, 1) := by decide +kernel
theorem dX11_write_9 : decode cX11_write 9 = .ok (.iload_n 2, 1) := by decide +kernel
theorem dX11_write_10 : decode cX11_write 10 = .ok (.invokevirtual 189, 3) := by decide +kernel
theorem dX11_write_13 : decode cX11_write 13 = .ok (.ifCond .ne 6, 3) := by decide +kernel
theorem dX11_write_16 : decode cX11_write 16 = .ok (.ldc 192, 2) := by decide +kernel
theorem dX11_write_18 : decode cX11_write 18 = .ok (.ireturn, 1) := by decide +kernel
theorem dX11_write_19 : decode cX11_write 19 = .ok (.iload_n 3, 1) := by decide +kernel
theorem dX11_write_20 : decode cX11_write 20 = .ok (.i2l, 1) := by decide +kernel
theorem dX11_write_21 : decode cX11_write 21 = .ok (.lconst 0, 1) := by decide +kernel
theorem dX11_write_22 : decode cX11_write 22 = .ok (.ldc2_w 175, 3) := by decide +kernel
theorem dX11_write_25 : decode cX11_write 25 = .ok (.invokestatic 76, 3) := by decide +kernel
theorem dX11_write_28 : decode cX11_write 28 = .ok (.ifCond .ne 6, 3) := by decide +kernel
theorem dX11_write_31 : decode cX11_write 31 = .ok (.ldc 88, 2) := by decide +kernel
theorem dX11_write_33 : decode cX11_write 33 = .ok (.ireturn, 1) := by decide +kernel
theorem dX11_write_34 : decode cX11_write 34 = .ok (.aload_n 0, 1) := by decide +kernel
theorem dX11_write_35 : decode cX11_write 35 = .ok (.getfield 172, 3) := by decide +kernel
theorem dX11_write_38 : decode cX11_write 38 = .ok (.bipush 15, 2) := by decide +kernel
theorem dX11_write_40 : decode cX11_write 40 = .ok (.if_icmp .ne 6, 3) := by decide +kernel
theorem dX11_write_43 : decode cX11_write 43 = .ok (.ldc 92, 2) := by decide +kernel
theorem dX11_write_45 : decode cX11_write 45 = .ok (.ireturn, 1) := by decide +kernel
theorem dX11_write_46 : decode cX11_write 46 = .ok (.aload_n 0, 1) := by decide +kernel
theorem dX11_write_47 : decode cX11_write 47 = .ok (.getfield 61, 3) := by decide +kernel
theorem dX11_write_50 : decode cX11_write 50 = .ok (.aload_n 0, 1) := by decide +kernel
theorem dX11_write_51 : decode cX11_write 51 = .ok (.getfield 172, 3) := by decide +kernel
theorem dX11_write_54 : decode cX11_write 54 = .ok (.iload_n 1, 1) := by decide +kernel
theorem dX11_write_55 : decode cX11_write 55 = .ok (.iastore, 1) := by decide +kernel
theorem dX11_write_56 : decode cX11_write 56 = .ok (.aload_n 0, 1) := by decide +kernel
theorem dX11_write_57 : decode cX11_write 57 = .ok (.getfield 64, 3) := by decide +kernel
theorem dX11_write_60 : decode cX11_write 60 = .ok (.aload_n 0, 1) := by decide +kernel
theorem dX11_write_61 : decode cX11_write 61 = .ok (.getfield 172, 3) := by decide +kernel
theorem dX11_write_64 : decode cX11_write 64 = .ok (.iload_n 2, 1) := by decide +kernel
theorem dX11_write_65 : decode cX11_write 65 = .ok (.iastore, 1) := by decide +kernel
theorem dX11_write_66 : decode cX11_write 66 = .ok (.aload_n 0, 1) := by decide +kernel
theorem dX11_write_67 : decode cX11_write 67 = .ok (.getfield 67, 3) := by decide +kernel
theorem dX11_write_70 : decode cX11_write 70 = .ok (.aload_n 0, 1) := by decide +kernel
theorem dX11_write_71 : decode cX11_write 71 = .ok (.getfield 172, 3) := by decide +kernel
theorem dX11_write_74 : decode cX11_write 74 = .ok (.iload_n 3, 1) := by decide +kernel
theorem dX11_write_75 : decode cX11_write 75 = .ok (.iastore, 1) := by decide +kernel
theorem dX11_write_76 : decode cX11_write 76 = .ok (.aload_n 0, 1) := by decide +kernel
theorem dX11_write_77 : decode cX11_write 77 = .ok (.dup, 1) := by decide +kernel
theorem dX11_write_78 : decode cX11_write 78 = .ok (.getfield 172, 3) := by decide +kernel
theorem dX11_write_81 : decode cX11_write 81 = .ok (.iconst 1, 1) := by decide +kernel
theorem dX11_write_82 : decode cX11_write 82 = .ok (.iadd, 1) := by decide +kernel
theorem dX11_write_83 : decode cX11_write 83 = .ok (.putfield 172, 3) := by decide +kernel
theorem dX11_write_86 : decode cX11_write 86 = .ok (.aload_n 0, 1) := by decide +kernel
theorem dX11_write_87 : decode cX11_write 87 = .ok (.getfield 172, 3) := by decide +kernel
theorem dX11_write_90 : decode cX11_write 90 = .ok (.ireturn, 1) := by decide +kernel
theorem dX11_tear_0 : decode cX11_tear 0 = .ok (.aload_n 0, 1) := by decide +kernel
theorem dX11_tear_1 : decode cX11_tear 1 = .ok (.getfield 169, 3) := by decide +kernel
theorem dX11_tear_4 : decode cX11_tear 4 = .ok (.aload_n 0, 1) := by decide +kernel
theorem dX11_tear_5 : decode cX11_tear 5 = .ok (.getfield 172, 3) := by decide +kernel
theorem dX11_tear_8 : decode cX11_tear 8 = .ok (.iadd, 1) := by decide +kernel
theorem dX11_tear_9 : decode cX11_tear 9 = .ok (.istore_n 1, 1) := by decide +kernel
theorem dX11_tear_10 : decode cX11_tear 10 = .ok (.aload_n 0, 1) := by decide +kernel
theorem dX11_tear_11 : decode cX11_tear 11 = .ok (.iconst 0, 1) := by decide +kernel
theorem dX11_tear_12 : decode cX11_tear 12 = .ok (.putfield 169, 3) := by decide +kernel
theorem dX11_tear_15 : decode cX11_tear 15 = .ok (.aload_n 0, 1) := by decide +kernel
theorem dX11_tear_16 : decode cX11_tear 16 = .ok (.iconst 0, 1) := by decide +kernel
theorem dX11_tear_17 : decode cX11_tear 17 = .ok (.putfield 172, 3) := by decide +kernel
theorem dX11_tear_20 : decode cX11_tear 20 = .ok (.iload_n 1, 1) := by decide +kernel
theorem dX11_tear_21 : decode cX11_tear 21 = .ok (.ireturn, 1) := by decide +kernel
theorem dX11_judge_0 : decode cX11_judge 0 = .ok (.iconst 0, 1) := by decide +kernel
theorem dX11_judge_1 : decode cX11_judge 1 = .ok (.istore_n 1, 1) := by decide +kernel
theorem dX11_judge_2 : decode cX11_judge 2 = .ok (.iload_n 1, 1) := by decide +kernel
theorem dX11_judge_3 : decode cX11_judge 3 = .ok (.aload_n 0, 1) := by decide +kernel
theorem dX11_judge_4 : decode cX11_judge 4 = .ok (.getfield 172, 3) := by decide +kernel
theorem dX11_judge_7 : decode cX11_judge 7 = .ok (.if_icmp .ge 37, 3) := by decide +kernel
theorem dX11_judge_10 : decode cX11_judge 10 = .ok (.aload_n 0, 1) := by decide +kernel
theorem dX11_judge_11 : decode cX11_judge 11 = .ok (.iconst 0, 1) := by decide +kernel
theorem dX11_judge_12 : decode cX11_judge 12 = .ok (.aload_n 0, 1) := by decide +kernel
theorem dX11_judge_13 : decode cX11_judge 13 = .ok (.getfield 61, 3) := by decide +kernel
theorem dX11_judge_16 : decode cX11_judge 16 = .ok (.iload_n 1, 1) := by decide +kernel
theorem dX11_judge_17 : decode cX11_judge 17 = .ok (.iaload, 1) := by decide +kernel
theorem dX11_judge_18 : decode cX11_judge 18 = .ok (.aload_n 0, 1) := by decide +kernel
theorem dX11_judge_19 : decode cX11_judge 19 = .ok (.getfield 64, 3) := by decide +kernel
theorem dX11_judge_22 : decode cX11_judge 22 = .ok (.iload_n 1, 1) := by decide +kernel
theorem dX11_judge_23 : decode cX11_judge 23 = .ok (.iaload, 1) := by decide +kernel
theorem dX11_judge_24 : decode cX11_judge 24 = .ok (.invokevirtual 182, 3) := by decide +kernel
theorem dX11_judge_27 : decode cX11_judge 27 = .ok (.aload_n 0, 1) := by decide +kernel
theorem dX11_judge_28 : decode cX11_judge 28 = .ok (.getfield 67, 3) := by decide +kernel
theorem dX11_judge_31 : decode cX11_judge 31 = .ok (.iload_n 1, 1) := by decide +kernel
theorem dX11_judge_32 : decode cX11_judge 32 = .ok (.iaload, 1) := by decide +kernel
theorem dX11_judge_33 : decode cX11_judge 33 = .ok (.if_icmp .eq 5, 3) := by decide +kernel
theorem dX11_judge_36 : decode cX11_judge 36 = .ok (.iload_n 1, 1) := by decide +kernel
theorem dX11_judge_37 : decode cX11_judge 37 = .ok (.ireturn, 1) := by decide +kernel
theorem dX11_judge_38 : decode cX11_judge 38 = .ok (.iinc 1 1, 3) := by decide +kernel
theorem dX11_judge_41 : decode cX11_judge 41 = .ok (.goto (-39), 3) := by decide +kernel
theorem dX11_judge_44 : decode cX11_judge 44 = .ok (.iconst (-1), 1) := by decide +kernel
theorem dX11_judge_45 : decode cX11_judge 45 = .ok (.ireturn, 1) := by decide +kernel
theorem dX11_seed_0 : decode cX11_seed 0 = .ok (.iload_n 1, 1) := by decide +kernel
theorem dX11_seed_1 : decode cX11_seed 1 = .ok (.ifCond .ge 6, 3) := by decide +kernel
theorem dX11_seed_4 : decode cX11_seed 4 = .ok (.ldc 88, 2) := by decide +kernel
theorem dX11_seed_6 : decode cX11_seed 6 = .ok (.ireturn, 1) := by decide +kernel
theorem dX11_seed_7 : decode cX11_seed 7 = .ok (.aload_n 0, 1) := by decide +kernel
theorem dX11_seed_8 : decode cX11_seed 8 = .ok (.getfield 7, 3) := by decide +kernel
theorem dX11_seed_11 : decode cX11_seed 11 = .ok (.bipush 54, 2) := by decide +kernel
theorem dX11_seed_13 : decode cX11_seed 13 = .ok (.iaload, 1) := by decide +kernel
theorem dX11_seed_14 : decode cX11_seed 14 = .ok (.istore_n 2, 1) := by decide +kernel
theorem dX11_seed_15 : decode cX11_seed 15 = .ok (.aload_n 0, 1) := by decide +kernel
theorem dX11_seed_16 : decode cX11_seed 16 = .ok (.getfield 7, 3) := by decide +kernel
theorem dX11_seed_19 : decode cX11_seed 19 = .ok (.bipush 54, 2) := by decide +kernel
theorem dX11_seed_21 : decode cX11_seed 21 = .ok (.iload_n 1, 1) := by decide +kernel
theorem dX11_seed_22 : decode cX11_seed 22 = .ok (.iastore, 1) := by decide +kernel
theorem dX11_seed_23 : decode cX11_seed 23 = .ok (.iload_n 2, 1) := by decide +kernel
theorem dX11_seed_24 : decode cX11_seed 24 = .ok (.ireturn, 1) := by decide +kernel
theorem dX11_keep_0 : decode cX11_keep 0 = .ok (.iload_n 1, 1) := by decide +kernel
theorem dX11_keep_1 : decode cX11_keep 1 = .ok (.i2l, 1) := by decide +kernel
theorem dX11_keep_2 : decode cX11_keep 2 = .ok (.lconst 0, 1) := by decide +kernel
theorem dX11_keep_3 : decode cX11_keep 3 = .ok (.lconst 1, 1) := by decide +kernel
theorem dX11_keep_4 : decode cX11_keep 4 = .ok (.invokestatic 76, 3) := by decide +kernel
theorem dX11_keep_7 : decode cX11_keep 7 = .ok (.ifCond .ne 6, 3) := by decide +kernel
theorem dX11_keep_10 : decode cX11_keep 10 = .ok (.ldc 192, 2) := by decide +kernel
theorem dX11_keep_12 : decode cX11_keep 12 = .ok (.ireturn, 1) := by decide +kernel
theorem dX11_keep_13 : decode cX11_keep 13 = .ok (.aload_n 0, 1) := by decide +kernel
theorem dX11_keep_14 : decode cX11_keep 14 = .ok (.iconst 0, 1) := by decide +kernel
theorem dX11_keep_15 : decode cX11_keep 15 = .ok (.bipush 110, 2) := by decide +kernel
theorem dX11_keep_17 : decode cX11_keep 17 = .ok (.bipush 55, 2) := by decide +kernel
theorem dX11_keep_19 : decode cX11_keep 19 = .ok (.iload_n 1, 1) := by decide +kernel
theorem dX11_keep_20 : decode cX11_keep 20 = .ok (.imul, 1) := by decide +kernel
theorem dX11_keep_21 : decode cX11_keep 21 = .ok (.iadd, 1) := by decide +kernel
theorem dX11_keep_22 : decode cX11_keep 22 = .ok (.invokevirtual 249, 3) := by decide +kernel
theorem dX11_keep_25 : decode cX11_keep 25 = .ok (.aload_n 0, 1) := by decide +kernel
theorem dX11_keep_26 : decode cX11_keep 26 = .ok (.getfield 13, 3) := by decide +kernel
theorem dX11_keep_29 : decode cX11_keep 29 = .ok (.iload_n 1, 1) := by decide +kernel
theorem dX11_keep_30 : decode cX11_keep 30 = .ok (.iconst 1, 1) := by decide +kernel
theorem dX11_keep_31 : decode cX11_keep 31 = .ok (.bastore, 1) := by decide +kernel
theorem dX11_keep_32 : decode cX11_keep 32 = .ok (.iconst 1, 1) := by decide +kernel
theorem dX11_keep_33 : decode cX11_keep 33 = .ok (.ireturn, 1) := by decide +kernel
theorem dX11_goBack_0 : decode cX11_goBack 0 = .ok (.iload_n 1, 1) := by decide +kernel
theorem dX11_goBack_1 : decode cX11_goBack 1 = .ok (.i2l, 1) := by decide +kernel
theorem dX11_goBack_2 : decode cX11_goBack 2 = .ok (.lconst 0, 1) := by decide +kernel
theorem dX11_goBack_3 : decode cX11_goBack 3 = .ok (.lconst 1, 1) := by decide +kernel
theorem dX11_goBack_4 : decode cX11_goBack 4 = .ok (.invokestatic 76, 3) := by decide +kernel
theorem dX11_goBack_7 : decode cX11_goBack 7 = .ok (.ifCond .ne 6, 3) := by decide +kernel
theorem dX11_goBack_10 : decode cX11_goBack 10 = .ok (.ldc 192, 2) := by decide +kernel
theorem dX11_goBack_12 : decode cX11_goBack 12 = .ok (.ireturn, 1) := by decide +kernel
theorem dX11_goBack_13 : decode cX11_goBack 13 = .ok (.aload_n 0, 1) := by decide +kernel
theorem dX11_goBack_14 : decode cX11_goBack 14 = .ok (.getfield 13, 3) := by decide +kernel
theorem dX11_goBack_17 : decode cX11_goBack 17 = .ok (.iload_n 1, 1) := by decide +kernel
theorem dX11_goBack_18 : decode cX11_goBack 18 = .ok (.baload, 1) := by decide +kernel
theorem dX11_goBack_19 : decode cX11_goBack 19 = .ok (.ifCond .ne 6, 3) := by decide +kernel
theorem dX11_goBack_22 : decode cX11_goBack 22 = .ok (.ldc 205, 2) := by decide +kernel
theorem dX11_goBack_24 : decode cX11_goBack 24 = .ok (.ireturn, 1) := by decide +kernel
theorem dX11_goBack_25 : decode cX11_goBack 25 = .ok (.aload_n 0, 1) := by decide +kernel
theorem dX11_goBack_26 : decode cX11_goBack 26 = .ok (.bipush 110, 2) := by decide +kernel
theorem dX11_goBack_28 : decode cX11_goBack 28 = .ok (.bipush 55, 2) := by decide +kernel
theorem dX11_goBack_30 : decode cX11_goBack 30 = .ok (.iload_n 1, 1) := by decide +kernel
theorem dX11_goBack_31 : decode cX11_goBack 31 = .ok (.imul, 1) := by decide +kernel
theorem dX11_goBack_32 : decode cX11_goBack 32 = .ok (.iadd, 1) := by decide +kernel
theorem dX11_goBack_33 : decode cX11_goBack 33 = .ok (.iconst 0, 1) := by decide +kernel
theorem dX11_goBack_34 : decode cX11_goBack 34 = .ok (.invokevirtual 249, 3) := by decide +kernel
theorem dX11_goBack_37 : decode cX11_goBack 37 = .ok (.iconst 1, 1) := by decide +kernel
theorem dX11_goBack_38 : decode cX11_goBack 38 = .ok (.ireturn, 1) := by decide +kernel
