theorem dX10_init_0 : decode cX10_init 0 = .ok (.aload_n 0, 1) := by decide +kernel
theorem dX10_init_1 : decode cX10_init 1 = .ok (.invokespecial 3, 3) := by decide +kernel
theorem dX10_init_4 : decode cX10_init 4 = .ok (.aload_n 0, 1) := by decide +kernel
theorem dX10_init_5 : decode cX10_init 5 = .ok (.new 9, 3) := by decide +kernel
theorem dX10_init_8 : decode cX10_init 8 = .ok (.dup, 1) := by decide +kernel
theorem dX10_init_9 : decode cX10_init 9 = .ok (.invokespecial 11, 3) := by decide +kernel
theorem dX10_init_12 : decode cX10_init 12 = .ok (.putfield 12, 3) := by decide +kernel
theorem dX10_init_15 : decode cX10_init 15 = .ok (.aload_n 0, 1) := by decide +kernel
theorem dX10_init_16 : decode cX10_init 16 = .ok (.new 16, 3) := by decide +kernel
theorem dX10_init_19 : decode cX10_init 19 = .ok (.dup, 1) := by decide +kernel
theorem dX10_init_20 : decode cX10_init 20 = .ok (.invokespecial 18, 3) := by decide +kernel
theorem dX10_init_23 : decode cX10_init 23 = .ok (.putfield 19, 3) := by decide +kernel
theorem dX10_init_26 : decode cX10_init 26 = .ok (.aload_n 0, 1) := by decide +kernel
theorem dX10_init_27 : decode cX10_init 27 = .ok (.new 23, 3) := by decide +kernel
theorem dX10_init_30 : decode cX10_init 30 = .ok (.dup, 1) := by decide +kernel
theorem dX10_init_31 : decode cX10_init 31 = .ok (.invokespecial 25, 3) := by decide +kernel
theorem dX10_init_34 : decode cX10_init 34 = .ok (.putfield 26, 3) := by decide +kernel
theorem dX10_init_37 : decode cX10_init 37 = .ok (.aload_n 0, 1) := by decide +kernel
theorem dX10_init_38 : decode cX10_init 38 = .ok (.iconst 2, 1) := by decide +kernel
theorem dX10_init_39 : decode cX10_init 39 = .ok (.anewarray 23, 3) := by decide +kernel
theorem dX10_init_42 : decode cX10_init 42 = .ok (.dup, 1) := by decide +kernel
theorem dX10_init_43 : decode cX10_init 43 = .ok (.iconst 0, 1) := by decide +kernel
theorem dX10_init_44 : decode cX10_init 44 = .ok (.new 23, 3) := by decide +kernel
theorem dX10_init_47 : decode cX10_init 47 = .ok (.dup, 1) := by decide +kernel
theorem dX10_init_48 : decode cX10_init 48 = .ok (.invokespecial 25, 3) := by decide +kernel
theorem dX10_init_51 : decode cX10_init 51 = .ok (.aastore, 1) := by decide +kernel
theorem dX10_init_52 : decode cX10_init 52 = .ok (.dup, 1) := by decide +kernel
theorem dX10_init_53 : decode cX10_init 53 = .ok (.iconst 1, 1) := by decide +kernel
theorem dX10_init_54 : decode cX10_init 54 = .ok (.new 23, 3) := by decide +kernel
theorem dX10_init_57 : decode cX10_init 57 = .ok (.dup, 1) := by decide +kernel
theorem dX10_init_58 : decode cX10_init 58 = .ok (.invokespecial 25, 3) := by decide +kernel
theorem dX10_init_61 : decode cX10_init 61 = .ok (.aastore, 1) := by decide +kernel
theorem dX10_init_62 : decode cX10_init 62 = .ok (.putfield 30, 3) := by decide +kernel
theorem dX10_init_65 : decode cX10_init 65 = .ok (.aload_n 0, 1) := by decide +kernel
theorem dX10_init_66 : decode cX10_init 66 = .ok (.new 34, 3) := by decide +kernel
theorem dX10_init_69 : decode cX10_init 69 = .ok (.dup, 1) := by decide +kernel
theorem dX10_init_70 : decode cX10_init 70 = .ok (.invokespecial 36, 3) := by decide +kernel
theorem dX10_init_73 : decode cX10_init 73 = .ok (.putfield 37, 3) := by decide +kernel
theorem dX10_init_76 : decode cX10_init 76 = .ok (.aload_n 0, 1) := by decide +kernel
theorem dX10_init_77 : decode cX10_init 77 = .ok (.new 41, 3) := by decide +kernel
theorem dX10_init_80 : decode cX10_init 80 = .ok (.dup, 1) := by decide +kernel
theorem dX10_init_81 : decode cX10_init 81 = .ok (.invokespecial 43, 3) := by decide +kernel
theorem dX10_init_84 : decode cX10_init 84 = .ok (.putfield 44, 3) := by decide +kernel
theorem dX10_init_87 : decode cX10_init 87 = .ok (.aload_n 0, 1) := by decide +kernel
theorem dX10_init_88 : decode cX10_init 88 = .ok (.new 48, 3) := by decide +kernel
theorem dX10_init_91 : decode cX10_init 91 = .ok (.dup, 1) := by decide +kernel
theorem dX10_init_92 : decode cX10_init 92 = .ok (.invokespecial 50, 3) := by decide +kernel
theorem dX10_init_95 : decode cX10_init 95 = .ok (.putfield 51, 3) := by decide +kernel
theorem dX10_init_98 : decode cX10_init 98 = .ok (.aload_n 0, 1) := by decide +kernel
theorem dX10_init_99 : decode cX10_init 99 = .ok (.new 55, 3) := by decide +kernel
theorem dX10_init_102 : decode cX10_init 102 = .ok (.dup, 1) := by decide +kernel
theorem dX10_init_103 : decode cX10_init 103 = .ok (.invokespecial 57, 3) := by decide +kernel
theorem dX10_init_106 : decode cX10_init 106 = .ok (.putfield 58, 3) := by decide +kernel
theorem dX10_init_109 : decode cX10_init 109 = .ok (.aload_n 0, 1) := by decide +kernel
theorem dX10_init_110 : decode cX10_init 110 = .ok (.new 62, 3) := by decide +kernel
theorem dX10_init_113 : decode cX10_init 113 = .ok (.dup, 1) := by decide +kernel
theorem dX10_init_114 : decode cX10_init 114 = .ok (.invokespecial 64, 3) := by decide +kernel
theorem dX10_init_117 : decode cX10_init 117 = .ok (.putfield 65, 3) := by decide +kernel
theorem dX10_init_120 : decode cX10_init 120 = .ok (.aload_n 0, 1) := by decide +kernel
theorem dX10_init_121 : decode cX10_init 121 = .ok (.new 69, 3) := by decide +kernel
theorem dX10_init_124 : decode cX10_init 124 = .ok (.dup, 1) := by decide +kernel
theorem dX10_init_125 : decode cX10_init 125 = .ok (.invokespecial 71, 3) := by decide +kernel
theorem dX10_init_128 : decode cX10_init 128 = .ok (.putfield 72, 3) := by decide +kernel
theorem dX10_init_131 : decode cX10_init 131 = .ok (.aload_n 0, 1) := by decide +kernel
theorem dX10_init_132 : decode cX10_init 132 = .ok (.iconst 0, 1) := by decide +kernel
theorem dX10_init_133 : decode cX10_init 133 = .ok (.putfield 76, 3) := by decide +kernel
theorem dX10_init_136 : decode cX10_init 136 = .ok (.aload_n 0, 1) := by decide +kernel
theorem dX10_init_137 : decode cX10_init 137 = .ok (.iconst (-1), 1) := by decide +kernel
theorem dX10_init_138 : decode cX10_init 138 = .ok (.putfield 80, 3) := by decide +kernel
theorem dX10_init_141 : decode cX10_init 141 = .ok (.return_, 1) := by decide +kernel
theorem dX10_feed_0 : decode cX10_feed 0 = .ok (.iload_n 1, 1) := by decide +kernel
theorem dX10_feed_1 : decode cX10_feed 1 = .ok (.ifCond .lt 10, 3) := by decide +kernel
theorem dX10_feed_4 : decode cX10_feed 4 = .ok (.iload_n 1, 1) := by decide +kernel
theorem dX10_feed_5 : decode cX10_feed 5 = .ok (.sipush 255, 3) := by decide +kernel
theorem dX10_feed_8 : decode cX10_feed 8 = .ok (.if_icmp .le 6, 3) := by decide +kernel
theorem dX10_feed_11 : decode cX10_feed 11 = .ok (.ldc 83, 2) := by decide +kernel
theorem dX10_feed_13 : decode cX10_feed 13 = .ok (.ireturn, 1) := by decide +kernel
theorem dX10_feed_14 : decode cX10_feed 14 = .ok (.aload_n 0, 1) := by decide +kernel
theorem dX10_feed_15 : decode cX10_feed 15 = .ok (.getfield 12, 3) := by decide +kernel
theorem dX10_feed_18 : decode cX10_feed 18 = .ok (.iload_n 1, 1) := by decide +kernel
theorem dX10_feed_19 : decode cX10_feed 19 = .ok (.invokevirtual 84, 3) := by decide +kernel
theorem dX10_feed_22 : decode cX10_feed 22 = .ok (.ifCond .eq 13, 3) := by decide +kernel
theorem dX10_feed_25 : decode cX10_feed 25 = .ok (.aload_n 0, 1) := by decide +kernel
theorem dX10_feed_26 : decode cX10_feed 26 = .ok (.getfield 12, 3) := by decide +kernel
theorem dX10_feed_29 : decode cX10_feed 29 = .ok (.getfield 88, 3) := by decide +kernel
theorem dX10_feed_32 : decode cX10_feed 32 = .ok (.goto 5, 3) := by decide +kernel
theorem dX10_feed_35 : decode cX10_feed 35 = .ok (.ldc 91, 2) := by decide +kernel
theorem dX10_feed_37 : decode cX10_feed 37 = .ok (.ireturn, 1) := by decide +kernel
theorem dX10_street_0 : decode cX10_street 0 = .ok (.aload_n 0, 1) := by decide +kernel
theorem dX10_street_1 : decode cX10_street 1 = .ok (.getfield 12, 3) := by decide +kernel
theorem dX10_street_4 : decode cX10_street 4 = .ok (.invokevirtual 92, 3) := by decide +kernel
theorem dX10_street_7 : decode cX10_street 7 = .ok (.istore_n 1, 1) := by decide +kernel
theorem dX10_street_8 : decode cX10_street 8 = .ok (.aload_n 0, 1) := by decide +kernel
theorem dX10_street_9 : decode cX10_street 9 = .ok (.aload_n 0, 1) := by decide +kernel
theorem dX10_street_10 : decode cX10_street 10 = .ok (.getfield 12, 3) := by decide +kernel
theorem dX10_street_13 : decode cX10_street 13 = .ok (.getfield 96, 3) := by decide +kernel
theorem dX10_street_16 : decode cX10_street 16 = .ok (.putfield 80, 3) := by decide +kernel
theorem dX10_street_19 : decode cX10_street 19 = .ok (.aload_n 0, 1) := by decide +kernel
theorem dX10_street_20 : decode cX10_street 20 = .ok (.getfield 12, 3) := by decide +kernel
theorem dX10_street_23 : decode cX10_street 23 = .ok (.iconst 0, 1) := by decide +kernel
theorem dX10_street_24 : decode cX10_street 24 = .ok (.putfield 88, 3) := by decide +kernel
theorem dX10_street_27 : decode cX10_street 27 = .ok (.iload_n 1, 1) := by decide +kernel
theorem dX10_street_28 : decode cX10_street 28 = .ok (.ifCond .eq 8, 3) := by decide +kernel
theorem dX10_street_31 : decode cX10_street 31 = .ok (.bipush (-10), 2) := by decide +kernel
theorem dX10_street_33 : decode cX10_street 33 = .ok (.iload_n 1, 1) := by decide +kernel
theorem dX10_street_34 : decode cX10_street 34 = .ok (.isub, 1) := by decide +kernel
theorem dX10_street_35 : decode cX10_street 35 = .ok (.ireturn, 1) := by decide +kernel
theorem dX10_street_36 : decode cX10_street 36 = .ok (.aload_n 0, 1) := by decide +kernel
theorem dX10_street_37 : decode cX10_street 37 = .ok (.getfield 19, 3) := by decide +kernel
theorem dX10_street_40 : decode cX10_street 40 = .ok (.aload_n 0, 1) := by decide +kernel
theorem dX10_street_41 : decode cX10_street 41 = .ok (.getfield 12, 3) := by decide +kernel
theorem dX10_street_44 : decode cX10_street 44 = .ok (.getfield 97, 3) := by decide +kernel
theorem dX10_street_47 : decode cX10_street 47 = .ok (.invokevirtual 100, 3) := by decide +kernel
theorem dX10_street_50 : decode cX10_street 50 = .ok (.aload_n 0, 1) := by decide +kernel
theorem dX10_street_51 : decode cX10_street 51 = .ok (.getfield 26, 3) := by decide +kernel
theorem dX10_street_54 : decode cX10_street 54 = .ok (.aload_n 0, 1) := by decide +kernel
theorem dX10_street_55 : decode cX10_street 55 = .ok (.getfield 19, 3) := by decide +kernel
theorem dX10_street_58 : decode cX10_street 58 = .ok (.invokevirtual 104, 3) := by decide +kernel
theorem dX10_street_61 : decode cX10_street 61 = .ok (.aload_n 0, 1) := by decide +kernel
theorem dX10_street_62 : decode cX10_street 62 = .ok (.getfield 51, 3) := by decide +kernel
theorem dX10_street_65 : decode cX10_street 65 = .ok (.iconst 0, 1) := by decide +kernel
theorem dX10_street_66 : decode cX10_street 66 = .ok (.putfield 107, 3) := by decide +kernel
theorem dX10_street_69 : decode cX10_street 69 = .ok (.aload_n 0, 1) := by decide +kernel
theorem dX10_street_70 : decode cX10_street 70 = .ok (.getfield 72, 3) := by decide +kernel
theorem dX10_street_73 : decode cX10_street 73 = .ok (.iconst 0, 1) := by decide +kernel
theorem dX10_street_74 : decode cX10_street 74 = .ok (.putfield 110, 3) := by decide +kernel
theorem dX10_street_77 : decode cX10_street 77 = .ok (.aload_n 0, 1) := by decide +kernel
theorem dX10_street_78 : decode cX10_street 78 = .ok (.iconst 0, 1) := by decide +kernel
theorem dX10_street_79 : decode cX10_street 79 = .ok (.putfield 76, 3) := by decide +kernel
theorem dX10_street_82 : decode cX10_street 82 = .ok (.aload_n 0, 1) := by decide +kernel
theorem dX10_street_83 : decode cX10_street 83 = .ok (.getfield 19, 3) := by decide +kernel
theorem dX10_street_86 : decode cX10_street 86 = .ok (.getfield 111, 3) := by decide +kernel
theorem dX10_street_89 : decode cX10_street 89 = .ok (.ireturn, 1) := by decide +kernel
theorem dX10_fault_0 : decode cX10_fault 0 = .ok (.aload_n 0, 1) := by decide +kernel
theorem dX10_fault_1 : decode cX10_fault 1 = .ok (.getfield 80, 3) := by decide +kernel
theorem dX10_fault_4 : decode cX10_fault 4 = .ok (.ireturn, 1) := by decide +kernel
theorem dX10_told_0 : decode cX10_told 0 = .ok (.iload_n 1, 1) := by decide +kernel
theorem dX10_told_1 : decode cX10_told 1 = .ok (.tableswitch 183 0 13 #[71, 79, 87, 95, 103, 111, 119, 127, 135, 143, 151, 159, 167, 175], 71) := by decide +kernel
theorem dX10_told_72 : decode cX10_told 72 = .ok (.aload_n 0, 1) := by decide +kernel
theorem dX10_told_73 : decode cX10_told 73 = .ok (.getfield 19, 3) := by decide +kernel
theorem dX10_told_76 : decode cX10_told 76 = .ok (.getfield 114, 3) := by decide +kernel
theorem dX10_told_79 : decode cX10_told 79 = .ok (.ireturn, 1) := by decide +kernel
theorem dX10_told_80 : decode cX10_told 80 = .ok (.aload_n 0, 1) := by decide +kernel
theorem dX10_told_81 : decode cX10_told 81 = .ok (.getfield 19, 3) := by decide +kernel
theorem dX10_told_84 : decode cX10_told 84 = .ok (.getfield 117, 3) := by decide +kernel
theorem dX10_told_87 : decode cX10_told 87 = .ok (.ireturn, 1) := by decide +kernel
theorem dX10_told_88 : decode cX10_told 88 = .ok (.aload_n 0, 1) := by decide +kernel
theorem dX10_told_89 : decode cX10_told 89 = .ok (.getfield 19, 3) := by decide +kernel
theorem dX10_told_92 : decode cX10_told 92 = .ok (.getfield 111, 3) := by decide +kernel
theorem dX10_told_95 : decode cX10_told 95 = .ok (.ireturn, 1) := by decide +kernel
theorem dX10_told_96 : decode cX10_told 96 = .ok (.aload_n 0, 1) := by decide +kernel
theorem dX10_told_97 : decode cX10_told 97 = .ok (.getfield 19, 3) := by decide +kernel
theorem dX10_told_100 : decode cX10_told 100 = .ok (.getfield 120, 3) := by decide +kernel
theorem dX10_told_103 : decode cX10_told 103 = .ok (.ireturn, 1) := by decide +kernel
theorem dX10_told_104 : decode cX10_told 104 = .ok (.aload_n 0, 1) := by decide +kernel
theorem dX10_told_105 : decode cX10_told 105 = .ok (.getfield 19, 3) := by decide +kernel
theorem dX10_told_108 : decode cX10_told 108 = .ok (.getfield 123, 3) := by decide +kernel
theorem dX10_told_111 : decode cX10_told 111 = .ok (.ireturn, 1) := by decide +kernel
theorem dX10_told_112 : decode cX10_told 112 = .ok (.aload_n 0, 1) := by decide +kernel
theorem dX10_told_113 : decode cX10_told 113 = .ok (.getfield 12, 3) := by decide +kernel
theorem dX10_told_116 : decode cX10_told 116 = .ok (.getfield 88, 3) := by decide +kernel
theorem dX10_told_119 : decode cX10_told 119 = .ok (.ireturn, 1) := by decide +kernel
theorem dX10_told_120 : decode cX10_told 120 = .ok (.aload_n 0, 1) := by decide +kernel
theorem dX10_told_121 : decode cX10_told 121 = .ok (.getfield 26, 3) := by decide +kernel
theorem dX10_told_124 : decode cX10_told 124 = .ok (.getfield 126, 3) := by decide +kernel
theorem dX10_told_127 : decode cX10_told 127 = .ok (.ireturn, 1) := by decide +kernel
theorem dX10_told_128 : decode cX10_told 128 = .ok (.aload_n 0, 1) := by decide +kernel
theorem dX10_told_129 : decode cX10_told 129 = .ok (.getfield 26, 3) := by decide +kernel
theorem dX10_told_132 : decode cX10_told 132 = .ok (.getfield 129, 3) := by decide +kernel
theorem dX10_told_135 : decode cX10_told 135 = .ok (.ireturn, 1) := by decide +kernel
theorem dX10_told_136 : decode cX10_told 136 = .ok (.aload_n 0, 1) := by decide +kernel
theorem dX10_told_137 : decode cX10_told 137 = .ok (.getfield 26, 3) := by decide +kernel
theorem dX10_told_140 : decode cX10_told 140 = .ok (.getfield 132, 3) := by decide +kernel
theorem dX10_told_143 : decode cX10_told 143 = .ok (.ireturn, 1) := by decide +kernel
theorem dX10_told_144 : decode cX10_told 144 = .ok (.aload_n 0, 1) := by decide +kernel
theorem dX10_told_145 : decode cX10_told 145 = .ok (.getfield 26, 3) := by decide +kernel
theorem dX10_told_148 : decode cX10_told 148 = .ok (.invokevirtual 135, 3) := by decide +kernel
theorem dX10_told_151 : decode cX10_told 151 = .ok (.ireturn, 1) := by decide +kernel
theorem dX10_told_152 : decode cX10_told 152 = .ok (.aload_n 0, 1) := by decide +kernel
theorem dX10_told_153 : decode cX10_told 153 = .ok (.getfield 26, 3) := by decide +kernel
theorem dX10_told_156 : decode cX10_told 156 = .ok (.invokevirtual 138, 3) := by decide +kernel
theorem dX10_told_159 : decode cX10_told 159 = .ok (.ireturn, 1) := by decide +kernel
theorem dX10_told_160 : decode cX10_told 160 = .ok (.aload_n 0, 1) := by decide +kernel
theorem dX10_told_161 : decode cX10_told 161 = .ok (.getfield 26, 3) := by decide +kernel
theorem dX10_told_164 : decode cX10_told 164 = .ok (.getfield 141, 3) := by decide +kernel
theorem dX10_told_167 : decode cX10_told 167 = .ok (.ireturn, 1) := by decide +kernel
theorem dX10_told_168 : decode cX10_told 168 = .ok (.aload_n 0, 1) := by decide +kernel
theorem dX10_told_169 : decode cX10_told 169 = .ok (.getfield 51, 3) := by decide +kernel
theorem dX10_told_172 : decode cX10_told 172 = .ok (.getfield 107, 3) := by decide +kernel
theorem dX10_told_175 : decode cX10_told 175 = .ok (.ireturn, 1) := by decide +kernel
theorem dX10_told_176 : decode cX10_told 176 = .ok (.aload_n 0, 1) := by decide +kernel
theorem dX10_told_177 : decode cX10_told 177 = .ok (.getfield 72, 3) := by decide +kernel
theorem dX10_told_180 : decode cX10_told 180 = .ok (.getfield 110, 3) := by decide +kernel
theorem dX10_told_183 : decode cX10_told 183 = .ok (.ireturn, 1) := by decide +kernel
theorem dX10_told_184 : decode cX10_told 184 = .ok (.ldc 83, 2) := by decide +kernel
theorem dX10_told_186 : decode cX10_told 186 = .ok (.ireturn, 1) := by decide +kernel
theorem dX10_weight_0 : decode cX10_weight 0 = .ok (.aload_n 0, 1) := by decide +kernel
theorem dX10_weight_1 : decode cX10_weight 1 = .ok (.getfield 19, 3) := by decide +kernel
theorem dX10_weight_4 : decode cX10_weight 4 = .ok (.iload_n 1, 1) := by decide +kernel
theorem dX10_weight_5 : decode cX10_weight 5 = .ok (.invokevirtual 144, 3) := by decide +kernel
theorem dX10_weight_8 : decode cX10_weight 8 = .ok (.ifCond .eq 14, 3) := by decide +kernel
theorem dX10_weight_11 : decode cX10_weight 11 = .ok (.aload_n 0, 1) := by decide +kernel
theorem dX10_weight_12 : decode cX10_weight 12 = .ok (.getfield 19, 3) := by decide +kernel
theorem dX10_weight_15 : decode cX10_weight 15 = .ok (.iload_n 2, 1) := by decide +kernel
theorem dX10_weight_16 : decode cX10_weight 16 = .ok (.invokevirtual 147, 3) := by decide +kernel
theorem dX10_weight_19 : decode cX10_weight 19 = .ok (.ifCond .ne 6, 3) := by decide +kernel
theorem dX10_weight_22 : decode cX10_weight 22 = .ok (.ldc 150, 2) := by decide +kernel
theorem dX10_weight_24 : decode cX10_weight 24 = .ok (.ireturn, 1) := by decide +kernel
theorem dX10_weight_25 : decode cX10_weight 25 = .ok (.aload_n 0, 1) := by decide +kernel
theorem dX10_weight_26 : decode cX10_weight 26 = .ok (.getfield 26, 3) := by decide +kernel
theorem dX10_weight_29 : decode cX10_weight 29 = .ok (.getfield 151, 3) := by decide +kernel
theorem dX10_weight_32 : decode cX10_weight 32 = .ok (.iload_n 1, 1) := by decide +kernel
theorem dX10_weight_33 : decode cX10_weight 33 = .ok (.iload_n 2, 1) := by decide +kernel
theorem dX10_weight_34 : decode cX10_weight 34 = .ok (.invokevirtual 155, 3) := by decide +kernel
theorem dX10_weight_37 : decode cX10_weight 37 = .ok (.ireturn, 1) := by decide +kernel
theorem dX10_odds_0 : decode cX10_odds 0 = .ok (.aload_n 0, 1) := by decide +kernel
theorem dX10_odds_1 : decode cX10_odds 1 = .ok (.getfield 19, 3) := by decide +kernel
theorem dX10_odds_4 : decode cX10_odds 4 = .ok (.iload_n 1, 1) := by decide +kernel
theorem dX10_odds_5 : decode cX10_odds 5 = .ok (.invokevirtual 144, 3) := by decide +kernel
theorem dX10_odds_8 : decode cX10_odds 8 = .ok (.ifCond .eq 14, 3) := by decide +kernel
theorem dX10_odds_11 : decode cX10_odds 11 = .ok (.aload_n 0, 1) := by decide +kernel
theorem dX10_odds_12 : decode cX10_odds 12 = .ok (.getfield 19, 3) := by decide +kernel
theorem dX10_odds_15 : decode cX10_odds 15 = .ok (.iload_n 2, 1) := by decide +kernel
theorem dX10_odds_16 : decode cX10_odds 16 = .ok (.invokevirtual 147, 3) := by decide +kernel
theorem dX10_odds_19 : decode cX10_odds 19 = .ok (.ifCond .ne 6, 3) := by decide +kernel
theorem dX10_odds_22 : decode cX10_odds 22 = .ok (.ldc 150, 2) := by decide +kernel
theorem dX10_odds_24 : decode cX10_odds 24 = .ok (.ireturn, 1) := by decide +kernel
theorem dX10_odds_25 : decode cX10_odds 25 = .ok (.iload_n 3, 1) := by decide +kernel
theorem dX10_odds_26 : decode cX10_odds 26 = .ok (.ifCond .lt 8, 3) := by decide +kernel
theorem dX10_odds_29 : decode cX10_odds 29 = .ok (.iload_n 3, 1) := by decide +kernel
theorem dX10_odds_30 : decode cX10_odds 30 = .ok (.iconst 1, 1) := by decide +kernel
theorem dX10_odds_31 : decode cX10_odds 31 = .ok (.if_icmp .le 6, 3) := by decide +kernel
theorem dX10_odds_34 : decode cX10_odds 34 = .ok (.ldc 83, 2) := by decide +kernel
theorem dX10_odds_36 : decode cX10_odds 36 = .ok (.ireturn, 1) := by decide +kernel
theorem dX10_odds_37 : decode cX10_odds 37 = .ok (.aload_n 0, 1) := by decide +kernel
theorem dX10_odds_38 : decode cX10_odds 38 = .ok (.getfield 26, 3) := by decide +kernel
theorem dX10_odds_41 : decode cX10_odds 41 = .ok (.getfield 151, 3) := by decide +kernel
theorem dX10_odds_44 : decode cX10_odds 44 = .ok (.iload_n 1, 1) := by decide +kernel
theorem dX10_odds_45 : decode cX10_odds 45 = .ok (.iload_n 2, 1) := by decide +kernel
theorem dX10_odds_46 : decode cX10_odds 46 = .ok (.invokevirtual 155, 3) := by decide +kernel
theorem dX10_odds_49 : decode cX10_odds 49 = .ok (.istore 4, 2) := by decide +kernel
theorem dX10_odds_51 : decode cX10_odds 51 = .ok (.aload_n 0, 1) := by decide +kernel
theorem dX10_odds_52 : decode cX10_odds 52 = .ok (.getfield 26, 3) := by decide +kernel
theorem dX10_odds_55 : decode cX10_odds 55 = .ok (.getfield 151, 3) := by decide +kernel
theorem dX10_odds_58 : decode cX10_odds 58 = .ok (.iload_n 1, 1) := by decide +kernel
theorem dX10_odds_59 : decode cX10_odds 59 = .ok (.invokevirtual 161, 3) := by decide +kernel
theorem dX10_odds_62 : decode cX10_odds 62 = .ok (.istore 5, 2) := by decide +kernel
theorem dX10_odds_64 : decode cX10_odds 64 = .ok (.iload 4, 2) := by decide +kernel
theorem dX10_odds_66 : decode cX10_odds 66 = .ok (.iload 5, 2) := by decide +kernel
theorem dX10_odds_68 : decode cX10_odds 68 = .ok (.invokestatic 165, 3) := by decide +kernel
theorem dX10_odds_71 : decode cX10_odds 71 = .ok (.istore 6, 2) := by decide +kernel
theorem dX10_odds_73 : decode cX10_odds 73 = .ok (.iload_n 3, 1) := by decide +kernel
theorem dX10_odds_74 : decode cX10_odds 74 = .ok (.ifCond .ne 8, 3) := by decide +kernel
theorem dX10_odds_77 : decode cX10_odds 77 = .ok (.iload 4, 2) := by decide +kernel
theorem dX10_odds_79 : decode cX10_odds 79 = .ok (.goto 5, 3) := by decide +kernel
theorem dX10_odds_82 : decode cX10_odds 82 = .ok (.iload 5, 2) := by decide +kernel
theorem dX10_odds_84 : decode cX10_odds 84 = .ok (.iload 6, 2) := by decide +kernel
theorem dX10_odds_86 : decode cX10_odds 86 = .ok (.idiv, 1) := by decide +kernel
theorem dX10_odds_87 : decode cX10_odds 87 = .ok (.ireturn, 1) := by decide +kernel
theorem dX10_likeliest_0 : decode cX10_likeliest 0 = .ok (.aload_n 0, 1) := by decide +kernel
theorem dX10_likeliest_1 : decode cX10_likeliest 1 = .ok (.getfield 19, 3) := by decide +kernel
theorem dX10_likeliest_4 : decode cX10_likeliest 4 = .ok (.iload_n 1, 1) := by decide +kernel
theorem dX10_likeliest_5 : decode cX10_likeliest 5 = .ok (.invokevirtual 144, 3) := by decide +kernel
theorem dX10_likeliest_8 : decode cX10_likeliest 8 = .ok (.ifCond .eq 17, 3) := by decide +kernel
theorem dX10_likeliest_11 : decode cX10_likeliest 11 = .ok (.aload_n 0, 1) := by decide +kernel
theorem dX10_likeliest_12 : decode cX10_likeliest 12 = .ok (.getfield 26, 3) := by decide +kernel
theorem dX10_likeliest_15 : decode cX10_likeliest 15 = .ok (.getfield 151, 3) := by decide +kernel
theorem dX10_likeliest_18 : decode cX10_likeliest 18 = .ok (.iload_n 1, 1) := by decide +kernel
theorem dX10_likeliest_19 : decode cX10_likeliest 19 = .ok (.invokevirtual 168, 3) := by decide +kernel
theorem dX10_likeliest_22 : decode cX10_likeliest 22 = .ok (.goto 5, 3) := by decide +kernel
theorem dX10_likeliest_25 : decode cX10_likeliest 25 = .ok (.ldc 150, 2) := by decide +kernel
theorem dX10_likeliest_27 : decode cX10_likeliest 27 = .ok (.ireturn, 1) := by decide +kernel
theorem dX10_loaf_0 : decode cX10_loaf 0 = .ok (.aload_n 0, 1) := by decide +kernel
theorem dX10_loaf_1 : decode cX10_loaf 1 = .ok (.getfield 19, 3) := by decide +kernel
theorem dX10_loaf_4 : decode cX10_loaf 4 = .ok (.iload_n 1, 1) := by decide +kernel
theorem dX10_loaf_5 : decode cX10_loaf 5 = .ok (.invokevirtual 171, 3) := by decide +kernel
theorem dX10_loaf_8 : decode cX10_loaf 8 = .ok (.ifCond .ne 6, 3) := by decide +kernel
theorem dX10_loaf_11 : decode cX10_loaf 11 = .ok (.ldc 150, 2) := by decide +kernel
theorem dX10_loaf_13 : decode cX10_loaf 13 = .ok (.ireturn, 1) := by decide +kernel
theorem dX10_loaf_14 : decode cX10_loaf 14 = .ok (.iload_n 2, 1) := by decide +kernel
theorem dX10_loaf_15 : decode cX10_loaf 15 = .ok (.tableswitch 99 0 5 #[37, 47, 57, 67, 77, 87], 37) := by decide +kernel
theorem dX10_loaf_52 : decode cX10_loaf 52 = .ok (.aload_n 0, 1) := by decide +kernel
theorem dX10_loaf_53 : decode cX10_loaf 53 = .ok (.getfield 19, 3) := by decide +kernel
theorem dX10_loaf_56 : decode cX10_loaf 56 = .ok (.getfield 174, 3) := by decide +kernel
theorem dX10_loaf_59 : decode cX10_loaf 59 = .ok (.iload_n 1, 1) := by decide +kernel
theorem dX10_loaf_60 : decode cX10_loaf 60 = .ok (.iaload, 1) := by decide +kernel
theorem dX10_loaf_61 : decode cX10_loaf 61 = .ok (.ireturn, 1) := by decide +kernel
theorem dX10_loaf_62 : decode cX10_loaf 62 = .ok (.aload_n 0, 1) := by decide +kernel
theorem dX10_loaf_63 : decode cX10_loaf 63 = .ok (.getfield 19, 3) := by decide +kernel
theorem dX10_loaf_66 : decode cX10_loaf 66 = .ok (.getfield 178, 3) := by decide +kernel
theorem dX10_loaf_69 : decode cX10_loaf 69 = .ok (.iload_n 1, 1) := by decide +kernel
theorem dX10_loaf_70 : decode cX10_loaf 70 = .ok (.iaload, 1) := by decide +kernel
theorem dX10_loaf_71 : decode cX10_loaf 71 = .ok (.ireturn, 1) := by decide +kernel
theorem dX10_loaf_72 : decode cX10_loaf 72 = .ok (.aload_n 0, 1) := by decide +kernel
theorem dX10_loaf_73 : decode cX10_loaf 73 = .ok (.getfield 19, 3) := by decide +kernel
theorem dX10_loaf_76 : decode cX10_loaf 76 = .ok (.getfield 181, 3) := by decide +kernel
theorem dX10_loaf_79 : decode cX10_loaf 79 = .ok (.iload_n 1, 1) := by decide +kernel
theorem dX10_loaf_80 : decode cX10_loaf 80 = .ok (.iaload, 1) := by decide +kernel
theorem dX10_loaf_81 : decode cX10_loaf 81 = .ok (.ireturn, 1) := by decide +kernel
theorem dX10_loaf_82 : decode cX10_loaf 82 = .ok (.aload_n 0, 1) := by decide +kernel
theorem dX10_loaf_83 : decode cX10_loaf 83 = .ok (.getfield 26, 3) := by decide +kernel
theorem dX10_loaf_86 : decode cX10_loaf 86 = .ok (.getfield 184, 3) := by decide +kernel
theorem dX10_loaf_89 : decode cX10_loaf 89 = .ok (.iload_n 1, 1) := by decide +kernel
theorem dX10_loaf_90 : decode cX10_loaf 90 = .ok (.iaload, 1) := by decide +kernel
theorem dX10_loaf_91 : decode cX10_loaf 91 = .ok (.ireturn, 1) := by decide +kernel
theorem dX10_loaf_92 : decode cX10_loaf 92 = .ok (.aload_n 0, 1) := by decide +kernel
theorem dX10_loaf_93 : decode cX10_loaf 93 = .ok (.getfield 26, 3) := by decide +kernel
theorem dX10_loaf_96 : decode cX10_loaf 96 = .ok (.getfield 187, 3) := by decide +kernel
theorem dX10_loaf_99 : decode cX10_loaf 99 = .ok (.iload_n 1, 1) := by decide +kernel
theorem dX10_loaf_100 : decode cX10_loaf 100 = .ok (.iaload, 1) := by decide +kernel
theorem dX10_loaf_101 : decode cX10_loaf 101 = .ok (.ireturn, 1) := by decide +kernel
theorem dX10_loaf_102 : decode cX10_loaf 102 = .ok (.aload_n 0, 1) := by decide +kernel
theorem dX10_loaf_103 : decode cX10_loaf 103 = .ok (.getfield 26, 3) := by decide +kernel
theorem dX10_loaf_106 : decode cX10_loaf 106 = .ok (.getfield 141, 3) := by decide +kernel
theorem dX10_loaf_109 : decode cX10_loaf 109 = .ok (.iload_n 1, 1) := by decide +kernel
theorem dX10_loaf_110 : decode cX10_loaf 110 = .ok (.invokestatic 190, 3) := by decide +kernel
theorem dX10_loaf_113 : decode cX10_loaf 113 = .ok (.ireturn, 1) := by decide +kernel
theorem dX10_loaf_114 : decode cX10_loaf 114 = .ok (.ldc 83, 2) := by decide +kernel
theorem dX10_loaf_116 : decode cX10_loaf 116 = .ok (.ireturn, 1) := by decide +kernel
theorem dX10_worth_0 : decode cX10_worth 0 = .ok (.aload_n 0, 1) := by decide +kernel
theorem dX10_worth_1 : decode cX10_worth 1 = .ok (.getfield 19, 3) := by decide +kernel
theorem dX10_worth_4 : decode cX10_worth 4 = .ok (.iload_n 1, 1) := by decide +kernel
theorem dX10_worth_5 : decode cX10_worth 5 = .ok (.invokevirtual 171, 3) := by decide +kernel
theorem dX10_worth_8 : decode cX10_worth 8 = .ok (.ifCond .eq 14, 3) := by decide +kernel
theorem dX10_worth_11 : decode cX10_worth 11 = .ok (.aload_n 0, 1) := by decide +kernel
theorem dX10_worth_12 : decode cX10_worth 12 = .ok (.getfield 19, 3) := by decide +kernel
theorem dX10_worth_15 : decode cX10_worth 15 = .ok (.iload_n 2, 1) := by decide +kernel
theorem dX10_worth_16 : decode cX10_worth 16 = .ok (.invokevirtual 144, 3) := by decide +kernel
theorem dX10_worth_19 : decode cX10_worth 19 = .ok (.ifCond .ne 6, 3) := by decide +kernel
theorem dX10_worth_22 : decode cX10_worth 22 = .ok (.ldc 150, 2) := by decide +kernel
theorem dX10_worth_24 : decode cX10_worth 24 = .ok (.ireturn, 1) := by decide +kernel
theorem dX10_worth_25 : decode cX10_worth 25 = .ok (.aload_n 0, 1) := by decide +kernel
theorem dX10_worth_26 : decode cX10_worth 26 = .ok (.getfield 19, 3) := by decide +kernel
theorem dX10_worth_29 : decode cX10_worth 29 = .ok (.getfield 174, 3) := by decide +kernel
theorem dX10_worth_32 : decode cX10_worth 32 = .ok (.iload_n 1, 1) := by decide +kernel
theorem dX10_worth_33 : decode cX10_worth 33 = .ok (.iaload, 1) := by decide +kernel
theorem dX10_worth_34 : decode cX10_worth 34 = .ok (.iload_n 2, 1) := by decide +kernel
theorem dX10_worth_35 : decode cX10_worth 35 = .ok (.if_icmp .ne 8, 3) := by decide +kernel
theorem dX10_worth_38 : decode cX10_worth 38 = .ok (.ldc 193, 2) := by decide +kernel
theorem dX10_worth_40 : decode cX10_worth 40 = .ok (.goto 16, 3) := by decide +kernel
theorem dX10_worth_43 : decode cX10_worth 43 = .ok (.aload_n 0, 1) := by decide +kernel
theorem dX10_worth_44 : decode cX10_worth 44 = .ok (.getfield 26, 3) := by decide +kernel
theorem dX10_worth_47 : decode cX10_worth 47 = .ok (.aload_n 0, 1) := by decide +kernel
theorem dX10_worth_48 : decode cX10_worth 48 = .ok (.getfield 19, 3) := by decide +kernel
theorem dX10_worth_51 : decode cX10_worth 51 = .ok (.iload_n 1, 1) := by decide +kernel
theorem dX10_worth_52 : decode cX10_worth 52 = .ok (.iload_n 2, 1) := by decide +kernel
theorem dX10_worth_53 : decode cX10_worth 53 = .ok (.invokevirtual 194, 3) := by decide +kernel
theorem dX10_worth_56 : decode cX10_worth 56 = .ok (.ireturn, 1) := by decide +kernel
theorem dX10_lay_0 : decode cX10_lay 0 = .ok (.aload_n 0, 1) := by decide +kernel
theorem dX10_lay_1 : decode cX10_lay 1 = .ok (.getfield 19, 3) := by decide +kernel
theorem dX10_lay_4 : decode cX10_lay 4 = .ok (.iload_n 1, 1) := by decide +kernel
theorem dX10_lay_5 : decode cX10_lay 5 = .ok (.invokevirtual 171, 3) := by decide +kernel
theorem dX10_lay_8 : decode cX10_lay 8 = .ok (.ifCond .eq 14, 3) := by decide +kernel
theorem dX10_lay_11 : decode cX10_lay 11 = .ok (.aload_n 0, 1) := by decide +kernel
theorem dX10_lay_12 : decode cX10_lay 12 = .ok (.getfield 19, 3) := by decide +kernel
theorem dX10_lay_15 : decode cX10_lay 15 = .ok (.iload_n 2, 1) := by decide +kernel
theorem dX10_lay_16 : decode cX10_lay 16 = .ok (.invokevirtual 144, 3) := by decide +kernel
theorem dX10_lay_19 : decode cX10_lay 19 = .ok (.ifCond .ne 6, 3) := by decide +kernel
theorem dX10_lay_22 : decode cX10_lay 22 = .ok (.ldc 150, 2) := by decide +kernel
theorem dX10_lay_24 : decode cX10_lay 24 = .ok (.ireturn, 1) := by decide +kernel
theorem dX10_lay_25 : decode cX10_lay 25 = .ok (.aload_n 0, 1) := by decide +kernel
theorem dX10_lay_26 : decode cX10_lay 26 = .ok (.getfield 26, 3) := by decide +kernel
theorem dX10_lay_29 : decode cX10_lay 29 = .ok (.iload_n 1, 1) := by decide +kernel
theorem dX10_lay_30 : decode cX10_lay 30 = .ok (.invokevirtual 198, 3) := by decide +kernel
theorem dX10_lay_33 : decode cX10_lay 33 = .ok (.ifCond .eq 20, 3) := by decide +kernel
theorem dX10_lay_36 : decode cX10_lay 36 = .ok (.aload_n 0, 1) := by decide +kernel
theorem dX10_lay_37 : decode cX10_lay 37 = .ok (.getfield 26, 3) := by decide +kernel
theorem dX10_lay_40 : decode cX10_lay 40 = .ok (.getfield 184, 3) := by decide +kernel
theorem dX10_lay_43 : decode cX10_lay 43 = .ok (.iload_n 1, 1) := by decide +kernel
theorem dX10_lay_44 : decode cX10_lay 44 = .ok (.iaload, 1) := by decide +kernel
theorem dX10_lay_45 : decode cX10_lay 45 = .ok (.iconst (-1), 1) := by decide +kernel
theorem dX10_lay_46 : decode cX10_lay 46 = .ok (.if_icmp .ne 7, 3) := by decide +kernel
theorem dX10_lay_49 : decode cX10_lay 49 = .ok (.iconst 1, 1) := by decide +kernel
theorem dX10_lay_50 : decode cX10_lay 50 = .ok (.goto 4, 3) := by decide +kernel
theorem dX10_lay_53 : decode cX10_lay 53 = .ok (.iconst 0, 1) := by decide +kernel
theorem dX10_lay_54 : decode cX10_lay 54 = .ok (.istore_n 3, 1) := by decide +kernel
theorem dX10_lay_55 : decode cX10_lay 55 = .ok (.iload_n 3, 1) := by decide +kernel
theorem dX10_lay_56 : decode cX10_lay 56 = .ok (.ifCond .eq 28, 3) := by decide +kernel
theorem dX10_lay_59 : decode cX10_lay 59 = .ok (.aload_n 0, 1) := by decide +kernel
theorem dX10_lay_60 : decode cX10_lay 60 = .ok (.getfield 19, 3) := by decide +kernel
theorem dX10_lay_63 : decode cX10_lay 63 = .ok (.getfield 174, 3) := by decide +kernel
theorem dX10_lay_66 : decode cX10_lay 66 = .ok (.iload_n 1, 1) := by decide +kernel
theorem dX10_lay_67 : decode cX10_lay 67 = .ok (.iaload, 1) := by decide +kernel
theorem dX10_lay_68 : decode cX10_lay 68 = .ok (.iload_n 2, 1) := by decide +kernel
theorem dX10_lay_69 : decode cX10_lay 69 = .ok (.if_icmp .eq 15, 3) := by decide +kernel
theorem dX10_lay_72 : decode cX10_lay 72 = .ok (.aload_n 0, 1) := by decide +kernel
theorem dX10_lay_73 : decode cX10_lay 73 = .ok (.getfield 26, 3) := by decide +kernel
theorem dX10_lay_76 : decode cX10_lay 76 = .ok (.iload_n 2, 1) := by decide +kernel
theorem dX10_lay_77 : decode cX10_lay 77 = .ok (.invokevirtual 201, 3) := by decide +kernel
theorem dX10_lay_80 : decode cX10_lay 80 = .ok (.iconst (-1), 1) := by decide +kernel
theorem dX10_lay_81 : decode cX10_lay 81 = .ok (.if_icmp .eq 6, 3) := by decide +kernel
theorem dX10_lay_84 : decode cX10_lay 84 = .ok (.ldc 193, 2) := by decide +kernel
theorem dX10_lay_86 : decode cX10_lay 86 = .ok (.ireturn, 1) := by decide +kernel
theorem dX10_lay_87 : decode cX10_lay 87 = .ok (.aload_n 0, 1) := by decide +kernel
theorem dX10_lay_88 : decode cX10_lay 88 = .ok (.getfield 26, 3) := by decide +kernel
theorem dX10_lay_91 : decode cX10_lay 91 = .ok (.getfield 184, 3) := by decide +kernel
theorem dX10_lay_94 : decode cX10_lay 94 = .ok (.iload_n 1, 1) := by decide +kernel
theorem dX10_lay_95 : decode cX10_lay 95 = .ok (.iload_n 2, 1) := by decide +kernel
theorem dX10_lay_96 : decode cX10_lay 96 = .ok (.iastore, 1) := by decide +kernel
theorem dX10_lay_97 : decode cX10_lay 97 = .ok (.aload_n 0, 1) := by decide +kernel
theorem dX10_lay_98 : decode cX10_lay 98 = .ok (.getfield 26, 3) := by decide +kernel
theorem dX10_lay_101 : decode cX10_lay 101 = .ok (.invokevirtual 135, 3) := by decide +kernel
theorem dX10_lay_104 : decode cX10_lay 104 = .ok (.ireturn, 1) := by decide +kernel
theorem dX10_takeOff_0 : decode cX10_takeOff 0 = .ok (.aload_n 0, 1) := by decide +kernel
theorem dX10_takeOff_1 : decode cX10_takeOff 1 = .ok (.getfield 19, 3) := by decide +kernel
theorem dX10_takeOff_4 : decode cX10_takeOff 4 = .ok (.iload_n 1, 1) := by decide +kernel
theorem dX10_takeOff_5 : decode cX10_takeOff 5 = .ok (.invokevirtual 171, 3) := by decide +kernel
theorem dX10_takeOff_8 : decode cX10_takeOff 8 = .ok (.ifCond .ne 6, 3) := by decide +kernel
theorem dX10_takeOff_11 : decode cX10_takeOff 11 = .ok (.ldc 150, 2) := by decide +kernel
theorem dX10_takeOff_13 : decode cX10_takeOff 13 = .ok (.ireturn, 1) := by decide +kernel
theorem dX10_takeOff_14 : decode cX10_takeOff 14 = .ok (.aload_n 0, 1) := by decide +kernel
theorem dX10_takeOff_15 : decode cX10_takeOff 15 = .ok (.getfield 26, 3) := by decide +kernel
theorem dX10_takeOff_18 : decode cX10_takeOff 18 = .ok (.getfield 184, 3) := by decide +kernel
theorem dX10_takeOff_21 : decode cX10_takeOff 21 = .ok (.iload_n 1, 1) := by decide +kernel
theorem dX10_takeOff_22 : decode cX10_takeOff 22 = .ok (.iaload, 1) := by decide +kernel
theorem dX10_takeOff_23 : decode cX10_takeOff 23 = .ok (.istore_n 2, 1) := by decide +kernel
theorem dX10_takeOff_24 : decode cX10_takeOff 24 = .ok (.iload_n 2, 1) := by decide +kernel
theorem dX10_takeOff_25 : decode cX10_takeOff 25 = .ok (.iconst (-1), 1) := by decide +kernel
theorem dX10_takeOff_26 : decode cX10_takeOff 26 = .ok (.if_icmp .ne 6, 3) := by decide +kernel
theorem dX10_takeOff_29 : decode cX10_takeOff 29 = .ok (.ldc 193, 2) := by decide +kernel
theorem dX10_takeOff_31 : decode cX10_takeOff 31 = .ok (.ireturn, 1) := by decide +kernel
theorem dX10_takeOff_32 : decode cX10_takeOff 32 = .ok (.aload_n 0, 1) := by decide +kernel
theorem dX10_takeOff_33 : decode cX10_takeOff 33 = .ok (.getfield 26, 3) := by decide +kernel
theorem dX10_takeOff_36 : decode cX10_takeOff 36 = .ok (.getfield 184, 3) := by decide +kernel
theorem dX10_takeOff_39 : decode cX10_takeOff 39 = .ok (.iload_n 1, 1) := by decide +kernel
theorem dX10_takeOff_40 : decode cX10_takeOff 40 = .ok (.iconst (-1), 1) := by decide +kernel
theorem dX10_takeOff_41 : decode cX10_takeOff 41 = .ok (.iastore, 1) := by decide +kernel
theorem dX10_takeOff_42 : decode cX10_takeOff 42 = .ok (.iload_n 2, 1) := by decide +kernel
theorem dX10_takeOff_43 : decode cX10_takeOff 43 = .ok (.ireturn, 1) := by decide +kernel
theorem dX10_wake_0 : decode cX10_wake 0 = .ok (.aload_n 0, 1) := by decide +kernel
theorem dX10_wake_1 : decode cX10_wake 1 = .ok (.getfield 19, 3) := by decide +kernel
theorem dX10_wake_4 : decode cX10_wake 4 = .ok (.iload_n 1, 1) := by decide +kernel
theorem dX10_wake_5 : decode cX10_wake 5 = .ok (.invokevirtual 144, 3) := by decide +kernel
theorem dX10_wake_8 : decode cX10_wake 8 = .ok (.ifCond .ne 6, 3) := by decide +kernel
theorem dX10_wake_11 : decode cX10_wake 11 = .ok (.ldc 150, 2) := by decide +kernel
theorem dX10_wake_13 : decode cX10_wake 13 = .ok (.ireturn, 1) := by decide +kernel
theorem dX10_wake_14 : decode cX10_wake 14 = .ok (.aload_n 0, 1) := by decide +kernel
theorem dX10_wake_15 : decode cX10_wake 15 = .ok (.getfield 26, 3) := by decide +kernel
theorem dX10_wake_18 : decode cX10_wake 18 = .ok (.getfield 132, 3) := by decide +kernel
theorem dX10_wake_21 : decode cX10_wake 21 = .ok (.iload_n 1, 1) := by decide +kernel
theorem dX10_wake_22 : decode cX10_wake 22 = .ok (.invokestatic 190, 3) := by decide +kernel
theorem dX10_wake_25 : decode cX10_wake 25 = .ok (.istore_n 3, 1) := by decide +kernel
theorem dX10_wake_26 : decode cX10_wake 26 = .ok (.aload_n 0, 1) := by decide +kernel
theorem dX10_wake_27 : decode cX10_wake 27 = .ok (.getfield 26, 3) := by decide +kernel
theorem dX10_wake_30 : decode cX10_wake 30 = .ok (.iload_n 2, 1) := by decide +kernel
theorem dX10_wake_31 : decode cX10_wake 31 = .ok (.ifCond .eq 17, 3) := by decide +kernel
theorem dX10_wake_34 : decode cX10_wake 34 = .ok (.aload_n 0, 1) := by decide +kernel
theorem dX10_wake_35 : decode cX10_wake 35 = .ok (.getfield 26, 3) := by decide +kernel
theorem dX10_wake_38 : decode cX10_wake 38 = .ok (.getfield 132, 3) := by decide +kernel
theorem dX10_wake_41 : decode cX10_wake 41 = .ok (.iconst 1, 1) := by decide +kernel
theorem dX10_wake_42 : decode cX10_wake 42 = .ok (.iload_n 1, 1) := by decide +kernel
theorem dX10_wake_43 : decode cX10_wake 43 = .ok (.ishl, 1) := by decide +kernel
theorem dX10_wake_44 : decode cX10_wake 44 = .ok (.ior, 1) := by decide +kernel
theorem dX10_wake_45 : decode cX10_wake 45 = .ok (.goto 16, 3) := by decide +kernel
theorem dX10_wake_48 : decode cX10_wake 48 = .ok (.aload_n 0, 1) := by decide +kernel
theorem dX10_wake_49 : decode cX10_wake 49 = .ok (.getfield 26, 3) := by decide +kernel
theorem dX10_wake_52 : decode cX10_wake 52 = .ok (.getfield 132, 3) := by decide +kernel
theorem dX10_wake_55 : decode cX10_wake 55 = .ok (.iconst 1, 1) := by decide +kernel
theorem dX10_wake_56 : decode cX10_wake 56 = .ok (.iload_n 1, 1) := by decide +kernel
theorem dX10_wake_57 : decode cX10_wake 57 = .ok (.ishl, 1) := by decide +kernel
theorem dX10_wake_58 : decode cX10_wake 58 = .ok (.iconst (-1), 1) := by decide +kernel
theorem dX10_wake_59 : decode cX10_wake 59 = .ok (.ixor, 1) := by decide +kernel
theorem dX10_wake_60 : decode cX10_wake 60 = .ok (.iand, 1) := by decide +kernel
theorem dX10_wake_61 : decode cX10_wake 61 = .ok (.putfield 132, 3) := by decide +kernel
theorem dX10_wake_64 : decode cX10_wake 64 = .ok (.iload_n 3, 1) := by decide +kernel
theorem dX10_wake_65 : decode cX10_wake 65 = .ok (.ireturn, 1) := by decide +kernel
theorem dX10_night_0 : decode cX10_night 0 = .ok (.iload_n 1, 1) := by decide +kernel
theorem dX10_night_1 : decode cX10_night 1 = .ok (.iconst 1, 1) := by decide +kernel
theorem dX10_night_2 : decode cX10_night 2 = .ok (.if_icmp .lt 9, 3) := by decide +kernel
theorem dX10_night_5 : decode cX10_night 5 = .ok (.iload_n 1, 1) := by decide +kernel
theorem dX10_night_6 : decode cX10_night 6 = .ok (.bipush 30, 2) := by decide +kernel
theorem dX10_night_8 : decode cX10_night 8 = .ok (.if_icmp .le 6, 3) := by decide +kernel
theorem dX10_night_11 : decode cX10_night 11 = .ok (.ldc 83, 2) := by decide +kernel
theorem dX10_night_13 : decode cX10_night 13 = .ok (.ireturn, 1) := by decide +kernel
theorem dX10_night_14 : decode cX10_night 14 = .ok (.aload_n 0, 1) := by decide +kernel
theorem dX10_night_15 : decode cX10_night 15 = .ok (.getfield 19, 3) := by decide +kernel
theorem dX10_night_18 : decode cX10_night 18 = .ok (.getfield 114, 3) := by decide +kernel
theorem dX10_night_21 : decode cX10_night 21 = .ok (.ifCond .ne 6, 3) := by decide +kernel
theorem dX10_night_24 : decode cX10_night 24 = .ok (.ldc 193, 2) := by decide +kernel
theorem dX10_night_26 : decode cX10_night 26 = .ok (.ireturn, 1) := by decide +kernel
theorem dX10_night_27 : decode cX10_night 27 = .ok (.aload_n 0, 1) := by decide +kernel
theorem dX10_night_28 : decode cX10_night 28 = .ok (.getfield 26, 3) := by decide +kernel
theorem dX10_night_31 : decode cX10_night 31 = .ok (.getfield 126, 3) := by decide +kernel
theorem dX10_night_34 : decode cX10_night 34 = .ok (.ldc 204, 2) := by decide +kernel
theorem dX10_night_36 : decode cX10_night 36 = .ok (.if_icmp .le 6, 3) := by decide +kernel
theorem dX10_night_39 : decode cX10_night 39 = .ok (.ldc 91, 2) := by decide +kernel
theorem dX10_night_41 : decode cX10_night 41 = .ok (.ireturn, 1) := by decide +kernel
theorem dX10_night_42 : decode cX10_night 42 = .ok (.iconst 0, 1) := by decide +kernel
theorem dX10_night_43 : decode cX10_night 43 = .ok (.istore_n 2, 1) := by decide +kernel
theorem dX10_night_44 : decode cX10_night 44 = .ok (.iload_n 2, 1) := by decide +kernel
theorem dX10_night_45 : decode cX10_night 45 = .ok (.iload_n 1, 1) := by decide +kernel
theorem dX10_night_46 : decode cX10_night 46 = .ok (.if_icmp .ge 20, 3) := by decide +kernel
theorem dX10_night_49 : decode cX10_night 49 = .ok (.aload_n 0, 1) := by decide +kernel
theorem dX10_night_50 : decode cX10_night 50 = .ok (.getfield 26, 3) := by decide +kernel
theorem dX10_night_53 : decode cX10_night 53 = .ok (.aload_n 0, 1) := by decide +kernel
theorem dX10_night_54 : decode cX10_night 54 = .ok (.getfield 19, 3) := by decide +kernel
theorem dX10_night_57 : decode cX10_night 57 = .ok (.invokevirtual 205, 3) := by decide +kernel
theorem dX10_night_60 : decode cX10_night 60 = .ok (.iinc 2 1, 3) := by decide +kernel
theorem dX10_night_63 : decode cX10_night 63 = .ok (.goto (-19), 3) := by decide +kernel
theorem dX10_night_66 : decode cX10_night 66 = .ok (.aload_n 0, 1) := by decide +kernel
theorem dX10_night_67 : decode cX10_night 67 = .ok (.getfield 26, 3) := by decide +kernel
theorem dX10_night_70 : decode cX10_night 70 = .ok (.invokevirtual 138, 3) := by decide +kernel
theorem dX10_night_73 : decode cX10_night 73 = .ok (.ireturn, 1) := by decide +kernel
theorem dX10_eat_0 : decode cX10_eat 0 = .ok (.aload_n 0, 1) := by decide +kernel
theorem dX10_eat_1 : decode cX10_eat 1 = .ok (.getfield 19, 3) := by decide +kernel
theorem dX10_eat_4 : decode cX10_eat 4 = .ok (.iload_n 1, 1) := by decide +kernel
theorem dX10_eat_5 : decode cX10_eat 5 = .ok (.invokevirtual 171, 3) := by decide +kernel
theorem dX10_eat_8 : decode cX10_eat 8 = .ok (.ifCond .ne 6, 3) := by decide +kernel
theorem dX10_eat_11 : decode cX10_eat 11 = .ok (.ldc 150, 2) := by decide +kernel
theorem dX10_eat_13 : decode cX10_eat 13 = .ok (.ireturn, 1) := by decide +kernel
theorem dX10_eat_14 : decode cX10_eat 14 = .ok (.aload_n 0, 1) := by decide +kernel
theorem dX10_eat_15 : decode cX10_eat 15 = .ok (.getfield 26, 3) := by decide +kernel
theorem dX10_eat_18 : decode cX10_eat 18 = .ok (.iload_n 1, 1) := by decide +kernel
theorem dX10_eat_19 : decode cX10_eat 19 = .ok (.invokevirtual 198, 3) := by decide +kernel
theorem dX10_eat_22 : decode cX10_eat 22 = .ok (.ifCond .eq 6, 3) := by decide +kernel
theorem dX10_eat_25 : decode cX10_eat 25 = .ok (.ldc 193, 2) := by decide +kernel
theorem dX10_eat_27 : decode cX10_eat 27 = .ok (.ireturn, 1) := by decide +kernel
theorem dX10_eat_28 : decode cX10_eat 28 = .ok (.aload_n 0, 1) := by decide +kernel
theorem dX10_eat_29 : decode cX10_eat 29 = .ok (.getfield 26, 3) := by decide +kernel
theorem dX10_eat_32 : decode cX10_eat 32 = .ok (.aload_n 0, 1) := by decide +kernel
theorem dX10_eat_33 : decode cX10_eat 33 = .ok (.getfield 19, 3) := by decide +kernel
theorem dX10_eat_36 : decode cX10_eat 36 = .ok (.iload_n 1, 1) := by decide +kernel
theorem dX10_eat_37 : decode cX10_eat 37 = .ok (.invokevirtual 208, 3) := by decide +kernel
theorem dX10_eat_40 : decode cX10_eat 40 = .ok (.aload_n 0, 1) := by decide +kernel
theorem dX10_eat_41 : decode cX10_eat 41 = .ok (.getfield 26, 3) := by decide +kernel
theorem dX10_eat_44 : decode cX10_eat 44 = .ok (.getfield 129, 3) := by decide +kernel
theorem dX10_eat_47 : decode cX10_eat 47 = .ok (.ireturn, 1) := by decide +kernel
theorem dX10_salt_0 : decode cX10_salt 0 = .ok (.aload_n 0, 1) := by decide +kernel
theorem dX10_salt_1 : decode cX10_salt 1 = .ok (.getfield 19, 3) := by decide +kernel
theorem dX10_salt_4 : decode cX10_salt 4 = .ok (.iload_n 1, 1) := by decide +kernel
theorem dX10_salt_5 : decode cX10_salt 5 = .ok (.invokevirtual 171, 3) := by decide +kernel
theorem dX10_salt_8 : decode cX10_salt 8 = .ok (.ifCond .ne 6, 3) := by decide +kernel
theorem dX10_salt_11 : decode cX10_salt 11 = .ok (.ldc 150, 2) := by decide +kernel
theorem dX10_salt_13 : decode cX10_salt 13 = .ok (.ireturn, 1) := by decide +kernel
theorem dX10_salt_14 : decode cX10_salt 14 = .ok (.aload_n 0, 1) := by decide +kernel
theorem dX10_salt_15 : decode cX10_salt 15 = .ok (.getfield 26, 3) := by decide +kernel
theorem dX10_salt_18 : decode cX10_salt 18 = .ok (.getfield 141, 3) := by decide +kernel
theorem dX10_salt_21 : decode cX10_salt 21 = .ok (.iload_n 1, 1) := by decide +kernel
theorem dX10_salt_22 : decode cX10_salt 22 = .ok (.invokestatic 190, 3) := by decide +kernel
theorem dX10_salt_25 : decode cX10_salt 25 = .ok (.istore_n 2, 1) := by decide +kernel
theorem dX10_salt_26 : decode cX10_salt 26 = .ok (.aload_n 0, 1) := by decide +kernel
theorem dX10_salt_27 : decode cX10_salt 27 = .ok (.getfield 26, 3) := by decide +kernel
theorem dX10_salt_30 : decode cX10_salt 30 = .ok (.dup, 1) := by decide +kernel
theorem dX10_salt_31 : decode cX10_salt 31 = .ok (.getfield 141, 3) := by decide +kernel
theorem dX10_salt_34 : decode cX10_salt 34 = .ok (.iconst 1, 1) := by decide +kernel
theorem dX10_salt_35 : decode cX10_salt 35 = .ok (.iload_n 1, 1) := by decide +kernel
theorem dX10_salt_36 : decode cX10_salt 36 = .ok (.ishl, 1) := by decide +kernel
theorem dX10_salt_37 : decode cX10_salt 37 = .ok (.ior, 1) := by decide +kernel
theorem dX10_salt_38 : decode cX10_salt 38 = .ok (.putfield 141, 3) := by decide +kernel
theorem dX10_salt_41 : decode cX10_salt 41 = .ok (.iload_n 2, 1) := by decide +kernel
theorem dX10_salt_42 : decode cX10_salt 42 = .ok (.ireturn, 1) := by decide +kernel
theorem dX10_beds_0 : decode cX10_beds 0 = .ok (.iload_n 1, 1) := by decide +kernel
theorem dX10_beds_1 : decode cX10_beds 1 = .ok (.iconst (-1), 1) := by decide +kernel
theorem dX10_beds_2 : decode cX10_beds 2 = .ok (.if_icmp .eq 17, 3) := by decide +kernel
theorem dX10_beds_5 : decode cX10_beds 5 = .ok (.aload_n 0, 1) := by decide +kernel
theorem dX10_beds_6 : decode cX10_beds 6 = .ok (.getfield 19, 3) := by decide +kernel
theorem dX10_beds_9 : decode cX10_beds 9 = .ok (.iload_n 1, 1) := by decide +kernel
theorem dX10_beds_10 : decode cX10_beds 10 = .ok (.invokevirtual 171, 3) := by decide +kernel
theorem dX10_beds_13 : decode cX10_beds 13 = .ok (.ifCond .ne 6, 3) := by decide +kernel
theorem dX10_beds_16 : decode cX10_beds 16 = .ok (.ldc 150, 2) := by decide +kernel
theorem dX10_beds_18 : decode cX10_beds 18 = .ok (.ireturn, 1) := by decide +kernel
theorem dX10_beds_19 : decode cX10_beds 19 = .ok (.aload_n 0, 1) := by decide +kernel
theorem dX10_beds_20 : decode cX10_beds 20 = .ok (.getfield 37, 3) := by decide +kernel
theorem dX10_beds_23 : decode cX10_beds 23 = .ok (.aload_n 0, 1) := by decide +kernel
theorem dX10_beds_24 : decode cX10_beds 24 = .ok (.getfield 19, 3) := by decide +kernel
theorem dX10_beds_27 : decode cX10_beds 27 = .ok (.aload_n 0, 1) := by decide +kernel
theorem dX10_beds_28 : decode cX10_beds 28 = .ok (.getfield 26, 3) := by decide +kernel
theorem dX10_beds_31 : decode cX10_beds 31 = .ok (.invokevirtual 212, 3) := by decide +kernel
theorem dX10_beds_34 : decode cX10_beds 34 = .ok (.iload_n 1, 1) := by decide +kernel
theorem dX10_beds_35 : decode cX10_beds 35 = .ok (.iconst (-1), 1) := by decide +kernel
theorem dX10_beds_36 : decode cX10_beds 36 = .ok (.if_icmp .ne 13, 3) := by decide +kernel
theorem dX10_beds_39 : decode cX10_beds 39 = .ok (.aload_n 0, 1) := by decide +kernel
theorem dX10_beds_40 : decode cX10_beds 40 = .ok (.getfield 37, 3) := by decide +kernel
theorem dX10_beds_43 : decode cX10_beds 43 = .ok (.getfield 216, 3) := by decide +kernel
theorem dX10_beds_46 : decode cX10_beds 46 = .ok (.goto 12, 3) := by decide +kernel
theorem dX10_beds_49 : decode cX10_beds 49 = .ok (.aload_n 0, 1) := by decide +kernel
theorem dX10_beds_50 : decode cX10_beds 50 = .ok (.getfield 37, 3) := by decide +kernel
theorem dX10_beds_53 : decode cX10_beds 53 = .ok (.getfield 219, 3) := by decide +kernel
theorem dX10_beds_56 : decode cX10_beds 56 = .ok (.iload_n 1, 1) := by decide +kernel
theorem dX10_beds_57 : decode cX10_beds 57 = .ok (.iaload, 1) := by decide +kernel
theorem dX10_beds_58 : decode cX10_beds 58 = .ok (.ireturn, 1) := by decide +kernel
theorem dX10_feedings_0 : decode cX10_feedings 0 = .ok (.aload_n 0, 1) := by decide +kernel
theorem dX10_feedings_1 : decode cX10_feedings 1 = .ok (.getfield 19, 3) := by decide +kernel
theorem dX10_feedings_4 : decode cX10_feedings 4 = .ok (.iload_n 1, 1) := by decide +kernel
theorem dX10_feedings_5 : decode cX10_feedings 5 = .ok (.invokevirtual 144, 3) := by decide +kernel
theorem dX10_feedings_8 : decode cX10_feedings 8 = .ok (.ifCond .eq 14, 3) := by decide +kernel
theorem dX10_feedings_11 : decode cX10_feedings 11 = .ok (.aload_n 0, 1) := by decide +kernel
theorem dX10_feedings_12 : decode cX10_feedings 12 = .ok (.getfield 19, 3) := by decide +kernel
theorem dX10_feedings_15 : decode cX10_feedings 15 = .ok (.iload_n 2, 1) := by decide +kernel
theorem dX10_feedings_16 : decode cX10_feedings 16 = .ok (.invokevirtual 147, 3) := by decide +kernel
theorem dX10_feedings_19 : decode cX10_feedings 19 = .ok (.ifCond .ne 6, 3) := by decide +kernel
theorem dX10_feedings_22 : decode cX10_feedings 22 = .ok (.ldc 150, 2) := by decide +kernel
theorem dX10_feedings_24 : decode cX10_feedings 24 = .ok (.ireturn, 1) := by decide +kernel
theorem dX10_feedings_25 : decode cX10_feedings 25 = .ok (.aload_n 0, 1) := by decide +kernel
theorem dX10_feedings_26 : decode cX10_feedings 26 = .ok (.getfield 44, 3) := by decide +kernel
theorem dX10_feedings_29 : decode cX10_feedings 29 = .ok (.aload_n 0, 1) := by decide +kernel
theorem dX10_feedings_30 : decode cX10_feedings 30 = .ok (.getfield 19, 3) := by decide +kernel
theorem dX10_feedings_33 : decode cX10_feedings 33 = .ok (.aload_n 0, 1) := by decide +kernel
theorem dX10_feedings_34 : decode cX10_feedings 34 = .ok (.getfield 26, 3) := by decide +kernel
theorem dX10_feedings_37 : decode cX10_feedings 37 = .ok (.iload_n 1, 1) := by decide +kernel
theorem dX10_feedings_38 : decode cX10_feedings 38 = .ok (.iload_n 2, 1) := by decide +kernel
theorem dX10_feedings_39 : decode cX10_feedings 39 = .ok (.invokevirtual 222, 3) := by decide +kernel
theorem dX10_feedings_42 : decode cX10_feedings 42 = .ok (.ireturn, 1) := by decide +kernel
theorem dX10_foretold_0 : decode cX10_foretold 0 = .ok (.aload_n 0, 1) := by decide +kernel
theorem dX10_foretold_1 : decode cX10_foretold 1 = .ok (.getfield 19, 3) := by decide +kernel
theorem dX10_foretold_4 : decode cX10_foretold 4 = .ok (.iload_n 1, 1) := by decide +kernel
theorem dX10_foretold_5 : decode cX10_foretold 5 = .ok (.invokevirtual 144, 3) := by decide +kernel
theorem dX10_foretold_8 : decode cX10_foretold 8 = .ok (.ifCond .eq 19, 3) := by decide +kernel
theorem dX10_foretold_11 : decode cX10_foretold 11 = .ok (.iload_n 2, 1) := by decide +kernel
theorem dX10_foretold_12 : decode cX10_foretold 12 = .ok (.iconst (-1), 1) := by decide +kernel
theorem dX10_foretold_13 : decode cX10_foretold 13 = .ok (.if_icmp .eq 17, 3) := by decide +kernel
theorem dX10_foretold_16 : decode cX10_foretold 16 = .ok (.aload_n 0, 1) := by decide +kernel
theorem dX10_foretold_17 : decode cX10_foretold 17 = .ok (.getfield 19, 3) := by decide +kernel
theorem dX10_foretold_20 : decode cX10_foretold 20 = .ok (.iload_n 2, 1) := by decide +kernel
theorem dX10_foretold_21 : decode cX10_foretold 21 = .ok (.invokevirtual 147, 3) := by decide +kernel
theorem dX10_foretold_24 : decode cX10_foretold 24 = .ok (.ifCond .ne 6, 3) := by decide +kernel
theorem dX10_foretold_27 : decode cX10_foretold 27 = .ok (.ldc 150, 2) := by decide +kernel
theorem dX10_foretold_29 : decode cX10_foretold 29 = .ok (.ireturn, 1) := by decide +kernel
theorem dX10_foretold_30 : decode cX10_foretold 30 = .ok (.iload_n 3, 1) := by decide +kernel
theorem dX10_foretold_31 : decode cX10_foretold 31 = .ok (.ifCond .lt 10, 3) := by decide +kernel
theorem dX10_foretold_34 : decode cX10_foretold 34 = .ok (.iload_n 3, 1) := by decide +kernel
theorem dX10_foretold_35 : decode cX10_foretold 35 = .ok (.sipush 200, 3) := by decide +kernel
theorem dX10_foretold_38 : decode cX10_foretold 38 = .ok (.if_icmp .le 6, 3) := by decide +kernel
theorem dX10_foretold_41 : decode cX10_foretold 41 = .ok (.ldc 83, 2) := by decide +kernel
theorem dX10_foretold_43 : decode cX10_foretold 43 = .ok (.ireturn, 1) := by decide +kernel
theorem dX10_foretold_44 : decode cX10_foretold 44 = .ok (.aload_n 0, 1) := by decide +kernel
theorem dX10_foretold_45 : decode cX10_foretold 45 = .ok (.getfield 37, 3) := by decide +kernel
theorem dX10_foretold_48 : decode cX10_foretold 48 = .ok (.aload_n 0, 1) := by decide +kernel
theorem dX10_foretold_49 : decode cX10_foretold 49 = .ok (.getfield 19, 3) := by decide +kernel
theorem dX10_foretold_52 : decode cX10_foretold 52 = .ok (.aload_n 0, 1) := by decide +kernel
theorem dX10_foretold_53 : decode cX10_foretold 53 = .ok (.getfield 26, 3) := by decide +kernel
theorem dX10_foretold_56 : decode cX10_foretold 56 = .ok (.invokevirtual 212, 3) := by decide +kernel
theorem dX10_foretold_59 : decode cX10_foretold 59 = .ok (.aload_n 0, 1) := by decide +kernel
theorem dX10_foretold_60 : decode cX10_foretold 60 = .ok (.getfield 44, 3) := by decide +kernel
theorem dX10_foretold_63 : decode cX10_foretold 63 = .ok (.aload_n 0, 1) := by decide +kernel
theorem dX10_foretold_64 : decode cX10_foretold 64 = .ok (.getfield 19, 3) := by decide +kernel
theorem dX10_foretold_67 : decode cX10_foretold 67 = .ok (.aload_n 0, 1) := by decide +kernel
theorem dX10_foretold_68 : decode cX10_foretold 68 = .ok (.getfield 26, 3) := by decide +kernel
theorem dX10_foretold_71 : decode cX10_foretold 71 = .ok (.aload_n 0, 1) := by decide +kernel
theorem dX10_foretold_72 : decode cX10_foretold 72 = .ok (.getfield 37, 3) := by decide +kernel
theorem dX10_foretold_75 : decode cX10_foretold 75 = .ok (.iconst 0, 1) := by decide +kernel
theorem dX10_foretold_76 : decode cX10_foretold 76 = .ok (.iload_n 3, 1) := by decide +kernel
theorem dX10_foretold_77 : decode cX10_foretold 77 = .ok (.invokevirtual 226, 3) := by decide +kernel
theorem dX10_foretold_80 : decode cX10_foretold 80 = .ok (.pop, 1) := by decide +kernel
theorem dX10_foretold_81 : decode cX10_foretold 81 = .ok (.iload_n 2, 1) := by decide +kernel
theorem dX10_foretold_82 : decode cX10_foretold 82 = .ok (.iconst (-1), 1) := by decide +kernel
theorem dX10_foretold_83 : decode cX10_foretold 83 = .ok (.if_icmp .ne 17, 3) := by decide +kernel
theorem dX10_foretold_86 : decode cX10_foretold 86 = .ok (.aload_n 0, 1) := by decide +kernel
theorem dX10_foretold_87 : decode cX10_foretold 87 = .ok (.getfield 44, 3) := by decide +kernel
theorem dX10_foretold_90 : decode cX10_foretold 90 = .ok (.getfield 230, 3) := by decide +kernel
theorem dX10_foretold_93 : decode cX10_foretold 93 = .ok (.iload_n 1, 1) := by decide +kernel
theorem dX10_foretold_94 : decode cX10_foretold 94 = .ok (.invokevirtual 168, 3) := by decide +kernel
theorem dX10_foretold_97 : decode cX10_foretold 97 = .ok (.goto 15, 3) := by decide +kernel
theorem dX10_foretold_100 : decode cX10_foretold 100 = .ok (.aload_n 0, 1) := by decide +kernel
theorem dX10_foretold_101 : decode cX10_foretold 101 = .ok (.getfield 44, 3) := by decide +kernel
theorem dX10_foretold_104 : decode cX10_foretold 104 = .ok (.getfield 230, 3) := by decide +kernel
theorem dX10_foretold_107 : decode cX10_foretold 107 = .ok (.iload_n 1, 1) := by decide +kernel
theorem dX10_foretold_108 : decode cX10_foretold 108 = .ok (.iload_n 2, 1) := by decide +kernel
theorem dX10_foretold_109 : decode cX10_foretold 109 = .ok (.invokevirtual 155, 3) := by decide +kernel
theorem dX10_foretold_112 : decode cX10_foretold 112 = .ok (.ireturn, 1) := by decide +kernel
theorem dX10_settled_0 : decode cX10_settled 0 = .ok (.aload_n 0, 1) := by decide +kernel
theorem dX10_settled_1 : decode cX10_settled 1 = .ok (.getfield 37, 3) := by decide +kernel
theorem dX10_settled_4 : decode cX10_settled 4 = .ok (.aload_n 0, 1) := by decide +kernel
theorem dX10_settled_5 : decode cX10_settled 5 = .ok (.getfield 19, 3) := by decide +kernel
theorem dX10_settled_8 : decode cX10_settled 8 = .ok (.aload_n 0, 1) := by decide +kernel
theorem dX10_settled_9 : decode cX10_settled 9 = .ok (.getfield 26, 3) := by decide +kernel
theorem dX10_settled_12 : decode cX10_settled 12 = .ok (.invokevirtual 212, 3) := by decide +kernel
theorem dX10_settled_15 : decode cX10_settled 15 = .ok (.aload_n 0, 1) := by decide +kernel
theorem dX10_settled_16 : decode cX10_settled 16 = .ok (.getfield 44, 3) := by decide +kernel
theorem dX10_settled_19 : decode cX10_settled 19 = .ok (.aload_n 0, 1) := by decide +kernel
theorem dX10_settled_20 : decode cX10_settled 20 = .ok (.getfield 19, 3) := by decide +kernel
theorem dX10_settled_23 : decode cX10_settled 23 = .ok (.aload_n 0, 1) := by decide +kernel
theorem dX10_settled_24 : decode cX10_settled 24 = .ok (.getfield 26, 3) := by decide +kernel
theorem dX10_settled_27 : decode cX10_settled 27 = .ok (.aload_n 0, 1) := by decide +kernel
theorem dX10_settled_28 : decode cX10_settled 28 = .ok (.getfield 37, 3) := by decide +kernel
theorem dX10_settled_31 : decode cX10_settled 31 = .ok (.iconst 0, 1) := by decide +kernel
theorem dX10_settled_32 : decode cX10_settled 32 = .ok (.sipush 201, 3) := by decide +kernel
theorem dX10_settled_35 : decode cX10_settled 35 = .ok (.invokevirtual 226, 3) := by decide +kernel
theorem dX10_settled_38 : decode cX10_settled 38 = .ok (.istore_n 1, 1) := by decide +kernel
theorem dX10_settled_39 : decode cX10_settled 39 = .ok (.iload_n 1, 1) := by decide +kernel
theorem dX10_settled_40 : decode cX10_settled 40 = .ok (.sipush 200, 3) := by decide +kernel
theorem dX10_settled_43 : decode cX10_settled 43 = .ok (.if_icmp .gt 7, 3) := by decide +kernel
theorem dX10_settled_46 : decode cX10_settled 46 = .ok (.iload_n 1, 1) := by decide +kernel
theorem dX10_settled_47 : decode cX10_settled 47 = .ok (.goto 4, 3) := by decide +kernel
theorem dX10_settled_50 : decode cX10_settled 50 = .ok (.iconst (-1), 1) := by decide +kernel
theorem dX10_settled_51 : decode cX10_settled 51 = .ok (.ireturn, 1) := by decide +kernel
theorem dX10_awake_0 : decode cX10_awake 0 = .ok (.iload_n 1, 1) := by decide +kernel
theorem dX10_awake_1 : decode cX10_awake 1 = .ok (.ifCond .lt 19, 3) := by decide +kernel
theorem dX10_awake_4 : decode cX10_awake 4 = .ok (.iload_n 1, 1) := by decide +kernel
theorem dX10_awake_5 : decode cX10_awake 5 = .ok (.sipush 200, 3) := by decide +kernel
theorem dX10_awake_8 : decode cX10_awake 8 = .ok (.if_icmp .gt 12, 3) := by decide +kernel
theorem dX10_awake_11 : decode cX10_awake 11 = .ok (.iload_n 2, 1) := by decide +kernel
theorem dX10_awake_12 : decode cX10_awake 12 = .ok (.ifCond .lt 8, 3) := by decide +kernel
theorem dX10_awake_15 : decode cX10_awake 15 = .ok (.iload_n 2, 1) := by decide +kernel
theorem dX10_awake_16 : decode cX10_awake 16 = .ok (.iconst 1, 1) := by decide +kernel
theorem dX10_awake_17 : decode cX10_awake 17 = .ok (.if_icmp .le 6, 3) := by decide +kernel
theorem dX10_awake_20 : decode cX10_awake 20 = .ok (.ldc 83, 2) := by decide +kernel
theorem dX10_awake_22 : decode cX10_awake 22 = .ok (.ireturn, 1) := by decide +kernel
theorem dX10_awake_23 : decode cX10_awake 23 = .ok (.aload_n 0, 1) := by decide +kernel
theorem dX10_awake_24 : decode cX10_awake 24 = .ok (.iload_n 1, 1) := by decide +kernel
theorem dX10_awake_25 : decode cX10_awake 25 = .ok (.invokevirtual 231, 3) := by decide +kernel
theorem dX10_awake_28 : decode cX10_awake 28 = .ok (.istore_n 3, 1) := by decide +kernel
theorem dX10_awake_29 : decode cX10_awake 29 = .ok (.iload_n 3, 1) := by decide +kernel
theorem dX10_awake_30 : decode cX10_awake 30 = .ok (.iconst (-1), 1) := by decide +kernel
theorem dX10_awake_31 : decode cX10_awake 31 = .ok (.if_icmp .eq 8, 3) := by decide +kernel
theorem dX10_awake_34 : decode cX10_awake 34 = .ok (.iload_n 2, 1) := by decide +kernel
theorem dX10_awake_35 : decode cX10_awake 35 = .ok (.iconst 1, 1) := by decide +kernel
theorem dX10_awake_36 : decode cX10_awake 36 = .ok (.if_icmp .ne 7, 3) := by decide +kernel
theorem dX10_awake_39 : decode cX10_awake 39 = .ok (.iload_n 3, 1) := by decide +kernel
theorem dX10_awake_40 : decode cX10_awake 40 = .ok (.goto 7, 3) := by decide +kernel
theorem dX10_awake_43 : decode cX10_awake 43 = .ok (.iload_n 3, 1) := by decide +kernel
theorem dX10_awake_44 : decode cX10_awake 44 = .ok (.invokestatic 234, 3) := by decide +kernel
theorem dX10_awake_47 : decode cX10_awake 47 = .ok (.ireturn, 1) := by decide +kernel
theorem dX10_bite_0 : decode cX10_bite 0 = .ok (.aload_n 0, 1) := by decide +kernel
theorem dX10_bite_1 : decode cX10_bite 1 = .ok (.getfield 19, 3) := by decide +kernel
theorem dX10_bite_4 : decode cX10_bite 4 = .ok (.iload_n 1, 1) := by decide +kernel
theorem dX10_bite_5 : decode cX10_bite 5 = .ok (.invokevirtual 147, 3) := by decide +kernel
theorem dX10_bite_8 : decode cX10_bite 8 = .ok (.ifCond .ne 6, 3) := by decide +kernel
theorem dX10_bite_11 : decode cX10_bite 11 = .ok (.ldc 150, 2) := by decide +kernel
theorem dX10_bite_13 : decode cX10_bite 13 = .ok (.ireturn, 1) := by decide +kernel
theorem dX10_bite_14 : decode cX10_bite 14 = .ok (.aload_n 0, 1) := by decide +kernel
theorem dX10_bite_15 : decode cX10_bite 15 = .ok (.getfield 51, 3) := by decide +kernel
theorem dX10_bite_18 : decode cX10_bite 18 = .ok (.iload_n 1, 1) := by decide +kernel
theorem dX10_bite_19 : decode cX10_bite 19 = .ok (.invokevirtual 239, 3) := by decide +kernel
theorem dX10_bite_22 : decode cX10_bite 22 = .ok (.ifCond .eq 13, 3) := by decide +kernel
theorem dX10_bite_25 : decode cX10_bite 25 = .ok (.aload_n 0, 1) := by decide +kernel
theorem dX10_bite_26 : decode cX10_bite 26 = .ok (.getfield 51, 3) := by decide +kernel
theorem dX10_bite_29 : decode cX10_bite 29 = .ok (.getfield 107, 3) := by decide +kernel
theorem dX10_bite_32 : decode cX10_bite 32 = .ok (.goto 5, 3) := by decide +kernel
theorem dX10_bite_35 : decode cX10_bite 35 = .ok (.ldc 91, 2) := by decide +kernel
theorem dX10_bite_37 : decode cX10_bite 37 = .ok (.ireturn, 1) := by decide +kernel
theorem dX10_mayBe_0 : decode cX10_mayBe 0 = .ok (.aload_n 0, 1) := by decide +kernel
theorem dX10_mayBe_1 : decode cX10_mayBe 1 = .ok (.getfield 51, 3) := by decide +kernel
theorem dX10_mayBe_4 : decode cX10_mayBe 4 = .ok (.aload_n 0, 1) := by decide +kernel
theorem dX10_mayBe_5 : decode cX10_mayBe 5 = .ok (.getfield 19, 3) := by decide +kernel
theorem dX10_mayBe_8 : decode cX10_mayBe 8 = .ok (.aload_n 0, 1) := by decide +kernel
theorem dX10_mayBe_9 : decode cX10_mayBe 9 = .ok (.getfield 26, 3) := by decide +kernel
theorem dX10_mayBe_12 : decode cX10_mayBe 12 = .ok (.getfield 151, 3) := by decide +kernel
theorem dX10_mayBe_15 : decode cX10_mayBe 15 = .ok (.invokevirtual 240, 3) := by decide +kernel
theorem dX10_mayBe_18 : decode cX10_mayBe 18 = .ok (.ireturn, 1) := by decide +kernel
theorem dX10_whose_0 : decode cX10_whose 0 = .ok (.aload_n 0, 1) := by decide +kernel
theorem dX10_whose_1 : decode cX10_whose 1 = .ok (.getfield 51, 3) := by decide +kernel
theorem dX10_whose_4 : decode cX10_whose 4 = .ok (.aload_n 0, 1) := by decide +kernel
theorem dX10_whose_5 : decode cX10_whose 5 = .ok (.getfield 19, 3) := by decide +kernel
theorem dX10_whose_8 : decode cX10_whose 8 = .ok (.aload_n 0, 1) := by decide +kernel
theorem dX10_whose_9 : decode cX10_whose 9 = .ok (.getfield 26, 3) := by decide +kernel
theorem dX10_whose_12 : decode cX10_whose 12 = .ok (.getfield 151, 3) := by decide +kernel
theorem dX10_whose_15 : decode cX10_whose 15 = .ok (.invokevirtual 244, 3) := by decide +kernel
theorem dX10_whose_18 : decode cX10_whose 18 = .ok (.ireturn, 1) := by decide +kernel
theorem dX10_howLikely_0 : decode cX10_howLikely 0 = .ok (.aload_n 0, 1) := by decide +kernel
theorem dX10_howLikely_1 : decode cX10_howLikely 1 = .ok (.getfield 19, 3) := by decide +kernel
theorem dX10_howLikely_4 : decode cX10_howLikely 4 = .ok (.iload_n 1, 1) := by decide +kernel
theorem dX10_howLikely_5 : decode cX10_howLikely 5 = .ok (.invokevirtual 144, 3) := by decide +kernel
theorem dX10_howLikely_8 : decode cX10_howLikely 8 = .ok (.ifCond .eq 25, 3) := by decide +kernel
theorem dX10_howLikely_11 : decode cX10_howLikely 11 = .ok (.aload_n 0, 1) := by decide +kernel
theorem dX10_howLikely_12 : decode cX10_howLikely 12 = .ok (.getfield 51, 3) := by decide +kernel
theorem dX10_howLikely_15 : decode cX10_howLikely 15 = .ok (.aload_n 0, 1) := by decide +kernel
theorem dX10_howLikely_16 : decode cX10_howLikely 16 = .ok (.getfield 19, 3) := by decide +kernel
theorem dX10_howLikely_19 : decode cX10_howLikely 19 = .ok (.aload_n 0, 1) := by decide +kernel
theorem dX10_howLikely_20 : decode cX10_howLikely 20 = .ok (.getfield 26, 3) := by decide +kernel
theorem dX10_howLikely_23 : decode cX10_howLikely 23 = .ok (.getfield 151, 3) := by decide +kernel
theorem dX10_howLikely_26 : decode cX10_howLikely 26 = .ok (.iload_n 1, 1) := by decide +kernel
theorem dX10_howLikely_27 : decode cX10_howLikely 27 = .ok (.invokevirtual 247, 3) := by decide +kernel
theorem dX10_howLikely_30 : decode cX10_howLikely 30 = .ok (.goto 5, 3) := by decide +kernel
theorem dX10_howLikely_33 : decode cX10_howLikely 33 = .ok (.ldc 150, 2) := by decide +kernel
theorem dX10_howLikely_35 : decode cX10_howLikely 35 = .ok (.ireturn, 1) := by decide +kernel
theorem dX10_crumbs_0 : decode cX10_crumbs 0 = .ok (.iload_n 1, 1) := by decide +kernel
theorem dX10_crumbs_1 : decode cX10_crumbs 1 = .ok (.iconst (-1), 1) := by decide +kernel
theorem dX10_crumbs_2 : decode cX10_crumbs 2 = .ok (.if_icmp .eq 17, 3) := by decide +kernel
theorem dX10_crumbs_5 : decode cX10_crumbs 5 = .ok (.aload_n 0, 1) := by decide +kernel
theorem dX10_crumbs_6 : decode cX10_crumbs 6 = .ok (.getfield 19, 3) := by decide +kernel
theorem dX10_crumbs_9 : decode cX10_crumbs 9 = .ok (.iload_n 1, 1) := by decide +kernel
theorem dX10_crumbs_10 : decode cX10_crumbs 10 = .ok (.invokevirtual 171, 3) := by decide +kernel
theorem dX10_crumbs_13 : decode cX10_crumbs 13 = .ok (.ifCond .ne 6, 3) := by decide +kernel
theorem dX10_crumbs_16 : decode cX10_crumbs 16 = .ok (.ldc 150, 2) := by decide +kernel
theorem dX10_crumbs_18 : decode cX10_crumbs 18 = .ok (.ireturn, 1) := by decide +kernel
theorem dX10_crumbs_19 : decode cX10_crumbs 19 = .ok (.iload_n 1, 1) := by decide +kernel
theorem dX10_crumbs_20 : decode cX10_crumbs 20 = .ok (.iconst (-1), 1) := by decide +kernel
theorem dX10_crumbs_21 : decode cX10_crumbs 21 = .ok (.if_icmp .ne 23, 3) := by decide +kernel
theorem dX10_crumbs_24 : decode cX10_crumbs 24 = .ok (.aload_n 0, 1) := by decide +kernel
theorem dX10_crumbs_25 : decode cX10_crumbs 25 = .ok (.getfield 58, 3) := by decide +kernel
theorem dX10_crumbs_28 : decode cX10_crumbs 28 = .ok (.aload_n 0, 1) := by decide +kernel
theorem dX10_crumbs_29 : decode cX10_crumbs 29 = .ok (.getfield 19, 3) := by decide +kernel
theorem dX10_crumbs_32 : decode cX10_crumbs 32 = .ok (.aload_n 0, 1) := by decide +kernel
theorem dX10_crumbs_33 : decode cX10_crumbs 33 = .ok (.getfield 26, 3) := by decide +kernel
theorem dX10_crumbs_36 : decode cX10_crumbs 36 = .ok (.iconst (-1), 1) := by decide +kernel
theorem dX10_crumbs_37 : decode cX10_crumbs 37 = .ok (.iconst (-1), 1) := by decide +kernel
theorem dX10_crumbs_38 : decode cX10_crumbs 38 = .ok (.invokevirtual 251, 3) := by decide +kernel
theorem dX10_crumbs_41 : decode cX10_crumbs 41 = .ok (.goto 19, 3) := by decide +kernel
theorem dX10_crumbs_44 : decode cX10_crumbs 44 = .ok (.aload_n 0, 1) := by decide +kernel
theorem dX10_crumbs_45 : decode cX10_crumbs 45 = .ok (.getfield 58, 3) := by decide +kernel
theorem dX10_crumbs_48 : decode cX10_crumbs 48 = .ok (.aload_n 0, 1) := by decide +kernel
theorem dX10_crumbs_49 : decode cX10_crumbs 49 = .ok (.getfield 19, 3) := by decide +kernel
theorem dX10_crumbs_52 : decode cX10_crumbs 52 = .ok (.aload_n 0, 1) := by decide +kernel
theorem dX10_crumbs_53 : decode cX10_crumbs 53 = .ok (.getfield 26, 3) := by decide +kernel
theorem dX10_crumbs_56 : decode cX10_crumbs 56 = .ok (.iload_n 1, 1) := by decide +kernel
theorem dX10_crumbs_57 : decode cX10_crumbs 57 = .ok (.invokevirtual 254, 3) := by decide +kernel
theorem dX10_crumbs_60 : decode cX10_crumbs 60 = .ok (.ireturn, 1) := by decide +kernel
theorem dX10_hire_0 : decode cX10_hire 0 = .ok (.aload_n 0, 1) := by decide +kernel
theorem dX10_hire_1 : decode cX10_hire 1 = .ok (.getfield 19, 3) := by decide +kernel
theorem dX10_hire_4 : decode cX10_hire 4 = .ok (.iload_n 1, 1) := by decide +kernel
theorem dX10_hire_5 : decode cX10_hire 5 = .ok (.invokevirtual 144, 3) := by decide +kernel
theorem dX10_hire_8 : decode cX10_hire 8 = .ok (.ifCond .ne 6, 3) := by decide +kernel
theorem dX10_hire_11 : decode cX10_hire 11 = .ok (.ldc 150, 2) := by decide +kernel
theorem dX10_hire_13 : decode cX10_hire 13 = .ok (.ireturn, 1) := by decide +kernel
theorem dX10_hire_14 : decode cX10_hire 14 = .ok (.iload_n 2, 1) := by decide +kernel
theorem dX10_hire_15 : decode cX10_hire 15 = .ok (.ifCond .lt 8, 3) := by decide +kernel
theorem dX10_hire_18 : decode cX10_hire 18 = .ok (.iload_n 2, 1) := by decide +kernel
theorem dX10_hire_19 : decode cX10_hire 19 = .ok (.iconst 1, 1) := by decide +kernel
theorem dX10_hire_20 : decode cX10_hire 20 = .ok (.if_icmp .le 6, 3) := by decide +kernel
theorem dX10_hire_23 : decode cX10_hire 23 = .ok (.ldc 83, 2) := by decide +kernel
theorem dX10_hire_25 : decode cX10_hire 25 = .ok (.ireturn, 1) := by decide +kernel
theorem dX10_hire_26 : decode cX10_hire 26 = .ok (.iconst (-1), 1) := by decide +kernel
theorem dX10_hire_27 : decode cX10_hire 27 = .ok (.istore_n 3, 1) := by decide +kernel
theorem dX10_hire_28 : decode cX10_hire 28 = .ok (.iconst 0, 1) := by decide +kernel
theorem dX10_hire_29 : decode cX10_hire 29 = .ok (.istore 4, 2) := by decide +kernel
theorem dX10_hire_31 : decode cX10_hire 31 = .ok (.iconst 0, 1) := by decide +kernel
theorem dX10_hire_32 : decode cX10_hire 32 = .ok (.istore 5, 2) := by decide +kernel
theorem dX10_hire_34 : decode cX10_hire 34 = .ok (.iconst 0, 1) := by decide +kernel
theorem dX10_hire_35 : decode cX10_hire 35 = .ok (.istore 6, 2) := by decide +kernel
theorem dX10_hire_37 : decode cX10_hire 37 = .ok (.iload 6, 2) := by decide +kernel
theorem dX10_hire_39 : decode cX10_hire 39 = .ok (.aload_n 0, 1) := by decide +kernel
theorem dX10_hire_40 : decode cX10_hire 40 = .ok (.getfield 19, 3) := by decide +kernel
theorem dX10_hire_43 : decode cX10_hire 43 = .ok (.getfield 120, 3) := by decide +kernel
theorem dX10_hire_46 : decode cX10_hire 46 = .ok (.if_icmp .ge 87, 3) := by decide +kernel
theorem dX10_hire_49 : decode cX10_hire 49 = .ok (.aload_n 0, 1) := by decide +kernel
theorem dX10_hire_50 : decode cX10_hire 50 = .ok (.getfield 26, 3) := by decide +kernel
theorem dX10_hire_53 : decode cX10_hire 53 = .ok (.iload 6, 2) := by decide +kernel
theorem dX10_hire_55 : decode cX10_hire 55 = .ok (.invokevirtual 198, 3) := by decide +kernel
theorem dX10_hire_58 : decode cX10_hire 58 = .ok (.ifCond .eq 34, 3) := by decide +kernel
theorem dX10_hire_61 : decode cX10_hire 61 = .ok (.aload_n 0, 1) := by decide +kernel
theorem dX10_hire_62 : decode cX10_hire 62 = .ok (.getfield 19, 3) := by decide +kernel
theorem dX10_hire_65 : decode cX10_hire 65 = .ok (.getfield 174, 3) := by decide +kernel
theorem dX10_hire_68 : decode cX10_hire 68 = .ok (.iload 6, 2) := by decide +kernel
theorem dX10_hire_70 : decode cX10_hire 70 = .ok (.iaload, 1) := by decide +kernel
theorem dX10_hire_71 : decode cX10_hire 71 = .ok (.iload_n 1, 1) := by decide +kernel
theorem dX10_hire_72 : decode cX10_hire 72 = .ok (.if_icmp .eq 20, 3) := by decide +kernel
theorem dX10_hire_75 : decode cX10_hire 75 = .ok (.aload_n 0, 1) := by decide +kernel
theorem dX10_hire_76 : decode cX10_hire 76 = .ok (.getfield 26, 3) := by decide +kernel
theorem dX10_hire_79 : decode cX10_hire 79 = .ok (.aload_n 0, 1) := by decide +kernel
theorem dX10_hire_80 : decode cX10_hire 80 = .ok (.getfield 19, 3) := by decide +kernel
theorem dX10_hire_83 : decode cX10_hire 83 = .ok (.iload 6, 2) := by decide +kernel
theorem dX10_hire_85 : decode cX10_hire 85 = .ok (.iload_n 1, 1) := by decide +kernel
theorem dX10_hire_86 : decode cX10_hire 86 = .ok (.invokevirtual 194, 3) := by decide +kernel
theorem dX10_hire_89 : decode cX10_hire 89 = .ok (.goto 4, 3) := by decide +kernel
theorem dX10_hire_92 : decode cX10_hire 92 = .ok (.iconst 0, 1) := by decide +kernel
theorem dX10_hire_93 : decode cX10_hire 93 = .ok (.istore 7, 2) := by decide +kernel
theorem dX10_hire_95 : decode cX10_hire 95 = .ok (.iload 7, 2) := by decide +kernel
theorem dX10_hire_97 : decode cX10_hire 97 = .ok (.iload 4, 2) := by decide +kernel
theorem dX10_hire_99 : decode cX10_hire 99 = .ok (.if_icmp .le 17, 3) := by decide +kernel
theorem dX10_hire_102 : decode cX10_hire 102 = .ok (.iload 4, 2) := by decide +kernel
theorem dX10_hire_104 : decode cX10_hire 104 = .ok (.istore 5, 2) := by decide +kernel
theorem dX10_hire_106 : decode cX10_hire 106 = .ok (.iload 7, 2) := by decide +kernel
theorem dX10_hire_108 : decode cX10_hire 108 = .ok (.istore 4, 2) := by decide +kernel
theorem dX10_hire_110 : decode cX10_hire 110 = .ok (.iload 6, 2) := by decide +kernel
theorem dX10_hire_112 : decode cX10_hire 112 = .ok (.istore_n 3, 1) := by decide +kernel
theorem dX10_hire_113 : decode cX10_hire 113 = .ok (.goto 14, 3) := by decide +kernel
theorem dX10_hire_116 : decode cX10_hire 116 = .ok (.iload 7, 2) := by decide +kernel
theorem dX10_hire_118 : decode cX10_hire 118 = .ok (.iload 5, 2) := by decide +kernel
theorem dX10_hire_120 : decode cX10_hire 120 = .ok (.if_icmp .le 7, 3) := by decide +kernel
theorem dX10_hire_123 : decode cX10_hire 123 = .ok (.iload 7, 2) := by decide +kernel
theorem dX10_hire_125 : decode cX10_hire 125 = .ok (.istore 5, 2) := by decide +kernel
theorem dX10_hire_127 : decode cX10_hire 127 = .ok (.iinc 6 1, 3) := by decide +kernel
theorem dX10_hire_130 : decode cX10_hire 130 = .ok (.goto (-93), 3) := by decide +kernel
theorem dX10_hire_133 : decode cX10_hire 133 = .ok (.iload_n 3, 1) := by decide +kernel
theorem dX10_hire_134 : decode cX10_hire 134 = .ok (.iconst (-1), 1) := by decide +kernel
theorem dX10_hire_135 : decode cX10_hire 135 = .ok (.if_icmp .eq 7, 3) := by decide +kernel
theorem dX10_hire_138 : decode cX10_hire 138 = .ok (.iload_n 2, 1) := by decide +kernel
theorem dX10_hire_139 : decode cX10_hire 139 = .ok (.ifCond .ne 7, 3) := by decide +kernel
theorem dX10_hire_142 : decode cX10_hire 142 = .ok (.iload_n 3, 1) := by decide +kernel
theorem dX10_hire_143 : decode cX10_hire 143 = .ok (.goto 5, 3) := by decide +kernel
theorem dX10_hire_146 : decode cX10_hire 146 = .ok (.iload 5, 2) := by decide +kernel
theorem dX10_hire_148 : decode cX10_hire 148 = .ok (.ireturn, 1) := by decide +kernel
theorem dX10_bread_0 : decode cX10_bread 0 = .ok (.iload_n 1, 1) := by decide +kernel
theorem dX10_bread_1 : decode cX10_bread 1 = .ok (.iconst 1, 1) := by decide +kernel
theorem dX10_bread_2 : decode cX10_bread 2 = .ok (.if_icmp .lt 9, 3) := by decide +kernel
theorem dX10_bread_5 : decode cX10_bread 5 = .ok (.iload_n 1, 1) := by decide +kernel
theorem dX10_bread_6 : decode cX10_bread 6 = .ok (.bipush 7, 2) := by decide +kernel
theorem dX10_bread_8 : decode cX10_bread 8 = .ok (.if_icmp .le 8, 3) := by decide +kernel
theorem dX10_bread_11 : decode cX10_bread 11 = .ok (.ldc 83, 2) := by decide +kernel
theorem dX10_bread_13 : decode cX10_bread 13 = .ok (.goto 19, 3) := by decide +kernel
theorem dX10_bread_16 : decode cX10_bread 16 = .ok (.aload_n 0, 1) := by decide +kernel
theorem dX10_bread_17 : decode cX10_bread 17 = .ok (.getfield 65, 3) := by decide +kernel
theorem dX10_bread_20 : decode cX10_bread 20 = .ok (.aload_n 0, 1) := by decide +kernel
theorem dX10_bread_21 : decode cX10_bread 21 = .ok (.getfield 19, 3) := by decide +kernel
theorem dX10_bread_24 : decode cX10_bread 24 = .ok (.aload_n 0, 1) := by decide +kernel
theorem dX10_bread_25 : decode cX10_bread 25 = .ok (.getfield 26, 3) := by decide +kernel
theorem dX10_bread_28 : decode cX10_bread 28 = .ok (.iload_n 1, 1) := by decide +kernel
theorem dX10_bread_29 : decode cX10_bread 29 = .ok (.invokevirtual 258, 3) := by decide +kernel
theorem dX10_bread_32 : decode cX10_bread 32 = .ok (.ireturn, 1) := by decide +kernel
theorem dX10_write_0 : decode cX10_write 0 = .ok (.aload_n 0, 1) := by decide +kernel
theorem dX10_write_1 : decode cX10_write 1 = .ok (.getfield 19, 3) := by decide +kernel
theorem dX10_write_4 : decode cX10_write 4 = .ok (.iload_n 1, 1) := by decide +kernel
theorem dX10_write_5 : decode cX10_write 5 = .ok (.invokevirtual 144, 3) := by decide +kernel
theorem dX10_write_8 : decode cX10_write 8 = .ok (.ifCond .eq 14, 3) := by decide +kernel
theorem dX10_write_11 : decode cX10_write 11 = .ok (.aload_n 0, 1) := by decide +kernel
theorem dX10_write_12 : decode cX10_write 12 = .ok (.getfield 19, 3) := by decide +kernel
theorem dX10_write_15 : decode cX10_write 15 = .ok (.iload_n 2, 1) := by decide +kernel
theorem dX10_write_16 : decode cX10_write 16 = .ok (.invokevirtual 147, 3) := by decide +kernel
theorem dX10_write_19 : decode cX10_write 19 = .ok (.ifCond .ne 6, 3) := by decide +kernel
theorem dX10_write_22 : decode cX10_write 22 = .ok (.ldc 150, 2) := by decide +kernel
theorem dX10_write_24 : decode cX10_write 24 = .ok (.ireturn, 1) := by decide +kernel
theorem dX10_write_25 : decode cX10_write 25 = .ok (.iload_n 3, 1) := by decide +kernel
theorem dX10_write_26 : decode cX10_write 26 = .ok (.ifCond .lt 9, 3) := by decide +kernel
theorem dX10_write_29 : decode cX10_write 29 = .ok (.iload_n 3, 1) := by decide +kernel
theorem dX10_write_30 : decode cX10_write 30 = .ok (.bipush 9, 2) := by decide +kernel
theorem dX10_write_32 : decode cX10_write 32 = .ok (.if_icmp .le 6, 3) := by decide +kernel
theorem dX10_write_35 : decode cX10_write 35 = .ok (.ldc 83, 2) := by decide +kernel
theorem dX10_write_37 : decode cX10_write 37 = .ok (.ireturn, 1) := by decide +kernel
theorem dX10_write_38 : decode cX10_write 38 = .ok (.aload_n 0, 1) := by decide +kernel
theorem dX10_write_39 : decode cX10_write 39 = .ok (.getfield 72, 3) := by decide +kernel
theorem dX10_write_42 : decode cX10_write 42 = .ok (.iload_n 1, 1) := by decide +kernel
theorem dX10_write_43 : decode cX10_write 43 = .ok (.iload_n 2, 1) := by decide +kernel
theorem dX10_write_44 : decode cX10_write 44 = .ok (.iload_n 3, 1) := by decide +kernel
theorem dX10_write_45 : decode cX10_write 45 = .ok (.invokevirtual 261, 3) := by decide +kernel
theorem dX10_write_48 : decode cX10_write 48 = .ok (.ifCond .eq 13, 3) := by decide +kernel
theorem dX10_write_51 : decode cX10_write 51 = .ok (.aload_n 0, 1) := by decide +kernel
theorem dX10_write_52 : decode cX10_write 52 = .ok (.getfield 72, 3) := by decide +kernel
theorem dX10_write_55 : decode cX10_write 55 = .ok (.getfield 110, 3) := by decide +kernel
theorem dX10_write_58 : decode cX10_write 58 = .ok (.goto 5, 3) := by decide +kernel
theorem dX10_write_61 : decode cX10_write 61 = .ok (.ldc 91, 2) := by decide +kernel
theorem dX10_write_63 : decode cX10_write 63 = .ok (.ireturn, 1) := by decide +kernel
theorem dX10_tear_0 : decode cX10_tear 0 = .ok (.aload_n 0, 1) := by decide +kernel
theorem dX10_tear_1 : decode cX10_tear 1 = .ok (.getfield 51, 3) := by decide +kernel
theorem dX10_tear_4 : decode cX10_tear 4 = .ok (.getfield 107, 3) := by decide +kernel
theorem dX10_tear_7 : decode cX10_tear 7 = .ok (.aload_n 0, 1) := by decide +kernel
theorem dX10_tear_8 : decode cX10_tear 8 = .ok (.getfield 72, 3) := by decide +kernel
theorem dX10_tear_11 : decode cX10_tear 11 = .ok (.getfield 110, 3) := by decide +kernel
theorem dX10_tear_14 : decode cX10_tear 14 = .ok (.iadd, 1) := by decide +kernel
theorem dX10_tear_15 : decode cX10_tear 15 = .ok (.istore_n 1, 1) := by decide +kernel
theorem dX10_tear_16 : decode cX10_tear 16 = .ok (.aload_n 0, 1) := by decide +kernel
theorem dX10_tear_17 : decode cX10_tear 17 = .ok (.getfield 51, 3) := by decide +kernel
theorem dX10_tear_20 : decode cX10_tear 20 = .ok (.iconst 0, 1) := by decide +kernel
theorem dX10_tear_21 : decode cX10_tear 21 = .ok (.putfield 107, 3) := by decide +kernel
theorem dX10_tear_24 : decode cX10_tear 24 = .ok (.aload_n 0, 1) := by decide +kernel
theorem dX10_tear_25 : decode cX10_tear 25 = .ok (.getfield 72, 3) := by decide +kernel
theorem dX10_tear_28 : decode cX10_tear 28 = .ok (.iconst 0, 1) := by decide +kernel
theorem dX10_tear_29 : decode cX10_tear 29 = .ok (.putfield 110, 3) := by decide +kernel
theorem dX10_tear_32 : decode cX10_tear 32 = .ok (.iload_n 1, 1) := by decide +kernel
theorem dX10_tear_33 : decode cX10_tear 33 = .ok (.ireturn, 1) := by decide +kernel
theorem dX10_judge_0 : decode cX10_judge 0 = .ok (.aload_n 0, 1) := by decide +kernel
theorem dX10_judge_1 : decode cX10_judge 1 = .ok (.getfield 72, 3) := by decide +kernel
theorem dX10_judge_4 : decode cX10_judge 4 = .ok (.aload_n 0, 1) := by decide +kernel
theorem dX10_judge_5 : decode cX10_judge 5 = .ok (.getfield 26, 3) := by decide +kernel
theorem dX10_judge_8 : decode cX10_judge 8 = .ok (.getfield 151, 3) := by decide +kernel
theorem dX10_judge_11 : decode cX10_judge 11 = .ok (.invokevirtual 264, 3) := by decide +kernel
theorem dX10_judge_14 : decode cX10_judge 14 = .ok (.ireturn, 1) := by decide +kernel
theorem dX10_seed_0 : decode cX10_seed 0 = .ok (.iload_n 1, 1) := by decide +kernel
theorem dX10_seed_1 : decode cX10_seed 1 = .ok (.ifCond .ge 6, 3) := by decide +kernel
theorem dX10_seed_4 : decode cX10_seed 4 = .ok (.ldc 83, 2) := by decide +kernel
theorem dX10_seed_6 : decode cX10_seed 6 = .ok (.ireturn, 1) := by decide +kernel
theorem dX10_seed_7 : decode cX10_seed 7 = .ok (.aload_n 0, 1) := by decide +kernel
theorem dX10_seed_8 : decode cX10_seed 8 = .ok (.getfield 26, 3) := by decide +kernel
theorem dX10_seed_11 : decode cX10_seed 11 = .ok (.getfield 268, 3) := by decide +kernel
theorem dX10_seed_14 : decode cX10_seed 14 = .ok (.istore_n 2, 1) := by decide +kernel
theorem dX10_seed_15 : decode cX10_seed 15 = .ok (.aload_n 0, 1) := by decide +kernel
theorem dX10_seed_16 : decode cX10_seed 16 = .ok (.getfield 26, 3) := by decide +kernel
theorem dX10_seed_19 : decode cX10_seed 19 = .ok (.iload_n 1, 1) := by decide +kernel
theorem dX10_seed_20 : decode cX10_seed 20 = .ok (.putfield 268, 3) := by decide +kernel
theorem dX10_seed_23 : decode cX10_seed 23 = .ok (.iload_n 2, 1) := by decide +kernel
theorem dX10_seed_24 : decode cX10_seed 24 = .ok (.ireturn, 1) := by decide +kernel
theorem dX10_keep_0 : decode cX10_keep 0 = .ok (.iload_n 1, 1) := by decide +kernel
theorem dX10_keep_1 : decode cX10_keep 1 = .ok (.ifCond .lt 8, 3) := by decide +kernel
theorem dX10_keep_4 : decode cX10_keep 4 = .ok (.iload_n 1, 1) := by decide +kernel
theorem dX10_keep_5 : decode cX10_keep 5 = .ok (.iconst 2, 1) := by decide +kernel
theorem dX10_keep_6 : decode cX10_keep 6 = .ok (.if_icmp .lt 6, 3) := by decide +kernel
theorem dX10_keep_9 : decode cX10_keep 9 = .ok (.ldc 150, 2) := by decide +kernel
theorem dX10_keep_11 : decode cX10_keep 11 = .ok (.ireturn, 1) := by decide +kernel
theorem dX10_keep_12 : decode cX10_keep 12 = .ok (.aload_n 0, 1) := by decide +kernel
theorem dX10_keep_13 : decode cX10_keep 13 = .ok (.getfield 30, 3) := by decide +kernel
theorem dX10_keep_16 : decode cX10_keep 16 = .ok (.iload_n 1, 1) := by decide +kernel
theorem dX10_keep_17 : decode cX10_keep 17 = .ok (.aaload, 1) := by decide +kernel
theorem dX10_keep_18 : decode cX10_keep 18 = .ok (.aload_n 0, 1) := by decide +kernel
theorem dX10_keep_19 : decode cX10_keep 19 = .ok (.getfield 26, 3) := by decide +kernel
theorem dX10_keep_22 : decode cX10_keep 22 = .ok (.invokevirtual 271, 3) := by decide +kernel
theorem dX10_keep_25 : decode cX10_keep 25 = .ok (.aload_n 0, 1) := by decide +kernel
theorem dX10_keep_26 : decode cX10_keep 26 = .ok (.dup, 1) := by decide +kernel
theorem dX10_keep_27 : decode cX10_keep 27 = .ok (.getfield 76, 3) := by decide +kernel
theorem dX10_keep_30 : decode cX10_keep 30 = .ok (.iconst 1, 1) := by decide +kernel
theorem dX10_keep_31 : decode cX10_keep 31 = .ok (.iload_n 1, 1) := by decide +kernel
theorem dX10_keep_32 : decode cX10_keep 32 = .ok (.ishl, 1) := by decide +kernel
theorem dX10_keep_33 : decode cX10_keep 33 = .ok (.ior, 1) := by decide +kernel
theorem dX10_keep_34 : decode cX10_keep 34 = .ok (.putfield 76, 3) := by decide +kernel
theorem dX10_keep_37 : decode cX10_keep 37 = .ok (.iconst 1, 1) := by decide +kernel
theorem dX10_keep_38 : decode cX10_keep 38 = .ok (.ireturn, 1) := by decide +kernel
theorem dX10_goBack_0 : decode cX10_goBack 0 = .ok (.iload_n 1, 1) := by decide +kernel
theorem dX10_goBack_1 : decode cX10_goBack 1 = .ok (.ifCond .lt 8, 3) := by decide +kernel
theorem dX10_goBack_4 : decode cX10_goBack 4 = .ok (.iload_n 1, 1) := by decide +kernel
theorem dX10_goBack_5 : decode cX10_goBack 5 = .ok (.iconst 2, 1) := by decide +kernel
theorem dX10_goBack_6 : decode cX10_goBack 6 = .ok (.if_icmp .lt 6, 3) := by decide +kernel
theorem dX10_goBack_9 : decode cX10_goBack 9 = .ok (.ldc 150, 2) := by decide +kernel
theorem dX10_goBack_11 : decode cX10_goBack 11 = .ok (.ireturn, 1) := by decide +kernel
theorem dX10_goBack_12 : decode cX10_goBack 12 = .ok (.aload_n 0, 1) := by decide +kernel
theorem dX10_goBack_13 : decode cX10_goBack 13 = .ok (.getfield 76, 3) := by decide +kernel
theorem dX10_goBack_16 : decode cX10_goBack 16 = .ok (.iload_n 1, 1) := by decide +kernel
theorem dX10_goBack_17 : decode cX10_goBack 17 = .ok (.invokestatic 190, 3) := by decide +kernel
theorem dX10_goBack_20 : decode cX10_goBack 20 = .ok (.ifCond .ne 6, 3) := by decide +kernel
theorem dX10_goBack_23 : decode cX10_goBack 23 = .ok (.ldc 193, 2) := by decide +kernel
theorem dX10_goBack_25 : decode cX10_goBack 25 = .ok (.ireturn, 1) := by decide +kernel
theorem dX10_goBack_26 : decode cX10_goBack 26 = .ok (.aload_n 0, 1) := by decide +kernel
theorem dX10_goBack_27 : decode cX10_goBack 27 = .ok (.getfield 26, 3) := by decide +kernel
theorem dX10_goBack_30 : decode cX10_goBack 30 = .ok (.aload_n 0, 1) := by decide +kernel
theorem dX10_goBack_31 : decode cX10_goBack 31 = .ok (.getfield 30, 3) := by decide +kernel
theorem dX10_goBack_34 : decode cX10_goBack 34 = .ok (.iload_n 1, 1) := by decide +kernel
theorem dX10_goBack_35 : decode cX10_goBack 35 = .ok (.aaload, 1) := by decide +kernel
theorem dX10_goBack_36 : decode cX10_goBack 36 = .ok (.invokevirtual 271, 3) := by decide +kernel
theorem dX10_goBack_39 : decode cX10_goBack 39 = .ok (.iconst 1, 1) := by decide +kernel
theorem dX10_goBack_40 : decode cX10_goBack 40 = .ok (.ireturn, 1) := by decide +kernel
theorem dX10_fewestWoken_0 : decode cX10_fewestWoken 0 = .ok (.aload_n 0, 1) := by decide +kernel
theorem dX10_fewestWoken_1 : decode cX10_fewestWoken 1 = .ok (.getfield 37, 3) := by decide +kernel
theorem dX10_fewestWoken_4 : decode cX10_fewestWoken 4 = .ok (.aload_n 0, 1) := by decide +kernel
theorem dX10_fewestWoken_5 : decode cX10_fewestWoken 5 = .ok (.getfield 19, 3) := by decide +kernel
theorem dX10_fewestWoken_8 : decode cX10_fewestWoken 8 = .ok (.aload_n 0, 1) := by decide +kernel
theorem dX10_fewestWoken_9 : decode cX10_fewestWoken 9 = .ok (.getfield 26, 3) := by decide +kernel
theorem dX10_fewestWoken_12 : decode cX10_fewestWoken 12 = .ok (.invokevirtual 212, 3) := by decide +kernel
theorem dX10_fewestWoken_15 : decode cX10_fewestWoken 15 = .ok (.iconst 1, 1) := by decide +kernel
theorem dX10_fewestWoken_16 : decode cX10_fewestWoken 16 = .ok (.aload_n 0, 1) := by decide +kernel
theorem dX10_fewestWoken_17 : decode cX10_fewestWoken 17 = .ok (.getfield 19, 3) := by decide +kernel
theorem dX10_fewestWoken_20 : decode cX10_fewestWoken 20 = .ok (.getfield 111, 3) := by decide +kernel
theorem dX10_fewestWoken_23 : decode cX10_fewestWoken 23 = .ok (.ishl, 1) := by decide +kernel
theorem dX10_fewestWoken_24 : decode cX10_fewestWoken 24 = .ok (.istore_n 2, 1) := by decide +kernel
theorem dX10_fewestWoken_25 : decode cX10_fewestWoken 25 = .ok (.iconst 0, 1) := by decide +kernel
theorem dX10_fewestWoken_26 : decode cX10_fewestWoken 26 = .ok (.istore_n 3, 1) := by decide +kernel
theorem dX10_fewestWoken_27 : decode cX10_fewestWoken 27 = .ok (.iload_n 3, 1) := by decide +kernel
theorem dX10_fewestWoken_28 : decode cX10_fewestWoken 28 = .ok (.aload_n 0, 1) := by decide +kernel
theorem dX10_fewestWoken_29 : decode cX10_fewestWoken 29 = .ok (.getfield 19, 3) := by decide +kernel
theorem dX10_fewestWoken_32 : decode cX10_fewestWoken 32 = .ok (.getfield 111, 3) := by decide +kernel
theorem dX10_fewestWoken_35 : decode cX10_fewestWoken 35 = .ok (.if_icmp .gt 73, 3) := by decide +kernel
theorem dX10_fewestWoken_38 : decode cX10_fewestWoken 38 = .ok (.iconst 0, 1) := by decide +kernel
theorem dX10_fewestWoken_39 : decode cX10_fewestWoken 39 = .ok (.istore 4, 2) := by decide +kernel
theorem dX10_fewestWoken_41 : decode cX10_fewestWoken 41 = .ok (.iload 4, 2) := by decide +kernel
theorem dX10_fewestWoken_43 : decode cX10_fewestWoken 43 = .ok (.iload_n 2, 1) := by decide +kernel
theorem dX10_fewestWoken_44 : decode cX10_fewestWoken 44 = .ok (.if_icmp .ge 58, 3) := by decide +kernel
theorem dX10_fewestWoken_47 : decode cX10_fewestWoken 47 = .ok (.iload 4, 2) := by decide +kernel
theorem dX10_fewestWoken_49 : decode cX10_fewestWoken 49 = .ok (.invokestatic 234, 3) := by decide +kernel
theorem dX10_fewestWoken_52 : decode cX10_fewestWoken 52 = .ok (.iload_n 3, 1) := by decide +kernel
theorem dX10_fewestWoken_53 : decode cX10_fewestWoken 53 = .ok (.if_icmp .ne 22, 3) := by decide +kernel
theorem dX10_fewestWoken_56 : decode cX10_fewestWoken 56 = .ok (.iload 4, 2) := by decide +kernel
theorem dX10_fewestWoken_58 : decode cX10_fewestWoken 58 = .ok (.aload_n 0, 1) := by decide +kernel
theorem dX10_fewestWoken_59 : decode cX10_fewestWoken 59 = .ok (.getfield 37, 3) := by decide +kernel
theorem dX10_fewestWoken_62 : decode cX10_fewestWoken 62 = .ok (.getfield 274, 3) := by decide +kernel
theorem dX10_fewestWoken_65 : decode cX10_fewestWoken 65 = .ok (.iconst (-1), 1) := by decide +kernel
theorem dX10_fewestWoken_66 : decode cX10_fewestWoken 66 = .ok (.ixor, 1) := by decide +kernel
theorem dX10_fewestWoken_67 : decode cX10_fewestWoken 67 = .ok (.iand, 1) := by decide +kernel
theorem dX10_fewestWoken_68 : decode cX10_fewestWoken 68 = .ok (.ifCond .ne 7, 3) := by decide +kernel
theorem dX10_fewestWoken_71 : decode cX10_fewestWoken 71 = .ok (.iconst 1, 1) := by decide +kernel
theorem dX10_fewestWoken_72 : decode cX10_fewestWoken 72 = .ok (.goto 4, 3) := by decide +kernel
theorem dX10_fewestWoken_75 : decode cX10_fewestWoken 75 = .ok (.iconst 0, 1) := by decide +kernel
theorem dX10_fewestWoken_76 : decode cX10_fewestWoken 76 = .ok (.istore 5, 2) := by decide +kernel
theorem dX10_fewestWoken_78 : decode cX10_fewestWoken 78 = .ok (.iload 5, 2) := by decide +kernel
theorem dX10_fewestWoken_80 : decode cX10_fewestWoken 80 = .ok (.ifCond .eq 16, 3) := by decide +kernel
theorem dX10_fewestWoken_83 : decode cX10_fewestWoken 83 = .ok (.aload_n 0, 1) := by decide +kernel
theorem dX10_fewestWoken_84 : decode cX10_fewestWoken 84 = .ok (.iload_n 1, 1) := by decide +kernel
theorem dX10_fewestWoken_85 : decode cX10_fewestWoken 85 = .ok (.iload 4, 2) := by decide +kernel
theorem dX10_fewestWoken_87 : decode cX10_fewestWoken 87 = .ok (.invokevirtual 277, 3) := by decide +kernel
theorem dX10_fewestWoken_90 : decode cX10_fewestWoken 90 = .ok (.ifCond .eq 6, 3) := by decide +kernel
theorem dX10_fewestWoken_93 : decode cX10_fewestWoken 93 = .ok (.iload 4, 2) := by decide +kernel
theorem dX10_fewestWoken_95 : decode cX10_fewestWoken 95 = .ok (.ireturn, 1) := by decide +kernel
theorem dX10_fewestWoken_96 : decode cX10_fewestWoken 96 = .ok (.iinc 4 1, 3) := by decide +kernel
theorem dX10_fewestWoken_99 : decode cX10_fewestWoken 99 = .ok (.goto (-58), 3) := by decide +kernel
theorem dX10_fewestWoken_102 : decode cX10_fewestWoken 102 = .ok (.iinc 3 1, 3) := by decide +kernel
theorem dX10_fewestWoken_105 : decode cX10_fewestWoken 105 = .ok (.goto (-78), 3) := by decide +kernel
theorem dX10_fewestWoken_108 : decode cX10_fewestWoken 108 = .ok (.iconst (-1), 1) := by decide +kernel
theorem dX10_fewestWoken_109 : decode cX10_fewestWoken 109 = .ok (.ireturn, 1) := by decide +kernel
theorem dX10_staysCalm_0 : decode cX10_staysCalm 0 = .ok (.aload_n 0, 1) := by decide +kernel
theorem dX10_staysCalm_1 : decode cX10_staysCalm 1 = .ok (.getfield 44, 3) := by decide +kernel
theorem dX10_staysCalm_4 : decode cX10_staysCalm 4 = .ok (.aload_n 0, 1) := by decide +kernel
theorem dX10_staysCalm_5 : decode cX10_staysCalm 5 = .ok (.getfield 19, 3) := by decide +kernel
theorem dX10_staysCalm_8 : decode cX10_staysCalm 8 = .ok (.aload_n 0, 1) := by decide +kernel
theorem dX10_staysCalm_9 : decode cX10_staysCalm 9 = .ok (.getfield 26, 3) := by decide +kernel
theorem dX10_staysCalm_12 : decode cX10_staysCalm 12 = .ok (.aload_n 0, 1) := by decide +kernel
theorem dX10_staysCalm_13 : decode cX10_staysCalm 13 = .ok (.getfield 37, 3) := by decide +kernel
theorem dX10_staysCalm_16 : decode cX10_staysCalm 16 = .ok (.iload_n 2, 1) := by decide +kernel
theorem dX10_staysCalm_17 : decode cX10_staysCalm 17 = .ok (.iload_n 1, 1) := by decide +kernel
theorem dX10_staysCalm_18 : decode cX10_staysCalm 18 = .ok (.invokevirtual 226, 3) := by decide +kernel
theorem dX10_staysCalm_21 : decode cX10_staysCalm 21 = .ok (.pop, 1) := by decide +kernel
theorem dX10_staysCalm_22 : decode cX10_staysCalm 22 = .ok (.iconst 0, 1) := by decide +kernel
theorem dX10_staysCalm_23 : decode cX10_staysCalm 23 = .ok (.istore_n 3, 1) := by decide +kernel
theorem dX10_staysCalm_24 : decode cX10_staysCalm 24 = .ok (.iload_n 3, 1) := by decide +kernel
theorem dX10_staysCalm_25 : decode cX10_staysCalm 25 = .ok (.aload_n 0, 1) := by decide +kernel
theorem dX10_staysCalm_26 : decode cX10_staysCalm 26 = .ok (.getfield 19, 3) := by decide +kernel
theorem dX10_staysCalm_29 : decode cX10_staysCalm 29 = .ok (.getfield 111, 3) := by decide +kernel
theorem dX10_staysCalm_32 : decode cX10_staysCalm 32 = .ok (.if_icmp .ge 32, 3) := by decide +kernel
theorem dX10_staysCalm_35 : decode cX10_staysCalm 35 = .ok (.aload_n 0, 1) := by decide +kernel
theorem dX10_staysCalm_36 : decode cX10_staysCalm 36 = .ok (.getfield 44, 3) := by decide +kernel
theorem dX10_staysCalm_39 : decode cX10_staysCalm 39 = .ok (.getfield 230, 3) := by decide +kernel
theorem dX10_staysCalm_42 : decode cX10_staysCalm 42 = .ok (.iload_n 3, 1) := by decide +kernel
theorem dX10_staysCalm_43 : decode cX10_staysCalm 43 = .ok (.invokevirtual 168, 3) := by decide +kernel
theorem dX10_staysCalm_46 : decode cX10_staysCalm 46 = .ok (.aload_n 0, 1) := by decide +kernel
theorem dX10_staysCalm_47 : decode cX10_staysCalm 47 = .ok (.getfield 19, 3) := by decide +kernel
theorem dX10_staysCalm_50 : decode cX10_staysCalm 50 = .ok (.getfield 123, 3) := by decide +kernel
theorem dX10_staysCalm_53 : decode cX10_staysCalm 53 = .ok (.if_icmp .ne 5, 3) := by decide +kernel
theorem dX10_staysCalm_56 : decode cX10_staysCalm 56 = .ok (.iconst 0, 1) := by decide +kernel
theorem dX10_staysCalm_57 : decode cX10_staysCalm 57 = .ok (.ireturn, 1) := by decide +kernel
theorem dX10_staysCalm_58 : decode cX10_staysCalm 58 = .ok (.iinc 3 1, 3) := by decide +kernel
theorem dX10_staysCalm_61 : decode cX10_staysCalm 61 = .ok (.goto (-37), 3) := by decide +kernel
theorem dX10_staysCalm_64 : decode cX10_staysCalm 64 = .ok (.iconst 1, 1) := by decide +kernel
theorem dX10_staysCalm_65 : decode cX10_staysCalm 65 = .ok (.ireturn, 1) := by decide +kernel
theorem dX10_bit_0 : decode cX10_bit 0 = .ok (.iload_n 0, 1) := by decide +kernel
theorem dX10_bit_1 : decode cX10_bit 1 = .ok (.iload_n 1, 1) := by decide +kernel
theorem dX10_bit_2 : decode cX10_bit 2 = .ok (.ishr, 1) := by decide +kernel
theorem dX10_bit_3 : decode cX10_bit 3 = .ok (.iconst 1, 1) := by decide +kernel
theorem dX10_bit_4 : decode cX10_bit 4 = .ok (.iand, 1) := by decide +kernel
theorem dX10_bit_5 : decode cX10_bit 5 = .ok (.ireturn, 1) := by decide +kernel
theorem dX10_greatestShared_0 : decode cX10_greatestShared 0 = .ok (.iload_n 1, 1) := by decide +kernel
theorem dX10_greatestShared_1 : decode cX10_greatestShared 1 = .ok (.istore_n 2, 1) := by decide +kernel
theorem dX10_greatestShared_2 : decode cX10_greatestShared 2 = .ok (.iload_n 2, 1) := by decide +kernel
theorem dX10_greatestShared_3 : decode cX10_greatestShared 3 = .ok (.iconst 1, 1) := by decide +kernel
theorem dX10_greatestShared_4 : decode cX10_greatestShared 4 = .ok (.if_icmp .le 23, 3) := by decide +kernel
theorem dX10_greatestShared_7 : decode cX10_greatestShared 7 = .ok (.iload_n 0, 1) := by decide +kernel
theorem dX10_greatestShared_8 : decode cX10_greatestShared 8 = .ok (.iload_n 2, 1) := by decide +kernel
theorem dX10_greatestShared_9 : decode cX10_greatestShared 9 = .ok (.irem, 1) := by decide +kernel
theorem dX10_greatestShared_10 : decode cX10_greatestShared 10 = .ok (.ifCond .ne 11, 3) := by decide +kernel
theorem dX10_greatestShared_13 : decode cX10_greatestShared 13 = .ok (.iload_n 1, 1) := by decide +kernel
theorem dX10_greatestShared_14 : decode cX10_greatestShared 14 = .ok (.iload_n 2, 1) := by decide +kernel
theorem dX10_greatestShared_15 : decode cX10_greatestShared 15 = .ok (.irem, 1) := by decide +kernel
theorem dX10_greatestShared_16 : decode cX10_greatestShared 16 = .ok (.ifCond .ne 5, 3) := by decide +kernel
theorem dX10_greatestShared_19 : decode cX10_greatestShared 19 = .ok (.iload_n 2, 1) := by decide +kernel
theorem dX10_greatestShared_20 : decode cX10_greatestShared 20 = .ok (.ireturn, 1) := by decide +kernel
theorem dX10_greatestShared_21 : decode cX10_greatestShared 21 = .ok (.iinc 2 (-1), 3) := by decide +kernel
theorem dX10_greatestShared_24 : decode cX10_greatestShared 24 = .ok (.goto (-22), 3) := by decide +kernel
theorem dX10_greatestShared_27 : decode cX10_greatestShared 27 = .ok (.iconst 1, 1) := by decide +kernel
theorem dX10_greatestShared_28 : decode cX10_greatestShared 28 = .ok (.ireturn, 1) := by decide +kernel
