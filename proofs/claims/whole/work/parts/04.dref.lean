theorem dX8_init_0 : decode cX8_init 0 = .ok (.aload_n 0, 1) := by decide +kernel
theorem dX8_init_1 : decode cX8_init 1 = .ok (.invokespecial 1, 3) := by decide +kernel
theorem dX8_init_4 : decode cX8_init 4 = .ok (.aload_n 0, 1) := by decide +kernel
theorem dX8_init_5 : decode cX8_init 5 = .ok (.bipush 46, 2) := by decide +kernel
theorem dX8_init_7 : decode cX8_init 7 = .ok (.newarray .int, 2) := by decide +kernel
theorem dX8_init_9 : decode cX8_init 9 = .ok (.putfield 7, 3) := by decide +kernel
theorem dX8_init_12 : decode cX8_init 12 = .ok (.aload_n 0, 1) := by decide +kernel
theorem dX8_init_13 : decode cX8_init 13 = .ok (.bipush 46, 2) := by decide +kernel
theorem dX8_init_15 : decode cX8_init 15 = .ok (.newarray .int, 2) := by decide +kernel
theorem dX8_init_17 : decode cX8_init 17 = .ok (.putfield 13, 3) := by decide +kernel
theorem dX8_init_20 : decode cX8_init 20 = .ok (.aload_n 0, 1) := by decide +kernel
theorem dX8_init_21 : decode cX8_init 21 = .ok (.sipush 184, 3) := by decide +kernel
theorem dX8_init_24 : decode cX8_init 24 = .ok (.newarray .int, 2) := by decide +kernel
theorem dX8_init_26 : decode cX8_init 26 = .ok (.putfield 16, 3) := by decide +kernel
theorem dX8_init_29 : decode cX8_init 29 = .ok (.aload_n 0, 1) := by decide +kernel
theorem dX8_init_30 : decode cX8_init 30 = .ok (.bipush 46, 2) := by decide +kernel
theorem dX8_init_32 : decode cX8_init 32 = .ok (.newarray .int, 2) := by decide +kernel
theorem dX8_init_34 : decode cX8_init 34 = .ok (.putfield 19, 3) := by decide +kernel
theorem dX8_init_37 : decode cX8_init 37 = .ok (.aload_n 0, 1) := by decide +kernel
theorem dX8_init_38 : decode cX8_init 38 = .ok (.sipush 401, 3) := by decide +kernel
theorem dX8_init_41 : decode cX8_init 41 = .ok (.newarray .int, 2) := by decide +kernel
theorem dX8_init_43 : decode cX8_init 43 = .ok (.putfield 22, 3) := by decide +kernel
theorem dX8_init_46 : decode cX8_init 46 = .ok (.aload_n 0, 1) := by decide +kernel
theorem dX8_init_47 : decode cX8_init 47 = .ok (.sipush 3208, 3) := by decide +kernel
theorem dX8_init_50 : decode cX8_init 50 = .ok (.newarray .int, 2) := by decide +kernel
theorem dX8_init_52 : decode cX8_init 52 = .ok (.putfield 25, 3) := by decide +kernel
theorem dX8_init_55 : decode cX8_init 55 = .ok (.aload_n 0, 1) := by decide +kernel
theorem dX8_init_56 : decode cX8_init 56 = .ok (.sipush 3208, 3) := by decide +kernel
theorem dX8_init_59 : decode cX8_init 59 = .ok (.newarray .int, 2) := by decide +kernel
theorem dX8_init_61 : decode cX8_init 61 = .ok (.putfield 28, 3) := by decide +kernel
theorem dX8_init_64 : decode cX8_init 64 = .ok (.aload_n 0, 1) := by decide +kernel
theorem dX8_init_65 : decode cX8_init 65 = .ok (.sipush 248, 3) := by decide +kernel
theorem dX8_init_68 : decode cX8_init 68 = .ok (.newarray .int, 2) := by decide +kernel
theorem dX8_init_70 : decode cX8_init 70 = .ok (.putfield 31, 3) := by decide +kernel
theorem dX8_init_73 : decode cX8_init 73 = .ok (.aload_n 0, 1) := by decide +kernel
theorem dX8_init_74 : decode cX8_init 74 = .ok (.sipush 248, 3) := by decide +kernel
theorem dX8_init_77 : decode cX8_init 77 = .ok (.newarray .int, 2) := by decide +kernel
theorem dX8_init_79 : decode cX8_init 79 = .ok (.putfield 34, 3) := by decide +kernel
theorem dX8_init_82 : decode cX8_init 82 = .ok (.aload_n 0, 1) := by decide +kernel
theorem dX8_init_83 : decode cX8_init 83 = .ok (.sipush 248, 3) := by decide +kernel
theorem dX8_init_86 : decode cX8_init 86 = .ok (.newarray .int, 2) := by decide +kernel
theorem dX8_init_88 : decode cX8_init 88 = .ok (.putfield 37, 3) := by decide +kernel
theorem dX8_init_91 : decode cX8_init 91 = .ok (.aload_n 0, 1) := by decide +kernel
theorem dX8_init_92 : decode cX8_init 92 = .ok (.sipush 248, 3) := by decide +kernel
theorem dX8_init_95 : decode cX8_init 95 = .ok (.newarray .int, 2) := by decide +kernel
theorem dX8_init_97 : decode cX8_init 97 = .ok (.putfield 40, 3) := by decide +kernel
theorem dX8_init_100 : decode cX8_init 100 = .ok (.aload_n 0, 1) := by decide +kernel
theorem dX8_init_101 : decode cX8_init 101 = .ok (.bipush 31, 2) := by decide +kernel
theorem dX8_init_103 : decode cX8_init 103 = .ok (.newarray .int, 2) := by decide +kernel
theorem dX8_init_105 : decode cX8_init 105 = .ok (.putfield 43, 3) := by decide +kernel
theorem dX8_init_108 : decode cX8_init 108 = .ok (.aload_n 0, 1) := by decide +kernel
theorem dX8_init_109 : decode cX8_init 109 = .ok (.bipush 31, 2) := by decide +kernel
theorem dX8_init_111 : decode cX8_init 111 = .ok (.newarray .int, 2) := by decide +kernel
theorem dX8_init_113 : decode cX8_init 113 = .ok (.putfield 46, 3) := by decide +kernel
theorem dX8_init_116 : decode cX8_init 116 = .ok (.aload_n 0, 1) := by decide +kernel
theorem dX8_init_117 : decode cX8_init 117 = .ok (.bipush 80, 2) := by decide +kernel
theorem dX8_init_119 : decode cX8_init 119 = .ok (.newarray .int, 2) := by decide +kernel
theorem dX8_init_121 : decode cX8_init 121 = .ok (.putfield 49, 3) := by decide +kernel
theorem dX8_init_124 : decode cX8_init 124 = .ok (.aload_n 0, 1) := by decide +kernel
theorem dX8_init_125 : decode cX8_init 125 = .ok (.bipush 30, 2) := by decide +kernel
theorem dX8_init_127 : decode cX8_init 127 = .ok (.newarray .int, 2) := by decide +kernel
theorem dX8_init_129 : decode cX8_init 129 = .ok (.putfield 52, 3) := by decide +kernel
theorem dX8_init_132 : decode cX8_init 132 = .ok (.aload_n 0, 1) := by decide +kernel
theorem dX8_init_133 : decode cX8_init 133 = .ok (.bipush 30, 2) := by decide +kernel
theorem dX8_init_135 : decode cX8_init 135 = .ok (.newarray .int, 2) := by decide +kernel
theorem dX8_init_137 : decode cX8_init 137 = .ok (.putfield 55, 3) := by decide +kernel
theorem dX8_init_140 : decode cX8_init 140 = .ok (.aload_n 0, 1) := by decide +kernel
theorem dX8_init_141 : decode cX8_init 141 = .ok (.bipush 60, 2) := by decide +kernel
theorem dX8_init_143 : decode cX8_init 143 = .ok (.newarray .int, 2) := by decide +kernel
theorem dX8_init_145 : decode cX8_init 145 = .ok (.putfield 58, 3) := by decide +kernel
theorem dX8_init_148 : decode cX8_init 148 = .ok (.aload_n 0, 1) := by decide +kernel
theorem dX8_init_149 : decode cX8_init 149 = .ok (.getfield 7, 3) := by decide +kernel
theorem dX8_init_152 : decode cX8_init 152 = .ok (.iconst 3, 1) := by decide +kernel
theorem dX8_init_153 : decode cX8_init 153 = .ok (.iconst 1, 1) := by decide +kernel
theorem dX8_init_154 : decode cX8_init 154 = .ok (.iastore, 1) := by decide +kernel
theorem dX8_init_155 : decode cX8_init 155 = .ok (.aload_n 0, 1) := by decide +kernel
theorem dX8_init_156 : decode cX8_init 156 = .ok (.getfield 7, 3) := by decide +kernel
theorem dX8_init_159 : decode cX8_init 159 = .ok (.iconst 4, 1) := by decide +kernel
theorem dX8_init_160 : decode cX8_init 160 = .ok (.iconst 1, 1) := by decide +kernel
theorem dX8_init_161 : decode cX8_init 161 = .ok (.iastore, 1) := by decide +kernel
theorem dX8_init_162 : decode cX8_init 162 = .ok (.aload_n 0, 1) := by decide +kernel
theorem dX8_init_163 : decode cX8_init 163 = .ok (.bipush 6, 2) := by decide +kernel
theorem dX8_init_165 : decode cX8_init 165 = .ok (.iconst 2, 1) := by decide +kernel
theorem dX8_init_166 : decode cX8_init 166 = .ok (.invokevirtual 61, 3) := by decide +kernel
theorem dX8_init_169 : decode cX8_init 169 = .ok (.return_, 1) := by decide +kernel
theorem dX8_in_0 : decode cX8_in 0 = .ok (.lload_n 0, 1) := by decide +kernel
theorem dX8_in_1 : decode cX8_in 1 = .ok (.lload_n 2, 1) := by decide +kernel
theorem dX8_in_2 : decode cX8_in 2 = .ok (.lcmp, 1) := by decide +kernel
theorem dX8_in_3 : decode cX8_in 3 = .ok (.ifCond .lt 14, 3) := by decide +kernel
theorem dX8_in_6 : decode cX8_in 6 = .ok (.lload_n 0, 1) := by decide +kernel
theorem dX8_in_7 : decode cX8_in 7 = .ok (.lload 4, 2) := by decide +kernel
theorem dX8_in_9 : decode cX8_in 9 = .ok (.lcmp, 1) := by decide +kernel
theorem dX8_in_10 : decode cX8_in 10 = .ok (.ifCond .gt 7, 3) := by decide +kernel
theorem dX8_in_13 : decode cX8_in 13 = .ok (.iconst 1, 1) := by decide +kernel
theorem dX8_in_14 : decode cX8_in 14 = .ok (.goto 4, 3) := by decide +kernel
theorem dX8_in_17 : decode cX8_in 17 = .ok (.iconst 0, 1) := by decide +kernel
theorem dX8_in_18 : decode cX8_in 18 = .ok (.ireturn, 1) := by decide +kernel
theorem dX8_copy_0 : decode cX8_copy 0 = .ok (.iconst 0, 1) := by decide +kernel
theorem dX8_copy_1 : decode cX8_copy 1 = .ok (.istore_n 2, 1) := by decide +kernel
theorem dX8_copy_2 : decode cX8_copy 2 = .ok (.iload_n 2, 1) := by decide +kernel
theorem dX8_copy_3 : decode cX8_copy 3 = .ok (.bipush 46, 2) := by decide +kernel
theorem dX8_copy_5 : decode cX8_copy 5 = .ok (.if_icmp .ge 15, 3) := by decide +kernel
theorem dX8_copy_8 : decode cX8_copy 8 = .ok (.aload_n 1, 1) := by decide +kernel
theorem dX8_copy_9 : decode cX8_copy 9 = .ok (.iload_n 2, 1) := by decide +kernel
theorem dX8_copy_10 : decode cX8_copy 10 = .ok (.aload_n 0, 1) := by decide +kernel
theorem dX8_copy_11 : decode cX8_copy 11 = .ok (.iload_n 2, 1) := by decide +kernel
theorem dX8_copy_12 : decode cX8_copy 12 = .ok (.iaload, 1) := by decide +kernel
theorem dX8_copy_13 : decode cX8_copy 13 = .ok (.iastore, 1) := by decide +kernel
theorem dX8_copy_14 : decode cX8_copy 14 = .ok (.iinc 2 1, 3) := by decide +kernel
theorem dX8_copy_17 : decode cX8_copy 17 = .ok (.goto (-15), 3) := by decide +kernel
theorem dX8_copy_20 : decode cX8_copy 20 = .ok (.return_, 1) := by decide +kernel
theorem dX8_remember_0 : decode cX8_remember 0 = .ok (.aload_n 0, 1) := by decide +kernel
theorem dX8_remember_1 : decode cX8_remember 1 = .ok (.getfield 7, 3) := by decide +kernel
theorem dX8_remember_4 : decode cX8_remember 4 = .ok (.aload_n 0, 1) := by decide +kernel
theorem dX8_remember_5 : decode cX8_remember 5 = .ok (.getfield 13, 3) := by decide +kernel
theorem dX8_remember_8 : decode cX8_remember 8 = .ok (.invokestatic 65, 3) := by decide +kernel
theorem dX8_remember_11 : decode cX8_remember 11 = .ok (.return_, 1) := by decide +kernel
theorem dX8_acted_0 : decode cX8_acted 0 = .ok (.aload_n 0, 1) := by decide +kernel
theorem dX8_acted_1 : decode cX8_acted 1 = .ok (.getfield 69, 3) := by decide +kernel
theorem dX8_acted_4 : decode cX8_acted 4 = .ok (.iconst 4, 1) := by decide +kernel
theorem dX8_acted_5 : decode cX8_acted 5 = .ok (.if_icmp .ne 43, 3) := by decide +kernel
theorem dX8_acted_8 : decode cX8_acted 8 = .ok (.iconst 0, 1) := by decide +kernel
theorem dX8_acted_9 : decode cX8_acted 9 = .ok (.istore_n 2, 1) := by decide +kernel
theorem dX8_acted_10 : decode cX8_acted 10 = .ok (.iload_n 2, 1) := by decide +kernel
theorem dX8_acted_11 : decode cX8_acted 11 = .ok (.sipush 138, 3) := by decide +kernel
theorem dX8_acted_14 : decode cX8_acted 14 = .ok (.if_icmp .ge 24, 3) := by decide +kernel
theorem dX8_acted_17 : decode cX8_acted 17 = .ok (.aload_n 0, 1) := by decide +kernel
theorem dX8_acted_18 : decode cX8_acted 18 = .ok (.getfield 16, 3) := by decide +kernel
theorem dX8_acted_21 : decode cX8_acted 21 = .ok (.iload_n 2, 1) := by decide +kernel
theorem dX8_acted_22 : decode cX8_acted 22 = .ok (.aload_n 0, 1) := by decide +kernel
theorem dX8_acted_23 : decode cX8_acted 23 = .ok (.getfield 16, 3) := by decide +kernel
theorem dX8_acted_26 : decode cX8_acted 26 = .ok (.iload_n 2, 1) := by decide +kernel
theorem dX8_acted_27 : decode cX8_acted 27 = .ok (.bipush 46, 2) := by decide +kernel
theorem dX8_acted_29 : decode cX8_acted 29 = .ok (.iadd, 1) := by decide +kernel
theorem dX8_acted_30 : decode cX8_acted 30 = .ok (.iaload, 1) := by decide +kernel
theorem dX8_acted_31 : decode cX8_acted 31 = .ok (.iastore, 1) := by decide +kernel
theorem dX8_acted_32 : decode cX8_acted 32 = .ok (.iinc 2 1, 3) := by decide +kernel
theorem dX8_acted_35 : decode cX8_acted 35 = .ok (.goto (-25), 3) := by decide +kernel
theorem dX8_acted_38 : decode cX8_acted 38 = .ok (.aload_n 0, 1) := by decide +kernel
theorem dX8_acted_39 : decode cX8_acted 39 = .ok (.dup, 1) := by decide +kernel
theorem dX8_acted_40 : decode cX8_acted 40 = .ok (.getfield 69, 3) := by decide +kernel
theorem dX8_acted_43 : decode cX8_acted 43 = .ok (.iconst 1, 1) := by decide +kernel
theorem dX8_acted_44 : decode cX8_acted 44 = .ok (.isub, 1) := by decide +kernel
theorem dX8_acted_45 : decode cX8_acted 45 = .ok (.putfield 69, 3) := by decide +kernel
theorem dX8_acted_48 : decode cX8_acted 48 = .ok (.iconst 0, 1) := by decide +kernel
theorem dX8_acted_49 : decode cX8_acted 49 = .ok (.istore_n 2, 1) := by decide +kernel
theorem dX8_acted_50 : decode cX8_acted 50 = .ok (.iload_n 2, 1) := by decide +kernel
theorem dX8_acted_51 : decode cX8_acted 51 = .ok (.bipush 46, 2) := by decide +kernel
theorem dX8_acted_53 : decode cX8_acted 53 = .ok (.if_icmp .ge 29, 3) := by decide +kernel
theorem dX8_acted_56 : decode cX8_acted 56 = .ok (.aload_n 0, 1) := by decide +kernel
theorem dX8_acted_57 : decode cX8_acted 57 = .ok (.getfield 16, 3) := by decide +kernel
theorem dX8_acted_60 : decode cX8_acted 60 = .ok (.bipush 46, 2) := by decide +kernel
theorem dX8_acted_62 : decode cX8_acted 62 = .ok (.aload_n 0, 1) := by decide +kernel
theorem dX8_acted_63 : decode cX8_acted 63 = .ok (.getfield 69, 3) := by decide +kernel
theorem dX8_acted_66 : decode cX8_acted 66 = .ok (.imul, 1) := by decide +kernel
theorem dX8_acted_67 : decode cX8_acted 67 = .ok (.iload_n 2, 1) := by decide +kernel
theorem dX8_acted_68 : decode cX8_acted 68 = .ok (.iadd, 1) := by decide +kernel
theorem dX8_acted_69 : decode cX8_acted 69 = .ok (.aload_n 0, 1) := by decide +kernel
theorem dX8_acted_70 : decode cX8_acted 70 = .ok (.getfield 13, 3) := by decide +kernel
theorem dX8_acted_73 : decode cX8_acted 73 = .ok (.iload_n 2, 1) := by decide +kernel
theorem dX8_acted_74 : decode cX8_acted 74 = .ok (.iaload, 1) := by decide +kernel
theorem dX8_acted_75 : decode cX8_acted 75 = .ok (.iastore, 1) := by decide +kernel
theorem dX8_acted_76 : decode cX8_acted 76 = .ok (.iinc 2 1, 3) := by decide +kernel
theorem dX8_acted_79 : decode cX8_acted 79 = .ok (.goto (-29), 3) := by decide +kernel
theorem dX8_acted_82 : decode cX8_acted 82 = .ok (.aload_n 0, 1) := by decide +kernel
theorem dX8_acted_83 : decode cX8_acted 83 = .ok (.dup, 1) := by decide +kernel
theorem dX8_acted_84 : decode cX8_acted 84 = .ok (.getfield 69, 3) := by decide +kernel
theorem dX8_acted_87 : decode cX8_acted 87 = .ok (.iconst 1, 1) := by decide +kernel
theorem dX8_acted_88 : decode cX8_acted 88 = .ok (.iadd, 1) := by decide +kernel
theorem dX8_acted_89 : decode cX8_acted 89 = .ok (.putfield 69, 3) := by decide +kernel
theorem dX8_acted_92 : decode cX8_acted 92 = .ok (.iload_n 1, 1) := by decide +kernel
theorem dX8_acted_93 : decode cX8_acted 93 = .ok (.ireturn, 1) := by decide +kernel
theorem dX8_lays_0 : decode cX8_lays 0 = .ok (.aload_n 0, 1) := by decide +kernel
theorem dX8_lays_1 : decode cX8_lays 1 = .ok (.getfield 7, 3) := by decide +kernel
theorem dX8_lays_4 : decode cX8_lays 4 = .ok (.iconst 0, 1) := by decide +kernel
theorem dX8_lays_5 : decode cX8_lays 5 = .ok (.iload_n 1, 1) := by decide +kernel
theorem dX8_lays_6 : decode cX8_lays 6 = .ok (.iastore, 1) := by decide +kernel
theorem dX8_lays_7 : decode cX8_lays 7 = .ok (.aload_n 0, 1) := by decide +kernel
theorem dX8_lays_8 : decode cX8_lays 8 = .ok (.getfield 7, 3) := by decide +kernel
theorem dX8_lays_11 : decode cX8_lays 11 = .ok (.iconst 1, 1) := by decide +kernel
theorem dX8_lays_12 : decode cX8_lays 12 = .ok (.iload_n 2, 1) := by decide +kernel
theorem dX8_lays_13 : decode cX8_lays 13 = .ok (.iastore, 1) := by decide +kernel
theorem dX8_lays_14 : decode cX8_lays 14 = .ok (.iconst 0, 1) := by decide +kernel
theorem dX8_lays_15 : decode cX8_lays 15 = .ok (.istore_n 3, 1) := by decide +kernel
theorem dX8_lays_16 : decode cX8_lays 16 = .ok (.iload_n 3, 1) := by decide +kernel
theorem dX8_lays_17 : decode cX8_lays 17 = .ok (.bipush 10, 2) := by decide +kernel
theorem dX8_lays_19 : decode cX8_lays 19 = .ok (.if_icmp .ge 32, 3) := by decide +kernel
theorem dX8_lays_22 : decode cX8_lays 22 = .ok (.aload_n 0, 1) := by decide +kernel
theorem dX8_lays_23 : decode cX8_lays 23 = .ok (.getfield 7, 3) := by decide +kernel
theorem dX8_lays_26 : decode cX8_lays 26 = .ok (.bipush 6, 2) := by decide +kernel
theorem dX8_lays_28 : decode cX8_lays 28 = .ok (.iload_n 3, 1) := by decide +kernel
theorem dX8_lays_29 : decode cX8_lays 29 = .ok (.iadd, 1) := by decide +kernel
theorem dX8_lays_30 : decode cX8_lays 30 = .ok (.iload_n 3, 1) := by decide +kernel
theorem dX8_lays_31 : decode cX8_lays 31 = .ok (.iload_n 1, 1) := by decide +kernel
theorem dX8_lays_32 : decode cX8_lays 32 = .ok (.if_icmp .ge 11, 3) := by decide +kernel
theorem dX8_lays_35 : decode cX8_lays 35 = .ok (.iconst 1, 1) := by decide +kernel
theorem dX8_lays_36 : decode cX8_lays 36 = .ok (.iload_n 2, 1) := by decide +kernel
theorem dX8_lays_37 : decode cX8_lays 37 = .ok (.ishl, 1) := by decide +kernel
theorem dX8_lays_38 : decode cX8_lays 38 = .ok (.iconst 1, 1) := by decide +kernel
theorem dX8_lays_39 : decode cX8_lays 39 = .ok (.isub, 1) := by decide +kernel
theorem dX8_lays_40 : decode cX8_lays 40 = .ok (.goto 4, 3) := by decide +kernel
theorem dX8_lays_43 : decode cX8_lays 43 = .ok (.iconst 0, 1) := by decide +kernel
theorem dX8_lays_44 : decode cX8_lays 44 = .ok (.iastore, 1) := by decide +kernel
theorem dX8_lays_45 : decode cX8_lays 45 = .ok (.iinc 3 1, 3) := by decide +kernel
theorem dX8_lays_48 : decode cX8_lays 48 = .ok (.goto (-32), 3) := by decide +kernel
theorem dX8_lays_51 : decode cX8_lays 51 = .ok (.iconst 0, 1) := by decide +kernel
theorem dX8_lays_52 : decode cX8_lays 52 = .ok (.istore_n 3, 1) := by decide +kernel
theorem dX8_lays_53 : decode cX8_lays 53 = .ok (.iload_n 3, 1) := by decide +kernel
theorem dX8_lays_54 : decode cX8_lays 54 = .ok (.bipush 30, 2) := by decide +kernel
theorem dX8_lays_56 : decode cX8_lays 56 = .ok (.if_icmp .ge 19, 3) := by decide +kernel
theorem dX8_lays_59 : decode cX8_lays 59 = .ok (.aload_n 0, 1) := by decide +kernel
theorem dX8_lays_60 : decode cX8_lays 60 = .ok (.getfield 7, 3) := by decide +kernel
theorem dX8_lays_63 : decode cX8_lays 63 = .ok (.bipush 16, 2) := by decide +kernel
theorem dX8_lays_65 : decode cX8_lays 65 = .ok (.iload_n 3, 1) := by decide +kernel
theorem dX8_lays_66 : decode cX8_lays 66 = .ok (.iadd, 1) := by decide +kernel
theorem dX8_lays_67 : decode cX8_lays 67 = .ok (.iconst 0, 1) := by decide +kernel
theorem dX8_lays_68 : decode cX8_lays 68 = .ok (.iastore, 1) := by decide +kernel
theorem dX8_lays_69 : decode cX8_lays 69 = .ok (.iinc 3 1, 3) := by decide +kernel
theorem dX8_lays_72 : decode cX8_lays 72 = .ok (.goto (-19), 3) := by decide +kernel
theorem dX8_lays_75 : decode cX8_lays 75 = .ok (.return_, 1) := by decide +kernel
theorem dX8_cells_0 : decode cX8_cells 0 = .ok (.aload_n 0, 1) := by decide +kernel
theorem dX8_cells_1 : decode cX8_cells 1 = .ok (.getfield 7, 3) := by decide +kernel
theorem dX8_cells_4 : decode cX8_cells 4 = .ok (.iconst 0, 1) := by decide +kernel
theorem dX8_cells_5 : decode cX8_cells 5 = .ok (.iaload, 1) := by decide +kernel
theorem dX8_cells_6 : decode cX8_cells 6 = .ok (.aload_n 0, 1) := by decide +kernel
theorem dX8_cells_7 : decode cX8_cells 7 = .ok (.getfield 7, 3) := by decide +kernel
theorem dX8_cells_10 : decode cX8_cells 10 = .ok (.iconst 1, 1) := by decide +kernel
theorem dX8_cells_11 : decode cX8_cells 11 = .ok (.iaload, 1) := by decide +kernel
theorem dX8_cells_12 : decode cX8_cells 12 = .ok (.imul, 1) := by decide +kernel
theorem dX8_cells_13 : decode cX8_cells 13 = .ok (.ireturn, 1) := by decide +kernel
theorem dX8_isRow_0 : decode cX8_isRow 0 = .ok (.iload_n 1, 1) := by decide +kernel
theorem dX8_isRow_1 : decode cX8_isRow 1 = .ok (.i2l, 1) := by decide +kernel
theorem dX8_isRow_2 : decode cX8_isRow 2 = .ok (.lconst 0, 1) := by decide +kernel
theorem dX8_isRow_3 : decode cX8_isRow 3 = .ok (.aload_n 0, 1) := by decide +kernel
theorem dX8_isRow_4 : decode cX8_isRow 4 = .ok (.getfield 7, 3) := by decide +kernel
theorem dX8_isRow_7 : decode cX8_isRow 7 = .ok (.iconst 1, 1) := by decide +kernel
theorem dX8_isRow_8 : decode cX8_isRow 8 = .ok (.iaload, 1) := by decide +kernel
theorem dX8_isRow_9 : decode cX8_isRow 9 = .ok (.i2l, 1) := by decide +kernel
theorem dX8_isRow_10 : decode cX8_isRow 10 = .ok (.lconst 1, 1) := by decide +kernel
theorem dX8_isRow_11 : decode cX8_isRow 11 = .ok (.lsub, 1) := by decide +kernel
theorem dX8_isRow_12 : decode cX8_isRow 12 = .ok (.invokestatic 73, 3) := by decide +kernel
theorem dX8_isRow_15 : decode cX8_isRow 15 = .ok (.ireturn, 1) := by decide +kernel
theorem dX8_isColumn_0 : decode cX8_isColumn 0 = .ok (.iload_n 1, 1) := by decide +kernel
theorem dX8_isColumn_1 : decode cX8_isColumn 1 = .ok (.i2l, 1) := by decide +kernel
theorem dX8_isColumn_2 : decode cX8_isColumn 2 = .ok (.lconst 0, 1) := by decide +kernel
theorem dX8_isColumn_3 : decode cX8_isColumn 3 = .ok (.aload_n 0, 1) := by decide +kernel
theorem dX8_isColumn_4 : decode cX8_isColumn 4 = .ok (.getfield 7, 3) := by decide +kernel
theorem dX8_isColumn_7 : decode cX8_isColumn 7 = .ok (.iconst 0, 1) := by decide +kernel
theorem dX8_isColumn_8 : decode cX8_isColumn 8 = .ok (.iaload, 1) := by decide +kernel
theorem dX8_isColumn_9 : decode cX8_isColumn 9 = .ok (.i2l, 1) := by decide +kernel
theorem dX8_isColumn_10 : decode cX8_isColumn 10 = .ok (.lconst 1, 1) := by decide +kernel
theorem dX8_isColumn_11 : decode cX8_isColumn 11 = .ok (.lsub, 1) := by decide +kernel
theorem dX8_isColumn_12 : decode cX8_isColumn 12 = .ok (.invokestatic 73, 3) := by decide +kernel
theorem dX8_isColumn_15 : decode cX8_isColumn 15 = .ok (.ireturn, 1) := by decide +kernel
theorem dX8_isLoop_0 : decode cX8_isLoop 0 = .ok (.aload_n 0, 1) := by decide +kernel
theorem dX8_isLoop_1 : decode cX8_isLoop 1 = .ok (.getfield 7, 3) := by decide +kernel
theorem dX8_isLoop_4 : decode cX8_isLoop 4 = .ok (.iconst 2, 1) := by decide +kernel
theorem dX8_isLoop_5 : decode cX8_isLoop 5 = .ok (.iaload, 1) := by decide +kernel
theorem dX8_isLoop_6 : decode cX8_isLoop 6 = .ok (.iconst 1, 1) := by decide +kernel
theorem dX8_isLoop_7 : decode cX8_isLoop 7 = .ok (.if_icmp .ne 17, 3) := by decide +kernel
theorem dX8_isLoop_10 : decode cX8_isLoop 10 = .ok (.aload_n 0, 1) := by decide +kernel
theorem dX8_isLoop_11 : decode cX8_isLoop 11 = .ok (.getfield 7, 3) := by decide +kernel
theorem dX8_isLoop_14 : decode cX8_isLoop 14 = .ok (.iconst 0, 1) := by decide +kernel
theorem dX8_isLoop_15 : decode cX8_isLoop 15 = .ok (.iaload, 1) := by decide +kernel
theorem dX8_isLoop_16 : decode cX8_isLoop 16 = .ok (.iconst 2, 1) := by decide +kernel
theorem dX8_isLoop_17 : decode cX8_isLoop 17 = .ok (.if_icmp .le 7, 3) := by decide +kernel
theorem dX8_isLoop_20 : decode cX8_isLoop 20 = .ok (.iconst 1, 1) := by decide +kernel
theorem dX8_isLoop_21 : decode cX8_isLoop 21 = .ok (.goto 4, 3) := by decide +kernel
theorem dX8_isLoop_24 : decode cX8_isLoop 24 = .ok (.iconst 0, 1) := by decide +kernel
theorem dX8_isLoop_25 : decode cX8_isLoop 25 = .ok (.ireturn, 1) := by decide +kernel
theorem dX8_spinIn_0 : decode cX8_spinIn 0 = .ok (.iload_n 0, 1) := by decide +kernel
theorem dX8_spinIn_1 : decode cX8_spinIn 1 = .ok (.iload_n 1, 1) := by decide +kernel
theorem dX8_spinIn_2 : decode cX8_spinIn 2 = .ok (.ishr, 1) := by decide +kernel
theorem dX8_spinIn_3 : decode cX8_spinIn 3 = .ok (.iconst 1, 1) := by decide +kernel
theorem dX8_spinIn_4 : decode cX8_spinIn 4 = .ok (.iand, 1) := by decide +kernel
theorem dX8_spinIn_5 : decode cX8_spinIn 5 = .ok (.iconst 1, 1) := by decide +kernel
theorem dX8_spinIn_6 : decode cX8_spinIn 6 = .ok (.if_icmp .ne 7, 3) := by decide +kernel
theorem dX8_spinIn_9 : decode cX8_spinIn 9 = .ok (.iconst 1, 1) := by decide +kernel
theorem dX8_spinIn_10 : decode cX8_spinIn 10 = .ok (.goto 4, 3) := by decide +kernel
theorem dX8_spinIn_13 : decode cX8_spinIn 13 = .ok (.iconst (-1), 1) := by decide +kernel
theorem dX8_spinIn_14 : decode cX8_spinIn 14 = .ok (.ireturn, 1) := by decide +kernel
theorem dX8_spin_0 : decode cX8_spin 0 = .ok (.aload_n 0, 1) := by decide +kernel
theorem dX8_spin_1 : decode cX8_spin 1 = .ok (.getfield 7, 3) := by decide +kernel
theorem dX8_spin_4 : decode cX8_spin 4 = .ok (.bipush 6, 2) := by decide +kernel
theorem dX8_spin_6 : decode cX8_spin 6 = .ok (.iload_n 2, 1) := by decide +kernel
theorem dX8_spin_7 : decode cX8_spin 7 = .ok (.iadd, 1) := by decide +kernel
theorem dX8_spin_8 : decode cX8_spin 8 = .ok (.iaload, 1) := by decide +kernel
theorem dX8_spin_9 : decode cX8_spin 9 = .ok (.iload_n 1, 1) := by decide +kernel
theorem dX8_spin_10 : decode cX8_spin 10 = .ok (.invokestatic 77, 3) := by decide +kernel
theorem dX8_spin_13 : decode cX8_spin 13 = .ok (.ireturn, 1) := by decide +kernel
theorem dX8_fieldAt_0 : decode cX8_fieldAt 0 = .ok (.aload_n 0, 1) := by decide +kernel
theorem dX8_fieldAt_1 : decode cX8_fieldAt 1 = .ok (.getfield 7, 3) := by decide +kernel
theorem dX8_fieldAt_4 : decode cX8_fieldAt 4 = .ok (.bipush 16, 2) := by decide +kernel
theorem dX8_fieldAt_6 : decode cX8_fieldAt 6 = .ok (.iconst 3, 1) := by decide +kernel
theorem dX8_fieldAt_7 : decode cX8_fieldAt 7 = .ok (.iload_n 2, 1) := by decide +kernel
theorem dX8_fieldAt_8 : decode cX8_fieldAt 8 = .ok (.imul, 1) := by decide +kernel
theorem dX8_fieldAt_9 : decode cX8_fieldAt 9 = .ok (.iadd, 1) := by decide +kernel
theorem dX8_fieldAt_10 : decode cX8_fieldAt 10 = .ok (.iload_n 1, 1) := by decide +kernel
theorem dX8_fieldAt_11 : decode cX8_fieldAt 11 = .ok (.iadd, 1) := by decide +kernel
theorem dX8_fieldAt_12 : decode cX8_fieldAt 12 = .ok (.iaload, 1) := by decide +kernel
theorem dX8_fieldAt_13 : decode cX8_fieldAt 13 = .ok (.ireturn, 1) := by decide +kernel
theorem dX8_beside_0 : decode cX8_beside 0 = .ok (.iload_n 1, 1) := by decide +kernel
theorem dX8_beside_1 : decode cX8_beside 1 = .ok (.iload_n 2, 1) := by decide +kernel
theorem dX8_beside_2 : decode cX8_beside 2 = .ok (.iadd, 1) := by decide +kernel
theorem dX8_beside_3 : decode cX8_beside 3 = .ok (.istore_n 3, 1) := by decide +kernel
theorem dX8_beside_4 : decode cX8_beside 4 = .ok (.aload_n 0, 1) := by decide +kernel
theorem dX8_beside_5 : decode cX8_beside 5 = .ok (.iload_n 3, 1) := by decide +kernel
theorem dX8_beside_6 : decode cX8_beside 6 = .ok (.invokevirtual 81, 3) := by decide +kernel
theorem dX8_beside_9 : decode cX8_beside 9 = .ok (.ifCond .eq 5, 3) := by decide +kernel
theorem dX8_beside_12 : decode cX8_beside 12 = .ok (.iload_n 3, 1) := by decide +kernel
theorem dX8_beside_13 : decode cX8_beside 13 = .ok (.ireturn, 1) := by decide +kernel
theorem dX8_beside_14 : decode cX8_beside 14 = .ok (.aload_n 0, 1) := by decide +kernel
theorem dX8_beside_15 : decode cX8_beside 15 = .ok (.invokevirtual 85, 3) := by decide +kernel
theorem dX8_beside_18 : decode cX8_beside 18 = .ok (.ifCond .ne 9, 3) := by decide +kernel
theorem dX8_beside_21 : decode cX8_beside 21 = .ok (.sipush (-1005), 3) := by decide +kernel
theorem dX8_beside_24 : decode cX8_beside 24 = .ok (.goto 19, 3) := by decide +kernel
theorem dX8_beside_27 : decode cX8_beside 27 = .ok (.iload_n 2, 1) := by decide +kernel
theorem dX8_beside_28 : decode cX8_beside 28 = .ok (.ifCond .le 7, 3) := by decide +kernel
theorem dX8_beside_31 : decode cX8_beside 31 = .ok (.iconst 0, 1) := by decide +kernel
theorem dX8_beside_32 : decode cX8_beside 32 = .ok (.goto 11, 3) := by decide +kernel
theorem dX8_beside_35 : decode cX8_beside 35 = .ok (.aload_n 0, 1) := by decide +kernel
theorem dX8_beside_36 : decode cX8_beside 36 = .ok (.getfield 7, 3) := by decide +kernel
theorem dX8_beside_39 : decode cX8_beside 39 = .ok (.iconst 0, 1) := by decide +kernel
theorem dX8_beside_40 : decode cX8_beside 40 = .ok (.iaload, 1) := by decide +kernel
theorem dX8_beside_41 : decode cX8_beside 41 = .ok (.iconst 1, 1) := by decide +kernel
theorem dX8_beside_42 : decode cX8_beside 42 = .ok (.isub, 1) := by decide +kernel
theorem dX8_beside_43 : decode cX8_beside 43 = .ok (.ireturn, 1) := by decide +kernel
theorem dX8_ofColumn_0 : decode cX8_ofColumn 0 = .ok (.iconst 0, 1) := by decide +kernel
theorem dX8_ofColumn_1 : decode cX8_ofColumn 1 = .ok (.istore 4, 2) := by decide +kernel
theorem dX8_ofColumn_3 : decode cX8_ofColumn 3 = .ok (.iconst 0, 1) := by decide +kernel
theorem dX8_ofColumn_4 : decode cX8_ofColumn 4 = .ok (.istore 5, 2) := by decide +kernel
theorem dX8_ofColumn_6 : decode cX8_ofColumn 6 = .ok (.iload 5, 2) := by decide +kernel
theorem dX8_ofColumn_8 : decode cX8_ofColumn 8 = .ok (.aload_n 0, 1) := by decide +kernel
theorem dX8_ofColumn_9 : decode cX8_ofColumn 9 = .ok (.getfield 7, 3) := by decide +kernel
theorem dX8_ofColumn_12 : decode cX8_ofColumn 12 = .ok (.iconst 1, 1) := by decide +kernel
theorem dX8_ofColumn_13 : decode cX8_ofColumn 13 = .ok (.iaload, 1) := by decide +kernel
theorem dX8_ofColumn_14 : decode cX8_ofColumn 14 = .ok (.if_icmp .ge 94, 3) := by decide +kernel
theorem dX8_ofColumn_17 : decode cX8_ofColumn 17 = .ok (.iload_n 3, 1) := by decide +kernel
theorem dX8_ofColumn_18 : decode cX8_ofColumn 18 = .ok (.iload 5, 2) := by decide +kernel
theorem dX8_ofColumn_20 : decode cX8_ofColumn 20 = .ok (.invokestatic 77, 3) := by decide +kernel
theorem dX8_ofColumn_23 : decode cX8_ofColumn 23 = .ok (.istore 6, 2) := by decide +kernel
theorem dX8_ofColumn_25 : decode cX8_ofColumn 25 = .ok (.iload 5, 2) := by decide +kernel
theorem dX8_ofColumn_27 : decode cX8_ofColumn 27 = .ok (.iconst 1, 1) := by decide +kernel
theorem dX8_ofColumn_28 : decode cX8_ofColumn 28 = .ok (.iadd, 1) := by decide +kernel
theorem dX8_ofColumn_29 : decode cX8_ofColumn 29 = .ok (.aload_n 0, 1) := by decide +kernel
theorem dX8_ofColumn_30 : decode cX8_ofColumn 30 = .ok (.getfield 7, 3) := by decide +kernel
theorem dX8_ofColumn_33 : decode cX8_ofColumn 33 = .ok (.iconst 1, 1) := by decide +kernel
theorem dX8_ofColumn_34 : decode cX8_ofColumn 34 = .ok (.iaload, 1) := by decide +kernel
theorem dX8_ofColumn_35 : decode cX8_ofColumn 35 = .ok (.if_icmp .ge 14, 3) := by decide +kernel
theorem dX8_ofColumn_38 : decode cX8_ofColumn 38 = .ok (.iload_n 3, 1) := by decide +kernel
theorem dX8_ofColumn_39 : decode cX8_ofColumn 39 = .ok (.iload 5, 2) := by decide +kernel
theorem dX8_ofColumn_41 : decode cX8_ofColumn 41 = .ok (.iconst 1, 1) := by decide +kernel
theorem dX8_ofColumn_42 : decode cX8_ofColumn 42 = .ok (.iadd, 1) := by decide +kernel
theorem dX8_ofColumn_43 : decode cX8_ofColumn 43 = .ok (.invokestatic 77, 3) := by decide +kernel
theorem dX8_ofColumn_46 : decode cX8_ofColumn 46 = .ok (.goto 4, 3) := by decide +kernel
theorem dX8_ofColumn_49 : decode cX8_ofColumn 49 = .ok (.iconst 0, 1) := by decide +kernel
theorem dX8_ofColumn_50 : decode cX8_ofColumn 50 = .ok (.istore 7, 2) := by decide +kernel
theorem dX8_ofColumn_52 : decode cX8_ofColumn 52 = .ok (.iload 4, 2) := by decide +kernel
theorem dX8_ofColumn_54 : decode cX8_ofColumn 54 = .ok (.iload_n 1, 1) := by decide +kernel
theorem dX8_ofColumn_55 : decode cX8_ofColumn 55 = .ok (.iconst 1, 1) := by decide +kernel
theorem dX8_ofColumn_56 : decode cX8_ofColumn 56 = .ok (.if_icmp .ne 19, 3) := by decide +kernel
theorem dX8_ofColumn_59 : decode cX8_ofColumn 59 = .ok (.iload 6, 2) := by decide +kernel
theorem dX8_ofColumn_61 : decode cX8_ofColumn 61 = .ok (.iload 7, 2) := by decide +kernel
theorem dX8_ofColumn_63 : decode cX8_ofColumn 63 = .ok (.imul, 1) := by decide +kernel
theorem dX8_ofColumn_64 : decode cX8_ofColumn 64 = .ok (.ifCond .ge 7, 3) := by decide +kernel
theorem dX8_ofColumn_67 : decode cX8_ofColumn 67 = .ok (.iconst 1, 1) := by decide +kernel
theorem dX8_ofColumn_68 : decode cX8_ofColumn 68 = .ok (.goto 31, 3) := by decide +kernel
theorem dX8_ofColumn_71 : decode cX8_ofColumn 71 = .ok (.iconst 0, 1) := by decide +kernel
theorem dX8_ofColumn_72 : decode cX8_ofColumn 72 = .ok (.goto 27, 3) := by decide +kernel
theorem dX8_ofColumn_75 : decode cX8_ofColumn 75 = .ok (.aload_n 0, 1) := by decide +kernel
theorem dX8_ofColumn_76 : decode cX8_ofColumn 76 = .ok (.getfield 7, 3) := by decide +kernel
theorem dX8_ofColumn_79 : decode cX8_ofColumn 79 = .ok (.iconst 4, 1) := by decide +kernel
theorem dX8_ofColumn_80 : decode cX8_ofColumn 80 = .ok (.iaload, 1) := by decide +kernel
theorem dX8_ofColumn_81 : decode cX8_ofColumn 81 = .ok (.ineg, 1) := by decide +kernel
theorem dX8_ofColumn_82 : decode cX8_ofColumn 82 = .ok (.iload 6, 2) := by decide +kernel
theorem dX8_ofColumn_84 : decode cX8_ofColumn 84 = .ok (.imul, 1) := by decide +kernel
theorem dX8_ofColumn_85 : decode cX8_ofColumn 85 = .ok (.iload 7, 2) := by decide +kernel
theorem dX8_ofColumn_87 : decode cX8_ofColumn 87 = .ok (.imul, 1) := by decide +kernel
theorem dX8_ofColumn_88 : decode cX8_ofColumn 88 = .ok (.aload_n 0, 1) := by decide +kernel
theorem dX8_ofColumn_89 : decode cX8_ofColumn 89 = .ok (.iload 5, 2) := by decide +kernel
theorem dX8_ofColumn_91 : decode cX8_ofColumn 91 = .ok (.iload_n 2, 1) := by decide +kernel
theorem dX8_ofColumn_92 : decode cX8_ofColumn 92 = .ok (.invokevirtual 89, 3) := by decide +kernel
theorem dX8_ofColumn_95 : decode cX8_ofColumn 95 = .ok (.iload 6, 2) := by decide +kernel
theorem dX8_ofColumn_97 : decode cX8_ofColumn 97 = .ok (.imul, 1) := by decide +kernel
theorem dX8_ofColumn_98 : decode cX8_ofColumn 98 = .ok (.isub, 1) := by decide +kernel
theorem dX8_ofColumn_99 : decode cX8_ofColumn 99 = .ok (.iadd, 1) := by decide +kernel
theorem dX8_ofColumn_100 : decode cX8_ofColumn 100 = .ok (.istore 4, 2) := by decide +kernel
theorem dX8_ofColumn_102 : decode cX8_ofColumn 102 = .ok (.iinc 5 1, 3) := by decide +kernel
theorem dX8_ofColumn_105 : decode cX8_ofColumn 105 = .ok (.goto (-99), 3) := by decide +kernel
theorem dX8_ofColumn_108 : decode cX8_ofColumn 108 = .ok (.iload 4, 2) := by decide +kernel
theorem dX8_ofColumn_110 : decode cX8_ofColumn 110 = .ok (.ireturn, 1) := by decide +kernel
theorem dX8_ofLink_0 : decode cX8_ofLink 0 = .ok (.iconst 0, 1) := by decide +kernel
theorem dX8_ofLink_1 : decode cX8_ofLink 1 = .ok (.istore 4, 2) := by decide +kernel
theorem dX8_ofLink_3 : decode cX8_ofLink 3 = .ok (.iconst 0, 1) := by decide +kernel
theorem dX8_ofLink_4 : decode cX8_ofLink 4 = .ok (.istore 5, 2) := by decide +kernel
theorem dX8_ofLink_6 : decode cX8_ofLink 6 = .ok (.iload 5, 2) := by decide +kernel
theorem dX8_ofLink_8 : decode cX8_ofLink 8 = .ok (.aload_n 0, 1) := by decide +kernel
theorem dX8_ofLink_9 : decode cX8_ofLink 9 = .ok (.getfield 7, 3) := by decide +kernel
theorem dX8_ofLink_12 : decode cX8_ofLink 12 = .ok (.iconst 1, 1) := by decide +kernel
theorem dX8_ofLink_13 : decode cX8_ofLink 13 = .ok (.iaload, 1) := by decide +kernel
theorem dX8_ofLink_14 : decode cX8_ofLink 14 = .ok (.if_icmp .ge 57, 3) := by decide +kernel
theorem dX8_ofLink_17 : decode cX8_ofLink 17 = .ok (.iload_n 2, 1) := by decide +kernel
theorem dX8_ofLink_18 : decode cX8_ofLink 18 = .ok (.iload 5, 2) := by decide +kernel
theorem dX8_ofLink_20 : decode cX8_ofLink 20 = .ok (.invokestatic 77, 3) := by decide +kernel
theorem dX8_ofLink_23 : decode cX8_ofLink 23 = .ok (.iload_n 3, 1) := by decide +kernel
theorem dX8_ofLink_24 : decode cX8_ofLink 24 = .ok (.iload 5, 2) := by decide +kernel
theorem dX8_ofLink_26 : decode cX8_ofLink 26 = .ok (.invokestatic 77, 3) := by decide +kernel
theorem dX8_ofLink_29 : decode cX8_ofLink 29 = .ok (.imul, 1) := by decide +kernel
theorem dX8_ofLink_30 : decode cX8_ofLink 30 = .ok (.istore 6, 2) := by decide +kernel
theorem dX8_ofLink_32 : decode cX8_ofLink 32 = .ok (.iload 4, 2) := by decide +kernel
theorem dX8_ofLink_34 : decode cX8_ofLink 34 = .ok (.iload_n 1, 1) := by decide +kernel
theorem dX8_ofLink_35 : decode cX8_ofLink 35 = .ok (.iconst 1, 1) := by decide +kernel
theorem dX8_ofLink_36 : decode cX8_ofLink 36 = .ok (.if_icmp .ne 16, 3) := by decide +kernel
theorem dX8_ofLink_39 : decode cX8_ofLink 39 = .ok (.iload 6, 2) := by decide +kernel
theorem dX8_ofLink_41 : decode cX8_ofLink 41 = .ok (.ifCond .ge 7, 3) := by decide +kernel
theorem dX8_ofLink_44 : decode cX8_ofLink 44 = .ok (.iconst 1, 1) := by decide +kernel
theorem dX8_ofLink_45 : decode cX8_ofLink 45 = .ok (.goto 17, 3) := by decide +kernel
theorem dX8_ofLink_48 : decode cX8_ofLink 48 = .ok (.iconst 0, 1) := by decide +kernel
theorem dX8_ofLink_49 : decode cX8_ofLink 49 = .ok (.goto 13, 3) := by decide +kernel
theorem dX8_ofLink_52 : decode cX8_ofLink 52 = .ok (.aload_n 0, 1) := by decide +kernel
theorem dX8_ofLink_53 : decode cX8_ofLink 53 = .ok (.getfield 7, 3) := by decide +kernel
theorem dX8_ofLink_56 : decode cX8_ofLink 56 = .ok (.iconst 3, 1) := by decide +kernel
theorem dX8_ofLink_57 : decode cX8_ofLink 57 = .ok (.iaload, 1) := by decide +kernel
theorem dX8_ofLink_58 : decode cX8_ofLink 58 = .ok (.ineg, 1) := by decide +kernel
theorem dX8_ofLink_59 : decode cX8_ofLink 59 = .ok (.iload 6, 2) := by decide +kernel
theorem dX8_ofLink_61 : decode cX8_ofLink 61 = .ok (.imul, 1) := by decide +kernel
theorem dX8_ofLink_62 : decode cX8_ofLink 62 = .ok (.iadd, 1) := by decide +kernel
theorem dX8_ofLink_63 : decode cX8_ofLink 63 = .ok (.istore 4, 2) := by decide +kernel
theorem dX8_ofLink_65 : decode cX8_ofLink 65 = .ok (.iinc 5 1, 3) := by decide +kernel
theorem dX8_ofLink_68 : decode cX8_ofLink 68 = .ok (.goto (-62), 3) := by decide +kernel
theorem dX8_ofLink_71 : decode cX8_ofLink 71 = .ok (.iload 4, 2) := by decide +kernel
theorem dX8_ofLink_73 : decode cX8_ofLink 73 = .ok (.ireturn, 1) := by decide +kernel
theorem dX8_ofStrip_0 : decode cX8_ofStrip 0 = .ok (.iconst 0, 1) := by decide +kernel
theorem dX8_ofStrip_1 : decode cX8_ofStrip 1 = .ok (.istore_n 2, 1) := by decide +kernel
theorem dX8_ofStrip_2 : decode cX8_ofStrip 2 = .ok (.iconst 0, 1) := by decide +kernel
theorem dX8_ofStrip_3 : decode cX8_ofStrip 3 = .ok (.istore_n 3, 1) := by decide +kernel
theorem dX8_ofStrip_4 : decode cX8_ofStrip 4 = .ok (.iload_n 3, 1) := by decide +kernel
theorem dX8_ofStrip_5 : decode cX8_ofStrip 5 = .ok (.aload_n 0, 1) := by decide +kernel
theorem dX8_ofStrip_6 : decode cX8_ofStrip 6 = .ok (.getfield 7, 3) := by decide +kernel
theorem dX8_ofStrip_9 : decode cX8_ofStrip 9 = .ok (.iconst 0, 1) := by decide +kernel
theorem dX8_ofStrip_10 : decode cX8_ofStrip 10 = .ok (.iaload, 1) := by decide +kernel
theorem dX8_ofStrip_11 : decode cX8_ofStrip 11 = .ok (.if_icmp .ge 72, 3) := by decide +kernel
theorem dX8_ofStrip_14 : decode cX8_ofStrip 14 = .ok (.aload_n 0, 1) := by decide +kernel
theorem dX8_ofStrip_15 : decode cX8_ofStrip 15 = .ok (.iload_n 3, 1) := by decide +kernel
theorem dX8_ofStrip_16 : decode cX8_ofStrip 16 = .ok (.iconst 1, 1) := by decide +kernel
theorem dX8_ofStrip_17 : decode cX8_ofStrip 17 = .ok (.invokevirtual 92, 3) := by decide +kernel
theorem dX8_ofStrip_20 : decode cX8_ofStrip 20 = .ok (.istore 4, 2) := by decide +kernel
theorem dX8_ofStrip_22 : decode cX8_ofStrip 22 = .ok (.iload_n 2, 1) := by decide +kernel
theorem dX8_ofStrip_23 : decode cX8_ofStrip 23 = .ok (.aload_n 0, 1) := by decide +kernel
theorem dX8_ofStrip_24 : decode cX8_ofStrip 24 = .ok (.iload_n 1, 1) := by decide +kernel
theorem dX8_ofStrip_25 : decode cX8_ofStrip 25 = .ok (.iload_n 3, 1) := by decide +kernel
theorem dX8_ofStrip_26 : decode cX8_ofStrip 26 = .ok (.aload_n 0, 1) := by decide +kernel
theorem dX8_ofStrip_27 : decode cX8_ofStrip 27 = .ok (.getfield 7, 3) := by decide +kernel
theorem dX8_ofStrip_30 : decode cX8_ofStrip 30 = .ok (.bipush 6, 2) := by decide +kernel
theorem dX8_ofStrip_32 : decode cX8_ofStrip 32 = .ok (.iload_n 3, 1) := by decide +kernel
theorem dX8_ofStrip_33 : decode cX8_ofStrip 33 = .ok (.iadd, 1) := by decide +kernel
theorem dX8_ofStrip_34 : decode cX8_ofStrip 34 = .ok (.iaload, 1) := by decide +kernel
theorem dX8_ofStrip_35 : decode cX8_ofStrip 35 = .ok (.invokevirtual 95, 3) := by decide +kernel
theorem dX8_ofStrip_38 : decode cX8_ofStrip 38 = .ok (.iload 4, 2) := by decide +kernel
theorem dX8_ofStrip_40 : decode cX8_ofStrip 40 = .ok (.sipush (-1005), 3) := by decide +kernel
theorem dX8_ofStrip_43 : decode cX8_ofStrip 43 = .ok (.if_icmp .ne 7, 3) := by decide +kernel
theorem dX8_ofStrip_46 : decode cX8_ofStrip 46 = .ok (.iconst 0, 1) := by decide +kernel
theorem dX8_ofStrip_47 : decode cX8_ofStrip 47 = .ok (.goto 27, 3) := by decide +kernel
theorem dX8_ofStrip_50 : decode cX8_ofStrip 50 = .ok (.aload_n 0, 1) := by decide +kernel
theorem dX8_ofStrip_51 : decode cX8_ofStrip 51 = .ok (.iload_n 1, 1) := by decide +kernel
theorem dX8_ofStrip_52 : decode cX8_ofStrip 52 = .ok (.aload_n 0, 1) := by decide +kernel
theorem dX8_ofStrip_53 : decode cX8_ofStrip 53 = .ok (.getfield 7, 3) := by decide +kernel
theorem dX8_ofStrip_56 : decode cX8_ofStrip 56 = .ok (.bipush 6, 2) := by decide +kernel
theorem dX8_ofStrip_58 : decode cX8_ofStrip 58 = .ok (.iload_n 3, 1) := by decide +kernel
theorem dX8_ofStrip_59 : decode cX8_ofStrip 59 = .ok (.iadd, 1) := by decide +kernel
theorem dX8_ofStrip_60 : decode cX8_ofStrip 60 = .ok (.iaload, 1) := by decide +kernel
theorem dX8_ofStrip_61 : decode cX8_ofStrip 61 = .ok (.aload_n 0, 1) := by decide +kernel
theorem dX8_ofStrip_62 : decode cX8_ofStrip 62 = .ok (.getfield 7, 3) := by decide +kernel
theorem dX8_ofStrip_65 : decode cX8_ofStrip 65 = .ok (.bipush 6, 2) := by decide +kernel
theorem dX8_ofStrip_67 : decode cX8_ofStrip 67 = .ok (.iload 4, 2) := by decide +kernel
theorem dX8_ofStrip_69 : decode cX8_ofStrip 69 = .ok (.iadd, 1) := by decide +kernel
theorem dX8_ofStrip_70 : decode cX8_ofStrip 70 = .ok (.iaload, 1) := by decide +kernel
theorem dX8_ofStrip_71 : decode cX8_ofStrip 71 = .ok (.invokevirtual 99, 3) := by decide +kernel
theorem dX8_ofStrip_74 : decode cX8_ofStrip 74 = .ok (.iadd, 1) := by decide +kernel
theorem dX8_ofStrip_75 : decode cX8_ofStrip 75 = .ok (.iadd, 1) := by decide +kernel
theorem dX8_ofStrip_76 : decode cX8_ofStrip 76 = .ok (.istore_n 2, 1) := by decide +kernel
theorem dX8_ofStrip_77 : decode cX8_ofStrip 77 = .ok (.iinc 3 1, 3) := by decide +kernel
theorem dX8_ofStrip_80 : decode cX8_ofStrip 80 = .ok (.goto (-76), 3) := by decide +kernel
theorem dX8_ofStrip_83 : decode cX8_ofStrip 83 = .ok (.iload_n 2, 1) := by decide +kernel
theorem dX8_ofStrip_84 : decode cX8_ofStrip 84 = .ok (.ireturn, 1) := by decide +kernel
theorem dX8_energy_0 : decode cX8_energy 0 = .ok (.aload_n 0, 1) := by decide +kernel
theorem dX8_energy_1 : decode cX8_energy 1 = .ok (.iconst 0, 1) := by decide +kernel
theorem dX8_energy_2 : decode cX8_energy 2 = .ok (.invokevirtual 102, 3) := by decide +kernel
theorem dX8_energy_5 : decode cX8_energy 5 = .ok (.ireturn, 1) := by decide +kernel
theorem dX8_gain_0 : decode cX8_gain 0 = .ok (.aload_n 0, 1) := by decide +kernel
theorem dX8_gain_1 : decode cX8_gain 1 = .ok (.iload_n 1, 1) := by decide +kernel
theorem dX8_gain_2 : decode cX8_gain 2 = .ok (.iload_n 2, 1) := by decide +kernel
theorem dX8_gain_3 : decode cX8_gain 3 = .ok (.invokevirtual 89, 3) := by decide +kernel
theorem dX8_gain_6 : decode cX8_gain 6 = .ok (.istore_n 3, 1) := by decide +kernel
theorem dX8_gain_7 : decode cX8_gain 7 = .ok (.iconst (-1), 1) := by decide +kernel
theorem dX8_gain_8 : decode cX8_gain 8 = .ok (.istore 4, 2) := by decide +kernel
theorem dX8_gain_10 : decode cX8_gain 10 = .ok (.iload 4, 2) := by decide +kernel
theorem dX8_gain_12 : decode cX8_gain 12 = .ok (.iconst 2, 1) := by decide +kernel
theorem dX8_gain_13 : decode cX8_gain 13 = .ok (.if_icmp .ge 81, 3) := by decide +kernel
theorem dX8_gain_16 : decode cX8_gain 16 = .ok (.aload_n 0, 1) := by decide +kernel
theorem dX8_gain_17 : decode cX8_gain 17 = .ok (.iload_n 2, 1) := by decide +kernel
theorem dX8_gain_18 : decode cX8_gain 18 = .ok (.iload 4, 2) := by decide +kernel
theorem dX8_gain_20 : decode cX8_gain 20 = .ok (.invokevirtual 92, 3) := by decide +kernel
theorem dX8_gain_23 : decode cX8_gain 23 = .ok (.istore 5, 2) := by decide +kernel
theorem dX8_gain_25 : decode cX8_gain 25 = .ok (.iload_n 3, 1) := by decide +kernel
theorem dX8_gain_26 : decode cX8_gain 26 = .ok (.iload 5, 2) := by decide +kernel
theorem dX8_gain_28 : decode cX8_gain 28 = .ok (.sipush (-1005), 3) := by decide +kernel
theorem dX8_gain_31 : decode cX8_gain 31 = .ok (.if_icmp .ne 7, 3) := by decide +kernel
theorem dX8_gain_34 : decode cX8_gain 34 = .ok (.iconst 0, 1) := by decide +kernel
theorem dX8_gain_35 : decode cX8_gain 35 = .ok (.goto 17, 3) := by decide +kernel
theorem dX8_gain_38 : decode cX8_gain 38 = .ok (.aload_n 0, 1) := by decide +kernel
theorem dX8_gain_39 : decode cX8_gain 39 = .ok (.getfield 7, 3) := by decide +kernel
theorem dX8_gain_42 : decode cX8_gain 42 = .ok (.iconst 3, 1) := by decide +kernel
theorem dX8_gain_43 : decode cX8_gain 43 = .ok (.iaload, 1) := by decide +kernel
theorem dX8_gain_44 : decode cX8_gain 44 = .ok (.aload_n 0, 1) := by decide +kernel
theorem dX8_gain_45 : decode cX8_gain 45 = .ok (.iload_n 1, 1) := by decide +kernel
theorem dX8_gain_46 : decode cX8_gain 46 = .ok (.iload 5, 2) := by decide +kernel
theorem dX8_gain_48 : decode cX8_gain 48 = .ok (.invokevirtual 106, 3) := by decide +kernel
theorem dX8_gain_51 : decode cX8_gain 51 = .ok (.imul, 1) := by decide +kernel
theorem dX8_gain_52 : decode cX8_gain 52 = .ok (.iadd, 1) := by decide +kernel
theorem dX8_gain_53 : decode cX8_gain 53 = .ok (.istore_n 3, 1) := by decide +kernel
theorem dX8_gain_54 : decode cX8_gain 54 = .ok (.iload_n 3, 1) := by decide +kernel
theorem dX8_gain_55 : decode cX8_gain 55 = .ok (.aload_n 0, 1) := by decide +kernel
theorem dX8_gain_56 : decode cX8_gain 56 = .ok (.iload_n 1, 1) := by decide +kernel
theorem dX8_gain_57 : decode cX8_gain 57 = .ok (.iload 4, 2) := by decide +kernel
theorem dX8_gain_59 : decode cX8_gain 59 = .ok (.iadd, 1) := by decide +kernel
theorem dX8_gain_60 : decode cX8_gain 60 = .ok (.invokevirtual 109, 3) := by decide +kernel
theorem dX8_gain_63 : decode cX8_gain 63 = .ok (.ifCond .eq 22, 3) := by decide +kernel
theorem dX8_gain_66 : decode cX8_gain 66 = .ok (.aload_n 0, 1) := by decide +kernel
theorem dX8_gain_67 : decode cX8_gain 67 = .ok (.getfield 7, 3) := by decide +kernel
theorem dX8_gain_70 : decode cX8_gain 70 = .ok (.iconst 4, 1) := by decide +kernel
theorem dX8_gain_71 : decode cX8_gain 71 = .ok (.iaload, 1) := by decide +kernel
theorem dX8_gain_72 : decode cX8_gain 72 = .ok (.aload_n 0, 1) := by decide +kernel
theorem dX8_gain_73 : decode cX8_gain 73 = .ok (.iload_n 1, 1) := by decide +kernel
theorem dX8_gain_74 : decode cX8_gain 74 = .ok (.iload 4, 2) := by decide +kernel
theorem dX8_gain_76 : decode cX8_gain 76 = .ok (.iadd, 1) := by decide +kernel
theorem dX8_gain_77 : decode cX8_gain 77 = .ok (.iload_n 2, 1) := by decide +kernel
theorem dX8_gain_78 : decode cX8_gain 78 = .ok (.invokevirtual 106, 3) := by decide +kernel
theorem dX8_gain_81 : decode cX8_gain 81 = .ok (.imul, 1) := by decide +kernel
theorem dX8_gain_82 : decode cX8_gain 82 = .ok (.goto 4, 3) := by decide +kernel
theorem dX8_gain_85 : decode cX8_gain 85 = .ok (.iconst 0, 1) := by decide +kernel
theorem dX8_gain_86 : decode cX8_gain 86 = .ok (.iadd, 1) := by decide +kernel
theorem dX8_gain_87 : decode cX8_gain 87 = .ok (.istore_n 3, 1) := by decide +kernel
theorem dX8_gain_88 : decode cX8_gain 88 = .ok (.iinc 4 2, 3) := by decide +kernel
theorem dX8_gain_91 : decode cX8_gain 91 = .ok (.goto (-81), 3) := by decide +kernel
theorem dX8_gain_94 : decode cX8_gain 94 = .ok (.bipush (-2), 2) := by decide +kernel
theorem dX8_gain_96 : decode cX8_gain 96 = .ok (.aload_n 0, 1) := by decide +kernel
theorem dX8_gain_97 : decode cX8_gain 97 = .ok (.iload_n 1, 1) := by decide +kernel
theorem dX8_gain_98 : decode cX8_gain 98 = .ok (.iload_n 2, 1) := by decide +kernel
theorem dX8_gain_99 : decode cX8_gain 99 = .ok (.invokevirtual 106, 3) := by decide +kernel
theorem dX8_gain_102 : decode cX8_gain 102 = .ok (.imul, 1) := by decide +kernel
theorem dX8_gain_103 : decode cX8_gain 103 = .ok (.iload_n 3, 1) := by decide +kernel
theorem dX8_gain_104 : decode cX8_gain 104 = .ok (.imul, 1) := by decide +kernel
theorem dX8_gain_105 : decode cX8_gain 105 = .ok (.ireturn, 1) := by decide +kernel
theorem dX8_states_0 : decode cX8_states 0 = .ok (.iconst 1, 1) := by decide +kernel
theorem dX8_states_1 : decode cX8_states 1 = .ok (.aload_n 0, 1) := by decide +kernel
theorem dX8_states_2 : decode cX8_states 2 = .ok (.getfield 7, 3) := by decide +kernel
theorem dX8_states_5 : decode cX8_states 5 = .ok (.iconst 1, 1) := by decide +kernel
theorem dX8_states_6 : decode cX8_states 6 = .ok (.iaload, 1) := by decide +kernel
theorem dX8_states_7 : decode cX8_states 7 = .ok (.ishl, 1) := by decide +kernel
theorem dX8_states_8 : decode cX8_states 8 = .ok (.ireturn, 1) := by decide +kernel
theorem dX8_countsFrom_0 : decode cX8_countsFrom 0 = .ok (.iconst 0, 1) := by decide +kernel
theorem dX8_countsFrom_1 : decode cX8_countsFrom 1 = .ok (.istore 5, 2) := by decide +kernel
theorem dX8_countsFrom_3 : decode cX8_countsFrom 3 = .ok (.iload 5, 2) := by decide +kernel
theorem dX8_countsFrom_5 : decode cX8_countsFrom 5 = .ok (.sipush 3208, 3) := by decide +kernel
theorem dX8_countsFrom_8 : decode cX8_countsFrom 8 = .ok (.if_icmp .ge 17, 3) := by decide +kernel
theorem dX8_countsFrom_11 : decode cX8_countsFrom 11 = .ok (.aload_n 0, 1) := by decide +kernel
theorem dX8_countsFrom_12 : decode cX8_countsFrom 12 = .ok (.getfield 25, 3) := by decide +kernel
theorem dX8_countsFrom_15 : decode cX8_countsFrom 15 = .ok (.iload 5, 2) := by decide +kernel
theorem dX8_countsFrom_17 : decode cX8_countsFrom 17 = .ok (.iconst 0, 1) := by decide +kernel
theorem dX8_countsFrom_18 : decode cX8_countsFrom 18 = .ok (.iastore, 1) := by decide +kernel
theorem dX8_countsFrom_19 : decode cX8_countsFrom 19 = .ok (.iinc 5 1, 3) := by decide +kernel
theorem dX8_countsFrom_22 : decode cX8_countsFrom 22 = .ok (.goto (-19), 3) := by decide +kernel
theorem dX8_countsFrom_25 : decode cX8_countsFrom 25 = .ok (.iload_n 2, 1) := by decide +kernel
theorem dX8_countsFrom_26 : decode cX8_countsFrom 26 = .ok (.istore 5, 2) := by decide +kernel
theorem dX8_countsFrom_28 : decode cX8_countsFrom 28 = .ok (.iload 5, 2) := by decide +kernel
theorem dX8_countsFrom_30 : decode cX8_countsFrom 30 = .ok (.iload_n 3, 1) := by decide +kernel
theorem dX8_countsFrom_31 : decode cX8_countsFrom 31 = .ok (.if_icmp .gt 34, 3) := by decide +kernel
theorem dX8_countsFrom_34 : decode cX8_countsFrom 34 = .ok (.aload_n 0, 1) := by decide +kernel
theorem dX8_countsFrom_35 : decode cX8_countsFrom 35 = .ok (.getfield 25, 3) := by decide +kernel
theorem dX8_countsFrom_38 : decode cX8_countsFrom 38 = .ok (.sipush 401, 3) := by decide +kernel
theorem dX8_countsFrom_41 : decode cX8_countsFrom 41 = .ok (.iload 5, 2) := by decide +kernel
theorem dX8_countsFrom_43 : decode cX8_countsFrom 43 = .ok (.imul, 1) := by decide +kernel
theorem dX8_countsFrom_44 : decode cX8_countsFrom 44 = .ok (.sipush 200, 3) := by decide +kernel
theorem dX8_countsFrom_47 : decode cX8_countsFrom 47 = .ok (.iadd, 1) := by decide +kernel
theorem dX8_countsFrom_48 : decode cX8_countsFrom 48 = .ok (.aload_n 0, 1) := by decide +kernel
theorem dX8_countsFrom_49 : decode cX8_countsFrom 49 = .ok (.iload_n 1, 1) := by decide +kernel
theorem dX8_countsFrom_50 : decode cX8_countsFrom 50 = .ok (.iconst 0, 1) := by decide +kernel
theorem dX8_countsFrom_51 : decode cX8_countsFrom 51 = .ok (.iload 5, 2) := by decide +kernel
theorem dX8_countsFrom_53 : decode cX8_countsFrom 53 = .ok (.invokevirtual 95, 3) := by decide +kernel
theorem dX8_countsFrom_56 : decode cX8_countsFrom 56 = .ok (.iadd, 1) := by decide +kernel
theorem dX8_countsFrom_57 : decode cX8_countsFrom 57 = .ok (.iconst 1, 1) := by decide +kernel
theorem dX8_countsFrom_58 : decode cX8_countsFrom 58 = .ok (.iastore, 1) := by decide +kernel
theorem dX8_countsFrom_59 : decode cX8_countsFrom 59 = .ok (.iinc 5 1, 3) := by decide +kernel
theorem dX8_countsFrom_62 : decode cX8_countsFrom 62 = .ok (.goto (-34), 3) := by decide +kernel
theorem dX8_countsFrom_65 : decode cX8_countsFrom 65 = .ok (.iconst 1, 1) := by decide +kernel
theorem dX8_countsFrom_66 : decode cX8_countsFrom 66 = .ok (.istore 5, 2) := by decide +kernel
theorem dX8_countsFrom_68 : decode cX8_countsFrom 68 = .ok (.iload 5, 2) := by decide +kernel
theorem dX8_countsFrom_70 : decode cX8_countsFrom 70 = .ok (.aload_n 0, 1) := by decide +kernel
theorem dX8_countsFrom_71 : decode cX8_countsFrom 71 = .ok (.getfield 7, 3) := by decide +kernel
theorem dX8_countsFrom_74 : decode cX8_countsFrom 74 = .ok (.iconst 0, 1) := by decide +kernel
theorem dX8_countsFrom_75 : decode cX8_countsFrom 75 = .ok (.iaload, 1) := by decide +kernel
theorem dX8_countsFrom_76 : decode cX8_countsFrom 76 = .ok (.if_icmp .ge 182, 3) := by decide +kernel
theorem dX8_countsFrom_79 : decode cX8_countsFrom 79 = .ok (.iconst 0, 1) := by decide +kernel
theorem dX8_countsFrom_80 : decode cX8_countsFrom 80 = .ok (.istore 6, 2) := by decide +kernel
theorem dX8_countsFrom_82 : decode cX8_countsFrom 82 = .ok (.iload 6, 2) := by decide +kernel
theorem dX8_countsFrom_84 : decode cX8_countsFrom 84 = .ok (.sipush 3208, 3) := by decide +kernel
theorem dX8_countsFrom_87 : decode cX8_countsFrom 87 = .ok (.if_icmp .ge 17, 3) := by decide +kernel
theorem dX8_countsFrom_90 : decode cX8_countsFrom 90 = .ok (.aload_n 0, 1) := by decide +kernel
theorem dX8_countsFrom_91 : decode cX8_countsFrom 91 = .ok (.getfield 28, 3) := by decide +kernel
theorem dX8_countsFrom_94 : decode cX8_countsFrom 94 = .ok (.iload 6, 2) := by decide +kernel
theorem dX8_countsFrom_96 : decode cX8_countsFrom 96 = .ok (.iconst 0, 1) := by decide +kernel
theorem dX8_countsFrom_97 : decode cX8_countsFrom 97 = .ok (.iastore, 1) := by decide +kernel
theorem dX8_countsFrom_98 : decode cX8_countsFrom 98 = .ok (.iinc 6 1, 3) := by decide +kernel
theorem dX8_countsFrom_101 : decode cX8_countsFrom 101 = .ok (.goto (-19), 3) := by decide +kernel
theorem dX8_countsFrom_104 : decode cX8_countsFrom 104 = .ok (.iconst 0, 1) := by decide +kernel
theorem dX8_countsFrom_105 : decode cX8_countsFrom 105 = .ok (.istore 6, 2) := by decide +kernel
theorem dX8_countsFrom_107 : decode cX8_countsFrom 107 = .ok (.iload 6, 2) := by decide +kernel
theorem dX8_countsFrom_109 : decode cX8_countsFrom 109 = .ok (.aload_n 0, 1) := by decide +kernel
theorem dX8_countsFrom_110 : decode cX8_countsFrom 110 = .ok (.invokevirtual 112, 3) := by decide +kernel
theorem dX8_countsFrom_113 : decode cX8_countsFrom 113 = .ok (.if_icmp .ge 108, 3) := by decide +kernel
theorem dX8_countsFrom_116 : decode cX8_countsFrom 116 = .ok (.iconst 0, 1) := by decide +kernel
theorem dX8_countsFrom_117 : decode cX8_countsFrom 117 = .ok (.istore 7, 2) := by decide +kernel
theorem dX8_countsFrom_119 : decode cX8_countsFrom 119 = .ok (.iload 7, 2) := by decide +kernel
theorem dX8_countsFrom_121 : decode cX8_countsFrom 121 = .ok (.aload_n 0, 1) := by decide +kernel
theorem dX8_countsFrom_122 : decode cX8_countsFrom 122 = .ok (.invokevirtual 112, 3) := by decide +kernel
theorem dX8_countsFrom_125 : decode cX8_countsFrom 125 = .ok (.if_icmp .ge 90, 3) := by decide +kernel
theorem dX8_countsFrom_128 : decode cX8_countsFrom 128 = .ok (.aload_n 0, 1) := by decide +kernel
theorem dX8_countsFrom_129 : decode cX8_countsFrom 129 = .ok (.iload_n 1, 1) := by decide +kernel
theorem dX8_countsFrom_130 : decode cX8_countsFrom 130 = .ok (.iload 6, 2) := by decide +kernel
theorem dX8_countsFrom_132 : decode cX8_countsFrom 132 = .ok (.iload 7, 2) := by decide +kernel
theorem dX8_countsFrom_134 : decode cX8_countsFrom 134 = .ok (.invokevirtual 99, 3) := by decide +kernel
theorem dX8_countsFrom_137 : decode cX8_countsFrom 137 = .ok (.aload_n 0, 1) := by decide +kernel
theorem dX8_countsFrom_138 : decode cX8_countsFrom 138 = .ok (.iload_n 1, 1) := by decide +kernel
theorem dX8_countsFrom_139 : decode cX8_countsFrom 139 = .ok (.iload 5, 2) := by decide +kernel
theorem dX8_countsFrom_141 : decode cX8_countsFrom 141 = .ok (.iload 7, 2) := by decide +kernel
theorem dX8_countsFrom_143 : decode cX8_countsFrom 143 = .ok (.invokevirtual 95, 3) := by decide +kernel
theorem dX8_countsFrom_146 : decode cX8_countsFrom 146 = .ok (.iadd, 1) := by decide +kernel
theorem dX8_countsFrom_147 : decode cX8_countsFrom 147 = .ok (.istore 8, 2) := by decide +kernel
theorem dX8_countsFrom_149 : decode cX8_countsFrom 149 = .ok (.iconst 0, 1) := by decide +kernel
theorem dX8_countsFrom_150 : decode cX8_countsFrom 150 = .ok (.istore 9, 2) := by decide +kernel
theorem dX8_countsFrom_152 : decode cX8_countsFrom 152 = .ok (.iload 9, 2) := by decide +kernel
theorem dX8_countsFrom_154 : decode cX8_countsFrom 154 = .ok (.sipush 401, 3) := by decide +kernel
theorem dX8_countsFrom_157 : decode cX8_countsFrom 157 = .ok (.if_icmp .ge 52, 3) := by decide +kernel
theorem dX8_countsFrom_160 : decode cX8_countsFrom 160 = .ok (.aload_n 0, 1) := by decide +kernel
theorem dX8_countsFrom_161 : decode cX8_countsFrom 161 = .ok (.getfield 25, 3) := by decide +kernel
theorem dX8_countsFrom_164 : decode cX8_countsFrom 164 = .ok (.sipush 401, 3) := by decide +kernel
theorem dX8_countsFrom_167 : decode cX8_countsFrom 167 = .ok (.iload 6, 2) := by decide +kernel
theorem dX8_countsFrom_169 : decode cX8_countsFrom 169 = .ok (.imul, 1) := by decide +kernel
theorem dX8_countsFrom_170 : decode cX8_countsFrom 170 = .ok (.iload 9, 2) := by decide +kernel
theorem dX8_countsFrom_172 : decode cX8_countsFrom 172 = .ok (.iadd, 1) := by decide +kernel
theorem dX8_countsFrom_173 : decode cX8_countsFrom 173 = .ok (.iaload, 1) := by decide +kernel
theorem dX8_countsFrom_174 : decode cX8_countsFrom 174 = .ok (.istore 10, 2) := by decide +kernel
theorem dX8_countsFrom_176 : decode cX8_countsFrom 176 = .ok (.iload 10, 2) := by decide +kernel
theorem dX8_countsFrom_178 : decode cX8_countsFrom 178 = .ok (.ifCond .le 25, 3) := by decide +kernel
theorem dX8_countsFrom_181 : decode cX8_countsFrom 181 = .ok (.aload_n 0, 1) := by decide +kernel
theorem dX8_countsFrom_182 : decode cX8_countsFrom 182 = .ok (.getfield 28, 3) := by decide +kernel
theorem dX8_countsFrom_185 : decode cX8_countsFrom 185 = .ok (.sipush 401, 3) := by decide +kernel
theorem dX8_countsFrom_188 : decode cX8_countsFrom 188 = .ok (.iload 7, 2) := by decide +kernel
theorem dX8_countsFrom_190 : decode cX8_countsFrom 190 = .ok (.imul, 1) := by decide +kernel
theorem dX8_countsFrom_191 : decode cX8_countsFrom 191 = .ok (.iload 9, 2) := by decide +kernel
theorem dX8_countsFrom_193 : decode cX8_countsFrom 193 = .ok (.iadd, 1) := by decide +kernel
theorem dX8_countsFrom_194 : decode cX8_countsFrom 194 = .ok (.iload 8, 2) := by decide +kernel
theorem dX8_countsFrom_196 : decode cX8_countsFrom 196 = .ok (.iadd, 1) := by decide +kernel
theorem dX8_countsFrom_197 : decode cX8_countsFrom 197 = .ok (.dup2, 1) := by decide +kernel
theorem dX8_countsFrom_198 : decode cX8_countsFrom 198 = .ok (.iaload, 1) := by decide +kernel
theorem dX8_countsFrom_199 : decode cX8_countsFrom 199 = .ok (.iload 10, 2) := by decide +kernel
theorem dX8_countsFrom_201 : decode cX8_countsFrom 201 = .ok (.iadd, 1) := by decide +kernel
theorem dX8_countsFrom_202 : decode cX8_countsFrom 202 = .ok (.iastore, 1) := by decide +kernel
theorem dX8_countsFrom_203 : decode cX8_countsFrom 203 = .ok (.iinc 9 1, 3) := by decide +kernel
theorem dX8_countsFrom_206 : decode cX8_countsFrom 206 = .ok (.goto (-54), 3) := by decide +kernel
theorem dX8_countsFrom_209 : decode cX8_countsFrom 209 = .ok (.iinc 7 1, 3) := by decide +kernel
theorem dX8_countsFrom_212 : decode cX8_countsFrom 212 = .ok (.goto (-93), 3) := by decide +kernel
theorem dX8_countsFrom_215 : decode cX8_countsFrom 215 = .ok (.iinc 6 1, 3) := by decide +kernel
theorem dX8_countsFrom_218 : decode cX8_countsFrom 218 = .ok (.goto (-111), 3) := by decide +kernel
theorem dX8_countsFrom_221 : decode cX8_countsFrom 221 = .ok (.iconst 0, 1) := by decide +kernel
theorem dX8_countsFrom_222 : decode cX8_countsFrom 222 = .ok (.istore 6, 2) := by decide +kernel
theorem dX8_countsFrom_224 : decode cX8_countsFrom 224 = .ok (.iload 6, 2) := by decide +kernel
theorem dX8_countsFrom_226 : decode cX8_countsFrom 226 = .ok (.sipush 3208, 3) := by decide +kernel
theorem dX8_countsFrom_229 : decode cX8_countsFrom 229 = .ok (.if_icmp .ge 23, 3) := by decide +kernel
theorem dX8_countsFrom_232 : decode cX8_countsFrom 232 = .ok (.aload_n 0, 1) := by decide +kernel
theorem dX8_countsFrom_233 : decode cX8_countsFrom 233 = .ok (.getfield 25, 3) := by decide +kernel
theorem dX8_countsFrom_236 : decode cX8_countsFrom 236 = .ok (.iload 6, 2) := by decide +kernel
theorem dX8_countsFrom_238 : decode cX8_countsFrom 238 = .ok (.aload_n 0, 1) := by decide +kernel
theorem dX8_countsFrom_239 : decode cX8_countsFrom 239 = .ok (.getfield 28, 3) := by decide +kernel
theorem dX8_countsFrom_242 : decode cX8_countsFrom 242 = .ok (.iload 6, 2) := by decide +kernel
theorem dX8_countsFrom_244 : decode cX8_countsFrom 244 = .ok (.iaload, 1) := by decide +kernel
theorem dX8_countsFrom_245 : decode cX8_countsFrom 245 = .ok (.iastore, 1) := by decide +kernel
theorem dX8_countsFrom_246 : decode cX8_countsFrom 246 = .ok (.iinc 6 1, 3) := by decide +kernel
theorem dX8_countsFrom_249 : decode cX8_countsFrom 249 = .ok (.goto (-25), 3) := by decide +kernel
theorem dX8_countsFrom_252 : decode cX8_countsFrom 252 = .ok (.iinc 5 1, 3) := by decide +kernel
theorem dX8_countsFrom_255 : decode cX8_countsFrom 255 = .ok (.goto (-187), 3) := by decide +kernel
theorem dX8_countsFrom_258 : decode cX8_countsFrom 258 = .ok (.iconst 0, 1) := by decide +kernel
theorem dX8_countsFrom_259 : decode cX8_countsFrom 259 = .ok (.istore 5, 2) := by decide +kernel
theorem dX8_countsFrom_261 : decode cX8_countsFrom 261 = .ok (.iload 5, 2) := by decide +kernel
theorem dX8_countsFrom_263 : decode cX8_countsFrom 263 = .ok (.aload_n 0, 1) := by decide +kernel
theorem dX8_countsFrom_264 : decode cX8_countsFrom 264 = .ok (.invokevirtual 112, 3) := by decide +kernel
theorem dX8_countsFrom_267 : decode cX8_countsFrom 267 = .ok (.if_icmp .ge 81, 3) := by decide +kernel
theorem dX8_countsFrom_270 : decode cX8_countsFrom 270 = .ok (.iload 4, 2) := by decide +kernel
theorem dX8_countsFrom_272 : decode cX8_countsFrom 272 = .ok (.ifCond .eq 14, 3) := by decide +kernel
theorem dX8_countsFrom_275 : decode cX8_countsFrom 275 = .ok (.aload_n 0, 1) := by decide +kernel
theorem dX8_countsFrom_276 : decode cX8_countsFrom 276 = .ok (.iload_n 1, 1) := by decide +kernel
theorem dX8_countsFrom_277 : decode cX8_countsFrom 277 = .ok (.iload 5, 2) := by decide +kernel
theorem dX8_countsFrom_279 : decode cX8_countsFrom 279 = .ok (.iload_n 2, 1) := by decide +kernel
theorem dX8_countsFrom_280 : decode cX8_countsFrom 280 = .ok (.invokevirtual 99, 3) := by decide +kernel
theorem dX8_countsFrom_283 : decode cX8_countsFrom 283 = .ok (.goto 4, 3) := by decide +kernel
theorem dX8_countsFrom_286 : decode cX8_countsFrom 286 = .ok (.iconst 0, 1) := by decide +kernel
theorem dX8_countsFrom_287 : decode cX8_countsFrom 287 = .ok (.istore 6, 2) := by decide +kernel
theorem dX8_countsFrom_289 : decode cX8_countsFrom 289 = .ok (.iconst 0, 1) := by decide +kernel
theorem dX8_countsFrom_290 : decode cX8_countsFrom 290 = .ok (.istore 7, 2) := by decide +kernel
theorem dX8_countsFrom_292 : decode cX8_countsFrom 292 = .ok (.iload 7, 2) := by decide +kernel
theorem dX8_countsFrom_294 : decode cX8_countsFrom 294 = .ok (.sipush 401, 3) := by decide +kernel
theorem dX8_countsFrom_297 : decode cX8_countsFrom 297 = .ok (.if_icmp .ge 45, 3) := by decide +kernel
theorem dX8_countsFrom_300 : decode cX8_countsFrom 300 = .ok (.aload_n 0, 1) := by decide +kernel
theorem dX8_countsFrom_301 : decode cX8_countsFrom 301 = .ok (.getfield 25, 3) := by decide +kernel
theorem dX8_countsFrom_304 : decode cX8_countsFrom 304 = .ok (.sipush 401, 3) := by decide +kernel
theorem dX8_countsFrom_307 : decode cX8_countsFrom 307 = .ok (.iload 5, 2) := by decide +kernel
theorem dX8_countsFrom_309 : decode cX8_countsFrom 309 = .ok (.imul, 1) := by decide +kernel
theorem dX8_countsFrom_310 : decode cX8_countsFrom 310 = .ok (.iload 7, 2) := by decide +kernel
theorem dX8_countsFrom_312 : decode cX8_countsFrom 312 = .ok (.iadd, 1) := by decide +kernel
theorem dX8_countsFrom_313 : decode cX8_countsFrom 313 = .ok (.iaload, 1) := by decide +kernel
theorem dX8_countsFrom_314 : decode cX8_countsFrom 314 = .ok (.istore 8, 2) := by decide +kernel
theorem dX8_countsFrom_316 : decode cX8_countsFrom 316 = .ok (.iload 8, 2) := by decide +kernel
theorem dX8_countsFrom_318 : decode cX8_countsFrom 318 = .ok (.ifCond .le 18, 3) := by decide +kernel
theorem dX8_countsFrom_321 : decode cX8_countsFrom 321 = .ok (.aload_n 0, 1) := by decide +kernel
theorem dX8_countsFrom_322 : decode cX8_countsFrom 322 = .ok (.getfield 22, 3) := by decide +kernel
theorem dX8_countsFrom_325 : decode cX8_countsFrom 325 = .ok (.iload 7, 2) := by decide +kernel
theorem dX8_countsFrom_327 : decode cX8_countsFrom 327 = .ok (.iload 6, 2) := by decide +kernel
theorem dX8_countsFrom_329 : decode cX8_countsFrom 329 = .ok (.iadd, 1) := by decide +kernel
theorem dX8_countsFrom_330 : decode cX8_countsFrom 330 = .ok (.dup2, 1) := by decide +kernel
theorem dX8_countsFrom_331 : decode cX8_countsFrom 331 = .ok (.iaload, 1) := by decide +kernel
theorem dX8_countsFrom_332 : decode cX8_countsFrom 332 = .ok (.iload 8, 2) := by decide +kernel
theorem dX8_countsFrom_334 : decode cX8_countsFrom 334 = .ok (.iadd, 1) := by decide +kernel
theorem dX8_countsFrom_335 : decode cX8_countsFrom 335 = .ok (.iastore, 1) := by decide +kernel
theorem dX8_countsFrom_336 : decode cX8_countsFrom 336 = .ok (.iinc 7 1, 3) := by decide +kernel
theorem dX8_countsFrom_339 : decode cX8_countsFrom 339 = .ok (.goto (-47), 3) := by decide +kernel
theorem dX8_countsFrom_342 : decode cX8_countsFrom 342 = .ok (.iinc 5 1, 3) := by decide +kernel
theorem dX8_countsFrom_345 : decode cX8_countsFrom 345 = .ok (.goto (-84), 3) := by decide +kernel
theorem dX8_countsFrom_348 : decode cX8_countsFrom 348 = .ok (.return_, 1) := by decide +kernel
theorem dX8_countsAll_0 : decode cX8_countsAll 0 = .ok (.iconst 0, 1) := by decide +kernel
theorem dX8_countsAll_1 : decode cX8_countsAll 1 = .ok (.istore_n 2, 1) := by decide +kernel
theorem dX8_countsAll_2 : decode cX8_countsAll 2 = .ok (.iload_n 2, 1) := by decide +kernel
theorem dX8_countsAll_3 : decode cX8_countsAll 3 = .ok (.sipush 401, 3) := by decide +kernel
theorem dX8_countsAll_6 : decode cX8_countsAll 6 = .ok (.if_icmp .ge 16, 3) := by decide +kernel
theorem dX8_countsAll_9 : decode cX8_countsAll 9 = .ok (.aload_n 0, 1) := by decide +kernel
theorem dX8_countsAll_10 : decode cX8_countsAll 10 = .ok (.getfield 22, 3) := by decide +kernel
theorem dX8_countsAll_13 : decode cX8_countsAll 13 = .ok (.iload_n 2, 1) := by decide +kernel
theorem dX8_countsAll_14 : decode cX8_countsAll 14 = .ok (.iconst 0, 1) := by decide +kernel
theorem dX8_countsAll_15 : decode cX8_countsAll 15 = .ok (.iastore, 1) := by decide +kernel
theorem dX8_countsAll_16 : decode cX8_countsAll 16 = .ok (.iinc 2 1, 3) := by decide +kernel
theorem dX8_countsAll_19 : decode cX8_countsAll 19 = .ok (.goto (-17), 3) := by decide +kernel
theorem dX8_countsAll_22 : decode cX8_countsAll 22 = .ok (.aload_n 0, 1) := by decide +kernel
theorem dX8_countsAll_23 : decode cX8_countsAll 23 = .ok (.invokevirtual 85, 3) := by decide +kernel
theorem dX8_countsAll_26 : decode cX8_countsAll 26 = .ok (.ifCond .eq 30, 3) := by decide +kernel
theorem dX8_countsAll_29 : decode cX8_countsAll 29 = .ok (.iconst 0, 1) := by decide +kernel
theorem dX8_countsAll_30 : decode cX8_countsAll 30 = .ok (.istore_n 2, 1) := by decide +kernel
theorem dX8_countsAll_31 : decode cX8_countsAll 31 = .ok (.iload_n 2, 1) := by decide +kernel
theorem dX8_countsAll_32 : decode cX8_countsAll 32 = .ok (.aload_n 0, 1) := by decide +kernel
theorem dX8_countsAll_33 : decode cX8_countsAll 33 = .ok (.invokevirtual 112, 3) := by decide +kernel
theorem dX8_countsAll_36 : decode cX8_countsAll 36 = .ok (.if_icmp .ge 17, 3) := by decide +kernel
theorem dX8_countsAll_39 : decode cX8_countsAll 39 = .ok (.aload_n 0, 1) := by decide +kernel
theorem dX8_countsAll_40 : decode cX8_countsAll 40 = .ok (.iload_n 1, 1) := by decide +kernel
theorem dX8_countsAll_41 : decode cX8_countsAll 41 = .ok (.iload_n 2, 1) := by decide +kernel
theorem dX8_countsAll_42 : decode cX8_countsAll 42 = .ok (.iload_n 2, 1) := by decide +kernel
theorem dX8_countsAll_43 : decode cX8_countsAll 43 = .ok (.iconst 1, 1) := by decide +kernel
theorem dX8_countsAll_44 : decode cX8_countsAll 44 = .ok (.invokevirtual 116, 3) := by decide +kernel
theorem dX8_countsAll_47 : decode cX8_countsAll 47 = .ok (.iinc 2 1, 3) := by decide +kernel
theorem dX8_countsAll_50 : decode cX8_countsAll 50 = .ok (.goto (-19), 3) := by decide +kernel
theorem dX8_countsAll_53 : decode cX8_countsAll 53 = .ok (.goto 16, 3) := by decide +kernel
theorem dX8_countsAll_56 : decode cX8_countsAll 56 = .ok (.aload_n 0, 1) := by decide +kernel
theorem dX8_countsAll_57 : decode cX8_countsAll 57 = .ok (.iload_n 1, 1) := by decide +kernel
theorem dX8_countsAll_58 : decode cX8_countsAll 58 = .ok (.iconst 0, 1) := by decide +kernel
theorem dX8_countsAll_59 : decode cX8_countsAll 59 = .ok (.aload_n 0, 1) := by decide +kernel
theorem dX8_countsAll_60 : decode cX8_countsAll 60 = .ok (.invokevirtual 112, 3) := by decide +kernel
theorem dX8_countsAll_63 : decode cX8_countsAll 63 = .ok (.iconst 1, 1) := by decide +kernel
theorem dX8_countsAll_64 : decode cX8_countsAll 64 = .ok (.isub, 1) := by decide +kernel
theorem dX8_countsAll_65 : decode cX8_countsAll 65 = .ok (.iconst 0, 1) := by decide +kernel
theorem dX8_countsAll_66 : decode cX8_countsAll 66 = .ok (.invokevirtual 116, 3) := by decide +kernel
theorem dX8_countsAll_69 : decode cX8_countsAll 69 = .ok (.return_, 1) := by decide +kernel
theorem dX8_least_0 : decode cX8_least 0 = .ok (.iconst 0, 1) := by decide +kernel
theorem dX8_least_1 : decode cX8_least 1 = .ok (.istore_n 1, 1) := by decide +kernel
theorem dX8_least_2 : decode cX8_least 2 = .ok (.aload_n 0, 1) := by decide +kernel
theorem dX8_least_3 : decode cX8_least 3 = .ok (.getfield 22, 3) := by decide +kernel
theorem dX8_least_6 : decode cX8_least 6 = .ok (.iload_n 1, 1) := by decide +kernel
theorem dX8_least_7 : decode cX8_least 7 = .ok (.iaload, 1) := by decide +kernel
theorem dX8_least_8 : decode cX8_least 8 = .ok (.ifCond .ne 9, 3) := by decide +kernel
theorem dX8_least_11 : decode cX8_least 11 = .ok (.iinc 1 1, 3) := by decide +kernel
theorem dX8_least_14 : decode cX8_least 14 = .ok (.goto (-12), 3) := by decide +kernel
theorem dX8_least_17 : decode cX8_least 17 = .ok (.iload_n 1, 1) := by decide +kernel
theorem dX8_least_18 : decode cX8_least 18 = .ok (.sipush 200, 3) := by decide +kernel
theorem dX8_least_21 : decode cX8_least 21 = .ok (.isub, 1) := by decide +kernel
theorem dX8_least_22 : decode cX8_least 22 = .ok (.ireturn, 1) := by decide +kernel
theorem dX8_greatest_0 : decode cX8_greatest 0 = .ok (.sipush 400, 3) := by decide +kernel
theorem dX8_greatest_3 : decode cX8_greatest 3 = .ok (.istore_n 1, 1) := by decide +kernel
theorem dX8_greatest_4 : decode cX8_greatest 4 = .ok (.aload_n 0, 1) := by decide +kernel
theorem dX8_greatest_5 : decode cX8_greatest 5 = .ok (.getfield 22, 3) := by decide +kernel
theorem dX8_greatest_8 : decode cX8_greatest 8 = .ok (.iload_n 1, 1) := by decide +kernel
theorem dX8_greatest_9 : decode cX8_greatest 9 = .ok (.iaload, 1) := by decide +kernel
theorem dX8_greatest_10 : decode cX8_greatest 10 = .ok (.ifCond .ne 9, 3) := by decide +kernel
theorem dX8_greatest_13 : decode cX8_greatest 13 = .ok (.iinc 1 (-1), 3) := by decide +kernel
theorem dX8_greatest_16 : decode cX8_greatest 16 = .ok (.goto (-12), 3) := by decide +kernel
theorem dX8_greatest_19 : decode cX8_greatest 19 = .ok (.iload_n 1, 1) := by decide +kernel
theorem dX8_greatest_20 : decode cX8_greatest 20 = .ok (.sipush 200, 3) := by decide +kernel
theorem dX8_greatest_23 : decode cX8_greatest 23 = .ok (.isub, 1) := by decide +kernel
theorem dX8_greatest_24 : decode cX8_greatest 24 = .ok (.ireturn, 1) := by decide +kernel
theorem dX8_with_0 : decode cX8_with 0 = .ok (.aload_n 0, 1) := by decide +kernel
theorem dX8_with_1 : decode cX8_with 1 = .ok (.iload_n 1, 1) := by decide +kernel
theorem dX8_with_2 : decode cX8_with 2 = .ok (.invokevirtual 120, 3) := by decide +kernel
theorem dX8_with_5 : decode cX8_with 5 = .ok (.iload_n 2, 1) := by decide +kernel
theorem dX8_with_6 : decode cX8_with 6 = .ok (.i2l, 1) := by decide +kernel
theorem dX8_with_7 : decode cX8_with 7 = .ok (.ldc2_w 124, 3) := by decide +kernel
theorem dX8_with_10 : decode cX8_with 10 = .ok (.ldc2_w 126, 3) := by decide +kernel
theorem dX8_with_13 : decode cX8_with 13 = .ok (.invokestatic 73, 3) := by decide +kernel
theorem dX8_with_16 : decode cX8_with 16 = .ok (.ifCond .eq 16, 3) := by decide +kernel
theorem dX8_with_19 : decode cX8_with 19 = .ok (.aload_n 0, 1) := by decide +kernel
theorem dX8_with_20 : decode cX8_with 20 = .ok (.getfield 22, 3) := by decide +kernel
theorem dX8_with_23 : decode cX8_with 23 = .ok (.sipush 200, 3) := by decide +kernel
theorem dX8_with_26 : decode cX8_with 26 = .ok (.iload_n 2, 1) := by decide +kernel
theorem dX8_with_27 : decode cX8_with 27 = .ok (.iadd, 1) := by decide +kernel
theorem dX8_with_28 : decode cX8_with 28 = .ok (.iaload, 1) := by decide +kernel
theorem dX8_with_29 : decode cX8_with 29 = .ok (.goto 4, 3) := by decide +kernel
theorem dX8_with_32 : decode cX8_with 32 = .ok (.iconst 0, 1) := by decide +kernel
theorem dX8_with_33 : decode cX8_with 33 = .ok (.ireturn, 1) := by decide +kernel
theorem dX8_ups_0 : decode cX8_ups 0 = .ok (.iload_n 0, 1) := by decide +kernel
theorem dX8_ups_1 : decode cX8_ups 1 = .ok (.iconst 1, 1) := by decide +kernel
theorem dX8_ups_2 : decode cX8_ups 2 = .ok (.iand, 1) := by decide +kernel
theorem dX8_ups_3 : decode cX8_ups 3 = .ok (.iload_n 0, 1) := by decide +kernel
theorem dX8_ups_4 : decode cX8_ups 4 = .ok (.iconst 1, 1) := by decide +kernel
theorem dX8_ups_5 : decode cX8_ups 5 = .ok (.ishr, 1) := by decide +kernel
theorem dX8_ups_6 : decode cX8_ups 6 = .ok (.iconst 1, 1) := by decide +kernel
theorem dX8_ups_7 : decode cX8_ups 7 = .ok (.iand, 1) := by decide +kernel
theorem dX8_ups_8 : decode cX8_ups 8 = .ok (.iadd, 1) := by decide +kernel
theorem dX8_ups_9 : decode cX8_ups 9 = .ok (.iload_n 0, 1) := by decide +kernel
theorem dX8_ups_10 : decode cX8_ups 10 = .ok (.iconst 2, 1) := by decide +kernel
theorem dX8_ups_11 : decode cX8_ups 11 = .ok (.ishr, 1) := by decide +kernel
theorem dX8_ups_12 : decode cX8_ups 12 = .ok (.iconst 1, 1) := by decide +kernel
theorem dX8_ups_13 : decode cX8_ups 13 = .ok (.iand, 1) := by decide +kernel
theorem dX8_ups_14 : decode cX8_ups 14 = .ok (.iadd, 1) := by decide +kernel
theorem dX8_ups_15 : decode cX8_ups 15 = .ok (.ireturn, 1) := by decide +kernel
theorem dX8_meets_0 : decode cX8_meets 0 = .ok (.iload_n 3, 1) := by decide +kernel
theorem dX8_meets_1 : decode cX8_meets 1 = .ok (.aload_n 0, 1) := by decide +kernel
theorem dX8_meets_2 : decode cX8_meets 2 = .ok (.iload_n 2, 1) := by decide +kernel
theorem dX8_meets_3 : decode cX8_meets 3 = .ok (.iaload, 1) := by decide +kernel
theorem dX8_meets_4 : decode cX8_meets 4 = .ok (.if_icmp .ge 11, 3) := by decide +kernel
theorem dX8_meets_7 : decode cX8_meets 7 = .ok (.aload_n 0, 1) := by decide +kernel
theorem dX8_meets_8 : decode cX8_meets 8 = .ok (.iload_n 2, 1) := by decide +kernel
theorem dX8_meets_9 : decode cX8_meets 9 = .ok (.iload_n 3, 1) := by decide +kernel
theorem dX8_meets_10 : decode cX8_meets 10 = .ok (.iastore, 1) := by decide +kernel
theorem dX8_meets_11 : decode cX8_meets 11 = .ok (.aload_n 1, 1) := by decide +kernel
theorem dX8_meets_12 : decode cX8_meets 12 = .ok (.iload_n 2, 1) := by decide +kernel
theorem dX8_meets_13 : decode cX8_meets 13 = .ok (.iconst 0, 1) := by decide +kernel
theorem dX8_meets_14 : decode cX8_meets 14 = .ok (.iastore, 1) := by decide +kernel
theorem dX8_meets_15 : decode cX8_meets 15 = .ok (.aload_n 1, 1) := by decide +kernel
theorem dX8_meets_16 : decode cX8_meets 16 = .ok (.iload_n 2, 1) := by decide +kernel
theorem dX8_meets_17 : decode cX8_meets 17 = .ok (.dup2, 1) := by decide +kernel
theorem dX8_meets_18 : decode cX8_meets 18 = .ok (.iaload, 1) := by decide +kernel
theorem dX8_meets_19 : decode cX8_meets 19 = .ok (.iload_n 3, 1) := by decide +kernel
theorem dX8_meets_20 : decode cX8_meets 20 = .ok (.aload_n 0, 1) := by decide +kernel
theorem dX8_meets_21 : decode cX8_meets 21 = .ok (.iload_n 2, 1) := by decide +kernel
theorem dX8_meets_22 : decode cX8_meets 22 = .ok (.iaload, 1) := by decide +kernel
theorem dX8_meets_23 : decode cX8_meets 23 = .ok (.if_icmp .ne 8, 3) := by decide +kernel
theorem dX8_meets_26 : decode cX8_meets 26 = .ok (.iload 4, 2) := by decide +kernel
theorem dX8_meets_28 : decode cX8_meets 28 = .ok (.goto 4, 3) := by decide +kernel
theorem dX8_meets_31 : decode cX8_meets 31 = .ok (.iconst 0, 1) := by decide +kernel
theorem dX8_meets_32 : decode cX8_meets 32 = .ok (.iadd, 1) := by decide +kernel
theorem dX8_meets_33 : decode cX8_meets 33 = .ok (.iastore, 1) := by decide +kernel
theorem dX8_meets_34 : decode cX8_meets 34 = .ok (.return_, 1) := by decide +kernel
theorem dX8_upsFrom_0 : decode cX8_upsFrom 0 = .ok (.iconst 0, 1) := by decide +kernel
theorem dX8_upsFrom_1 : decode cX8_upsFrom 1 = .ok (.istore 4, 2) := by decide +kernel
theorem dX8_upsFrom_3 : decode cX8_upsFrom 3 = .ok (.iload 4, 2) := by decide +kernel
theorem dX8_upsFrom_5 : decode cX8_upsFrom 5 = .ok (.sipush 248, 3) := by decide +kernel
theorem dX8_upsFrom_8 : decode cX8_upsFrom 8 = .ok (.if_icmp .ge 26, 3) := by decide +kernel
theorem dX8_upsFrom_11 : decode cX8_upsFrom 11 = .ok (.aload_n 0, 1) := by decide +kernel
theorem dX8_upsFrom_12 : decode cX8_upsFrom 12 = .ok (.getfield 31, 3) := by decide +kernel
theorem dX8_upsFrom_15 : decode cX8_upsFrom 15 = .ok (.iload 4, 2) := by decide +kernel
theorem dX8_upsFrom_17 : decode cX8_upsFrom 17 = .ok (.ldc 128, 2) := by decide +kernel
theorem dX8_upsFrom_19 : decode cX8_upsFrom 19 = .ok (.iastore, 1) := by decide +kernel
theorem dX8_upsFrom_20 : decode cX8_upsFrom 20 = .ok (.aload_n 0, 1) := by decide +kernel
theorem dX8_upsFrom_21 : decode cX8_upsFrom 21 = .ok (.getfield 34, 3) := by decide +kernel
theorem dX8_upsFrom_24 : decode cX8_upsFrom 24 = .ok (.iload 4, 2) := by decide +kernel
theorem dX8_upsFrom_26 : decode cX8_upsFrom 26 = .ok (.iconst 0, 1) := by decide +kernel
theorem dX8_upsFrom_27 : decode cX8_upsFrom 27 = .ok (.iastore, 1) := by decide +kernel
theorem dX8_upsFrom_28 : decode cX8_upsFrom 28 = .ok (.iinc 4 1, 3) := by decide +kernel
theorem dX8_upsFrom_31 : decode cX8_upsFrom 31 = .ok (.goto (-28), 3) := by decide +kernel
theorem dX8_upsFrom_34 : decode cX8_upsFrom 34 = .ok (.iload_n 1, 1) := by decide +kernel
theorem dX8_upsFrom_35 : decode cX8_upsFrom 35 = .ok (.istore 4, 2) := by decide +kernel
theorem dX8_upsFrom_37 : decode cX8_upsFrom 37 = .ok (.iload 4, 2) := by decide +kernel
theorem dX8_upsFrom_39 : decode cX8_upsFrom 39 = .ok (.iload_n 2, 1) := by decide +kernel
theorem dX8_upsFrom_40 : decode cX8_upsFrom 40 = .ok (.if_icmp .gt 50, 3) := by decide +kernel
theorem dX8_upsFrom_43 : decode cX8_upsFrom 43 = .ok (.aload_n 0, 1) := by decide +kernel
theorem dX8_upsFrom_44 : decode cX8_upsFrom 44 = .ok (.getfield 31, 3) := by decide +kernel
theorem dX8_upsFrom_47 : decode cX8_upsFrom 47 = .ok (.bipush 31, 2) := by decide +kernel
theorem dX8_upsFrom_49 : decode cX8_upsFrom 49 = .ok (.iload 4, 2) := by decide +kernel
theorem dX8_upsFrom_51 : decode cX8_upsFrom 51 = .ok (.imul, 1) := by decide +kernel
theorem dX8_upsFrom_52 : decode cX8_upsFrom 52 = .ok (.iload 4, 2) := by decide +kernel
theorem dX8_upsFrom_54 : decode cX8_upsFrom 54 = .ok (.invokestatic 129, 3) := by decide +kernel
theorem dX8_upsFrom_57 : decode cX8_upsFrom 57 = .ok (.iadd, 1) := by decide +kernel
theorem dX8_upsFrom_58 : decode cX8_upsFrom 58 = .ok (.aload_n 0, 1) := by decide +kernel
theorem dX8_upsFrom_59 : decode cX8_upsFrom 59 = .ok (.iconst 0, 1) := by decide +kernel
theorem dX8_upsFrom_60 : decode cX8_upsFrom 60 = .ok (.iconst 0, 1) := by decide +kernel
theorem dX8_upsFrom_61 : decode cX8_upsFrom 61 = .ok (.iload 4, 2) := by decide +kernel
theorem dX8_upsFrom_63 : decode cX8_upsFrom 63 = .ok (.invokevirtual 95, 3) := by decide +kernel
theorem dX8_upsFrom_66 : decode cX8_upsFrom 66 = .ok (.iastore, 1) := by decide +kernel
theorem dX8_upsFrom_67 : decode cX8_upsFrom 67 = .ok (.aload_n 0, 1) := by decide +kernel
theorem dX8_upsFrom_68 : decode cX8_upsFrom 68 = .ok (.getfield 34, 3) := by decide +kernel
theorem dX8_upsFrom_71 : decode cX8_upsFrom 71 = .ok (.bipush 31, 2) := by decide +kernel
theorem dX8_upsFrom_73 : decode cX8_upsFrom 73 = .ok (.iload 4, 2) := by decide +kernel
theorem dX8_upsFrom_75 : decode cX8_upsFrom 75 = .ok (.imul, 1) := by decide +kernel
theorem dX8_upsFrom_76 : decode cX8_upsFrom 76 = .ok (.iload 4, 2) := by decide +kernel
theorem dX8_upsFrom_78 : decode cX8_upsFrom 78 = .ok (.invokestatic 129, 3) := by decide +kernel
theorem dX8_upsFrom_81 : decode cX8_upsFrom 81 = .ok (.iadd, 1) := by decide +kernel
theorem dX8_upsFrom_82 : decode cX8_upsFrom 82 = .ok (.iconst 1, 1) := by decide +kernel
theorem dX8_upsFrom_83 : decode cX8_upsFrom 83 = .ok (.iastore, 1) := by decide +kernel
theorem dX8_upsFrom_84 : decode cX8_upsFrom 84 = .ok (.iinc 4 1, 3) := by decide +kernel
theorem dX8_upsFrom_87 : decode cX8_upsFrom 87 = .ok (.goto (-50), 3) := by decide +kernel
theorem dX8_upsFrom_90 : decode cX8_upsFrom 90 = .ok (.iconst 1, 1) := by decide +kernel
theorem dX8_upsFrom_91 : decode cX8_upsFrom 91 = .ok (.istore 4, 2) := by decide +kernel
theorem dX8_upsFrom_93 : decode cX8_upsFrom 93 = .ok (.iload 4, 2) := by decide +kernel
theorem dX8_upsFrom_95 : decode cX8_upsFrom 95 = .ok (.aload_n 0, 1) := by decide +kernel
theorem dX8_upsFrom_96 : decode cX8_upsFrom 96 = .ok (.getfield 7, 3) := by decide +kernel
theorem dX8_upsFrom_99 : decode cX8_upsFrom 99 = .ok (.iconst 0, 1) := by decide +kernel
theorem dX8_upsFrom_100 : decode cX8_upsFrom 100 = .ok (.iaload, 1) := by decide +kernel
theorem dX8_upsFrom_101 : decode cX8_upsFrom 101 = .ok (.if_icmp .ge 237, 3) := by decide +kernel
theorem dX8_upsFrom_104 : decode cX8_upsFrom 104 = .ok (.iconst 0, 1) := by decide +kernel
theorem dX8_upsFrom_105 : decode cX8_upsFrom 105 = .ok (.istore 5, 2) := by decide +kernel
theorem dX8_upsFrom_107 : decode cX8_upsFrom 107 = .ok (.iload 5, 2) := by decide +kernel
theorem dX8_upsFrom_109 : decode cX8_upsFrom 109 = .ok (.sipush 248, 3) := by decide +kernel
theorem dX8_upsFrom_112 : decode cX8_upsFrom 112 = .ok (.if_icmp .ge 26, 3) := by decide +kernel
theorem dX8_upsFrom_115 : decode cX8_upsFrom 115 = .ok (.aload_n 0, 1) := by decide +kernel
theorem dX8_upsFrom_116 : decode cX8_upsFrom 116 = .ok (.getfield 37, 3) := by decide +kernel
theorem dX8_upsFrom_119 : decode cX8_upsFrom 119 = .ok (.iload 5, 2) := by decide +kernel
theorem dX8_upsFrom_121 : decode cX8_upsFrom 121 = .ok (.ldc 128, 2) := by decide +kernel
theorem dX8_upsFrom_123 : decode cX8_upsFrom 123 = .ok (.iastore, 1) := by decide +kernel
theorem dX8_upsFrom_124 : decode cX8_upsFrom 124 = .ok (.aload_n 0, 1) := by decide +kernel
theorem dX8_upsFrom_125 : decode cX8_upsFrom 125 = .ok (.getfield 40, 3) := by decide +kernel
theorem dX8_upsFrom_128 : decode cX8_upsFrom 128 = .ok (.iload 5, 2) := by decide +kernel
theorem dX8_upsFrom_130 : decode cX8_upsFrom 130 = .ok (.iconst 0, 1) := by decide +kernel
theorem dX8_upsFrom_131 : decode cX8_upsFrom 131 = .ok (.iastore, 1) := by decide +kernel
theorem dX8_upsFrom_132 : decode cX8_upsFrom 132 = .ok (.iinc 5 1, 3) := by decide +kernel
theorem dX8_upsFrom_135 : decode cX8_upsFrom 135 = .ok (.goto (-28), 3) := by decide +kernel
theorem dX8_upsFrom_138 : decode cX8_upsFrom 138 = .ok (.iconst 0, 1) := by decide +kernel
theorem dX8_upsFrom_139 : decode cX8_upsFrom 139 = .ok (.istore 5, 2) := by decide +kernel
theorem dX8_upsFrom_141 : decode cX8_upsFrom 141 = .ok (.iload 5, 2) := by decide +kernel
theorem dX8_upsFrom_143 : decode cX8_upsFrom 143 = .ok (.aload_n 0, 1) := by decide +kernel
theorem dX8_upsFrom_144 : decode cX8_upsFrom 144 = .ok (.invokevirtual 112, 3) := by decide +kernel
theorem dX8_upsFrom_147 : decode cX8_upsFrom 147 = .ok (.if_icmp .ge 140, 3) := by decide +kernel
theorem dX8_upsFrom_150 : decode cX8_upsFrom 150 = .ok (.iconst 0, 1) := by decide +kernel
theorem dX8_upsFrom_151 : decode cX8_upsFrom 151 = .ok (.istore 6, 2) := by decide +kernel
theorem dX8_upsFrom_153 : decode cX8_upsFrom 153 = .ok (.iload 6, 2) := by decide +kernel
theorem dX8_upsFrom_155 : decode cX8_upsFrom 155 = .ok (.aload_n 0, 1) := by decide +kernel
theorem dX8_upsFrom_156 : decode cX8_upsFrom 156 = .ok (.invokevirtual 112, 3) := by decide +kernel
theorem dX8_upsFrom_159 : decode cX8_upsFrom 159 = .ok (.if_icmp .ge 122, 3) := by decide +kernel
theorem dX8_upsFrom_162 : decode cX8_upsFrom 162 = .ok (.aload_n 0, 1) := by decide +kernel
theorem dX8_upsFrom_163 : decode cX8_upsFrom 163 = .ok (.iconst 0, 1) := by decide +kernel
theorem dX8_upsFrom_164 : decode cX8_upsFrom 164 = .ok (.iload 5, 2) := by decide +kernel
theorem dX8_upsFrom_166 : decode cX8_upsFrom 166 = .ok (.iload 6, 2) := by decide +kernel
theorem dX8_upsFrom_168 : decode cX8_upsFrom 168 = .ok (.invokevirtual 99, 3) := by decide +kernel
theorem dX8_upsFrom_171 : decode cX8_upsFrom 171 = .ok (.aload_n 0, 1) := by decide +kernel
theorem dX8_upsFrom_172 : decode cX8_upsFrom 172 = .ok (.iconst 0, 1) := by decide +kernel
theorem dX8_upsFrom_173 : decode cX8_upsFrom 173 = .ok (.iload 4, 2) := by decide +kernel
theorem dX8_upsFrom_175 : decode cX8_upsFrom 175 = .ok (.iload 6, 2) := by decide +kernel
theorem dX8_upsFrom_177 : decode cX8_upsFrom 177 = .ok (.invokevirtual 95, 3) := by decide +kernel
theorem dX8_upsFrom_180 : decode cX8_upsFrom 180 = .ok (.iadd, 1) := by decide +kernel
theorem dX8_upsFrom_181 : decode cX8_upsFrom 181 = .ok (.istore 7, 2) := by decide +kernel
theorem dX8_upsFrom_183 : decode cX8_upsFrom 183 = .ok (.iconst 0, 1) := by decide +kernel
theorem dX8_upsFrom_184 : decode cX8_upsFrom 184 = .ok (.istore 8, 2) := by decide +kernel
theorem dX8_upsFrom_186 : decode cX8_upsFrom 186 = .ok (.iload 8, 2) := by decide +kernel
theorem dX8_upsFrom_188 : decode cX8_upsFrom 188 = .ok (.iload 6, 2) := by decide +kernel
theorem dX8_upsFrom_190 : decode cX8_upsFrom 190 = .ok (.invokestatic 129, 3) := by decide +kernel
theorem dX8_upsFrom_193 : decode cX8_upsFrom 193 = .ok (.iadd, 1) := by decide +kernel
theorem dX8_upsFrom_194 : decode cX8_upsFrom 194 = .ok (.bipush 31, 2) := by decide +kernel
theorem dX8_upsFrom_196 : decode cX8_upsFrom 196 = .ok (.if_icmp .ge 79, 3) := by decide +kernel
theorem dX8_upsFrom_199 : decode cX8_upsFrom 199 = .ok (.aload_n 0, 1) := by decide +kernel
theorem dX8_upsFrom_200 : decode cX8_upsFrom 200 = .ok (.getfield 34, 3) := by decide +kernel
theorem dX8_upsFrom_203 : decode cX8_upsFrom 203 = .ok (.bipush 31, 2) := by decide +kernel
theorem dX8_upsFrom_205 : decode cX8_upsFrom 205 = .ok (.iload 5, 2) := by decide +kernel
theorem dX8_upsFrom_207 : decode cX8_upsFrom 207 = .ok (.imul, 1) := by decide +kernel
theorem dX8_upsFrom_208 : decode cX8_upsFrom 208 = .ok (.iload 8, 2) := by decide +kernel
theorem dX8_upsFrom_210 : decode cX8_upsFrom 210 = .ok (.iadd, 1) := by decide +kernel
theorem dX8_upsFrom_211 : decode cX8_upsFrom 211 = .ok (.iaload, 1) := by decide +kernel
theorem dX8_upsFrom_212 : decode cX8_upsFrom 212 = .ok (.ifCond .le 57, 3) := by decide +kernel
theorem dX8_upsFrom_215 : decode cX8_upsFrom 215 = .ok (.aload_n 0, 1) := by decide +kernel
theorem dX8_upsFrom_216 : decode cX8_upsFrom 216 = .ok (.getfield 37, 3) := by decide +kernel
theorem dX8_upsFrom_219 : decode cX8_upsFrom 219 = .ok (.aload_n 0, 1) := by decide +kernel
theorem dX8_upsFrom_220 : decode cX8_upsFrom 220 = .ok (.getfield 40, 3) := by decide +kernel
theorem dX8_upsFrom_223 : decode cX8_upsFrom 223 = .ok (.bipush 31, 2) := by decide +kernel
theorem dX8_upsFrom_225 : decode cX8_upsFrom 225 = .ok (.iload 6, 2) := by decide +kernel
theorem dX8_upsFrom_227 : decode cX8_upsFrom 227 = .ok (.imul, 1) := by decide +kernel
theorem dX8_upsFrom_228 : decode cX8_upsFrom 228 = .ok (.iload 8, 2) := by decide +kernel
theorem dX8_upsFrom_230 : decode cX8_upsFrom 230 = .ok (.iadd, 1) := by decide +kernel
theorem dX8_upsFrom_231 : decode cX8_upsFrom 231 = .ok (.iload 6, 2) := by decide +kernel
theorem dX8_upsFrom_233 : decode cX8_upsFrom 233 = .ok (.invokestatic 129, 3) := by decide +kernel
theorem dX8_upsFrom_236 : decode cX8_upsFrom 236 = .ok (.iadd, 1) := by decide +kernel
theorem dX8_upsFrom_237 : decode cX8_upsFrom 237 = .ok (.aload_n 0, 1) := by decide +kernel
theorem dX8_upsFrom_238 : decode cX8_upsFrom 238 = .ok (.getfield 31, 3) := by decide +kernel
theorem dX8_upsFrom_241 : decode cX8_upsFrom 241 = .ok (.bipush 31, 2) := by decide +kernel
theorem dX8_upsFrom_243 : decode cX8_upsFrom 243 = .ok (.iload 5, 2) := by decide +kernel
theorem dX8_upsFrom_245 : decode cX8_upsFrom 245 = .ok (.imul, 1) := by decide +kernel
theorem dX8_upsFrom_246 : decode cX8_upsFrom 246 = .ok (.iload 8, 2) := by decide +kernel
theorem dX8_upsFrom_248 : decode cX8_upsFrom 248 = .ok (.iadd, 1) := by decide +kernel
theorem dX8_upsFrom_249 : decode cX8_upsFrom 249 = .ok (.iaload, 1) := by decide +kernel
theorem dX8_upsFrom_250 : decode cX8_upsFrom 250 = .ok (.iload 7, 2) := by decide +kernel
theorem dX8_upsFrom_252 : decode cX8_upsFrom 252 = .ok (.iadd, 1) := by decide +kernel
theorem dX8_upsFrom_253 : decode cX8_upsFrom 253 = .ok (.aload_n 0, 1) := by decide +kernel
theorem dX8_upsFrom_254 : decode cX8_upsFrom 254 = .ok (.getfield 34, 3) := by decide +kernel
theorem dX8_upsFrom_257 : decode cX8_upsFrom 257 = .ok (.bipush 31, 2) := by decide +kernel
theorem dX8_upsFrom_259 : decode cX8_upsFrom 259 = .ok (.iload 5, 2) := by decide +kernel
theorem dX8_upsFrom_261 : decode cX8_upsFrom 261 = .ok (.imul, 1) := by decide +kernel
theorem dX8_upsFrom_262 : decode cX8_upsFrom 262 = .ok (.iload 8, 2) := by decide +kernel
theorem dX8_upsFrom_264 : decode cX8_upsFrom 264 = .ok (.iadd, 1) := by decide +kernel
theorem dX8_upsFrom_265 : decode cX8_upsFrom 265 = .ok (.iaload, 1) := by decide +kernel
theorem dX8_upsFrom_266 : decode cX8_upsFrom 266 = .ok (.invokestatic 132, 3) := by decide +kernel
theorem dX8_upsFrom_269 : decode cX8_upsFrom 269 = .ok (.iinc 8 1, 3) := by decide +kernel
theorem dX8_upsFrom_272 : decode cX8_upsFrom 272 = .ok (.goto (-86), 3) := by decide +kernel
theorem dX8_upsFrom_275 : decode cX8_upsFrom 275 = .ok (.iinc 6 1, 3) := by decide +kernel
theorem dX8_upsFrom_278 : decode cX8_upsFrom 278 = .ok (.goto (-125), 3) := by decide +kernel
theorem dX8_upsFrom_281 : decode cX8_upsFrom 281 = .ok (.iinc 5 1, 3) := by decide +kernel
theorem dX8_upsFrom_284 : decode cX8_upsFrom 284 = .ok (.goto (-143), 3) := by decide +kernel
theorem dX8_upsFrom_287 : decode cX8_upsFrom 287 = .ok (.iconst 0, 1) := by decide +kernel
theorem dX8_upsFrom_288 : decode cX8_upsFrom 288 = .ok (.istore 5, 2) := by decide +kernel
theorem dX8_upsFrom_290 : decode cX8_upsFrom 290 = .ok (.iload 5, 2) := by decide +kernel
theorem dX8_upsFrom_292 : decode cX8_upsFrom 292 = .ok (.sipush 248, 3) := by decide +kernel
theorem dX8_upsFrom_295 : decode cX8_upsFrom 295 = .ok (.if_icmp .ge 37, 3) := by decide +kernel
theorem dX8_upsFrom_298 : decode cX8_upsFrom 298 = .ok (.aload_n 0, 1) := by decide +kernel
theorem dX8_upsFrom_299 : decode cX8_upsFrom 299 = .ok (.getfield 31, 3) := by decide +kernel
theorem dX8_upsFrom_302 : decode cX8_upsFrom 302 = .ok (.iload 5, 2) := by decide +kernel
theorem dX8_upsFrom_304 : decode cX8_upsFrom 304 = .ok (.aload_n 0, 1) := by decide +kernel
theorem dX8_upsFrom_305 : decode cX8_upsFrom 305 = .ok (.getfield 37, 3) := by decide +kernel
theorem dX8_upsFrom_308 : decode cX8_upsFrom 308 = .ok (.iload 5, 2) := by decide +kernel
theorem dX8_upsFrom_310 : decode cX8_upsFrom 310 = .ok (.iaload, 1) := by decide +kernel
theorem dX8_upsFrom_311 : decode cX8_upsFrom 311 = .ok (.iastore, 1) := by decide +kernel
theorem dX8_upsFrom_312 : decode cX8_upsFrom 312 = .ok (.aload_n 0, 1) := by decide +kernel
theorem dX8_upsFrom_313 : decode cX8_upsFrom 313 = .ok (.getfield 34, 3) := by decide +kernel
theorem dX8_upsFrom_316 : decode cX8_upsFrom 316 = .ok (.iload 5, 2) := by decide +kernel
theorem dX8_upsFrom_318 : decode cX8_upsFrom 318 = .ok (.aload_n 0, 1) := by decide +kernel
theorem dX8_upsFrom_319 : decode cX8_upsFrom 319 = .ok (.getfield 40, 3) := by decide +kernel
theorem dX8_upsFrom_322 : decode cX8_upsFrom 322 = .ok (.iload 5, 2) := by decide +kernel
theorem dX8_upsFrom_324 : decode cX8_upsFrom 324 = .ok (.iaload, 1) := by decide +kernel
theorem dX8_upsFrom_325 : decode cX8_upsFrom 325 = .ok (.iastore, 1) := by decide +kernel
theorem dX8_upsFrom_326 : decode cX8_upsFrom 326 = .ok (.iinc 5 1, 3) := by decide +kernel
theorem dX8_upsFrom_329 : decode cX8_upsFrom 329 = .ok (.goto (-39), 3) := by decide +kernel
theorem dX8_upsFrom_332 : decode cX8_upsFrom 332 = .ok (.iinc 4 1, 3) := by decide +kernel
theorem dX8_upsFrom_335 : decode cX8_upsFrom 335 = .ok (.goto (-242), 3) := by decide +kernel
theorem dX8_upsFrom_338 : decode cX8_upsFrom 338 = .ok (.iconst 0, 1) := by decide +kernel
theorem dX8_upsFrom_339 : decode cX8_upsFrom 339 = .ok (.istore 4, 2) := by decide +kernel
theorem dX8_upsFrom_341 : decode cX8_upsFrom 341 = .ok (.iload 4, 2) := by decide +kernel
theorem dX8_upsFrom_343 : decode cX8_upsFrom 343 = .ok (.aload_n 0, 1) := by decide +kernel
theorem dX8_upsFrom_344 : decode cX8_upsFrom 344 = .ok (.invokevirtual 112, 3) := by decide +kernel
theorem dX8_upsFrom_347 : decode cX8_upsFrom 347 = .ok (.if_icmp .ge 101, 3) := by decide +kernel
theorem dX8_upsFrom_350 : decode cX8_upsFrom 350 = .ok (.iload_n 3, 1) := by decide +kernel
theorem dX8_upsFrom_351 : decode cX8_upsFrom 351 = .ok (.ifCond .eq 14, 3) := by decide +kernel
theorem dX8_upsFrom_354 : decode cX8_upsFrom 354 = .ok (.aload_n 0, 1) := by decide +kernel
theorem dX8_upsFrom_355 : decode cX8_upsFrom 355 = .ok (.iconst 0, 1) := by decide +kernel
theorem dX8_upsFrom_356 : decode cX8_upsFrom 356 = .ok (.iload 4, 2) := by decide +kernel
theorem dX8_upsFrom_358 : decode cX8_upsFrom 358 = .ok (.iload_n 1, 1) := by decide +kernel
theorem dX8_upsFrom_359 : decode cX8_upsFrom 359 = .ok (.invokevirtual 99, 3) := by decide +kernel
theorem dX8_upsFrom_362 : decode cX8_upsFrom 362 = .ok (.goto 4, 3) := by decide +kernel
theorem dX8_upsFrom_365 : decode cX8_upsFrom 365 = .ok (.iconst 0, 1) := by decide +kernel
theorem dX8_upsFrom_366 : decode cX8_upsFrom 366 = .ok (.istore 5, 2) := by decide +kernel
theorem dX8_upsFrom_368 : decode cX8_upsFrom 368 = .ok (.iconst 0, 1) := by decide +kernel
theorem dX8_upsFrom_369 : decode cX8_upsFrom 369 = .ok (.istore 6, 2) := by decide +kernel
theorem dX8_upsFrom_371 : decode cX8_upsFrom 371 = .ok (.iload 6, 2) := by decide +kernel
theorem dX8_upsFrom_373 : decode cX8_upsFrom 373 = .ok (.bipush 31, 2) := by decide +kernel
theorem dX8_upsFrom_375 : decode cX8_upsFrom 375 = .ok (.if_icmp .ge 67, 3) := by decide +kernel
theorem dX8_upsFrom_378 : decode cX8_upsFrom 378 = .ok (.aload_n 0, 1) := by decide +kernel
theorem dX8_upsFrom_379 : decode cX8_upsFrom 379 = .ok (.getfield 34, 3) := by decide +kernel
theorem dX8_upsFrom_382 : decode cX8_upsFrom 382 = .ok (.bipush 31, 2) := by decide +kernel
theorem dX8_upsFrom_384 : decode cX8_upsFrom 384 = .ok (.iload 4, 2) := by decide +kernel
theorem dX8_upsFrom_386 : decode cX8_upsFrom 386 = .ok (.imul, 1) := by decide +kernel
theorem dX8_upsFrom_387 : decode cX8_upsFrom 387 = .ok (.iload 6, 2) := by decide +kernel
theorem dX8_upsFrom_389 : decode cX8_upsFrom 389 = .ok (.iadd, 1) := by decide +kernel
theorem dX8_upsFrom_390 : decode cX8_upsFrom 390 = .ok (.iaload, 1) := by decide +kernel
theorem dX8_upsFrom_391 : decode cX8_upsFrom 391 = .ok (.ifCond .le 45, 3) := by decide +kernel
theorem dX8_upsFrom_394 : decode cX8_upsFrom 394 = .ok (.aload_n 0, 1) := by decide +kernel
theorem dX8_upsFrom_395 : decode cX8_upsFrom 395 = .ok (.getfield 43, 3) := by decide +kernel
theorem dX8_upsFrom_398 : decode cX8_upsFrom 398 = .ok (.aload_n 0, 1) := by decide +kernel
theorem dX8_upsFrom_399 : decode cX8_upsFrom 399 = .ok (.getfield 46, 3) := by decide +kernel
theorem dX8_upsFrom_402 : decode cX8_upsFrom 402 = .ok (.iload 6, 2) := by decide +kernel
theorem dX8_upsFrom_404 : decode cX8_upsFrom 404 = .ok (.aload_n 0, 1) := by decide +kernel
theorem dX8_upsFrom_405 : decode cX8_upsFrom 405 = .ok (.getfield 31, 3) := by decide +kernel
theorem dX8_upsFrom_408 : decode cX8_upsFrom 408 = .ok (.bipush 31, 2) := by decide +kernel
theorem dX8_upsFrom_410 : decode cX8_upsFrom 410 = .ok (.iload 4, 2) := by decide +kernel
theorem dX8_upsFrom_412 : decode cX8_upsFrom 412 = .ok (.imul, 1) := by decide +kernel
theorem dX8_upsFrom_413 : decode cX8_upsFrom 413 = .ok (.iload 6, 2) := by decide +kernel
theorem dX8_upsFrom_415 : decode cX8_upsFrom 415 = .ok (.iadd, 1) := by decide +kernel
theorem dX8_upsFrom_416 : decode cX8_upsFrom 416 = .ok (.iaload, 1) := by decide +kernel
theorem dX8_upsFrom_417 : decode cX8_upsFrom 417 = .ok (.iload 5, 2) := by decide +kernel
theorem dX8_upsFrom_419 : decode cX8_upsFrom 419 = .ok (.iadd, 1) := by decide +kernel
theorem dX8_upsFrom_420 : decode cX8_upsFrom 420 = .ok (.aload_n 0, 1) := by decide +kernel
theorem dX8_upsFrom_421 : decode cX8_upsFrom 421 = .ok (.getfield 34, 3) := by decide +kernel
theorem dX8_upsFrom_424 : decode cX8_upsFrom 424 = .ok (.bipush 31, 2) := by decide +kernel
theorem dX8_upsFrom_426 : decode cX8_upsFrom 426 = .ok (.iload 4, 2) := by decide +kernel
theorem dX8_upsFrom_428 : decode cX8_upsFrom 428 = .ok (.imul, 1) := by decide +kernel
theorem dX8_upsFrom_429 : decode cX8_upsFrom 429 = .ok (.iload 6, 2) := by decide +kernel
theorem dX8_upsFrom_431 : decode cX8_upsFrom 431 = .ok (.iadd, 1) := by decide +kernel
theorem dX8_upsFrom_432 : decode cX8_upsFrom 432 = .ok (.iaload, 1) := by decide +kernel
theorem dX8_upsFrom_433 : decode cX8_upsFrom 433 = .ok (.invokestatic 132, 3) := by decide +kernel
theorem dX8_upsFrom_436 : decode cX8_upsFrom 436 = .ok (.iinc 6 1, 3) := by decide +kernel
theorem dX8_upsFrom_439 : decode cX8_upsFrom 439 = .ok (.goto (-68), 3) := by decide +kernel
theorem dX8_upsFrom_442 : decode cX8_upsFrom 442 = .ok (.iinc 4 1, 3) := by decide +kernel
theorem dX8_upsFrom_445 : decode cX8_upsFrom 445 = .ok (.goto (-104), 3) := by decide +kernel
theorem dX8_upsFrom_448 : decode cX8_upsFrom 448 = .ok (.return_, 1) := by decide +kernel
theorem dX8_upsAll_0 : decode cX8_upsAll 0 = .ok (.iconst 0, 1) := by decide +kernel
theorem dX8_upsAll_1 : decode cX8_upsAll 1 = .ok (.istore_n 1, 1) := by decide +kernel
theorem dX8_upsAll_2 : decode cX8_upsAll 2 = .ok (.iload_n 1, 1) := by decide +kernel
theorem dX8_upsAll_3 : decode cX8_upsAll 3 = .ok (.bipush 31, 2) := by decide +kernel
theorem dX8_upsAll_5 : decode cX8_upsAll 5 = .ok (.if_icmp .ge 24, 3) := by decide +kernel
theorem dX8_upsAll_8 : decode cX8_upsAll 8 = .ok (.aload_n 0, 1) := by decide +kernel
theorem dX8_upsAll_9 : decode cX8_upsAll 9 = .ok (.getfield 43, 3) := by decide +kernel
theorem dX8_upsAll_12 : decode cX8_upsAll 12 = .ok (.iload_n 1, 1) := by decide +kernel
theorem dX8_upsAll_13 : decode cX8_upsAll 13 = .ok (.ldc 128, 2) := by decide +kernel
theorem dX8_upsAll_15 : decode cX8_upsAll 15 = .ok (.iastore, 1) := by decide +kernel
theorem dX8_upsAll_16 : decode cX8_upsAll 16 = .ok (.aload_n 0, 1) := by decide +kernel
theorem dX8_upsAll_17 : decode cX8_upsAll 17 = .ok (.getfield 46, 3) := by decide +kernel
theorem dX8_upsAll_20 : decode cX8_upsAll 20 = .ok (.iload_n 1, 1) := by decide +kernel
theorem dX8_upsAll_21 : decode cX8_upsAll 21 = .ok (.iconst 0, 1) := by decide +kernel
theorem dX8_upsAll_22 : decode cX8_upsAll 22 = .ok (.iastore, 1) := by decide +kernel
theorem dX8_upsAll_23 : decode cX8_upsAll 23 = .ok (.iinc 1 1, 3) := by decide +kernel
theorem dX8_upsAll_26 : decode cX8_upsAll 26 = .ok (.goto (-24), 3) := by decide +kernel
theorem dX8_upsAll_29 : decode cX8_upsAll 29 = .ok (.aload_n 0, 1) := by decide +kernel
theorem dX8_upsAll_30 : decode cX8_upsAll 30 = .ok (.invokevirtual 85, 3) := by decide +kernel
theorem dX8_upsAll_33 : decode cX8_upsAll 33 = .ok (.ifCond .eq 29, 3) := by decide +kernel
theorem dX8_upsAll_36 : decode cX8_upsAll 36 = .ok (.iconst 0, 1) := by decide +kernel
theorem dX8_upsAll_37 : decode cX8_upsAll 37 = .ok (.istore_n 1, 1) := by decide +kernel
theorem dX8_upsAll_38 : decode cX8_upsAll 38 = .ok (.iload_n 1, 1) := by decide +kernel
theorem dX8_upsAll_39 : decode cX8_upsAll 39 = .ok (.aload_n 0, 1) := by decide +kernel
theorem dX8_upsAll_40 : decode cX8_upsAll 40 = .ok (.invokevirtual 112, 3) := by decide +kernel
theorem dX8_upsAll_43 : decode cX8_upsAll 43 = .ok (.if_icmp .ge 16, 3) := by decide +kernel
theorem dX8_upsAll_46 : decode cX8_upsAll 46 = .ok (.aload_n 0, 1) := by decide +kernel
theorem dX8_upsAll_47 : decode cX8_upsAll 47 = .ok (.iload_n 1, 1) := by decide +kernel
theorem dX8_upsAll_48 : decode cX8_upsAll 48 = .ok (.iload_n 1, 1) := by decide +kernel
theorem dX8_upsAll_49 : decode cX8_upsAll 49 = .ok (.iconst 1, 1) := by decide +kernel
theorem dX8_upsAll_50 : decode cX8_upsAll 50 = .ok (.invokevirtual 136, 3) := by decide +kernel
theorem dX8_upsAll_53 : decode cX8_upsAll 53 = .ok (.iinc 1 1, 3) := by decide +kernel
theorem dX8_upsAll_56 : decode cX8_upsAll 56 = .ok (.goto (-18), 3) := by decide +kernel
theorem dX8_upsAll_59 : decode cX8_upsAll 59 = .ok (.goto 15, 3) := by decide +kernel
theorem dX8_upsAll_62 : decode cX8_upsAll 62 = .ok (.aload_n 0, 1) := by decide +kernel
theorem dX8_upsAll_63 : decode cX8_upsAll 63 = .ok (.iconst 0, 1) := by decide +kernel
theorem dX8_upsAll_64 : decode cX8_upsAll 64 = .ok (.aload_n 0, 1) := by decide +kernel
theorem dX8_upsAll_65 : decode cX8_upsAll 65 = .ok (.invokevirtual 112, 3) := by decide +kernel
theorem dX8_upsAll_68 : decode cX8_upsAll 68 = .ok (.iconst 1, 1) := by decide +kernel
theorem dX8_upsAll_69 : decode cX8_upsAll 69 = .ok (.isub, 1) := by decide +kernel
theorem dX8_upsAll_70 : decode cX8_upsAll 70 = .ok (.iconst 0, 1) := by decide +kernel
theorem dX8_upsAll_71 : decode cX8_upsAll 71 = .ok (.invokevirtual 136, 3) := by decide +kernel
theorem dX8_upsAll_74 : decode cX8_upsAll 74 = .ok (.return_, 1) := by decide +kernel
theorem dX8_leastEnergy_0 : decode cX8_leastEnergy 0 = .ok (.aload_n 0, 1) := by decide +kernel
theorem dX8_leastEnergy_1 : decode cX8_leastEnergy 1 = .ok (.invokevirtual 140, 3) := by decide +kernel
theorem dX8_leastEnergy_4 : decode cX8_leastEnergy 4 = .ok (.ldc 128, 2) := by decide +kernel
theorem dX8_leastEnergy_6 : decode cX8_leastEnergy 6 = .ok (.istore_n 1, 1) := by decide +kernel
theorem dX8_leastEnergy_7 : decode cX8_leastEnergy 7 = .ok (.iconst 0, 1) := by decide +kernel
theorem dX8_leastEnergy_8 : decode cX8_leastEnergy 8 = .ok (.istore_n 2, 1) := by decide +kernel
theorem dX8_leastEnergy_9 : decode cX8_leastEnergy 9 = .ok (.iload_n 2, 1) := by decide +kernel
theorem dX8_leastEnergy_10 : decode cX8_leastEnergy 10 = .ok (.bipush 31, 2) := by decide +kernel
theorem dX8_leastEnergy_12 : decode cX8_leastEnergy 12 = .ok (.if_icmp .ge 30, 3) := by decide +kernel
theorem dX8_leastEnergy_15 : decode cX8_leastEnergy 15 = .ok (.aload_n 0, 1) := by decide +kernel
theorem dX8_leastEnergy_16 : decode cX8_leastEnergy 16 = .ok (.getfield 43, 3) := by decide +kernel
theorem dX8_leastEnergy_19 : decode cX8_leastEnergy 19 = .ok (.iload_n 2, 1) := by decide +kernel
theorem dX8_leastEnergy_20 : decode cX8_leastEnergy 20 = .ok (.iaload, 1) := by decide +kernel
theorem dX8_leastEnergy_21 : decode cX8_leastEnergy 21 = .ok (.iload_n 1, 1) := by decide +kernel
theorem dX8_leastEnergy_22 : decode cX8_leastEnergy 22 = .ok (.if_icmp .ge 12, 3) := by decide +kernel
theorem dX8_leastEnergy_25 : decode cX8_leastEnergy 25 = .ok (.aload_n 0, 1) := by decide +kernel
theorem dX8_leastEnergy_26 : decode cX8_leastEnergy 26 = .ok (.getfield 43, 3) := by decide +kernel
theorem dX8_leastEnergy_29 : decode cX8_leastEnergy 29 = .ok (.iload_n 2, 1) := by decide +kernel
theorem dX8_leastEnergy_30 : decode cX8_leastEnergy 30 = .ok (.iaload, 1) := by decide +kernel
theorem dX8_leastEnergy_31 : decode cX8_leastEnergy 31 = .ok (.goto 4, 3) := by decide +kernel
theorem dX8_leastEnergy_34 : decode cX8_leastEnergy 34 = .ok (.iload_n 1, 1) := by decide +kernel
theorem dX8_leastEnergy_35 : decode cX8_leastEnergy 35 = .ok (.istore_n 1, 1) := by decide +kernel
theorem dX8_leastEnergy_36 : decode cX8_leastEnergy 36 = .ok (.iinc 2 1, 3) := by decide +kernel
theorem dX8_leastEnergy_39 : decode cX8_leastEnergy 39 = .ok (.goto (-30), 3) := by decide +kernel
theorem dX8_leastEnergy_42 : decode cX8_leastEnergy 42 = .ok (.iload_n 1, 1) := by decide +kernel
theorem dX8_leastEnergy_43 : decode cX8_leastEnergy 43 = .ok (.ireturn, 1) := by decide +kernel
theorem dX8_rests_0 : decode cX8_rests 0 = .ok (.aload_n 0, 1) := by decide +kernel
theorem dX8_rests_1 : decode cX8_rests 1 = .ok (.getfield 7, 3) := by decide +kernel
theorem dX8_rests_4 : decode cX8_rests 4 = .ok (.iconst 0, 1) := by decide +kernel
theorem dX8_rests_5 : decode cX8_rests 5 = .ok (.iaload, 1) := by decide +kernel
theorem dX8_rests_6 : decode cX8_rests 6 = .ok (.iconst 1, 1) := by decide +kernel
theorem dX8_rests_7 : decode cX8_rests 7 = .ok (.isub, 1) := by decide +kernel
theorem dX8_rests_8 : decode cX8_rests 8 = .ok (.istore_n 2, 1) := by decide +kernel
theorem dX8_rests_9 : decode cX8_rests 9 = .ok (.iload_n 2, 1) := by decide +kernel
theorem dX8_rests_10 : decode cX8_rests 10 = .ok (.istore_n 3, 1) := by decide +kernel
theorem dX8_rests_11 : decode cX8_rests 11 = .ok (.iload_n 3, 1) := by decide +kernel
theorem dX8_rests_12 : decode cX8_rests 12 = .ok (.ifCond .lt 146, 3) := by decide +kernel
theorem dX8_rests_15 : decode cX8_rests 15 = .ok (.iconst 0, 1) := by decide +kernel
theorem dX8_rests_16 : decode cX8_rests 16 = .ok (.istore 4, 2) := by decide +kernel
theorem dX8_rests_18 : decode cX8_rests 18 = .ok (.iload 4, 2) := by decide +kernel
theorem dX8_rests_20 : decode cX8_rests 20 = .ok (.aload_n 0, 1) := by decide +kernel
theorem dX8_rests_21 : decode cX8_rests 21 = .ok (.invokevirtual 112, 3) := by decide +kernel
theorem dX8_rests_24 : decode cX8_rests 24 = .ok (.if_icmp .ge 128, 3) := by decide +kernel
theorem dX8_rests_27 : decode cX8_rests 27 = .ok (.iload_n 3, 1) := by decide +kernel
theorem dX8_rests_28 : decode cX8_rests 28 = .ok (.iload_n 2, 1) := by decide +kernel
theorem dX8_rests_29 : decode cX8_rests 29 = .ok (.if_icmp .ge 8, 3) := by decide +kernel
theorem dX8_rests_32 : decode cX8_rests 32 = .ok (.ldc 128, 2) := by decide +kernel
theorem dX8_rests_34 : decode cX8_rests 34 = .ok (.goto 22, 3) := by decide +kernel
theorem dX8_rests_37 : decode cX8_rests 37 = .ok (.aload_n 0, 1) := by decide +kernel
theorem dX8_rests_38 : decode cX8_rests 38 = .ok (.invokevirtual 85, 3) := by decide +kernel
theorem dX8_rests_41 : decode cX8_rests 41 = .ok (.ifCond .eq 14, 3) := by decide +kernel
theorem dX8_rests_44 : decode cX8_rests 44 = .ok (.aload_n 0, 1) := by decide +kernel
theorem dX8_rests_45 : decode cX8_rests 45 = .ok (.iconst 0, 1) := by decide +kernel
theorem dX8_rests_46 : decode cX8_rests 46 = .ok (.iload 4, 2) := by decide +kernel
theorem dX8_rests_48 : decode cX8_rests 48 = .ok (.iload_n 1, 1) := by decide +kernel
theorem dX8_rests_49 : decode cX8_rests 49 = .ok (.invokevirtual 99, 3) := by decide +kernel
theorem dX8_rests_52 : decode cX8_rests 52 = .ok (.goto 4, 3) := by decide +kernel
theorem dX8_rests_55 : decode cX8_rests 55 = .ok (.iconst 0, 1) := by decide +kernel
theorem dX8_rests_56 : decode cX8_rests 56 = .ok (.istore 5, 2) := by decide +kernel
theorem dX8_rests_58 : decode cX8_rests 58 = .ok (.iconst 0, 1) := by decide +kernel
theorem dX8_rests_59 : decode cX8_rests 59 = .ok (.istore 6, 2) := by decide +kernel
theorem dX8_rests_61 : decode cX8_rests 61 = .ok (.iload 6, 2) := by decide +kernel
theorem dX8_rests_63 : decode cX8_rests 63 = .ok (.aload_n 0, 1) := by decide +kernel
theorem dX8_rests_64 : decode cX8_rests 64 = .ok (.invokevirtual 112, 3) := by decide +kernel
theorem dX8_rests_67 : decode cX8_rests 67 = .ok (.if_icmp .ge 56, 3) := by decide +kernel
theorem dX8_rests_70 : decode cX8_rests 70 = .ok (.iload_n 3, 1) := by decide +kernel
theorem dX8_rests_71 : decode cX8_rests 71 = .ok (.iload_n 2, 1) := by decide +kernel
theorem dX8_rests_72 : decode cX8_rests 72 = .ok (.if_icmp .ge 51, 3) := by decide +kernel
theorem dX8_rests_75 : decode cX8_rests 75 = .ok (.aload_n 0, 1) := by decide +kernel
theorem dX8_rests_76 : decode cX8_rests 76 = .ok (.iconst 0, 1) := by decide +kernel
theorem dX8_rests_77 : decode cX8_rests 77 = .ok (.iload 4, 2) := by decide +kernel
theorem dX8_rests_79 : decode cX8_rests 79 = .ok (.iload 6, 2) := by decide +kernel
theorem dX8_rests_81 : decode cX8_rests 81 = .ok (.invokevirtual 99, 3) := by decide +kernel
theorem dX8_rests_84 : decode cX8_rests 84 = .ok (.aload_n 0, 1) := by decide +kernel
theorem dX8_rests_85 : decode cX8_rests 85 = .ok (.getfield 49, 3) := by decide +kernel
theorem dX8_rests_88 : decode cX8_rests 88 = .ok (.bipush 8, 2) := by decide +kernel
theorem dX8_rests_90 : decode cX8_rests 90 = .ok (.iload_n 3, 1) := by decide +kernel
theorem dX8_rests_91 : decode cX8_rests 91 = .ok (.iconst 1, 1) := by decide +kernel
theorem dX8_rests_92 : decode cX8_rests 92 = .ok (.iadd, 1) := by decide +kernel
theorem dX8_rests_93 : decode cX8_rests 93 = .ok (.imul, 1) := by decide +kernel
theorem dX8_rests_94 : decode cX8_rests 94 = .ok (.iload 6, 2) := by decide +kernel
theorem dX8_rests_96 : decode cX8_rests 96 = .ok (.iadd, 1) := by decide +kernel
theorem dX8_rests_97 : decode cX8_rests 97 = .ok (.iaload, 1) := by decide +kernel
theorem dX8_rests_98 : decode cX8_rests 98 = .ok (.iadd, 1) := by decide +kernel
theorem dX8_rests_99 : decode cX8_rests 99 = .ok (.istore 7, 2) := by decide +kernel
theorem dX8_rests_101 : decode cX8_rests 101 = .ok (.iload 7, 2) := by decide +kernel
theorem dX8_rests_103 : decode cX8_rests 103 = .ok (.iload 5, 2) := by decide +kernel
theorem dX8_rests_105 : decode cX8_rests 105 = .ok (.if_icmp .ge 8, 3) := by decide +kernel
theorem dX8_rests_108 : decode cX8_rests 108 = .ok (.iload 7, 2) := by decide +kernel
theorem dX8_rests_110 : decode cX8_rests 110 = .ok (.goto 5, 3) := by decide +kernel
theorem dX8_rests_113 : decode cX8_rests 113 = .ok (.iload 5, 2) := by decide +kernel
theorem dX8_rests_115 : decode cX8_rests 115 = .ok (.istore 5, 2) := by decide +kernel
theorem dX8_rests_117 : decode cX8_rests 117 = .ok (.iinc 6 1, 3) := by decide +kernel
theorem dX8_rests_120 : decode cX8_rests 120 = .ok (.goto (-59), 3) := by decide +kernel
theorem dX8_rests_123 : decode cX8_rests 123 = .ok (.aload_n 0, 1) := by decide +kernel
theorem dX8_rests_124 : decode cX8_rests 124 = .ok (.getfield 49, 3) := by decide +kernel
theorem dX8_rests_127 : decode cX8_rests 127 = .ok (.bipush 8, 2) := by decide +kernel
theorem dX8_rests_129 : decode cX8_rests 129 = .ok (.iload_n 3, 1) := by decide +kernel
theorem dX8_rests_130 : decode cX8_rests 130 = .ok (.imul, 1) := by decide +kernel
theorem dX8_rests_131 : decode cX8_rests 131 = .ok (.iload 4, 2) := by decide +kernel
theorem dX8_rests_133 : decode cX8_rests 133 = .ok (.iadd, 1) := by decide +kernel
theorem dX8_rests_134 : decode cX8_rests 134 = .ok (.iload 5, 2) := by decide +kernel
theorem dX8_rests_136 : decode cX8_rests 136 = .ok (.aload_n 0, 1) := by decide +kernel
theorem dX8_rests_137 : decode cX8_rests 137 = .ok (.iconst 0, 1) := by decide +kernel
theorem dX8_rests_138 : decode cX8_rests 138 = .ok (.iload_n 3, 1) := by decide +kernel
theorem dX8_rests_139 : decode cX8_rests 139 = .ok (.iload 4, 2) := by decide +kernel
theorem dX8_rests_141 : decode cX8_rests 141 = .ok (.invokevirtual 95, 3) := by decide +kernel
theorem dX8_rests_144 : decode cX8_rests 144 = .ok (.iadd, 1) := by decide +kernel
theorem dX8_rests_145 : decode cX8_rests 145 = .ok (.iastore, 1) := by decide +kernel
theorem dX8_rests_146 : decode cX8_rests 146 = .ok (.iinc 4 1, 3) := by decide +kernel
theorem dX8_rests_149 : decode cX8_rests 149 = .ok (.goto (-131), 3) := by decide +kernel
theorem dX8_rests_152 : decode cX8_rests 152 = .ok (.iinc 3 (-1), 3) := by decide +kernel
theorem dX8_rests_155 : decode cX8_rests 155 = .ok (.goto (-144), 3) := by decide +kernel
theorem dX8_rests_158 : decode cX8_rests 158 = .ok (.return_, 1) := by decide +kernel
theorem dX8_ranked_0 : decode cX8_ranked 0 = .ok (.iconst 0, 1) := by decide +kernel
theorem dX8_ranked_1 : decode cX8_ranked 1 = .ok (.istore_n 2, 1) := by decide +kernel
theorem dX8_ranked_2 : decode cX8_ranked 2 = .ok (.iconst 0, 1) := by decide +kernel
theorem dX8_ranked_3 : decode cX8_ranked 3 = .ok (.istore_n 3, 1) := by decide +kernel
theorem dX8_ranked_4 : decode cX8_ranked 4 = .ok (.iload_n 3, 1) := by decide +kernel
theorem dX8_ranked_5 : decode cX8_ranked 5 = .ok (.aload_n 0, 1) := by decide +kernel
theorem dX8_ranked_6 : decode cX8_ranked 6 = .ok (.getfield 7, 3) := by decide +kernel
theorem dX8_ranked_9 : decode cX8_ranked 9 = .ok (.iconst 1, 1) := by decide +kernel
theorem dX8_ranked_10 : decode cX8_ranked 10 = .ok (.iaload, 1) := by decide +kernel
theorem dX8_ranked_11 : decode cX8_ranked 11 = .ok (.if_icmp .ge 28, 3) := by decide +kernel
theorem dX8_ranked_14 : decode cX8_ranked 14 = .ok (.iload_n 2, 1) := by decide +kernel
theorem dX8_ranked_15 : decode cX8_ranked 15 = .ok (.iload_n 1, 1) := by decide +kernel
theorem dX8_ranked_16 : decode cX8_ranked 16 = .ok (.aload_n 0, 1) := by decide +kernel
theorem dX8_ranked_17 : decode cX8_ranked 17 = .ok (.getfield 7, 3) := by decide +kernel
theorem dX8_ranked_20 : decode cX8_ranked 20 = .ok (.iconst 1, 1) := by decide +kernel
theorem dX8_ranked_21 : decode cX8_ranked 21 = .ok (.iaload, 1) := by decide +kernel
theorem dX8_ranked_22 : decode cX8_ranked 22 = .ok (.iconst 1, 1) := by decide +kernel
theorem dX8_ranked_23 : decode cX8_ranked 23 = .ok (.isub, 1) := by decide +kernel
theorem dX8_ranked_24 : decode cX8_ranked 24 = .ok (.iload_n 3, 1) := by decide +kernel
theorem dX8_ranked_25 : decode cX8_ranked 25 = .ok (.isub, 1) := by decide +kernel
theorem dX8_ranked_26 : decode cX8_ranked 26 = .ok (.ishr, 1) := by decide +kernel
theorem dX8_ranked_27 : decode cX8_ranked 27 = .ok (.iconst 1, 1) := by decide +kernel
theorem dX8_ranked_28 : decode cX8_ranked 28 = .ok (.iand, 1) := by decide +kernel
theorem dX8_ranked_29 : decode cX8_ranked 29 = .ok (.iload_n 3, 1) := by decide +kernel
theorem dX8_ranked_30 : decode cX8_ranked 30 = .ok (.ishl, 1) := by decide +kernel
theorem dX8_ranked_31 : decode cX8_ranked 31 = .ok (.ior, 1) := by decide +kernel
theorem dX8_ranked_32 : decode cX8_ranked 32 = .ok (.istore_n 2, 1) := by decide +kernel
theorem dX8_ranked_33 : decode cX8_ranked 33 = .ok (.iinc 3 1, 3) := by decide +kernel
theorem dX8_ranked_36 : decode cX8_ranked 36 = .ok (.goto (-32), 3) := by decide +kernel
theorem dX8_ranked_39 : decode cX8_ranked 39 = .ok (.iload_n 2, 1) := by decide +kernel
theorem dX8_ranked_40 : decode cX8_ranked 40 = .ok (.ireturn, 1) := by decide +kernel
theorem dX8_settles_0 : decode cX8_settles 0 = .ok (.iconst 0, 1) := by decide +kernel
theorem dX8_settles_1 : decode cX8_settles 1 = .ok (.istore_n 2, 1) := by decide +kernel
theorem dX8_settles_2 : decode cX8_settles 2 = .ok (.aload_n 0, 1) := by decide +kernel
theorem dX8_settles_3 : decode cX8_settles 3 = .ok (.aload_n 0, 1) := by decide +kernel
theorem dX8_settles_4 : decode cX8_settles 4 = .ok (.iconst 0, 1) := by decide +kernel
theorem dX8_settles_5 : decode cX8_settles 5 = .ok (.invokevirtual 143, 3) := by decide +kernel
theorem dX8_settles_8 : decode cX8_settles 8 = .ok (.invokevirtual 146, 3) := by decide +kernel
theorem dX8_settles_11 : decode cX8_settles 11 = .ok (.iconst 1, 1) := by decide +kernel
theorem dX8_settles_12 : decode cX8_settles 12 = .ok (.istore_n 3, 1) := by decide +kernel
theorem dX8_settles_13 : decode cX8_settles 13 = .ok (.aload_n 0, 1) := by decide +kernel
theorem dX8_settles_14 : decode cX8_settles 14 = .ok (.getfield 49, 3) := by decide +kernel
theorem dX8_settles_17 : decode cX8_settles 17 = .ok (.aload_n 0, 1) := by decide +kernel
theorem dX8_settles_18 : decode cX8_settles 18 = .ok (.iload_n 2, 1) := by decide +kernel
theorem dX8_settles_19 : decode cX8_settles 19 = .ok (.invokevirtual 143, 3) := by decide +kernel
theorem dX8_settles_22 : decode cX8_settles 22 = .ok (.iaload, 1) := by decide +kernel
theorem dX8_settles_23 : decode cX8_settles 23 = .ok (.iload_n 1, 1) := by decide +kernel
theorem dX8_settles_24 : decode cX8_settles 24 = .ok (.if_icmp .le 20, 3) := by decide +kernel
theorem dX8_settles_27 : decode cX8_settles 27 = .ok (.iload_n 3, 1) := by decide +kernel
theorem dX8_settles_28 : decode cX8_settles 28 = .ok (.istore_n 2, 1) := by decide +kernel
theorem dX8_settles_29 : decode cX8_settles 29 = .ok (.aload_n 0, 1) := by decide +kernel
theorem dX8_settles_30 : decode cX8_settles 30 = .ok (.aload_n 0, 1) := by decide +kernel
theorem dX8_settles_31 : decode cX8_settles 31 = .ok (.iload_n 2, 1) := by decide +kernel
theorem dX8_settles_32 : decode cX8_settles 32 = .ok (.invokevirtual 143, 3) := by decide +kernel
theorem dX8_settles_35 : decode cX8_settles 35 = .ok (.invokevirtual 146, 3) := by decide +kernel
theorem dX8_settles_38 : decode cX8_settles 38 = .ok (.iinc 3 1, 3) := by decide +kernel
theorem dX8_settles_41 : decode cX8_settles 41 = .ok (.goto (-28), 3) := by decide +kernel
theorem dX8_settles_44 : decode cX8_settles 44 = .ok (.aload_n 0, 1) := by decide +kernel
theorem dX8_settles_45 : decode cX8_settles 45 = .ok (.getfield 7, 3) := by decide +kernel
theorem dX8_settles_48 : decode cX8_settles 48 = .ok (.bipush 6, 2) := by decide +kernel
theorem dX8_settles_50 : decode cX8_settles 50 = .ok (.aload_n 0, 1) := by decide +kernel
theorem dX8_settles_51 : decode cX8_settles 51 = .ok (.iload_n 2, 1) := by decide +kernel
theorem dX8_settles_52 : decode cX8_settles 52 = .ok (.invokevirtual 143, 3) := by decide +kernel
theorem dX8_settles_55 : decode cX8_settles 55 = .ok (.iastore, 1) := by decide +kernel
theorem dX8_settles_56 : decode cX8_settles 56 = .ok (.iconst 1, 1) := by decide +kernel
theorem dX8_settles_57 : decode cX8_settles 57 = .ok (.istore_n 3, 1) := by decide +kernel
theorem dX8_settles_58 : decode cX8_settles 58 = .ok (.iload_n 3, 1) := by decide +kernel
theorem dX8_settles_59 : decode cX8_settles 59 = .ok (.aload_n 0, 1) := by decide +kernel
theorem dX8_settles_60 : decode cX8_settles 60 = .ok (.getfield 7, 3) := by decide +kernel
theorem dX8_settles_63 : decode cX8_settles 63 = .ok (.iconst 0, 1) := by decide +kernel
theorem dX8_settles_64 : decode cX8_settles 64 = .ok (.iaload, 1) := by decide +kernel
theorem dX8_settles_65 : decode cX8_settles 65 = .ok (.if_icmp .ge 108, 3) := by decide +kernel
theorem dX8_settles_68 : decode cX8_settles 68 = .ok (.aload_n 0, 1) := by decide +kernel
theorem dX8_settles_69 : decode cX8_settles 69 = .ok (.getfield 7, 3) := by decide +kernel
theorem dX8_settles_72 : decode cX8_settles 72 = .ok (.bipush 6, 2) := by decide +kernel
theorem dX8_settles_74 : decode cX8_settles 74 = .ok (.iload_n 3, 1) := by decide +kernel
theorem dX8_settles_75 : decode cX8_settles 75 = .ok (.iadd, 1) := by decide +kernel
theorem dX8_settles_76 : decode cX8_settles 76 = .ok (.iconst 1, 1) := by decide +kernel
theorem dX8_settles_77 : decode cX8_settles 77 = .ok (.isub, 1) := by decide +kernel
theorem dX8_settles_78 : decode cX8_settles 78 = .ok (.iaload, 1) := by decide +kernel
theorem dX8_settles_79 : decode cX8_settles 79 = .ok (.istore 4, 2) := by decide +kernel
theorem dX8_settles_81 : decode cX8_settles 81 = .ok (.aload_n 0, 1) := by decide +kernel
theorem dX8_settles_82 : decode cX8_settles 82 = .ok (.getfield 49, 3) := by decide +kernel
theorem dX8_settles_85 : decode cX8_settles 85 = .ok (.bipush 8, 2) := by decide +kernel
theorem dX8_settles_87 : decode cX8_settles 87 = .ok (.iload_n 3, 1) := by decide +kernel
theorem dX8_settles_88 : decode cX8_settles 88 = .ok (.iconst 1, 1) := by decide +kernel
theorem dX8_settles_89 : decode cX8_settles 89 = .ok (.isub, 1) := by decide +kernel
theorem dX8_settles_90 : decode cX8_settles 90 = .ok (.imul, 1) := by decide +kernel
theorem dX8_settles_91 : decode cX8_settles 91 = .ok (.iload 4, 2) := by decide +kernel
theorem dX8_settles_93 : decode cX8_settles 93 = .ok (.iadd, 1) := by decide +kernel
theorem dX8_settles_94 : decode cX8_settles 94 = .ok (.iaload, 1) := by decide +kernel
theorem dX8_settles_95 : decode cX8_settles 95 = .ok (.aload_n 0, 1) := by decide +kernel
theorem dX8_settles_96 : decode cX8_settles 96 = .ok (.iconst 0, 1) := by decide +kernel
theorem dX8_settles_97 : decode cX8_settles 97 = .ok (.iload_n 3, 1) := by decide +kernel
theorem dX8_settles_98 : decode cX8_settles 98 = .ok (.iconst 1, 1) := by decide +kernel
theorem dX8_settles_99 : decode cX8_settles 99 = .ok (.isub, 1) := by decide +kernel
theorem dX8_settles_100 : decode cX8_settles 100 = .ok (.iload 4, 2) := by decide +kernel
theorem dX8_settles_102 : decode cX8_settles 102 = .ok (.invokevirtual 95, 3) := by decide +kernel
theorem dX8_settles_105 : decode cX8_settles 105 = .ok (.isub, 1) := by decide +kernel
theorem dX8_settles_106 : decode cX8_settles 106 = .ok (.istore 5, 2) := by decide +kernel
theorem dX8_settles_108 : decode cX8_settles 108 = .ok (.iconst 0, 1) := by decide +kernel
theorem dX8_settles_109 : decode cX8_settles 109 = .ok (.istore 6, 2) := by decide +kernel
theorem dX8_settles_111 : decode cX8_settles 111 = .ok (.aload_n 0, 1) := by decide +kernel
theorem dX8_settles_112 : decode cX8_settles 112 = .ok (.iconst 0, 1) := by decide +kernel
theorem dX8_settles_113 : decode cX8_settles 113 = .ok (.iload 4, 2) := by decide +kernel
theorem dX8_settles_115 : decode cX8_settles 115 = .ok (.aload_n 0, 1) := by decide +kernel
theorem dX8_settles_116 : decode cX8_settles 116 = .ok (.iload 6, 2) := by decide +kernel
theorem dX8_settles_118 : decode cX8_settles 118 = .ok (.invokevirtual 143, 3) := by decide +kernel
theorem dX8_settles_121 : decode cX8_settles 121 = .ok (.invokevirtual 99, 3) := by decide +kernel
theorem dX8_settles_124 : decode cX8_settles 124 = .ok (.aload_n 0, 1) := by decide +kernel
theorem dX8_settles_125 : decode cX8_settles 125 = .ok (.getfield 49, 3) := by decide +kernel
theorem dX8_settles_128 : decode cX8_settles 128 = .ok (.bipush 8, 2) := by decide +kernel
theorem dX8_settles_130 : decode cX8_settles 130 = .ok (.iload_n 3, 1) := by decide +kernel
theorem dX8_settles_131 : decode cX8_settles 131 = .ok (.imul, 1) := by decide +kernel
theorem dX8_settles_132 : decode cX8_settles 132 = .ok (.aload_n 0, 1) := by decide +kernel
theorem dX8_settles_133 : decode cX8_settles 133 = .ok (.iload 6, 2) := by decide +kernel
theorem dX8_settles_135 : decode cX8_settles 135 = .ok (.invokevirtual 143, 3) := by decide +kernel
theorem dX8_settles_138 : decode cX8_settles 138 = .ok (.iadd, 1) := by decide +kernel
theorem dX8_settles_139 : decode cX8_settles 139 = .ok (.iaload, 1) := by decide +kernel
theorem dX8_settles_140 : decode cX8_settles 140 = .ok (.iadd, 1) := by decide +kernel
theorem dX8_settles_141 : decode cX8_settles 141 = .ok (.iload 5, 2) := by decide +kernel
theorem dX8_settles_143 : decode cX8_settles 143 = .ok (.if_icmp .le 9, 3) := by decide +kernel
theorem dX8_settles_146 : decode cX8_settles 146 = .ok (.iinc 6 1, 3) := by decide +kernel
theorem dX8_settles_149 : decode cX8_settles 149 = .ok (.goto (-38), 3) := by decide +kernel
theorem dX8_settles_152 : decode cX8_settles 152 = .ok (.aload_n 0, 1) := by decide +kernel
theorem dX8_settles_153 : decode cX8_settles 153 = .ok (.getfield 7, 3) := by decide +kernel
theorem dX8_settles_156 : decode cX8_settles 156 = .ok (.bipush 6, 2) := by decide +kernel
theorem dX8_settles_158 : decode cX8_settles 158 = .ok (.iload_n 3, 1) := by decide +kernel
theorem dX8_settles_159 : decode cX8_settles 159 = .ok (.iadd, 1) := by decide +kernel
theorem dX8_settles_160 : decode cX8_settles 160 = .ok (.aload_n 0, 1) := by decide +kernel
theorem dX8_settles_161 : decode cX8_settles 161 = .ok (.iload 6, 2) := by decide +kernel
theorem dX8_settles_163 : decode cX8_settles 163 = .ok (.invokevirtual 143, 3) := by decide +kernel
theorem dX8_settles_166 : decode cX8_settles 166 = .ok (.iastore, 1) := by decide +kernel
theorem dX8_settles_167 : decode cX8_settles 167 = .ok (.iinc 3 1, 3) := by decide +kernel
theorem dX8_settles_170 : decode cX8_settles 170 = .ok (.goto (-112), 3) := by decide +kernel
theorem dX8_settles_173 : decode cX8_settles 173 = .ok (.return_, 1) := by decide +kernel
theorem dX8_joins_0 : decode cX8_joins 0 = .ok (.aload_n 0, 1) := by decide +kernel
theorem dX8_joins_1 : decode cX8_joins 1 = .ok (.iload_n 1, 1) := by decide +kernel
theorem dX8_joins_2 : decode cX8_joins 2 = .ok (.invokevirtual 109, 3) := by decide +kernel
theorem dX8_joins_5 : decode cX8_joins 5 = .ok (.ifCond .eq 33, 3) := by decide +kernel
theorem dX8_joins_8 : decode cX8_joins 8 = .ok (.iload_n 2, 1) := by decide +kernel
theorem dX8_joins_9 : decode cX8_joins 9 = .ok (.sipush (-1005), 3) := by decide +kernel
theorem dX8_joins_12 : decode cX8_joins 12 = .ok (.if_icmp .eq 26, 3) := by decide +kernel
theorem dX8_joins_15 : decode cX8_joins 15 = .ok (.aload_n 0, 1) := by decide +kernel
theorem dX8_joins_16 : decode cX8_joins 16 = .ok (.iload_n 1, 1) := by decide +kernel
theorem dX8_joins_17 : decode cX8_joins 17 = .ok (.iload_n 2, 1) := by decide +kernel
theorem dX8_joins_18 : decode cX8_joins 18 = .ok (.invokevirtual 106, 3) := by decide +kernel
theorem dX8_joins_21 : decode cX8_joins 21 = .ok (.iload_n 3, 1) := by decide +kernel
theorem dX8_joins_22 : decode cX8_joins 22 = .ok (.if_icmp .ne 16, 3) := by decide +kernel
theorem dX8_joins_25 : decode cX8_joins 25 = .ok (.aload_n 0, 1) := by decide +kernel
theorem dX8_joins_26 : decode cX8_joins 26 = .ok (.getfield 52, 3) := by decide +kernel
theorem dX8_joins_29 : decode cX8_joins 29 = .ok (.iconst 3, 1) := by decide +kernel
theorem dX8_joins_30 : decode cX8_joins 30 = .ok (.iload_n 2, 1) := by decide +kernel
theorem dX8_joins_31 : decode cX8_joins 31 = .ok (.imul, 1) := by decide +kernel
theorem dX8_joins_32 : decode cX8_joins 32 = .ok (.iload_n 1, 1) := by decide +kernel
theorem dX8_joins_33 : decode cX8_joins 33 = .ok (.iadd, 1) := by decide +kernel
theorem dX8_joins_34 : decode cX8_joins 34 = .ok (.iaload, 1) := by decide +kernel
theorem dX8_joins_35 : decode cX8_joins 35 = .ok (.ifCond .le 4, 3) := by decide +kernel
theorem dX8_joins_38 : decode cX8_joins 38 = .ok (.return_, 1) := by decide +kernel
theorem dX8_joins_39 : decode cX8_joins 39 = .ok (.aload_n 0, 1) := by decide +kernel
theorem dX8_joins_40 : decode cX8_joins 40 = .ok (.getfield 52, 3) := by decide +kernel
theorem dX8_joins_43 : decode cX8_joins 43 = .ok (.iconst 3, 1) := by decide +kernel
theorem dX8_joins_44 : decode cX8_joins 44 = .ok (.iload_n 2, 1) := by decide +kernel
theorem dX8_joins_45 : decode cX8_joins 45 = .ok (.imul, 1) := by decide +kernel
theorem dX8_joins_46 : decode cX8_joins 46 = .ok (.iload_n 1, 1) := by decide +kernel
theorem dX8_joins_47 : decode cX8_joins 47 = .ok (.iadd, 1) := by decide +kernel
theorem dX8_joins_48 : decode cX8_joins 48 = .ok (.iconst 1, 1) := by decide +kernel
theorem dX8_joins_49 : decode cX8_joins 49 = .ok (.iastore, 1) := by decide +kernel
theorem dX8_joins_50 : decode cX8_joins 50 = .ok (.aload_n 0, 1) := by decide +kernel
theorem dX8_joins_51 : decode cX8_joins 51 = .ok (.getfield 55, 3) := by decide +kernel
theorem dX8_joins_54 : decode cX8_joins 54 = .ok (.aload_n 0, 1) := by decide +kernel
theorem dX8_joins_55 : decode cX8_joins 55 = .ok (.getfield 149, 3) := by decide +kernel
theorem dX8_joins_58 : decode cX8_joins 58 = .ok (.iconst 3, 1) := by decide +kernel
theorem dX8_joins_59 : decode cX8_joins 59 = .ok (.iload_n 2, 1) := by decide +kernel
theorem dX8_joins_60 : decode cX8_joins 60 = .ok (.imul, 1) := by decide +kernel
theorem dX8_joins_61 : decode cX8_joins 61 = .ok (.iload_n 1, 1) := by decide +kernel
theorem dX8_joins_62 : decode cX8_joins 62 = .ok (.iadd, 1) := by decide +kernel
theorem dX8_joins_63 : decode cX8_joins 63 = .ok (.iastore, 1) := by decide +kernel
theorem dX8_joins_64 : decode cX8_joins 64 = .ok (.aload_n 0, 1) := by decide +kernel
theorem dX8_joins_65 : decode cX8_joins 65 = .ok (.dup, 1) := by decide +kernel
theorem dX8_joins_66 : decode cX8_joins 66 = .ok (.getfield 149, 3) := by decide +kernel
theorem dX8_joins_69 : decode cX8_joins 69 = .ok (.iconst 1, 1) := by decide +kernel
theorem dX8_joins_70 : decode cX8_joins 70 = .ok (.iadd, 1) := by decide +kernel
theorem dX8_joins_71 : decode cX8_joins 71 = .ok (.putfield 149, 3) := by decide +kernel
theorem dX8_joins_74 : decode cX8_joins 74 = .ok (.return_, 1) := by decide +kernel
theorem dX8_finds_0 : decode cX8_finds 0 = .ok (.aload_n 0, 1) := by decide +kernel
theorem dX8_finds_1 : decode cX8_finds 1 = .ok (.iconst 0, 1) := by decide +kernel
theorem dX8_finds_2 : decode cX8_finds 2 = .ok (.putfield 149, 3) := by decide +kernel
theorem dX8_finds_5 : decode cX8_finds 5 = .ok (.aload_n 0, 1) := by decide +kernel
theorem dX8_finds_6 : decode cX8_finds 6 = .ok (.iload_n 1, 1) := by decide +kernel
theorem dX8_finds_7 : decode cX8_finds 7 = .ok (.iload_n 2, 1) := by decide +kernel
theorem dX8_finds_8 : decode cX8_finds 8 = .ok (.invokevirtual 106, 3) := by decide +kernel
theorem dX8_finds_11 : decode cX8_finds 11 = .ok (.istore_n 3, 1) := by decide +kernel
theorem dX8_finds_12 : decode cX8_finds 12 = .ok (.aload_n 0, 1) := by decide +kernel
theorem dX8_finds_13 : decode cX8_finds 13 = .ok (.iload_n 1, 1) := by decide +kernel
theorem dX8_finds_14 : decode cX8_finds 14 = .ok (.iload_n 2, 1) := by decide +kernel
theorem dX8_finds_15 : decode cX8_finds 15 = .ok (.iload_n 3, 1) := by decide +kernel
theorem dX8_finds_16 : decode cX8_finds 16 = .ok (.invokevirtual 152, 3) := by decide +kernel
theorem dX8_finds_19 : decode cX8_finds 19 = .ok (.iconst 0, 1) := by decide +kernel
theorem dX8_finds_20 : decode cX8_finds 20 = .ok (.istore 4, 2) := by decide +kernel
theorem dX8_finds_22 : decode cX8_finds 22 = .ok (.iload 4, 2) := by decide +kernel
theorem dX8_finds_24 : decode cX8_finds 24 = .ok (.aload_n 0, 1) := by decide +kernel
theorem dX8_finds_25 : decode cX8_finds 25 = .ok (.getfield 149, 3) := by decide +kernel
theorem dX8_finds_28 : decode cX8_finds 28 = .ok (.if_icmp .ge 81, 3) := by decide +kernel
theorem dX8_finds_31 : decode cX8_finds 31 = .ok (.aload_n 0, 1) := by decide +kernel
theorem dX8_finds_32 : decode cX8_finds 32 = .ok (.getfield 55, 3) := by decide +kernel
theorem dX8_finds_35 : decode cX8_finds 35 = .ok (.iload 4, 2) := by decide +kernel
theorem dX8_finds_37 : decode cX8_finds 37 = .ok (.iaload, 1) := by decide +kernel
theorem dX8_finds_38 : decode cX8_finds 38 = .ok (.iconst 3, 1) := by decide +kernel
theorem dX8_finds_39 : decode cX8_finds 39 = .ok (.irem, 1) := by decide +kernel
theorem dX8_finds_40 : decode cX8_finds 40 = .ok (.istore 5, 2) := by decide +kernel
theorem dX8_finds_42 : decode cX8_finds 42 = .ok (.aload_n 0, 1) := by decide +kernel
theorem dX8_finds_43 : decode cX8_finds 43 = .ok (.getfield 55, 3) := by decide +kernel
theorem dX8_finds_46 : decode cX8_finds 46 = .ok (.iload 4, 2) := by decide +kernel
theorem dX8_finds_48 : decode cX8_finds 48 = .ok (.iaload, 1) := by decide +kernel
theorem dX8_finds_49 : decode cX8_finds 49 = .ok (.iconst 3, 1) := by decide +kernel
theorem dX8_finds_50 : decode cX8_finds 50 = .ok (.idiv, 1) := by decide +kernel
theorem dX8_finds_51 : decode cX8_finds 51 = .ok (.istore 6, 2) := by decide +kernel
theorem dX8_finds_53 : decode cX8_finds 53 = .ok (.aload_n 0, 1) := by decide +kernel
theorem dX8_finds_54 : decode cX8_finds 54 = .ok (.iload 5, 2) := by decide +kernel
theorem dX8_finds_56 : decode cX8_finds 56 = .ok (.iconst 1, 1) := by decide +kernel
theorem dX8_finds_57 : decode cX8_finds 57 = .ok (.isub, 1) := by decide +kernel
theorem dX8_finds_58 : decode cX8_finds 58 = .ok (.iload 6, 2) := by decide +kernel
theorem dX8_finds_60 : decode cX8_finds 60 = .ok (.iload_n 3, 1) := by decide +kernel
theorem dX8_finds_61 : decode cX8_finds 61 = .ok (.invokevirtual 152, 3) := by decide +kernel
theorem dX8_finds_64 : decode cX8_finds 64 = .ok (.aload_n 0, 1) := by decide +kernel
theorem dX8_finds_65 : decode cX8_finds 65 = .ok (.iload 5, 2) := by decide +kernel
theorem dX8_finds_67 : decode cX8_finds 67 = .ok (.iconst 1, 1) := by decide +kernel
theorem dX8_finds_68 : decode cX8_finds 68 = .ok (.iadd, 1) := by decide +kernel
theorem dX8_finds_69 : decode cX8_finds 69 = .ok (.iload 6, 2) := by decide +kernel
theorem dX8_finds_71 : decode cX8_finds 71 = .ok (.iload_n 3, 1) := by decide +kernel
theorem dX8_finds_72 : decode cX8_finds 72 = .ok (.invokevirtual 152, 3) := by decide +kernel
theorem dX8_finds_75 : decode cX8_finds 75 = .ok (.aload_n 0, 1) := by decide +kernel
theorem dX8_finds_76 : decode cX8_finds 76 = .ok (.iload 5, 2) := by decide +kernel
theorem dX8_finds_78 : decode cX8_finds 78 = .ok (.aload_n 0, 1) := by decide +kernel
theorem dX8_finds_79 : decode cX8_finds 79 = .ok (.iload 6, 2) := by decide +kernel
theorem dX8_finds_81 : decode cX8_finds 81 = .ok (.iconst (-1), 1) := by decide +kernel
theorem dX8_finds_82 : decode cX8_finds 82 = .ok (.invokevirtual 92, 3) := by decide +kernel
theorem dX8_finds_85 : decode cX8_finds 85 = .ok (.iload_n 3, 1) := by decide +kernel
theorem dX8_finds_86 : decode cX8_finds 86 = .ok (.invokevirtual 152, 3) := by decide +kernel
theorem dX8_finds_89 : decode cX8_finds 89 = .ok (.aload_n 0, 1) := by decide +kernel
theorem dX8_finds_90 : decode cX8_finds 90 = .ok (.iload 5, 2) := by decide +kernel
theorem dX8_finds_92 : decode cX8_finds 92 = .ok (.aload_n 0, 1) := by decide +kernel
theorem dX8_finds_93 : decode cX8_finds 93 = .ok (.iload 6, 2) := by decide +kernel
theorem dX8_finds_95 : decode cX8_finds 95 = .ok (.iconst 1, 1) := by decide +kernel
theorem dX8_finds_96 : decode cX8_finds 96 = .ok (.invokevirtual 92, 3) := by decide +kernel
theorem dX8_finds_99 : decode cX8_finds 99 = .ok (.iload_n 3, 1) := by decide +kernel
theorem dX8_finds_100 : decode cX8_finds 100 = .ok (.invokevirtual 152, 3) := by decide +kernel
theorem dX8_finds_103 : decode cX8_finds 103 = .ok (.iinc 4 1, 3) := by decide +kernel
theorem dX8_finds_106 : decode cX8_finds 106 = .ok (.goto (-84), 3) := by decide +kernel
theorem dX8_finds_109 : decode cX8_finds 109 = .ok (.return_, 1) := by decide +kernel
theorem dX8_forgets_0 : decode cX8_forgets 0 = .ok (.iconst 0, 1) := by decide +kernel
theorem dX8_forgets_1 : decode cX8_forgets 1 = .ok (.istore_n 1, 1) := by decide +kernel
theorem dX8_forgets_2 : decode cX8_forgets 2 = .ok (.iload_n 1, 1) := by decide +kernel
theorem dX8_forgets_3 : decode cX8_forgets 3 = .ok (.bipush 30, 2) := by decide +kernel
theorem dX8_forgets_5 : decode cX8_forgets 5 = .ok (.if_icmp .ge 16, 3) := by decide +kernel
theorem dX8_forgets_8 : decode cX8_forgets 8 = .ok (.aload_n 0, 1) := by decide +kernel
theorem dX8_forgets_9 : decode cX8_forgets 9 = .ok (.getfield 52, 3) := by decide +kernel
theorem dX8_forgets_12 : decode cX8_forgets 12 = .ok (.iload_n 1, 1) := by decide +kernel
theorem dX8_forgets_13 : decode cX8_forgets 13 = .ok (.iconst 0, 1) := by decide +kernel
theorem dX8_forgets_14 : decode cX8_forgets 14 = .ok (.iastore, 1) := by decide +kernel
theorem dX8_forgets_15 : decode cX8_forgets 15 = .ok (.iinc 1 1, 3) := by decide +kernel
theorem dX8_forgets_18 : decode cX8_forgets 18 = .ok (.goto (-16), 3) := by decide +kernel
theorem dX8_forgets_21 : decode cX8_forgets 21 = .ok (.return_, 1) := by decide +kernel
theorem dX8_patches_0 : decode cX8_patches 0 = .ok (.aload_n 0, 1) := by decide +kernel
theorem dX8_patches_1 : decode cX8_patches 1 = .ok (.invokevirtual 156, 3) := by decide +kernel
theorem dX8_patches_4 : decode cX8_patches 4 = .ok (.iconst 0, 1) := by decide +kernel
theorem dX8_patches_5 : decode cX8_patches 5 = .ok (.istore_n 1, 1) := by decide +kernel
theorem dX8_patches_6 : decode cX8_patches 6 = .ok (.iconst 0, 1) := by decide +kernel
theorem dX8_patches_7 : decode cX8_patches 7 = .ok (.istore_n 2, 1) := by decide +kernel
theorem dX8_patches_8 : decode cX8_patches 8 = .ok (.iload_n 2, 1) := by decide +kernel
theorem dX8_patches_9 : decode cX8_patches 9 = .ok (.aload_n 0, 1) := by decide +kernel
theorem dX8_patches_10 : decode cX8_patches 10 = .ok (.invokevirtual 159, 3) := by decide +kernel
theorem dX8_patches_13 : decode cX8_patches 13 = .ok (.if_icmp .ge 52, 3) := by decide +kernel
theorem dX8_patches_16 : decode cX8_patches 16 = .ok (.iload_n 2, 1) := by decide +kernel
theorem dX8_patches_17 : decode cX8_patches 17 = .ok (.aload_n 0, 1) := by decide +kernel
theorem dX8_patches_18 : decode cX8_patches 18 = .ok (.getfield 7, 3) := by decide +kernel
theorem dX8_patches_21 : decode cX8_patches 21 = .ok (.iconst 1, 1) := by decide +kernel
theorem dX8_patches_22 : decode cX8_patches 22 = .ok (.iaload, 1) := by decide +kernel
theorem dX8_patches_23 : decode cX8_patches 23 = .ok (.irem, 1) := by decide +kernel
theorem dX8_patches_24 : decode cX8_patches 24 = .ok (.istore_n 3, 1) := by decide +kernel
theorem dX8_patches_25 : decode cX8_patches 25 = .ok (.iload_n 2, 1) := by decide +kernel
theorem dX8_patches_26 : decode cX8_patches 26 = .ok (.aload_n 0, 1) := by decide +kernel
theorem dX8_patches_27 : decode cX8_patches 27 = .ok (.getfield 7, 3) := by decide +kernel
theorem dX8_patches_30 : decode cX8_patches 30 = .ok (.iconst 1, 1) := by decide +kernel
theorem dX8_patches_31 : decode cX8_patches 31 = .ok (.iaload, 1) := by decide +kernel
theorem dX8_patches_32 : decode cX8_patches 32 = .ok (.idiv, 1) := by decide +kernel
theorem dX8_patches_33 : decode cX8_patches 33 = .ok (.istore 4, 2) := by decide +kernel
theorem dX8_patches_35 : decode cX8_patches 35 = .ok (.aload_n 0, 1) := by decide +kernel
theorem dX8_patches_36 : decode cX8_patches 36 = .ok (.getfield 52, 3) := by decide +kernel
theorem dX8_patches_39 : decode cX8_patches 39 = .ok (.iconst 3, 1) := by decide +kernel
theorem dX8_patches_40 : decode cX8_patches 40 = .ok (.iload 4, 2) := by decide +kernel
theorem dX8_patches_42 : decode cX8_patches 42 = .ok (.imul, 1) := by decide +kernel
theorem dX8_patches_43 : decode cX8_patches 43 = .ok (.iload_n 3, 1) := by decide +kernel
theorem dX8_patches_44 : decode cX8_patches 44 = .ok (.iadd, 1) := by decide +kernel
theorem dX8_patches_45 : decode cX8_patches 45 = .ok (.iaload, 1) := by decide +kernel
theorem dX8_patches_46 : decode cX8_patches 46 = .ok (.ifCond .ne 13, 3) := by decide +kernel
theorem dX8_patches_49 : decode cX8_patches 49 = .ok (.aload_n 0, 1) := by decide +kernel
theorem dX8_patches_50 : decode cX8_patches 50 = .ok (.iload_n 3, 1) := by decide +kernel
theorem dX8_patches_51 : decode cX8_patches 51 = .ok (.iload 4, 2) := by decide +kernel
theorem dX8_patches_53 : decode cX8_patches 53 = .ok (.invokevirtual 162, 3) := by decide +kernel
theorem dX8_patches_56 : decode cX8_patches 56 = .ok (.iinc 1 1, 3) := by decide +kernel
theorem dX8_patches_59 : decode cX8_patches 59 = .ok (.iinc 2 1, 3) := by decide +kernel
theorem dX8_patches_62 : decode cX8_patches 62 = .ok (.goto (-54), 3) := by decide +kernel
theorem dX8_patches_65 : decode cX8_patches 65 = .ok (.iload_n 1, 1) := by decide +kernel
theorem dX8_patches_66 : decode cX8_patches 66 = .ok (.ireturn, 1) := by decide +kernel
theorem dX8_lay_0 : decode cX8_lay 0 = .ok (.iload_n 1, 1) := by decide +kernel
theorem dX8_lay_1 : decode cX8_lay 1 = .ok (.i2l, 1) := by decide +kernel
theorem dX8_lay_2 : decode cX8_lay 2 = .ok (.lconst 1, 1) := by decide +kernel
theorem dX8_lay_3 : decode cX8_lay 3 = .ok (.ldc2_w 165, 3) := by decide +kernel
theorem dX8_lay_6 : decode cX8_lay 6 = .ok (.invokestatic 73, 3) := by decide +kernel
theorem dX8_lay_9 : decode cX8_lay 9 = .ok (.ifCond .eq 15, 3) := by decide +kernel
theorem dX8_lay_12 : decode cX8_lay 12 = .ok (.iload_n 2, 1) := by decide +kernel
theorem dX8_lay_13 : decode cX8_lay 13 = .ok (.i2l, 1) := by decide +kernel
theorem dX8_lay_14 : decode cX8_lay 14 = .ok (.lconst 1, 1) := by decide +kernel
theorem dX8_lay_15 : decode cX8_lay 15 = .ok (.ldc2_w 167, 3) := by decide +kernel
theorem dX8_lay_18 : decode cX8_lay 18 = .ok (.invokestatic 73, 3) := by decide +kernel
theorem dX8_lay_21 : decode cX8_lay 21 = .ok (.ifCond .ne 7, 3) := by decide +kernel
theorem dX8_lay_24 : decode cX8_lay 24 = .ok (.sipush (-1002), 3) := by decide +kernel
theorem dX8_lay_27 : decode cX8_lay 27 = .ok (.ireturn, 1) := by decide +kernel
theorem dX8_lay_28 : decode cX8_lay 28 = .ok (.aload_n 0, 1) := by decide +kernel
theorem dX8_lay_29 : decode cX8_lay 29 = .ok (.invokevirtual 169, 3) := by decide +kernel
theorem dX8_lay_32 : decode cX8_lay 32 = .ok (.aload_n 0, 1) := by decide +kernel
theorem dX8_lay_33 : decode cX8_lay 33 = .ok (.getfield 7, 3) := by decide +kernel
theorem dX8_lay_36 : decode cX8_lay 36 = .ok (.iconst 2, 1) := by decide +kernel
theorem dX8_lay_37 : decode cX8_lay 37 = .ok (.iload_n 3, 1) := by decide +kernel
theorem dX8_lay_38 : decode cX8_lay 38 = .ok (.ifCond .eq 7, 3) := by decide +kernel
theorem dX8_lay_41 : decode cX8_lay 41 = .ok (.iconst 1, 1) := by decide +kernel
theorem dX8_lay_42 : decode cX8_lay 42 = .ok (.goto 4, 3) := by decide +kernel
theorem dX8_lay_45 : decode cX8_lay 45 = .ok (.iconst 0, 1) := by decide +kernel
theorem dX8_lay_46 : decode cX8_lay 46 = .ok (.iastore, 1) := by decide +kernel
theorem dX8_lay_47 : decode cX8_lay 47 = .ok (.aload_n 0, 1) := by decide +kernel
theorem dX8_lay_48 : decode cX8_lay 48 = .ok (.iload_n 1, 1) := by decide +kernel
theorem dX8_lay_49 : decode cX8_lay 49 = .ok (.iload_n 2, 1) := by decide +kernel
theorem dX8_lay_50 : decode cX8_lay 50 = .ok (.invokevirtual 61, 3) := by decide +kernel
theorem dX8_lay_53 : decode cX8_lay 53 = .ok (.aload_n 0, 1) := by decide +kernel
theorem dX8_lay_54 : decode cX8_lay 54 = .ok (.aload_n 0, 1) := by decide +kernel
theorem dX8_lay_55 : decode cX8_lay 55 = .ok (.invokevirtual 159, 3) := by decide +kernel
theorem dX8_lay_58 : decode cX8_lay 58 = .ok (.invokevirtual 172, 3) := by decide +kernel
theorem dX8_lay_61 : decode cX8_lay 61 = .ok (.ireturn, 1) := by decide +kernel
theorem dX8_close_0 : decode cX8_close 0 = .ok (.iload_n 1, 1) := by decide +kernel
theorem dX8_close_1 : decode cX8_close 1 = .ok (.ifCond .eq 7, 3) := by decide +kernel
theorem dX8_close_4 : decode cX8_close 4 = .ok (.iconst 1, 1) := by decide +kernel
theorem dX8_close_5 : decode cX8_close 5 = .ok (.goto 4, 3) := by decide +kernel
theorem dX8_close_8 : decode cX8_close 8 = .ok (.iconst 0, 1) := by decide +kernel
theorem dX8_close_9 : decode cX8_close 9 = .ok (.istore_n 2, 1) := by decide +kernel
theorem dX8_close_10 : decode cX8_close 10 = .ok (.aload_n 0, 1) := by decide +kernel
theorem dX8_close_11 : decode cX8_close 11 = .ok (.getfield 7, 3) := by decide +kernel
theorem dX8_close_14 : decode cX8_close 14 = .ok (.iconst 2, 1) := by decide +kernel
theorem dX8_close_15 : decode cX8_close 15 = .ok (.iaload, 1) := by decide +kernel
theorem dX8_close_16 : decode cX8_close 16 = .ok (.iload_n 2, 1) := by decide +kernel
theorem dX8_close_17 : decode cX8_close 17 = .ok (.if_icmp .ne 7, 3) := by decide +kernel
theorem dX8_close_20 : decode cX8_close 20 = .ok (.sipush (-1005), 3) := by decide +kernel
theorem dX8_close_23 : decode cX8_close 23 = .ok (.ireturn, 1) := by decide +kernel
theorem dX8_close_24 : decode cX8_close 24 = .ok (.aload_n 0, 1) := by decide +kernel
theorem dX8_close_25 : decode cX8_close 25 = .ok (.invokevirtual 169, 3) := by decide +kernel
theorem dX8_close_28 : decode cX8_close 28 = .ok (.aload_n 0, 1) := by decide +kernel
theorem dX8_close_29 : decode cX8_close 29 = .ok (.getfield 7, 3) := by decide +kernel
theorem dX8_close_32 : decode cX8_close 32 = .ok (.iconst 2, 1) := by decide +kernel
theorem dX8_close_33 : decode cX8_close 33 = .ok (.iload_n 2, 1) := by decide +kernel
theorem dX8_close_34 : decode cX8_close 34 = .ok (.iastore, 1) := by decide +kernel
theorem dX8_close_35 : decode cX8_close 35 = .ok (.aload_n 0, 1) := by decide +kernel
theorem dX8_close_36 : decode cX8_close 36 = .ok (.aload_n 0, 1) := by decide +kernel
theorem dX8_close_37 : decode cX8_close 37 = .ok (.invokevirtual 175, 3) := by decide +kernel
theorem dX8_close_40 : decode cX8_close 40 = .ok (.invokevirtual 172, 3) := by decide +kernel
theorem dX8_close_43 : decode cX8_close 43 = .ok (.ireturn, 1) := by decide +kernel
theorem dX8_puts_0 : decode cX8_puts 0 = .ok (.aload_n 0, 1) := by decide +kernel
theorem dX8_puts_1 : decode cX8_puts 1 = .ok (.getfield 7, 3) := by decide +kernel
theorem dX8_puts_4 : decode cX8_puts 4 = .ok (.iload_n 1, 1) := by decide +kernel
theorem dX8_puts_5 : decode cX8_puts 5 = .ok (.iaload, 1) := by decide +kernel
theorem dX8_puts_6 : decode cX8_puts 6 = .ok (.istore_n 3, 1) := by decide +kernel
theorem dX8_puts_7 : decode cX8_puts 7 = .ok (.iload_n 3, 1) := by decide +kernel
theorem dX8_puts_8 : decode cX8_puts 8 = .ok (.iload_n 2, 1) := by decide +kernel
theorem dX8_puts_9 : decode cX8_puts 9 = .ok (.if_icmp .ne 7, 3) := by decide +kernel
theorem dX8_puts_12 : decode cX8_puts 12 = .ok (.sipush (-1005), 3) := by decide +kernel
theorem dX8_puts_15 : decode cX8_puts 15 = .ok (.ireturn, 1) := by decide +kernel
theorem dX8_puts_16 : decode cX8_puts 16 = .ok (.aload_n 0, 1) := by decide +kernel
theorem dX8_puts_17 : decode cX8_puts 17 = .ok (.invokevirtual 169, 3) := by decide +kernel
theorem dX8_puts_20 : decode cX8_puts 20 = .ok (.aload_n 0, 1) := by decide +kernel
theorem dX8_puts_21 : decode cX8_puts 21 = .ok (.getfield 7, 3) := by decide +kernel
theorem dX8_puts_24 : decode cX8_puts 24 = .ok (.iload_n 1, 1) := by decide +kernel
theorem dX8_puts_25 : decode cX8_puts 25 = .ok (.iload_n 2, 1) := by decide +kernel
theorem dX8_puts_26 : decode cX8_puts 26 = .ok (.iastore, 1) := by decide +kernel
theorem dX8_puts_27 : decode cX8_puts 27 = .ok (.aload_n 0, 1) := by decide +kernel
theorem dX8_puts_28 : decode cX8_puts 28 = .ok (.iload_n 3, 1) := by decide +kernel
theorem dX8_puts_29 : decode cX8_puts 29 = .ok (.invokevirtual 172, 3) := by decide +kernel
theorem dX8_puts_32 : decode cX8_puts 32 = .ok (.ireturn, 1) := by decide +kernel
theorem dX8_setPull_0 : decode cX8_setPull 0 = .ok (.iload_n 2, 1) := by decide +kernel
theorem dX8_setPull_1 : decode cX8_setPull 1 = .ok (.i2l, 1) := by decide +kernel
theorem dX8_setPull_2 : decode cX8_setPull 2 = .ok (.ldc2_w 178, 3) := by decide +kernel
theorem dX8_setPull_5 : decode cX8_setPull 5 = .ok (.ldc2_w 180, 3) := by decide +kernel
theorem dX8_setPull_8 : decode cX8_setPull 8 = .ok (.invokestatic 73, 3) := by decide +kernel
theorem dX8_setPull_11 : decode cX8_setPull 11 = .ok (.ifCond .eq 20, 3) := by decide +kernel
theorem dX8_setPull_14 : decode cX8_setPull 14 = .ok (.aload_n 0, 1) := by decide +kernel
theorem dX8_setPull_15 : decode cX8_setPull 15 = .ok (.iload_n 1, 1) := by decide +kernel
theorem dX8_setPull_16 : decode cX8_setPull 16 = .ok (.ifCond .eq 7, 3) := by decide +kernel
theorem dX8_setPull_19 : decode cX8_setPull 19 = .ok (.iconst 4, 1) := by decide +kernel
theorem dX8_setPull_20 : decode cX8_setPull 20 = .ok (.goto 4, 3) := by decide +kernel
theorem dX8_setPull_23 : decode cX8_setPull 23 = .ok (.iconst 3, 1) := by decide +kernel
theorem dX8_setPull_24 : decode cX8_setPull 24 = .ok (.iload_n 2, 1) := by decide +kernel
theorem dX8_setPull_25 : decode cX8_setPull 25 = .ok (.invokevirtual 182, 3) := by decide +kernel
theorem dX8_setPull_28 : decode cX8_setPull 28 = .ok (.goto 6, 3) := by decide +kernel
theorem dX8_setPull_31 : decode cX8_setPull 31 = .ok (.sipush (-1002), 3) := by decide +kernel
theorem dX8_setPull_34 : decode cX8_setPull 34 = .ok (.ireturn, 1) := by decide +kernel
theorem dX8_setField_0 : decode cX8_setField 0 = .ok (.aload_n 0, 1) := by decide +kernel
theorem dX8_setField_1 : decode cX8_setField 1 = .ok (.iload_n 1, 1) := by decide +kernel
theorem dX8_setField_2 : decode cX8_setField 2 = .ok (.invokevirtual 109, 3) := by decide +kernel
theorem dX8_setField_5 : decode cX8_setField 5 = .ok (.ifCond .eq 11, 3) := by decide +kernel
theorem dX8_setField_8 : decode cX8_setField 8 = .ok (.aload_n 0, 1) := by decide +kernel
theorem dX8_setField_9 : decode cX8_setField 9 = .ok (.iload_n 2, 1) := by decide +kernel
theorem dX8_setField_10 : decode cX8_setField 10 = .ok (.invokevirtual 81, 3) := by decide +kernel
theorem dX8_setField_13 : decode cX8_setField 13 = .ok (.ifCond .ne 7, 3) := by decide +kernel
theorem dX8_setField_16 : decode cX8_setField 16 = .ok (.sipush (-1001), 3) := by decide +kernel
theorem dX8_setField_19 : decode cX8_setField 19 = .ok (.ireturn, 1) := by decide +kernel
theorem dX8_setField_20 : decode cX8_setField 20 = .ok (.iload_n 3, 1) := by decide +kernel
theorem dX8_setField_21 : decode cX8_setField 21 = .ok (.i2l, 1) := by decide +kernel
theorem dX8_setField_22 : decode cX8_setField 22 = .ok (.ldc2_w 185, 3) := by decide +kernel
theorem dX8_setField_25 : decode cX8_setField 25 = .ok (.ldc2_w 167, 3) := by decide +kernel
theorem dX8_setField_28 : decode cX8_setField 28 = .ok (.invokestatic 73, 3) := by decide +kernel
theorem dX8_setField_31 : decode cX8_setField 31 = .ok (.ifCond .eq 19, 3) := by decide +kernel
theorem dX8_setField_34 : decode cX8_setField 34 = .ok (.aload_n 0, 1) := by decide +kernel
theorem dX8_setField_35 : decode cX8_setField 35 = .ok (.bipush 16, 2) := by decide +kernel
theorem dX8_setField_37 : decode cX8_setField 37 = .ok (.iconst 3, 1) := by decide +kernel
theorem dX8_setField_38 : decode cX8_setField 38 = .ok (.iload_n 2, 1) := by decide +kernel
theorem dX8_setField_39 : decode cX8_setField 39 = .ok (.imul, 1) := by decide +kernel
theorem dX8_setField_40 : decode cX8_setField 40 = .ok (.iadd, 1) := by decide +kernel
theorem dX8_setField_41 : decode cX8_setField 41 = .ok (.iload_n 1, 1) := by decide +kernel
theorem dX8_setField_42 : decode cX8_setField 42 = .ok (.iadd, 1) := by decide +kernel
theorem dX8_setField_43 : decode cX8_setField 43 = .ok (.iload_n 3, 1) := by decide +kernel
theorem dX8_setField_44 : decode cX8_setField 44 = .ok (.invokevirtual 182, 3) := by decide +kernel
theorem dX8_setField_47 : decode cX8_setField 47 = .ok (.goto 6, 3) := by decide +kernel
theorem dX8_setField_50 : decode cX8_setField 50 = .ok (.sipush (-1002), 3) := by decide +kernel
theorem dX8_setField_53 : decode cX8_setField 53 = .ok (.ireturn, 1) := by decide +kernel
theorem dX8_turns_0 : decode cX8_turns 0 = .ok (.aload_n 0, 1) := by decide +kernel
theorem dX8_turns_1 : decode cX8_turns 1 = .ok (.getfield 7, 3) := by decide +kernel
theorem dX8_turns_4 : decode cX8_turns 4 = .ok (.bipush 6, 2) := by decide +kernel
theorem dX8_turns_6 : decode cX8_turns 6 = .ok (.iload_n 2, 1) := by decide +kernel
theorem dX8_turns_7 : decode cX8_turns 7 = .ok (.iadd, 1) := by decide +kernel
theorem dX8_turns_8 : decode cX8_turns 8 = .ok (.dup2, 1) := by decide +kernel
theorem dX8_turns_9 : decode cX8_turns 9 = .ok (.iaload, 1) := by decide +kernel
theorem dX8_turns_10 : decode cX8_turns 10 = .ok (.iconst 1, 1) := by decide +kernel
theorem dX8_turns_11 : decode cX8_turns 11 = .ok (.iload_n 1, 1) := by decide +kernel
theorem dX8_turns_12 : decode cX8_turns 12 = .ok (.ishl, 1) := by decide +kernel
theorem dX8_turns_13 : decode cX8_turns 13 = .ok (.ixor, 1) := by decide +kernel
theorem dX8_turns_14 : decode cX8_turns 14 = .ok (.iastore, 1) := by decide +kernel
theorem dX8_turns_15 : decode cX8_turns 15 = .ok (.aload_n 0, 1) := by decide +kernel
theorem dX8_turns_16 : decode cX8_turns 16 = .ok (.getfield 7, 3) := by decide +kernel
theorem dX8_turns_19 : decode cX8_turns 19 = .ok (.iconst 5, 1) := by decide +kernel
theorem dX8_turns_20 : decode cX8_turns 20 = .ok (.dup2, 1) := by decide +kernel
theorem dX8_turns_21 : decode cX8_turns 21 = .ok (.iaload, 1) := by decide +kernel
theorem dX8_turns_22 : decode cX8_turns 22 = .ok (.iconst 1, 1) := by decide +kernel
theorem dX8_turns_23 : decode cX8_turns 23 = .ok (.iadd, 1) := by decide +kernel
theorem dX8_turns_24 : decode cX8_turns 24 = .ok (.iastore, 1) := by decide +kernel
theorem dX8_turns_25 : decode cX8_turns 25 = .ok (.return_, 1) := by decide +kernel
theorem dX8_turn_0 : decode cX8_turn 0 = .ok (.aload_n 0, 1) := by decide +kernel
theorem dX8_turn_1 : decode cX8_turn 1 = .ok (.iload_n 1, 1) := by decide +kernel
theorem dX8_turn_2 : decode cX8_turn 2 = .ok (.invokevirtual 109, 3) := by decide +kernel
theorem dX8_turn_5 : decode cX8_turn 5 = .ok (.ifCond .eq 11, 3) := by decide +kernel
theorem dX8_turn_8 : decode cX8_turn 8 = .ok (.aload_n 0, 1) := by decide +kernel
theorem dX8_turn_9 : decode cX8_turn 9 = .ok (.iload_n 2, 1) := by decide +kernel
theorem dX8_turn_10 : decode cX8_turn 10 = .ok (.invokevirtual 81, 3) := by decide +kernel
theorem dX8_turn_13 : decode cX8_turn 13 = .ok (.ifCond .ne 7, 3) := by decide +kernel
theorem dX8_turn_16 : decode cX8_turn 16 = .ok (.sipush (-1001), 3) := by decide +kernel
theorem dX8_turn_19 : decode cX8_turn 19 = .ok (.ireturn, 1) := by decide +kernel
theorem dX8_turn_20 : decode cX8_turn 20 = .ok (.aload_n 0, 1) := by decide +kernel
theorem dX8_turn_21 : decode cX8_turn 21 = .ok (.invokevirtual 169, 3) := by decide +kernel
theorem dX8_turn_24 : decode cX8_turn 24 = .ok (.aload_n 0, 1) := by decide +kernel
theorem dX8_turn_25 : decode cX8_turn 25 = .ok (.iload_n 1, 1) := by decide +kernel
theorem dX8_turn_26 : decode cX8_turn 26 = .ok (.iload_n 2, 1) := by decide +kernel
theorem dX8_turn_27 : decode cX8_turn 27 = .ok (.invokevirtual 187, 3) := by decide +kernel
theorem dX8_turn_30 : decode cX8_turn 30 = .ok (.aload_n 0, 1) := by decide +kernel
theorem dX8_turn_31 : decode cX8_turn 31 = .ok (.aload_n 0, 1) := by decide +kernel
theorem dX8_turn_32 : decode cX8_turn 32 = .ok (.invokevirtual 175, 3) := by decide +kernel
theorem dX8_turn_35 : decode cX8_turn 35 = .ok (.invokevirtual 172, 3) := by decide +kernel
theorem dX8_turn_38 : decode cX8_turn 38 = .ok (.ireturn, 1) := by decide +kernel
theorem dX8_turnPatch_0 : decode cX8_turnPatch 0 = .ok (.aload_n 0, 1) := by decide +kernel
theorem dX8_turnPatch_1 : decode cX8_turnPatch 1 = .ok (.iload_n 1, 1) := by decide +kernel
theorem dX8_turnPatch_2 : decode cX8_turnPatch 2 = .ok (.invokevirtual 109, 3) := by decide +kernel
theorem dX8_turnPatch_5 : decode cX8_turnPatch 5 = .ok (.ifCond .eq 11, 3) := by decide +kernel
theorem dX8_turnPatch_8 : decode cX8_turnPatch 8 = .ok (.aload_n 0, 1) := by decide +kernel
theorem dX8_turnPatch_9 : decode cX8_turnPatch 9 = .ok (.iload_n 2, 1) := by decide +kernel
theorem dX8_turnPatch_10 : decode cX8_turnPatch 10 = .ok (.invokevirtual 81, 3) := by decide +kernel
theorem dX8_turnPatch_13 : decode cX8_turnPatch 13 = .ok (.ifCond .ne 7, 3) := by decide +kernel
theorem dX8_turnPatch_16 : decode cX8_turnPatch 16 = .ok (.sipush (-1001), 3) := by decide +kernel
theorem dX8_turnPatch_19 : decode cX8_turnPatch 19 = .ok (.ireturn, 1) := by decide +kernel
theorem dX8_turnPatch_20 : decode cX8_turnPatch 20 = .ok (.aload_n 0, 1) := by decide +kernel
theorem dX8_turnPatch_21 : decode cX8_turnPatch 21 = .ok (.invokevirtual 169, 3) := by decide +kernel
theorem dX8_turnPatch_24 : decode cX8_turnPatch 24 = .ok (.aload_n 0, 1) := by decide +kernel
theorem dX8_turnPatch_25 : decode cX8_turnPatch 25 = .ok (.invokevirtual 156, 3) := by decide +kernel
theorem dX8_turnPatch_28 : decode cX8_turnPatch 28 = .ok (.aload_n 0, 1) := by decide +kernel
theorem dX8_turnPatch_29 : decode cX8_turnPatch 29 = .ok (.iload_n 1, 1) := by decide +kernel
theorem dX8_turnPatch_30 : decode cX8_turnPatch 30 = .ok (.iload_n 2, 1) := by decide +kernel
theorem dX8_turnPatch_31 : decode cX8_turnPatch 31 = .ok (.invokevirtual 162, 3) := by decide +kernel
theorem dX8_turnPatch_34 : decode cX8_turnPatch 34 = .ok (.iconst 0, 1) := by decide +kernel
theorem dX8_turnPatch_35 : decode cX8_turnPatch 35 = .ok (.istore_n 3, 1) := by decide +kernel
theorem dX8_turnPatch_36 : decode cX8_turnPatch 36 = .ok (.iload_n 3, 1) := by decide +kernel
theorem dX8_turnPatch_37 : decode cX8_turnPatch 37 = .ok (.aload_n 0, 1) := by decide +kernel
theorem dX8_turnPatch_38 : decode cX8_turnPatch 38 = .ok (.getfield 149, 3) := by decide +kernel
theorem dX8_turnPatch_41 : decode cX8_turnPatch 41 = .ok (.if_icmp .ge 29, 3) := by decide +kernel
theorem dX8_turnPatch_44 : decode cX8_turnPatch 44 = .ok (.aload_n 0, 1) := by decide +kernel
theorem dX8_turnPatch_45 : decode cX8_turnPatch 45 = .ok (.aload_n 0, 1) := by decide +kernel
theorem dX8_turnPatch_46 : decode cX8_turnPatch 46 = .ok (.getfield 55, 3) := by decide +kernel
theorem dX8_turnPatch_49 : decode cX8_turnPatch 49 = .ok (.iload_n 3, 1) := by decide +kernel
theorem dX8_turnPatch_50 : decode cX8_turnPatch 50 = .ok (.iaload, 1) := by decide +kernel
theorem dX8_turnPatch_51 : decode cX8_turnPatch 51 = .ok (.iconst 3, 1) := by decide +kernel
theorem dX8_turnPatch_52 : decode cX8_turnPatch 52 = .ok (.irem, 1) := by decide +kernel
theorem dX8_turnPatch_53 : decode cX8_turnPatch 53 = .ok (.aload_n 0, 1) := by decide +kernel
theorem dX8_turnPatch_54 : decode cX8_turnPatch 54 = .ok (.getfield 55, 3) := by decide +kernel
theorem dX8_turnPatch_57 : decode cX8_turnPatch 57 = .ok (.iload_n 3, 1) := by decide +kernel
theorem dX8_turnPatch_58 : decode cX8_turnPatch 58 = .ok (.iaload, 1) := by decide +kernel
theorem dX8_turnPatch_59 : decode cX8_turnPatch 59 = .ok (.iconst 3, 1) := by decide +kernel
theorem dX8_turnPatch_60 : decode cX8_turnPatch 60 = .ok (.idiv, 1) := by decide +kernel
theorem dX8_turnPatch_61 : decode cX8_turnPatch 61 = .ok (.invokevirtual 187, 3) := by decide +kernel
theorem dX8_turnPatch_64 : decode cX8_turnPatch 64 = .ok (.iinc 3 1, 3) := by decide +kernel
theorem dX8_turnPatch_67 : decode cX8_turnPatch 67 = .ok (.goto (-31), 3) := by decide +kernel
theorem dX8_turnPatch_70 : decode cX8_turnPatch 70 = .ok (.aload_n 0, 1) := by decide +kernel
theorem dX8_turnPatch_71 : decode cX8_turnPatch 71 = .ok (.aload_n 0, 1) := by decide +kernel
theorem dX8_turnPatch_72 : decode cX8_turnPatch 72 = .ok (.getfield 149, 3) := by decide +kernel
theorem dX8_turnPatch_75 : decode cX8_turnPatch 75 = .ok (.invokevirtual 172, 3) := by decide +kernel
theorem dX8_turnPatch_78 : decode cX8_turnPatch 78 = .ok (.ireturn, 1) := by decide +kernel
theorem dX8_sweeps_0 : decode cX8_sweeps 0 = .ok (.iconst 0, 1) := by decide +kernel
theorem dX8_sweeps_1 : decode cX8_sweeps 1 = .ok (.istore_n 1, 1) := by decide +kernel
theorem dX8_sweeps_2 : decode cX8_sweeps 2 = .ok (.iconst 0, 1) := by decide +kernel
theorem dX8_sweeps_3 : decode cX8_sweeps 3 = .ok (.istore_n 2, 1) := by decide +kernel
theorem dX8_sweeps_4 : decode cX8_sweeps 4 = .ok (.iload_n 2, 1) := by decide +kernel
theorem dX8_sweeps_5 : decode cX8_sweeps 5 = .ok (.aload_n 0, 1) := by decide +kernel
theorem dX8_sweeps_6 : decode cX8_sweeps 6 = .ok (.invokevirtual 159, 3) := by decide +kernel
theorem dX8_sweeps_9 : decode cX8_sweeps 9 = .ok (.if_icmp .ge 55, 3) := by decide +kernel
theorem dX8_sweeps_12 : decode cX8_sweeps 12 = .ok (.aload_n 0, 1) := by decide +kernel
theorem dX8_sweeps_13 : decode cX8_sweeps 13 = .ok (.iload_n 2, 1) := by decide +kernel
theorem dX8_sweeps_14 : decode cX8_sweeps 14 = .ok (.aload_n 0, 1) := by decide +kernel
theorem dX8_sweeps_15 : decode cX8_sweeps 15 = .ok (.getfield 7, 3) := by decide +kernel
theorem dX8_sweeps_18 : decode cX8_sweeps 18 = .ok (.iconst 1, 1) := by decide +kernel
theorem dX8_sweeps_19 : decode cX8_sweeps 19 = .ok (.iaload, 1) := by decide +kernel
theorem dX8_sweeps_20 : decode cX8_sweeps 20 = .ok (.irem, 1) := by decide +kernel
theorem dX8_sweeps_21 : decode cX8_sweeps 21 = .ok (.iload_n 2, 1) := by decide +kernel
theorem dX8_sweeps_22 : decode cX8_sweeps 22 = .ok (.aload_n 0, 1) := by decide +kernel
theorem dX8_sweeps_23 : decode cX8_sweeps 23 = .ok (.getfield 7, 3) := by decide +kernel
theorem dX8_sweeps_26 : decode cX8_sweeps 26 = .ok (.iconst 1, 1) := by decide +kernel
theorem dX8_sweeps_27 : decode cX8_sweeps 27 = .ok (.iaload, 1) := by decide +kernel
theorem dX8_sweeps_28 : decode cX8_sweeps 28 = .ok (.idiv, 1) := by decide +kernel
theorem dX8_sweeps_29 : decode cX8_sweeps 29 = .ok (.invokevirtual 190, 3) := by decide +kernel
theorem dX8_sweeps_32 : decode cX8_sweeps 32 = .ok (.ifCond .le 26, 3) := by decide +kernel
theorem dX8_sweeps_35 : decode cX8_sweeps 35 = .ok (.aload_n 0, 1) := by decide +kernel
theorem dX8_sweeps_36 : decode cX8_sweeps 36 = .ok (.iload_n 2, 1) := by decide +kernel
theorem dX8_sweeps_37 : decode cX8_sweeps 37 = .ok (.aload_n 0, 1) := by decide +kernel
theorem dX8_sweeps_38 : decode cX8_sweeps 38 = .ok (.getfield 7, 3) := by decide +kernel
theorem dX8_sweeps_41 : decode cX8_sweeps 41 = .ok (.iconst 1, 1) := by decide +kernel
theorem dX8_sweeps_42 : decode cX8_sweeps 42 = .ok (.iaload, 1) := by decide +kernel
theorem dX8_sweeps_43 : decode cX8_sweeps 43 = .ok (.irem, 1) := by decide +kernel
theorem dX8_sweeps_44 : decode cX8_sweeps 44 = .ok (.iload_n 2, 1) := by decide +kernel
theorem dX8_sweeps_45 : decode cX8_sweeps 45 = .ok (.aload_n 0, 1) := by decide +kernel
theorem dX8_sweeps_46 : decode cX8_sweeps 46 = .ok (.getfield 7, 3) := by decide +kernel
theorem dX8_sweeps_49 : decode cX8_sweeps 49 = .ok (.iconst 1, 1) := by decide +kernel
theorem dX8_sweeps_50 : decode cX8_sweeps 50 = .ok (.iaload, 1) := by decide +kernel
theorem dX8_sweeps_51 : decode cX8_sweeps 51 = .ok (.idiv, 1) := by decide +kernel
theorem dX8_sweeps_52 : decode cX8_sweeps 52 = .ok (.invokevirtual 187, 3) := by decide +kernel
theorem dX8_sweeps_55 : decode cX8_sweeps 55 = .ok (.iinc 1 1, 3) := by decide +kernel
theorem dX8_sweeps_58 : decode cX8_sweeps 58 = .ok (.iinc 2 1, 3) := by decide +kernel
theorem dX8_sweeps_61 : decode cX8_sweeps 61 = .ok (.goto (-57), 3) := by decide +kernel
theorem dX8_sweeps_64 : decode cX8_sweeps 64 = .ok (.iload_n 1, 1) := by decide +kernel
theorem dX8_sweeps_65 : decode cX8_sweeps 65 = .ok (.ireturn, 1) := by decide +kernel
theorem dX8_sweep_0 : decode cX8_sweep 0 = .ok (.iload_n 1, 1) := by decide +kernel
theorem dX8_sweep_1 : decode cX8_sweep 1 = .ok (.i2l, 1) := by decide +kernel
theorem dX8_sweep_2 : decode cX8_sweep 2 = .ok (.lconst 1, 1) := by decide +kernel
theorem dX8_sweep_3 : decode cX8_sweep 3 = .ok (.ldc2_w 193, 3) := by decide +kernel
theorem dX8_sweep_6 : decode cX8_sweep 6 = .ok (.invokestatic 73, 3) := by decide +kernel
theorem dX8_sweep_9 : decode cX8_sweep 9 = .ok (.ifCond .ne 7, 3) := by decide +kernel
theorem dX8_sweep_12 : decode cX8_sweep 12 = .ok (.sipush (-1002), 3) := by decide +kernel
theorem dX8_sweep_15 : decode cX8_sweep 15 = .ok (.ireturn, 1) := by decide +kernel
theorem dX8_sweep_16 : decode cX8_sweep 16 = .ok (.aload_n 0, 1) := by decide +kernel
theorem dX8_sweep_17 : decode cX8_sweep 17 = .ok (.invokevirtual 169, 3) := by decide +kernel
theorem dX8_sweep_20 : decode cX8_sweep 20 = .ok (.iconst 0, 1) := by decide +kernel
theorem dX8_sweep_21 : decode cX8_sweep 21 = .ok (.istore_n 2, 1) := by decide +kernel
theorem dX8_sweep_22 : decode cX8_sweep 22 = .ok (.iconst 1, 1) := by decide +kernel
theorem dX8_sweep_23 : decode cX8_sweep 23 = .ok (.istore_n 3, 1) := by decide +kernel
theorem dX8_sweep_24 : decode cX8_sweep 24 = .ok (.iconst 0, 1) := by decide +kernel
theorem dX8_sweep_25 : decode cX8_sweep 25 = .ok (.istore 4, 2) := by decide +kernel
theorem dX8_sweep_27 : decode cX8_sweep 27 = .ok (.iload 4, 2) := by decide +kernel
theorem dX8_sweep_29 : decode cX8_sweep 29 = .ok (.iload_n 1, 1) := by decide +kernel
theorem dX8_sweep_30 : decode cX8_sweep 30 = .ok (.if_icmp .ge 22, 3) := by decide +kernel
theorem dX8_sweep_33 : decode cX8_sweep 33 = .ok (.iload_n 3, 1) := by decide +kernel
theorem dX8_sweep_34 : decode cX8_sweep 34 = .ok (.ifCond .le 18, 3) := by decide +kernel
theorem dX8_sweep_37 : decode cX8_sweep 37 = .ok (.aload_n 0, 1) := by decide +kernel
theorem dX8_sweep_38 : decode cX8_sweep 38 = .ok (.invokevirtual 195, 3) := by decide +kernel
theorem dX8_sweep_41 : decode cX8_sweep 41 = .ok (.istore_n 3, 1) := by decide +kernel
theorem dX8_sweep_42 : decode cX8_sweep 42 = .ok (.iload_n 2, 1) := by decide +kernel
theorem dX8_sweep_43 : decode cX8_sweep 43 = .ok (.iload_n 3, 1) := by decide +kernel
theorem dX8_sweep_44 : decode cX8_sweep 44 = .ok (.iadd, 1) := by decide +kernel
theorem dX8_sweep_45 : decode cX8_sweep 45 = .ok (.istore_n 2, 1) := by decide +kernel
theorem dX8_sweep_46 : decode cX8_sweep 46 = .ok (.iinc 4 1, 3) := by decide +kernel
theorem dX8_sweep_49 : decode cX8_sweep 49 = .ok (.goto (-22), 3) := by decide +kernel
theorem dX8_sweep_52 : decode cX8_sweep 52 = .ok (.iload_n 2, 1) := by decide +kernel
theorem dX8_sweep_53 : decode cX8_sweep 53 = .ok (.ifCond .ne 9, 3) := by decide +kernel
theorem dX8_sweep_56 : decode cX8_sweep 56 = .ok (.sipush (-1005), 3) := by decide +kernel
theorem dX8_sweep_59 : decode cX8_sweep 59 = .ok (.goto 8, 3) := by decide +kernel
theorem dX8_sweep_62 : decode cX8_sweep 62 = .ok (.aload_n 0, 1) := by decide +kernel
theorem dX8_sweep_63 : decode cX8_sweep 63 = .ok (.iload_n 2, 1) := by decide +kernel
theorem dX8_sweep_64 : decode cX8_sweep 64 = .ok (.invokevirtual 172, 3) := by decide +kernel
theorem dX8_sweep_67 : decode cX8_sweep 67 = .ok (.ireturn, 1) := by decide +kernel
theorem dX8_settle_0 : decode cX8_settle 0 = .ok (.aload_n 0, 1) := by decide +kernel
theorem dX8_settle_1 : decode cX8_settle 1 = .ok (.invokevirtual 169, 3) := by decide +kernel
theorem dX8_settle_4 : decode cX8_settle 4 = .ok (.aload_n 0, 1) := by decide +kernel
theorem dX8_settle_5 : decode cX8_settle 5 = .ok (.invokevirtual 198, 3) := by decide +kernel
theorem dX8_settle_8 : decode cX8_settle 8 = .ok (.istore_n 1, 1) := by decide +kernel
theorem dX8_settle_9 : decode cX8_settle 9 = .ok (.aload_n 0, 1) := by decide +kernel
theorem dX8_settle_10 : decode cX8_settle 10 = .ok (.iload_n 1, 1) := by decide +kernel
theorem dX8_settle_11 : decode cX8_settle 11 = .ok (.invokevirtual 201, 3) := by decide +kernel
theorem dX8_settle_14 : decode cX8_settle 14 = .ok (.iconst 1, 1) := by decide +kernel
theorem dX8_settle_15 : decode cX8_settle 15 = .ok (.istore_n 2, 1) := by decide +kernel
theorem dX8_settle_16 : decode cX8_settle 16 = .ok (.iconst 0, 1) := by decide +kernel
theorem dX8_settle_17 : decode cX8_settle 17 = .ok (.istore_n 3, 1) := by decide +kernel
theorem dX8_settle_18 : decode cX8_settle 18 = .ok (.iload_n 3, 1) := by decide +kernel
theorem dX8_settle_19 : decode cX8_settle 19 = .ok (.bipush 10, 2) := by decide +kernel
theorem dX8_settle_21 : decode cX8_settle 21 = .ok (.if_icmp .ge 40, 3) := by decide +kernel
theorem dX8_settle_24 : decode cX8_settle 24 = .ok (.iload_n 2, 1) := by decide +kernel
theorem dX8_settle_25 : decode cX8_settle 25 = .ok (.ifCond .eq 28, 3) := by decide +kernel
theorem dX8_settle_28 : decode cX8_settle 28 = .ok (.aload_n 0, 1) := by decide +kernel
theorem dX8_settle_29 : decode cX8_settle 29 = .ok (.getfield 7, 3) := by decide +kernel
theorem dX8_settle_32 : decode cX8_settle 32 = .ok (.bipush 6, 2) := by decide +kernel
theorem dX8_settle_34 : decode cX8_settle 34 = .ok (.iload_n 3, 1) := by decide +kernel
theorem dX8_settle_35 : decode cX8_settle 35 = .ok (.iadd, 1) := by decide +kernel
theorem dX8_settle_36 : decode cX8_settle 36 = .ok (.iaload, 1) := by decide +kernel
theorem dX8_settle_37 : decode cX8_settle 37 = .ok (.aload_n 0, 1) := by decide +kernel
theorem dX8_settle_38 : decode cX8_settle 38 = .ok (.getfield 13, 3) := by decide +kernel
theorem dX8_settle_41 : decode cX8_settle 41 = .ok (.bipush 6, 2) := by decide +kernel
theorem dX8_settle_43 : decode cX8_settle 43 = .ok (.iload_n 3, 1) := by decide +kernel
theorem dX8_settle_44 : decode cX8_settle 44 = .ok (.iadd, 1) := by decide +kernel
theorem dX8_settle_45 : decode cX8_settle 45 = .ok (.iaload, 1) := by decide +kernel
theorem dX8_settle_46 : decode cX8_settle 46 = .ok (.if_icmp .ne 7, 3) := by decide +kernel
theorem dX8_settle_49 : decode cX8_settle 49 = .ok (.iconst 1, 1) := by decide +kernel
theorem dX8_settle_50 : decode cX8_settle 50 = .ok (.goto 4, 3) := by decide +kernel
theorem dX8_settle_53 : decode cX8_settle 53 = .ok (.iconst 0, 1) := by decide +kernel
theorem dX8_settle_54 : decode cX8_settle 54 = .ok (.istore_n 2, 1) := by decide +kernel
theorem dX8_settle_55 : decode cX8_settle 55 = .ok (.iinc 3 1, 3) := by decide +kernel
theorem dX8_settle_58 : decode cX8_settle 58 = .ok (.goto (-40), 3) := by decide +kernel
theorem dX8_settle_61 : decode cX8_settle 61 = .ok (.iload_n 2, 1) := by decide +kernel
theorem dX8_settle_62 : decode cX8_settle 62 = .ok (.ifCond .eq 9, 3) := by decide +kernel
theorem dX8_settle_65 : decode cX8_settle 65 = .ok (.sipush (-1005), 3) := by decide +kernel
theorem dX8_settle_68 : decode cX8_settle 68 = .ok (.goto 8, 3) := by decide +kernel
theorem dX8_settle_71 : decode cX8_settle 71 = .ok (.aload_n 0, 1) := by decide +kernel
theorem dX8_settle_72 : decode cX8_settle 72 = .ok (.iload_n 1, 1) := by decide +kernel
theorem dX8_settle_73 : decode cX8_settle 73 = .ok (.invokevirtual 172, 3) := by decide +kernel
theorem dX8_settle_76 : decode cX8_settle 76 = .ok (.ireturn, 1) := by decide +kernel
theorem dX8_type_0 : decode cX8_type 0 = .ok (.aload_n 0, 1) := by decide +kernel
theorem dX8_type_1 : decode cX8_type 1 = .ok (.getfield 204, 3) := by decide +kernel
theorem dX8_type_4 : decode cX8_type 4 = .ok (.bipush 60, 2) := by decide +kernel
theorem dX8_type_6 : decode cX8_type 6 = .ok (.if_icmp .ne 7, 3) := by decide +kernel
theorem dX8_type_9 : decode cX8_type 9 = .ok (.sipush (-1003), 3) := by decide +kernel
theorem dX8_type_12 : decode cX8_type 12 = .ok (.ireturn, 1) := by decide +kernel
theorem dX8_type_13 : decode cX8_type 13 = .ok (.aload_n 0, 1) := by decide +kernel
theorem dX8_type_14 : decode cX8_type 14 = .ok (.getfield 58, 3) := by decide +kernel
theorem dX8_type_17 : decode cX8_type 17 = .ok (.aload_n 0, 1) := by decide +kernel
theorem dX8_type_18 : decode cX8_type 18 = .ok (.getfield 204, 3) := by decide +kernel
theorem dX8_type_21 : decode cX8_type 21 = .ok (.iload_n 1, 1) := by decide +kernel
theorem dX8_type_22 : decode cX8_type 22 = .ok (.iastore, 1) := by decide +kernel
theorem dX8_type_23 : decode cX8_type 23 = .ok (.aload_n 0, 1) := by decide +kernel
theorem dX8_type_24 : decode cX8_type 24 = .ok (.dup, 1) := by decide +kernel
theorem dX8_type_25 : decode cX8_type 25 = .ok (.getfield 204, 3) := by decide +kernel
theorem dX8_type_28 : decode cX8_type 28 = .ok (.iconst 1, 1) := by decide +kernel
theorem dX8_type_29 : decode cX8_type 29 = .ok (.iadd, 1) := by decide +kernel
theorem dX8_type_30 : decode cX8_type 30 = .ok (.putfield 204, 3) := by decide +kernel
theorem dX8_type_33 : decode cX8_type 33 = .ok (.aload_n 0, 1) := by decide +kernel
theorem dX8_type_34 : decode cX8_type 34 = .ok (.getfield 204, 3) := by decide +kernel
theorem dX8_type_37 : decode cX8_type 37 = .ok (.ireturn, 1) := by decide +kernel
theorem dX8_clearText_0 : decode cX8_clearText 0 = .ok (.aload_n 0, 1) := by decide +kernel
theorem dX8_clearText_1 : decode cX8_clearText 1 = .ok (.getfield 204, 3) := by decide +kernel
theorem dX8_clearText_4 : decode cX8_clearText 4 = .ok (.istore_n 1, 1) := by decide +kernel
theorem dX8_clearText_5 : decode cX8_clearText 5 = .ok (.aload_n 0, 1) := by decide +kernel
theorem dX8_clearText_6 : decode cX8_clearText 6 = .ok (.iconst 0, 1) := by decide +kernel
theorem dX8_clearText_7 : decode cX8_clearText 7 = .ok (.putfield 204, 3) := by decide +kernel
theorem dX8_clearText_10 : decode cX8_clearText 10 = .ok (.iload_n 1, 1) := by decide +kernel
theorem dX8_clearText_11 : decode cX8_clearText 11 = .ok (.ireturn, 1) := by decide +kernel
theorem dX8_isHere_0 : decode cX8_isHere 0 = .ok (.aload_n 0, 1) := by decide +kernel
theorem dX8_isHere_1 : decode cX8_isHere 1 = .ok (.getfield 207, 3) := by decide +kernel
theorem dX8_isHere_4 : decode cX8_isHere 4 = .ok (.aload_n 0, 1) := by decide +kernel
theorem dX8_isHere_5 : decode cX8_isHere 5 = .ok (.getfield 204, 3) := by decide +kernel
theorem dX8_isHere_8 : decode cX8_isHere 8 = .ok (.if_icmp .ge 20, 3) := by decide +kernel
theorem dX8_isHere_11 : decode cX8_isHere 11 = .ok (.aload_n 0, 1) := by decide +kernel
theorem dX8_isHere_12 : decode cX8_isHere 12 = .ok (.getfield 58, 3) := by decide +kernel
theorem dX8_isHere_15 : decode cX8_isHere 15 = .ok (.aload_n 0, 1) := by decide +kernel
theorem dX8_isHere_16 : decode cX8_isHere 16 = .ok (.getfield 207, 3) := by decide +kernel
theorem dX8_isHere_19 : decode cX8_isHere 19 = .ok (.iaload, 1) := by decide +kernel
theorem dX8_isHere_20 : decode cX8_isHere 20 = .ok (.iload_n 1, 1) := by decide +kernel
theorem dX8_isHere_21 : decode cX8_isHere 21 = .ok (.if_icmp .ne 7, 3) := by decide +kernel
theorem dX8_isHere_24 : decode cX8_isHere 24 = .ok (.iconst 1, 1) := by decide +kernel
theorem dX8_isHere_25 : decode cX8_isHere 25 = .ok (.goto 4, 3) := by decide +kernel
theorem dX8_isHere_28 : decode cX8_isHere 28 = .ok (.iconst 0, 1) := by decide +kernel
theorem dX8_isHere_29 : decode cX8_isHere 29 = .ok (.ireturn, 1) := by decide +kernel
theorem dX8_readsSigns_0 : decode cX8_readsSigns 0 = .ok (.iconst 0, 1) := by decide +kernel
theorem dX8_readsSigns_1 : decode cX8_readsSigns 1 = .ok (.istore_n 2, 1) := by decide +kernel
theorem dX8_readsSigns_2 : decode cX8_readsSigns 2 = .ok (.iload_n 2, 1) := by decide +kernel
theorem dX8_readsSigns_3 : decode cX8_readsSigns 3 = .ok (.iload_n 1, 1) := by decide +kernel
theorem dX8_readsSigns_4 : decode cX8_readsSigns 4 = .ok (.if_icmp .ge 37, 3) := by decide +kernel
theorem dX8_readsSigns_7 : decode cX8_readsSigns 7 = .ok (.aload_n 0, 1) := by decide +kernel
theorem dX8_readsSigns_8 : decode cX8_readsSigns 8 = .ok (.bipush 43, 2) := by decide +kernel
theorem dX8_readsSigns_10 : decode cX8_readsSigns 10 = .ok (.invokevirtual 210, 3) := by decide +kernel
theorem dX8_readsSigns_13 : decode cX8_readsSigns 13 = .ok (.ifCond .ne 12, 3) := by decide +kernel
theorem dX8_readsSigns_16 : decode cX8_readsSigns 16 = .ok (.aload_n 0, 1) := by decide +kernel
theorem dX8_readsSigns_17 : decode cX8_readsSigns 17 = .ok (.bipush 45, 2) := by decide +kernel
theorem dX8_readsSigns_19 : decode cX8_readsSigns 19 = .ok (.invokevirtual 210, 3) := by decide +kernel
theorem dX8_readsSigns_22 : decode cX8_readsSigns 22 = .ok (.ifCond .eq 19, 3) := by decide +kernel
theorem dX8_readsSigns_25 : decode cX8_readsSigns 25 = .ok (.aload_n 0, 1) := by decide +kernel
theorem dX8_readsSigns_26 : decode cX8_readsSigns 26 = .ok (.dup, 1) := by decide +kernel
theorem dX8_readsSigns_27 : decode cX8_readsSigns 27 = .ok (.getfield 207, 3) := by decide +kernel
theorem dX8_readsSigns_30 : decode cX8_readsSigns 30 = .ok (.iconst 1, 1) := by decide +kernel
theorem dX8_readsSigns_31 : decode cX8_readsSigns 31 = .ok (.iadd, 1) := by decide +kernel
theorem dX8_readsSigns_32 : decode cX8_readsSigns 32 = .ok (.putfield 207, 3) := by decide +kernel
theorem dX8_readsSigns_35 : decode cX8_readsSigns 35 = .ok (.iinc 2 1, 3) := by decide +kernel
theorem dX8_readsSigns_38 : decode cX8_readsSigns 38 = .ok (.goto (-36), 3) := by decide +kernel
theorem dX8_readsSigns_41 : decode cX8_readsSigns 41 = .ok (.iload_n 2, 1) := by decide +kernel
theorem dX8_readsSigns_42 : decode cX8_readsSigns 42 = .ok (.ireturn, 1) := by decide +kernel
theorem dX8_fault_0 : decode cX8_fault 0 = .ok (.aload_n 0, 1) := by decide +kernel
theorem dX8_fault_1 : decode cX8_fault 1 = .ok (.iconst 0, 1) := by decide +kernel
theorem dX8_fault_2 : decode cX8_fault 2 = .ok (.putfield 207, 3) := by decide +kernel
theorem dX8_fault_5 : decode cX8_fault 5 = .ok (.aload_n 0, 1) := by decide +kernel
theorem dX8_fault_6 : decode cX8_fault 6 = .ok (.aload_n 0, 1) := by decide +kernel
theorem dX8_fault_7 : decode cX8_fault 7 = .ok (.iconst 3, 1) := by decide +kernel
theorem dX8_fault_8 : decode cX8_fault 8 = .ok (.invokevirtual 213, 3) := by decide +kernel
theorem dX8_fault_11 : decode cX8_fault 11 = .ok (.putfield 216, 3) := by decide +kernel
theorem dX8_fault_14 : decode cX8_fault 14 = .ok (.aload_n 0, 1) := by decide +kernel
theorem dX8_fault_15 : decode cX8_fault 15 = .ok (.iconst 1, 1) := by decide +kernel
theorem dX8_fault_16 : decode cX8_fault 16 = .ok (.putfield 219, 3) := by decide +kernel
theorem dX8_fault_19 : decode cX8_fault 19 = .ok (.aload_n 0, 1) := by decide +kernel
theorem dX8_fault_20 : decode cX8_fault 20 = .ok (.getfield 216, 3) := by decide +kernel
theorem dX8_fault_23 : decode cX8_fault 23 = .ok (.ifCond .ne 8, 3) := by decide +kernel
theorem dX8_fault_26 : decode cX8_fault 26 = .ok (.aload_n 0, 1) := by decide +kernel
theorem dX8_fault_27 : decode cX8_fault 27 = .ok (.getfield 207, 3) := by decide +kernel
theorem dX8_fault_30 : decode cX8_fault 30 = .ok (.ireturn, 1) := by decide +kernel
theorem dX8_fault_31 : decode cX8_fault 31 = .ok (.aload_n 0, 1) := by decide +kernel
theorem dX8_fault_32 : decode cX8_fault 32 = .ok (.getfield 219, 3) := by decide +kernel
theorem dX8_fault_35 : decode cX8_fault 35 = .ok (.bipush 10, 2) := by decide +kernel
theorem dX8_fault_37 : decode cX8_fault 37 = .ok (.if_icmp .ge 55, 3) := by decide +kernel
theorem dX8_fault_40 : decode cX8_fault 40 = .ok (.aload_n 0, 1) := by decide +kernel
theorem dX8_fault_41 : decode cX8_fault 41 = .ok (.bipush 44, 2) := by decide +kernel
theorem dX8_fault_43 : decode cX8_fault 43 = .ok (.invokevirtual 210, 3) := by decide +kernel
theorem dX8_fault_46 : decode cX8_fault 46 = .ok (.ifCond .eq 46, 3) := by decide +kernel
theorem dX8_fault_49 : decode cX8_fault 49 = .ok (.aload_n 0, 1) := by decide +kernel
theorem dX8_fault_50 : decode cX8_fault 50 = .ok (.dup, 1) := by decide +kernel
theorem dX8_fault_51 : decode cX8_fault 51 = .ok (.getfield 207, 3) := by decide +kernel
theorem dX8_fault_54 : decode cX8_fault 54 = .ok (.iconst 1, 1) := by decide +kernel
theorem dX8_fault_55 : decode cX8_fault 55 = .ok (.iadd, 1) := by decide +kernel
theorem dX8_fault_56 : decode cX8_fault 56 = .ok (.putfield 207, 3) := by decide +kernel
theorem dX8_fault_59 : decode cX8_fault 59 = .ok (.aload_n 0, 1) := by decide +kernel
theorem dX8_fault_60 : decode cX8_fault 60 = .ok (.aload_n 0, 1) := by decide +kernel
theorem dX8_fault_61 : decode cX8_fault 61 = .ok (.getfield 216, 3) := by decide +kernel
theorem dX8_fault_64 : decode cX8_fault 64 = .ok (.invokevirtual 213, 3) := by decide +kernel
theorem dX8_fault_67 : decode cX8_fault 67 = .ok (.aload_n 0, 1) := by decide +kernel
theorem dX8_fault_68 : decode cX8_fault 68 = .ok (.getfield 216, 3) := by decide +kernel
theorem dX8_fault_71 : decode cX8_fault 71 = .ok (.if_icmp .ge 8, 3) := by decide +kernel
theorem dX8_fault_74 : decode cX8_fault 74 = .ok (.aload_n 0, 1) := by decide +kernel
theorem dX8_fault_75 : decode cX8_fault 75 = .ok (.getfield 207, 3) := by decide +kernel
theorem dX8_fault_78 : decode cX8_fault 78 = .ok (.ireturn, 1) := by decide +kernel
theorem dX8_fault_79 : decode cX8_fault 79 = .ok (.aload_n 0, 1) := by decide +kernel
theorem dX8_fault_80 : decode cX8_fault 80 = .ok (.dup, 1) := by decide +kernel
theorem dX8_fault_81 : decode cX8_fault 81 = .ok (.getfield 219, 3) := by decide +kernel
theorem dX8_fault_84 : decode cX8_fault 84 = .ok (.iconst 1, 1) := by decide +kernel
theorem dX8_fault_85 : decode cX8_fault 85 = .ok (.iadd, 1) := by decide +kernel
theorem dX8_fault_86 : decode cX8_fault 86 = .ok (.putfield 219, 3) := by decide +kernel
theorem dX8_fault_89 : decode cX8_fault 89 = .ok (.goto (-58), 3) := by decide +kernel
theorem dX8_fault_92 : decode cX8_fault 92 = .ok (.aload_n 0, 1) := by decide +kernel
theorem dX8_fault_93 : decode cX8_fault 93 = .ok (.getfield 207, 3) := by decide +kernel
theorem dX8_fault_96 : decode cX8_fault 96 = .ok (.aload_n 0, 1) := by decide +kernel
theorem dX8_fault_97 : decode cX8_fault 97 = .ok (.getfield 204, 3) := by decide +kernel
theorem dX8_fault_100 : decode cX8_fault 100 = .ok (.if_icmp .ne 9, 3) := by decide +kernel
theorem dX8_fault_103 : decode cX8_fault 103 = .ok (.sipush (-1005), 3) := by decide +kernel
theorem dX8_fault_106 : decode cX8_fault 106 = .ok (.goto 7, 3) := by decide +kernel
theorem dX8_fault_109 : decode cX8_fault 109 = .ok (.aload_n 0, 1) := by decide +kernel
theorem dX8_fault_110 : decode cX8_fault 110 = .ok (.getfield 207, 3) := by decide +kernel
theorem dX8_fault_113 : decode cX8_fault 113 = .ok (.ireturn, 1) := by decide +kernel
theorem dX8_read_0 : decode cX8_read 0 = .ok (.aload_n 0, 1) := by decide +kernel
theorem dX8_read_1 : decode cX8_read 1 = .ok (.invokevirtual 222, 3) := by decide +kernel
theorem dX8_read_4 : decode cX8_read 4 = .ok (.istore_n 1, 1) := by decide +kernel
theorem dX8_read_5 : decode cX8_read 5 = .ok (.iload_n 1, 1) := by decide +kernel
theorem dX8_read_6 : decode cX8_read 6 = .ok (.sipush (-1005), 3) := by decide +kernel
theorem dX8_read_9 : decode cX8_read 9 = .ok (.if_icmp .eq 9, 3) := by decide +kernel
theorem dX8_read_12 : decode cX8_read 12 = .ok (.sipush (-1100), 3) := by decide +kernel
theorem dX8_read_15 : decode cX8_read 15 = .ok (.iload_n 1, 1) := by decide +kernel
theorem dX8_read_16 : decode cX8_read 16 = .ok (.isub, 1) := by decide +kernel
theorem dX8_read_17 : decode cX8_read 17 = .ok (.ireturn, 1) := by decide +kernel
theorem dX8_read_18 : decode cX8_read 18 = .ok (.aload_n 0, 1) := by decide +kernel
theorem dX8_read_19 : decode cX8_read 19 = .ok (.invokevirtual 169, 3) := by decide +kernel
theorem dX8_read_22 : decode cX8_read 22 = .ok (.aload_n 0, 1) := by decide +kernel
theorem dX8_read_23 : decode cX8_read 23 = .ok (.aload_n 0, 1) := by decide +kernel
theorem dX8_read_24 : decode cX8_read 24 = .ok (.getfield 219, 3) := by decide +kernel
theorem dX8_read_27 : decode cX8_read 27 = .ok (.aload_n 0, 1) := by decide +kernel
theorem dX8_read_28 : decode cX8_read 28 = .ok (.getfield 216, 3) := by decide +kernel
theorem dX8_read_31 : decode cX8_read 31 = .ok (.invokevirtual 61, 3) := by decide +kernel
theorem dX8_read_34 : decode cX8_read 34 = .ok (.iconst 0, 1) := by decide +kernel
theorem dX8_read_35 : decode cX8_read 35 = .ok (.istore_n 2, 1) := by decide +kernel
theorem dX8_read_36 : decode cX8_read 36 = .ok (.iload_n 2, 1) := by decide +kernel
theorem dX8_read_37 : decode cX8_read 37 = .ok (.aload_n 0, 1) := by decide +kernel
theorem dX8_read_38 : decode cX8_read 38 = .ok (.getfield 219, 3) := by decide +kernel
theorem dX8_read_41 : decode cX8_read 41 = .ok (.if_icmp .ge 74, 3) := by decide +kernel
theorem dX8_read_44 : decode cX8_read 44 = .ok (.aload_n 0, 1) := by decide +kernel
theorem dX8_read_45 : decode cX8_read 45 = .ok (.getfield 7, 3) := by decide +kernel
theorem dX8_read_48 : decode cX8_read 48 = .ok (.bipush 6, 2) := by decide +kernel
theorem dX8_read_50 : decode cX8_read 50 = .ok (.iload_n 2, 1) := by decide +kernel
theorem dX8_read_51 : decode cX8_read 51 = .ok (.iadd, 1) := by decide +kernel
theorem dX8_read_52 : decode cX8_read 52 = .ok (.iconst 0, 1) := by decide +kernel
theorem dX8_read_53 : decode cX8_read 53 = .ok (.iastore, 1) := by decide +kernel
theorem dX8_read_54 : decode cX8_read 54 = .ok (.iconst 0, 1) := by decide +kernel
theorem dX8_read_55 : decode cX8_read 55 = .ok (.istore_n 3, 1) := by decide +kernel
theorem dX8_read_56 : decode cX8_read 56 = .ok (.iload_n 3, 1) := by decide +kernel
theorem dX8_read_57 : decode cX8_read 57 = .ok (.aload_n 0, 1) := by decide +kernel
theorem dX8_read_58 : decode cX8_read 58 = .ok (.getfield 216, 3) := by decide +kernel
theorem dX8_read_61 : decode cX8_read 61 = .ok (.if_icmp .ge 48, 3) := by decide +kernel
theorem dX8_read_64 : decode cX8_read 64 = .ok (.aload_n 0, 1) := by decide +kernel
theorem dX8_read_65 : decode cX8_read 65 = .ok (.getfield 7, 3) := by decide +kernel
theorem dX8_read_68 : decode cX8_read 68 = .ok (.bipush 6, 2) := by decide +kernel
theorem dX8_read_70 : decode cX8_read 70 = .ok (.iload_n 2, 1) := by decide +kernel
theorem dX8_read_71 : decode cX8_read 71 = .ok (.iadd, 1) := by decide +kernel
theorem dX8_read_72 : decode cX8_read 72 = .ok (.dup2, 1) := by decide +kernel
theorem dX8_read_73 : decode cX8_read 73 = .ok (.iaload, 1) := by decide +kernel
theorem dX8_read_74 : decode cX8_read 74 = .ok (.aload_n 0, 1) := by decide +kernel
theorem dX8_read_75 : decode cX8_read 75 = .ok (.getfield 58, 3) := by decide +kernel
theorem dX8_read_78 : decode cX8_read 78 = .ok (.aload_n 0, 1) := by decide +kernel
theorem dX8_read_79 : decode cX8_read 79 = .ok (.getfield 216, 3) := by decide +kernel
theorem dX8_read_82 : decode cX8_read 82 = .ok (.iconst 1, 1) := by decide +kernel
theorem dX8_read_83 : decode cX8_read 83 = .ok (.iadd, 1) := by decide +kernel
theorem dX8_read_84 : decode cX8_read 84 = .ok (.iload_n 2, 1) := by decide +kernel
theorem dX8_read_85 : decode cX8_read 85 = .ok (.imul, 1) := by decide +kernel
theorem dX8_read_86 : decode cX8_read 86 = .ok (.iload_n 3, 1) := by decide +kernel
theorem dX8_read_87 : decode cX8_read 87 = .ok (.iadd, 1) := by decide +kernel
theorem dX8_read_88 : decode cX8_read 88 = .ok (.iaload, 1) := by decide +kernel
theorem dX8_read_89 : decode cX8_read 89 = .ok (.bipush 43, 2) := by decide +kernel
theorem dX8_read_91 : decode cX8_read 91 = .ok (.if_icmp .ne 9, 3) := by decide +kernel
theorem dX8_read_94 : decode cX8_read 94 = .ok (.iconst 1, 1) := by decide +kernel
theorem dX8_read_95 : decode cX8_read 95 = .ok (.iload_n 3, 1) := by decide +kernel
theorem dX8_read_96 : decode cX8_read 96 = .ok (.ishl, 1) := by decide +kernel
theorem dX8_read_97 : decode cX8_read 97 = .ok (.goto 4, 3) := by decide +kernel
theorem dX8_read_100 : decode cX8_read 100 = .ok (.iconst 0, 1) := by decide +kernel
theorem dX8_read_101 : decode cX8_read 101 = .ok (.ior, 1) := by decide +kernel
theorem dX8_read_102 : decode cX8_read 102 = .ok (.iastore, 1) := by decide +kernel
theorem dX8_read_103 : decode cX8_read 103 = .ok (.iinc 3 1, 3) := by decide +kernel
theorem dX8_read_106 : decode cX8_read 106 = .ok (.goto (-50), 3) := by decide +kernel
theorem dX8_read_109 : decode cX8_read 109 = .ok (.iinc 2 1, 3) := by decide +kernel
theorem dX8_read_112 : decode cX8_read 112 = .ok (.goto (-76), 3) := by decide +kernel
theorem dX8_read_115 : decode cX8_read 115 = .ok (.aload_n 0, 1) := by decide +kernel
theorem dX8_read_116 : decode cX8_read 116 = .ok (.aload_n 0, 1) := by decide +kernel
theorem dX8_read_117 : decode cX8_read 117 = .ok (.invokevirtual 159, 3) := by decide +kernel
theorem dX8_read_120 : decode cX8_read 120 = .ok (.invokevirtual 172, 3) := by decide +kernel
theorem dX8_read_123 : decode cX8_read 123 = .ok (.ireturn, 1) := by decide +kernel
theorem dX8_undo_0 : decode cX8_undo 0 = .ok (.aload_n 0, 1) := by decide +kernel
theorem dX8_undo_1 : decode cX8_undo 1 = .ok (.getfield 69, 3) := by decide +kernel
theorem dX8_undo_4 : decode cX8_undo 4 = .ok (.ifCond .ne 7, 3) := by decide +kernel
theorem dX8_undo_7 : decode cX8_undo 7 = .ok (.sipush (-1005), 3) := by decide +kernel
theorem dX8_undo_10 : decode cX8_undo 10 = .ok (.ireturn, 1) := by decide +kernel
theorem dX8_undo_11 : decode cX8_undo 11 = .ok (.aload_n 0, 1) := by decide +kernel
theorem dX8_undo_12 : decode cX8_undo 12 = .ok (.dup, 1) := by decide +kernel
theorem dX8_undo_13 : decode cX8_undo 13 = .ok (.getfield 69, 3) := by decide +kernel
theorem dX8_undo_16 : decode cX8_undo 16 = .ok (.iconst 1, 1) := by decide +kernel
theorem dX8_undo_17 : decode cX8_undo 17 = .ok (.isub, 1) := by decide +kernel
theorem dX8_undo_18 : decode cX8_undo 18 = .ok (.putfield 69, 3) := by decide +kernel
theorem dX8_undo_21 : decode cX8_undo 21 = .ok (.iconst 0, 1) := by decide +kernel
theorem dX8_undo_22 : decode cX8_undo 22 = .ok (.istore_n 1, 1) := by decide +kernel
theorem dX8_undo_23 : decode cX8_undo 23 = .ok (.iload_n 1, 1) := by decide +kernel
theorem dX8_undo_24 : decode cX8_undo 24 = .ok (.bipush 46, 2) := by decide +kernel
theorem dX8_undo_26 : decode cX8_undo 26 = .ok (.if_icmp .ge 29, 3) := by decide +kernel
theorem dX8_undo_29 : decode cX8_undo 29 = .ok (.aload_n 0, 1) := by decide +kernel
theorem dX8_undo_30 : decode cX8_undo 30 = .ok (.getfield 7, 3) := by decide +kernel
theorem dX8_undo_33 : decode cX8_undo 33 = .ok (.iload_n 1, 1) := by decide +kernel
theorem dX8_undo_34 : decode cX8_undo 34 = .ok (.aload_n 0, 1) := by decide +kernel
theorem dX8_undo_35 : decode cX8_undo 35 = .ok (.getfield 16, 3) := by decide +kernel
theorem dX8_undo_38 : decode cX8_undo 38 = .ok (.bipush 46, 2) := by decide +kernel
theorem dX8_undo_40 : decode cX8_undo 40 = .ok (.aload_n 0, 1) := by decide +kernel
theorem dX8_undo_41 : decode cX8_undo 41 = .ok (.getfield 69, 3) := by decide +kernel
theorem dX8_undo_44 : decode cX8_undo 44 = .ok (.imul, 1) := by decide +kernel
theorem dX8_undo_45 : decode cX8_undo 45 = .ok (.iload_n 1, 1) := by decide +kernel
theorem dX8_undo_46 : decode cX8_undo 46 = .ok (.iadd, 1) := by decide +kernel
theorem dX8_undo_47 : decode cX8_undo 47 = .ok (.iaload, 1) := by decide +kernel
theorem dX8_undo_48 : decode cX8_undo 48 = .ok (.iastore, 1) := by decide +kernel
theorem dX8_undo_49 : decode cX8_undo 49 = .ok (.iinc 1 1, 3) := by decide +kernel
theorem dX8_undo_52 : decode cX8_undo 52 = .ok (.goto (-29), 3) := by decide +kernel
theorem dX8_undo_55 : decode cX8_undo 55 = .ok (.aload_n 0, 1) := by decide +kernel
theorem dX8_undo_56 : decode cX8_undo 56 = .ok (.getfield 69, 3) := by decide +kernel
theorem dX8_undo_59 : decode cX8_undo 59 = .ok (.ireturn, 1) := by decide +kernel
theorem dX8_keep_0 : decode cX8_keep 0 = .ok (.aload_n 0, 1) := by decide +kernel
theorem dX8_keep_1 : decode cX8_keep 1 = .ok (.getfield 7, 3) := by decide +kernel
theorem dX8_keep_4 : decode cX8_keep 4 = .ok (.aload_n 0, 1) := by decide +kernel
theorem dX8_keep_5 : decode cX8_keep 5 = .ok (.getfield 19, 3) := by decide +kernel
theorem dX8_keep_8 : decode cX8_keep 8 = .ok (.invokestatic 65, 3) := by decide +kernel
theorem dX8_keep_11 : decode cX8_keep 11 = .ok (.aload_n 0, 1) := by decide +kernel
theorem dX8_keep_12 : decode cX8_keep 12 = .ok (.iconst 1, 1) := by decide +kernel
theorem dX8_keep_13 : decode cX8_keep 13 = .ok (.putfield 225, 3) := by decide +kernel
theorem dX8_keep_16 : decode cX8_keep 16 = .ok (.aload_n 0, 1) := by decide +kernel
theorem dX8_keep_17 : decode cX8_keep 17 = .ok (.invokevirtual 175, 3) := by decide +kernel
theorem dX8_keep_20 : decode cX8_keep 20 = .ok (.ireturn, 1) := by decide +kernel
theorem dX8_restore_0 : decode cX8_restore 0 = .ok (.aload_n 0, 1) := by decide +kernel
theorem dX8_restore_1 : decode cX8_restore 1 = .ok (.getfield 225, 3) := by decide +kernel
theorem dX8_restore_4 : decode cX8_restore 4 = .ok (.ifCond .ne 7, 3) := by decide +kernel
theorem dX8_restore_7 : decode cX8_restore 7 = .ok (.sipush (-1005), 3) := by decide +kernel
theorem dX8_restore_10 : decode cX8_restore 10 = .ok (.ireturn, 1) := by decide +kernel
theorem dX8_restore_11 : decode cX8_restore 11 = .ok (.aload_n 0, 1) := by decide +kernel
theorem dX8_restore_12 : decode cX8_restore 12 = .ok (.invokevirtual 169, 3) := by decide +kernel
theorem dX8_restore_15 : decode cX8_restore 15 = .ok (.aload_n 0, 1) := by decide +kernel
theorem dX8_restore_16 : decode cX8_restore 16 = .ok (.getfield 19, 3) := by decide +kernel
theorem dX8_restore_19 : decode cX8_restore 19 = .ok (.aload_n 0, 1) := by decide +kernel
theorem dX8_restore_20 : decode cX8_restore 20 = .ok (.getfield 7, 3) := by decide +kernel
theorem dX8_restore_23 : decode cX8_restore 23 = .ok (.invokestatic 65, 3) := by decide +kernel
theorem dX8_restore_26 : decode cX8_restore 26 = .ok (.aload_n 0, 1) := by decide +kernel
theorem dX8_restore_27 : decode cX8_restore 27 = .ok (.aload_n 0, 1) := by decide +kernel
theorem dX8_restore_28 : decode cX8_restore 28 = .ok (.invokevirtual 175, 3) := by decide +kernel
theorem dX8_restore_31 : decode cX8_restore 31 = .ok (.invokevirtual 172, 3) := by decide +kernel
theorem dX8_restore_34 : decode cX8_restore 34 = .ok (.ireturn, 1) := by decide +kernel
theorem dX8_neighbours_0 : decode cX8_neighbours 0 = .ok (.iconst 0, 1) := by decide +kernel
theorem dX8_neighbours_1 : decode cX8_neighbours 1 = .ok (.istore 4, 2) := by decide +kernel
theorem dX8_neighbours_3 : decode cX8_neighbours 3 = .ok (.aload_n 0, 1) := by decide +kernel
theorem dX8_neighbours_4 : decode cX8_neighbours 4 = .ok (.iload_n 1, 1) := by decide +kernel
theorem dX8_neighbours_5 : decode cX8_neighbours 5 = .ok (.iload_n 2, 1) := by decide +kernel
theorem dX8_neighbours_6 : decode cX8_neighbours 6 = .ok (.invokevirtual 106, 3) := by decide +kernel
theorem dX8_neighbours_9 : decode cX8_neighbours 9 = .ok (.istore 5, 2) := by decide +kernel
theorem dX8_neighbours_11 : decode cX8_neighbours 11 = .ok (.iconst (-1), 1) := by decide +kernel
theorem dX8_neighbours_12 : decode cX8_neighbours 12 = .ok (.istore 6, 2) := by decide +kernel
theorem dX8_neighbours_14 : decode cX8_neighbours 14 = .ok (.iload 6, 2) := by decide +kernel
theorem dX8_neighbours_16 : decode cX8_neighbours 16 = .ok (.iconst 2, 1) := by decide +kernel
theorem dX8_neighbours_17 : decode cX8_neighbours 17 = .ok (.if_icmp .ge 91, 3) := by decide +kernel
theorem dX8_neighbours_20 : decode cX8_neighbours 20 = .ok (.aload_n 0, 1) := by decide +kernel
theorem dX8_neighbours_21 : decode cX8_neighbours 21 = .ok (.iload_n 2, 1) := by decide +kernel
theorem dX8_neighbours_22 : decode cX8_neighbours 22 = .ok (.iload 6, 2) := by decide +kernel
theorem dX8_neighbours_24 : decode cX8_neighbours 24 = .ok (.invokevirtual 92, 3) := by decide +kernel
theorem dX8_neighbours_27 : decode cX8_neighbours 27 = .ok (.istore 7, 2) := by decide +kernel
theorem dX8_neighbours_29 : decode cX8_neighbours 29 = .ok (.iload 4, 2) := by decide +kernel
theorem dX8_neighbours_31 : decode cX8_neighbours 31 = .ok (.iload 7, 2) := by decide +kernel
theorem dX8_neighbours_33 : decode cX8_neighbours 33 = .ok (.sipush (-1005), 3) := by decide +kernel
theorem dX8_neighbours_36 : decode cX8_neighbours 36 = .ok (.if_icmp .eq 23, 3) := by decide +kernel
theorem dX8_neighbours_39 : decode cX8_neighbours 39 = .ok (.iload_n 3, 1) := by decide +kernel
theorem dX8_neighbours_40 : decode cX8_neighbours 40 = .ok (.ifCond .eq 15, 3) := by decide +kernel
theorem dX8_neighbours_43 : decode cX8_neighbours 43 = .ok (.aload_n 0, 1) := by decide +kernel
theorem dX8_neighbours_44 : decode cX8_neighbours 44 = .ok (.iload_n 1, 1) := by decide +kernel
theorem dX8_neighbours_45 : decode cX8_neighbours 45 = .ok (.iload 7, 2) := by decide +kernel
theorem dX8_neighbours_47 : decode cX8_neighbours 47 = .ok (.invokevirtual 106, 3) := by decide +kernel
theorem dX8_neighbours_50 : decode cX8_neighbours 50 = .ok (.iload 5, 2) := by decide +kernel
theorem dX8_neighbours_52 : decode cX8_neighbours 52 = .ok (.if_icmp .ne 7, 3) := by decide +kernel
theorem dX8_neighbours_55 : decode cX8_neighbours 55 = .ok (.iconst 1, 1) := by decide +kernel
theorem dX8_neighbours_56 : decode cX8_neighbours 56 = .ok (.goto 4, 3) := by decide +kernel
theorem dX8_neighbours_59 : decode cX8_neighbours 59 = .ok (.iconst 0, 1) := by decide +kernel
theorem dX8_neighbours_60 : decode cX8_neighbours 60 = .ok (.iadd, 1) := by decide +kernel
theorem dX8_neighbours_61 : decode cX8_neighbours 61 = .ok (.istore 4, 2) := by decide +kernel
theorem dX8_neighbours_63 : decode cX8_neighbours 63 = .ok (.iload 4, 2) := by decide +kernel
theorem dX8_neighbours_65 : decode cX8_neighbours 65 = .ok (.aload_n 0, 1) := by decide +kernel
theorem dX8_neighbours_66 : decode cX8_neighbours 66 = .ok (.iload_n 1, 1) := by decide +kernel
theorem dX8_neighbours_67 : decode cX8_neighbours 67 = .ok (.iload 6, 2) := by decide +kernel
theorem dX8_neighbours_69 : decode cX8_neighbours 69 = .ok (.iadd, 1) := by decide +kernel
theorem dX8_neighbours_70 : decode cX8_neighbours 70 = .ok (.invokevirtual 109, 3) := by decide +kernel
theorem dX8_neighbours_73 : decode cX8_neighbours 73 = .ok (.ifCond .eq 25, 3) := by decide +kernel
theorem dX8_neighbours_76 : decode cX8_neighbours 76 = .ok (.iload_n 3, 1) := by decide +kernel
theorem dX8_neighbours_77 : decode cX8_neighbours 77 = .ok (.ifCond .eq 17, 3) := by decide +kernel
theorem dX8_neighbours_80 : decode cX8_neighbours 80 = .ok (.aload_n 0, 1) := by decide +kernel
theorem dX8_neighbours_81 : decode cX8_neighbours 81 = .ok (.iload_n 1, 1) := by decide +kernel
theorem dX8_neighbours_82 : decode cX8_neighbours 82 = .ok (.iload 6, 2) := by decide +kernel
theorem dX8_neighbours_84 : decode cX8_neighbours 84 = .ok (.iadd, 1) := by decide +kernel
theorem dX8_neighbours_85 : decode cX8_neighbours 85 = .ok (.iload_n 2, 1) := by decide +kernel
theorem dX8_neighbours_86 : decode cX8_neighbours 86 = .ok (.invokevirtual 106, 3) := by decide +kernel
theorem dX8_neighbours_89 : decode cX8_neighbours 89 = .ok (.iload 5, 2) := by decide +kernel
theorem dX8_neighbours_91 : decode cX8_neighbours 91 = .ok (.if_icmp .ne 7, 3) := by decide +kernel
theorem dX8_neighbours_94 : decode cX8_neighbours 94 = .ok (.iconst 1, 1) := by decide +kernel
theorem dX8_neighbours_95 : decode cX8_neighbours 95 = .ok (.goto 4, 3) := by decide +kernel
theorem dX8_neighbours_98 : decode cX8_neighbours 98 = .ok (.iconst 0, 1) := by decide +kernel
theorem dX8_neighbours_99 : decode cX8_neighbours 99 = .ok (.iadd, 1) := by decide +kernel
theorem dX8_neighbours_100 : decode cX8_neighbours 100 = .ok (.istore 4, 2) := by decide +kernel
theorem dX8_neighbours_102 : decode cX8_neighbours 102 = .ok (.iinc 6 2, 3) := by decide +kernel
theorem dX8_neighbours_105 : decode cX8_neighbours 105 = .ok (.goto (-91), 3) := by decide +kernel
theorem dX8_neighbours_108 : decode cX8_neighbours 108 = .ok (.iload 4, 2) := by decide +kernel
theorem dX8_neighbours_110 : decode cX8_neighbours 110 = .ok (.ireturn, 1) := by decide +kernel
theorem dX8_cell_0 : decode cX8_cell 0 = .ok (.aload_n 0, 1) := by decide +kernel
theorem dX8_cell_1 : decode cX8_cell 1 = .ok (.iload_n 1, 1) := by decide +kernel
theorem dX8_cell_2 : decode cX8_cell 2 = .ok (.invokevirtual 109, 3) := by decide +kernel
theorem dX8_cell_5 : decode cX8_cell 5 = .ok (.ifCond .eq 11, 3) := by decide +kernel
theorem dX8_cell_8 : decode cX8_cell 8 = .ok (.aload_n 0, 1) := by decide +kernel
theorem dX8_cell_9 : decode cX8_cell 9 = .ok (.iload_n 2, 1) := by decide +kernel
theorem dX8_cell_10 : decode cX8_cell 10 = .ok (.invokevirtual 81, 3) := by decide +kernel
theorem dX8_cell_13 : decode cX8_cell 13 = .ok (.ifCond .ne 7, 3) := by decide +kernel
theorem dX8_cell_16 : decode cX8_cell 16 = .ok (.sipush (-1001), 3) := by decide +kernel
theorem dX8_cell_19 : decode cX8_cell 19 = .ok (.ireturn, 1) := by decide +kernel
theorem dX8_cell_20 : decode cX8_cell 20 = .ok (.aload_n 0, 1) := by decide +kernel
theorem dX8_cell_21 : decode cX8_cell 21 = .ok (.iload_n 1, 1) := by decide +kernel
theorem dX8_cell_22 : decode cX8_cell 22 = .ok (.iload_n 2, 1) := by decide +kernel
theorem dX8_cell_23 : decode cX8_cell 23 = .ok (.invokevirtual 190, 3) := by decide +kernel
theorem dX8_cell_26 : decode cX8_cell 26 = .ok (.istore 4, 2) := by decide +kernel
theorem dX8_cell_28 : decode cX8_cell 28 = .ok (.iload_n 3, 1) := by decide +kernel
theorem dX8_cell_29 : decode cX8_cell 29 = .ok (.tableswitch 112 0 6 #[43, 50, 57, 60, 80, 80, 97], 43) := by decide +kernel
theorem dX8_cell_72 : decode cX8_cell 72 = .ok (.aload_n 0, 1) := by decide +kernel
theorem dX8_cell_73 : decode cX8_cell 73 = .ok (.iload_n 1, 1) := by decide +kernel
theorem dX8_cell_74 : decode cX8_cell 74 = .ok (.iload_n 2, 1) := by decide +kernel
theorem dX8_cell_75 : decode cX8_cell 75 = .ok (.invokevirtual 106, 3) := by decide +kernel
theorem dX8_cell_78 : decode cX8_cell 78 = .ok (.ireturn, 1) := by decide +kernel
theorem dX8_cell_79 : decode cX8_cell 79 = .ok (.aload_n 0, 1) := by decide +kernel
theorem dX8_cell_80 : decode cX8_cell 80 = .ok (.iload_n 1, 1) := by decide +kernel
theorem dX8_cell_81 : decode cX8_cell 81 = .ok (.iload_n 2, 1) := by decide +kernel
theorem dX8_cell_82 : decode cX8_cell 82 = .ok (.invokevirtual 89, 3) := by decide +kernel
theorem dX8_cell_85 : decode cX8_cell 85 = .ok (.ireturn, 1) := by decide +kernel
theorem dX8_cell_86 : decode cX8_cell 86 = .ok (.iload 4, 2) := by decide +kernel
theorem dX8_cell_88 : decode cX8_cell 88 = .ok (.ireturn, 1) := by decide +kernel
theorem dX8_cell_89 : decode cX8_cell 89 = .ok (.iload 4, 2) := by decide +kernel
theorem dX8_cell_91 : decode cX8_cell 91 = .ok (.ifCond .le 7, 3) := by decide +kernel
theorem dX8_cell_94 : decode cX8_cell 94 = .ok (.iconst 0, 1) := by decide +kernel
theorem dX8_cell_95 : decode cX8_cell 95 = .ok (.goto 13, 3) := by decide +kernel
theorem dX8_cell_98 : decode cX8_cell 98 = .ok (.iload 4, 2) := by decide +kernel
theorem dX8_cell_100 : decode cX8_cell 100 = .ok (.ifCond .ne 7, 3) := by decide +kernel
theorem dX8_cell_103 : decode cX8_cell 103 = .ok (.iconst 1, 1) := by decide +kernel
theorem dX8_cell_104 : decode cX8_cell 104 = .ok (.goto 4, 3) := by decide +kernel
theorem dX8_cell_107 : decode cX8_cell 107 = .ok (.iconst 2, 1) := by decide +kernel
theorem dX8_cell_108 : decode cX8_cell 108 = .ok (.ireturn, 1) := by decide +kernel
theorem dX8_cell_109 : decode cX8_cell 109 = .ok (.aload_n 0, 1) := by decide +kernel
theorem dX8_cell_110 : decode cX8_cell 110 = .ok (.iload_n 1, 1) := by decide +kernel
theorem dX8_cell_111 : decode cX8_cell 111 = .ok (.iload_n 2, 1) := by decide +kernel
theorem dX8_cell_112 : decode cX8_cell 112 = .ok (.iload_n 3, 1) := by decide +kernel
theorem dX8_cell_113 : decode cX8_cell 113 = .ok (.iconst 5, 1) := by decide +kernel
theorem dX8_cell_114 : decode cX8_cell 114 = .ok (.if_icmp .ne 7, 3) := by decide +kernel
theorem dX8_cell_117 : decode cX8_cell 117 = .ok (.iconst 1, 1) := by decide +kernel
theorem dX8_cell_118 : decode cX8_cell 118 = .ok (.goto 4, 3) := by decide +kernel
theorem dX8_cell_121 : decode cX8_cell 121 = .ok (.iconst 0, 1) := by decide +kernel
theorem dX8_cell_122 : decode cX8_cell 122 = .ok (.invokevirtual 228, 3) := by decide +kernel
theorem dX8_cell_125 : decode cX8_cell 125 = .ok (.ireturn, 1) := by decide +kernel
theorem dX8_cell_126 : decode cX8_cell 126 = .ok (.aload_n 0, 1) := by decide +kernel
theorem dX8_cell_127 : decode cX8_cell 127 = .ok (.invokevirtual 156, 3) := by decide +kernel
theorem dX8_cell_130 : decode cX8_cell 130 = .ok (.aload_n 0, 1) := by decide +kernel
theorem dX8_cell_131 : decode cX8_cell 131 = .ok (.iload_n 1, 1) := by decide +kernel
theorem dX8_cell_132 : decode cX8_cell 132 = .ok (.iload_n 2, 1) := by decide +kernel
theorem dX8_cell_133 : decode cX8_cell 133 = .ok (.invokevirtual 162, 3) := by decide +kernel
theorem dX8_cell_136 : decode cX8_cell 136 = .ok (.aload_n 0, 1) := by decide +kernel
theorem dX8_cell_137 : decode cX8_cell 137 = .ok (.getfield 149, 3) := by decide +kernel
theorem dX8_cell_140 : decode cX8_cell 140 = .ok (.ireturn, 1) := by decide +kernel
theorem dX8_cell_141 : decode cX8_cell 141 = .ok (.sipush (-1002), 3) := by decide +kernel
theorem dX8_cell_144 : decode cX8_cell 144 = .ok (.ireturn, 1) := by decide +kernel
theorem dX8_column_0 : decode cX8_column 0 = .ok (.aload_n 0, 1) := by decide +kernel
theorem dX8_column_1 : decode cX8_column 1 = .ok (.iload_n 1, 1) := by decide +kernel
theorem dX8_column_2 : decode cX8_column 2 = .ok (.invokevirtual 81, 3) := by decide +kernel
theorem dX8_column_5 : decode cX8_column 5 = .ok (.ifCond .eq 15, 3) := by decide +kernel
theorem dX8_column_8 : decode cX8_column 8 = .ok (.aload_n 0, 1) := by decide +kernel
theorem dX8_column_9 : decode cX8_column 9 = .ok (.getfield 7, 3) := by decide +kernel
theorem dX8_column_12 : decode cX8_column 12 = .ok (.bipush 6, 2) := by decide +kernel
theorem dX8_column_14 : decode cX8_column 14 = .ok (.iload_n 1, 1) := by decide +kernel
theorem dX8_column_15 : decode cX8_column 15 = .ok (.iadd, 1) := by decide +kernel
theorem dX8_column_16 : decode cX8_column 16 = .ok (.iaload, 1) := by decide +kernel
theorem dX8_column_17 : decode cX8_column 17 = .ok (.goto 6, 3) := by decide +kernel
theorem dX8_column_20 : decode cX8_column 20 = .ok (.sipush (-1001), 3) := by decide +kernel
theorem dX8_column_23 : decode cX8_column 23 = .ok (.ireturn, 1) := by decide +kernel
theorem dX8_withEnergy_0 : decode cX8_withEnergy 0 = .ok (.aload_n 0, 1) := by decide +kernel
theorem dX8_withEnergy_1 : decode cX8_withEnergy 1 = .ok (.iconst 0, 1) := by decide +kernel
theorem dX8_withEnergy_2 : decode cX8_withEnergy 2 = .ok (.iload_n 1, 1) := by decide +kernel
theorem dX8_withEnergy_3 : decode cX8_withEnergy 3 = .ok (.invokevirtual 232, 3) := by decide +kernel
theorem dX8_withEnergy_6 : decode cX8_withEnergy 6 = .ok (.ireturn, 1) := by decide +kernel
theorem dX8_withWalls_0 : decode cX8_withWalls 0 = .ok (.aload_n 0, 1) := by decide +kernel
theorem dX8_withWalls_1 : decode cX8_withWalls 1 = .ok (.iconst 1, 1) := by decide +kernel
theorem dX8_withWalls_2 : decode cX8_withWalls 2 = .ok (.iload_n 1, 1) := by decide +kernel
theorem dX8_withWalls_3 : decode cX8_withWalls 3 = .ok (.invokevirtual 232, 3) := by decide +kernel
theorem dX8_withWalls_6 : decode cX8_withWalls 6 = .ok (.ireturn, 1) := by decide +kernel
theorem dX8_choices_0 : decode cX8_choices 0 = .ok (.lconst 1, 1) := by decide +kernel
theorem dX8_choices_1 : decode cX8_choices 1 = .ok (.lstore_n 2, 1) := by decide +kernel
theorem dX8_choices_2 : decode cX8_choices 2 = .ok (.iconst 0, 1) := by decide +kernel
theorem dX8_choices_3 : decode cX8_choices 3 = .ok (.istore 4, 2) := by decide +kernel
theorem dX8_choices_5 : decode cX8_choices 5 = .ok (.iload 4, 2) := by decide +kernel
theorem dX8_choices_7 : decode cX8_choices 7 = .ok (.iload_n 1, 1) := by decide +kernel
theorem dX8_choices_8 : decode cX8_choices 8 = .ok (.if_icmp .ge 23, 3) := by decide +kernel
theorem dX8_choices_11 : decode cX8_choices 11 = .ok (.lload_n 2, 1) := by decide +kernel
theorem dX8_choices_12 : decode cX8_choices 12 = .ok (.iload_n 0, 1) := by decide +kernel
theorem dX8_choices_13 : decode cX8_choices 13 = .ok (.iload 4, 2) := by decide +kernel
theorem dX8_choices_15 : decode cX8_choices 15 = .ok (.isub, 1) := by decide +kernel
theorem dX8_choices_16 : decode cX8_choices 16 = .ok (.i2l, 1) := by decide +kernel
theorem dX8_choices_17 : decode cX8_choices 17 = .ok (.lmul, 1) := by decide +kernel
theorem dX8_choices_18 : decode cX8_choices 18 = .ok (.iload 4, 2) := by decide +kernel
theorem dX8_choices_20 : decode cX8_choices 20 = .ok (.iconst 1, 1) := by decide +kernel
theorem dX8_choices_21 : decode cX8_choices 21 = .ok (.iadd, 1) := by decide +kernel
theorem dX8_choices_22 : decode cX8_choices 22 = .ok (.i2l, 1) := by decide +kernel
theorem dX8_choices_23 : decode cX8_choices 23 = .ok (.ldiv, 1) := by decide +kernel
theorem dX8_choices_24 : decode cX8_choices 24 = .ok (.lstore_n 2, 1) := by decide +kernel
theorem dX8_choices_25 : decode cX8_choices 25 = .ok (.iinc 4 1, 3) := by decide +kernel
theorem dX8_choices_28 : decode cX8_choices 28 = .ok (.goto (-23), 3) := by decide +kernel
theorem dX8_choices_31 : decode cX8_choices 31 = .ok (.lload_n 2, 1) := by decide +kernel
theorem dX8_choices_32 : decode cX8_choices 32 = .ok (.l2i, 1) := by decide +kernel
theorem dX8_choices_33 : decode cX8_choices 33 = .ok (.ireturn, 1) := by decide +kernel
theorem dX8_withUps_0 : decode cX8_withUps 0 = .ok (.iload_n 1, 1) := by decide +kernel
theorem dX8_withUps_1 : decode cX8_withUps 1 = .ok (.i2l, 1) := by decide +kernel
theorem dX8_withUps_2 : decode cX8_withUps 2 = .ok (.lconst 0, 1) := by decide +kernel
theorem dX8_withUps_3 : decode cX8_withUps 3 = .ok (.aload_n 0, 1) := by decide +kernel
theorem dX8_withUps_4 : decode cX8_withUps 4 = .ok (.invokevirtual 159, 3) := by decide +kernel
theorem dX8_withUps_7 : decode cX8_withUps 7 = .ok (.i2l, 1) := by decide +kernel
theorem dX8_withUps_8 : decode cX8_withUps 8 = .ok (.invokestatic 73, 3) := by decide +kernel
theorem dX8_withUps_11 : decode cX8_withUps 11 = .ok (.ifCond .ne 5, 3) := by decide +kernel
theorem dX8_withUps_14 : decode cX8_withUps 14 = .ok (.iconst 0, 1) := by decide +kernel
theorem dX8_withUps_15 : decode cX8_withUps 15 = .ok (.ireturn, 1) := by decide +kernel
theorem dX8_withUps_16 : decode cX8_withUps 16 = .ok (.iload_n 2, 1) := by decide +kernel
theorem dX8_withUps_17 : decode cX8_withUps 17 = .ok (.ifCond .ne 12, 3) := by decide +kernel
theorem dX8_withUps_20 : decode cX8_withUps 20 = .ok (.aload_n 0, 1) := by decide +kernel
theorem dX8_withUps_21 : decode cX8_withUps 21 = .ok (.invokevirtual 159, 3) := by decide +kernel
theorem dX8_withUps_24 : decode cX8_withUps 24 = .ok (.iload_n 1, 1) := by decide +kernel
theorem dX8_withUps_25 : decode cX8_withUps 25 = .ok (.invokestatic 235, 3) := by decide +kernel
theorem dX8_withUps_28 : decode cX8_withUps 28 = .ok (.ireturn, 1) := by decide +kernel
theorem dX8_withUps_29 : decode cX8_withUps 29 = .ok (.aload_n 0, 1) := by decide +kernel
theorem dX8_withUps_30 : decode cX8_withUps 30 = .ok (.invokevirtual 198, 3) := by decide +kernel
theorem dX8_withUps_33 : decode cX8_withUps 33 = .ok (.istore_n 3, 1) := by decide +kernel
theorem dX8_withUps_34 : decode cX8_withUps 34 = .ok (.aload_n 0, 1) := by decide +kernel
theorem dX8_withUps_35 : decode cX8_withUps 35 = .ok (.getfield 43, 3) := by decide +kernel
theorem dX8_withUps_38 : decode cX8_withUps 38 = .ok (.iload_n 1, 1) := by decide +kernel
theorem dX8_withUps_39 : decode cX8_withUps 39 = .ok (.iaload, 1) := by decide +kernel
theorem dX8_withUps_40 : decode cX8_withUps 40 = .ok (.iload_n 3, 1) := by decide +kernel
theorem dX8_withUps_41 : decode cX8_withUps 41 = .ok (.if_icmp .ne 12, 3) := by decide +kernel
theorem dX8_withUps_44 : decode cX8_withUps 44 = .ok (.aload_n 0, 1) := by decide +kernel
theorem dX8_withUps_45 : decode cX8_withUps 45 = .ok (.getfield 46, 3) := by decide +kernel
theorem dX8_withUps_48 : decode cX8_withUps 48 = .ok (.iload_n 1, 1) := by decide +kernel
theorem dX8_withUps_49 : decode cX8_withUps 49 = .ok (.iaload, 1) := by decide +kernel
theorem dX8_withUps_50 : decode cX8_withUps 50 = .ok (.goto 4, 3) := by decide +kernel
theorem dX8_withUps_53 : decode cX8_withUps 53 = .ok (.iconst 0, 1) := by decide +kernel
theorem dX8_withUps_54 : decode cX8_withUps 54 = .ok (.ireturn, 1) := by decide +kernel
theorem dX8_heat_0 : decode cX8_heat 0 = .ok (.iload_n 1, 1) := by decide +kernel
theorem dX8_heat_1 : decode cX8_heat 1 = .ok (.i2l, 1) := by decide +kernel
theorem dX8_heat_2 : decode cX8_heat 2 = .ok (.ldc2_w 193, 3) := by decide +kernel
theorem dX8_heat_5 : decode cX8_heat 5 = .ok (.ldc2_w 238, 3) := by decide +kernel
theorem dX8_heat_8 : decode cX8_heat 8 = .ok (.invokestatic 73, 3) := by decide +kernel
theorem dX8_heat_11 : decode cX8_heat 11 = .ok (.ifCond .ne 5, 3) := by decide +kernel
theorem dX8_heat_14 : decode cX8_heat 14 = .ok (.iconst 0, 1) := by decide +kernel
theorem dX8_heat_15 : decode cX8_heat 15 = .ok (.ireturn, 1) := by decide +kernel
theorem dX8_heat_16 : decode cX8_heat 16 = .ok (.aload_n 0, 1) := by decide +kernel
theorem dX8_heat_17 : decode cX8_heat 17 = .ok (.iconst 0, 1) := by decide +kernel
theorem dX8_heat_18 : decode cX8_heat 18 = .ok (.invokevirtual 120, 3) := by decide +kernel
theorem dX8_heat_21 : decode cX8_heat 21 = .ok (.iload_n 1, 1) := by decide +kernel
theorem dX8_heat_22 : decode cX8_heat 22 = .ok (.i2f, 1) := by decide +kernel
theorem dX8_heat_23 : decode cX8_heat 23 = .ok (.ldc 240, 2) := by decide +kernel
theorem dX8_heat_25 : decode cX8_heat 25 = .ok (.fdiv, 1) := by decide +kernel
theorem dX8_heat_26 : decode cX8_heat 26 = .ok (.fstore_n 3, 1) := by decide +kernel
theorem dX8_heat_27 : decode cX8_heat 27 = .ok (.fconst 1, 1) := by decide +kernel
theorem dX8_heat_28 : decode cX8_heat 28 = .ok (.fstore 4, 2) := by decide +kernel
theorem dX8_heat_30 : decode cX8_heat 30 = .ok (.fconst 0, 1) := by decide +kernel
theorem dX8_heat_31 : decode cX8_heat 31 = .ok (.fstore 5, 2) := by decide +kernel
theorem dX8_heat_33 : decode cX8_heat 33 = .ok (.fconst 0, 1) := by decide +kernel
theorem dX8_heat_34 : decode cX8_heat 34 = .ok (.fstore 6, 2) := by decide +kernel
theorem dX8_heat_36 : decode cX8_heat 36 = .ok (.aload_n 0, 1) := by decide +kernel
theorem dX8_heat_37 : decode cX8_heat 37 = .ok (.invokevirtual 241, 3) := by decide +kernel
theorem dX8_heat_40 : decode cX8_heat 40 = .ok (.istore 7, 2) := by decide +kernel
theorem dX8_heat_42 : decode cX8_heat 42 = .ok (.iload 7, 2) := by decide +kernel
theorem dX8_heat_44 : decode cX8_heat 44 = .ok (.aload_n 0, 1) := by decide +kernel
theorem dX8_heat_45 : decode cX8_heat 45 = .ok (.invokevirtual 244, 3) := by decide +kernel
theorem dX8_heat_48 : decode cX8_heat 48 = .ok (.if_icmp .gt 50, 3) := by decide +kernel
theorem dX8_heat_51 : decode cX8_heat 51 = .ok (.aload_n 0, 1) := by decide +kernel
theorem dX8_heat_52 : decode cX8_heat 52 = .ok (.getfield 22, 3) := by decide +kernel
theorem dX8_heat_55 : decode cX8_heat 55 = .ok (.sipush 200, 3) := by decide +kernel
theorem dX8_heat_58 : decode cX8_heat 58 = .ok (.iload 7, 2) := by decide +kernel
theorem dX8_heat_60 : decode cX8_heat 60 = .ok (.iadd, 1) := by decide +kernel
theorem dX8_heat_61 : decode cX8_heat 61 = .ok (.iaload, 1) := by decide +kernel
theorem dX8_heat_62 : decode cX8_heat 62 = .ok (.i2f, 1) := by decide +kernel
theorem dX8_heat_63 : decode cX8_heat 63 = .ok (.fload 4, 2) := by decide +kernel
theorem dX8_heat_65 : decode cX8_heat 65 = .ok (.fmul, 1) := by decide +kernel
theorem dX8_heat_66 : decode cX8_heat 66 = .ok (.fstore 8, 2) := by decide +kernel
theorem dX8_heat_68 : decode cX8_heat 68 = .ok (.fload 5, 2) := by decide +kernel
theorem dX8_heat_70 : decode cX8_heat 70 = .ok (.fload 8, 2) := by decide +kernel
theorem dX8_heat_72 : decode cX8_heat 72 = .ok (.fadd, 1) := by decide +kernel
theorem dX8_heat_73 : decode cX8_heat 73 = .ok (.fstore 5, 2) := by decide +kernel
theorem dX8_heat_75 : decode cX8_heat 75 = .ok (.fload 6, 2) := by decide +kernel
theorem dX8_heat_77 : decode cX8_heat 77 = .ok (.fload 8, 2) := by decide +kernel
theorem dX8_heat_79 : decode cX8_heat 79 = .ok (.iload 7, 2) := by decide +kernel
theorem dX8_heat_81 : decode cX8_heat 81 = .ok (.i2f, 1) := by decide +kernel
theorem dX8_heat_82 : decode cX8_heat 82 = .ok (.fmul, 1) := by decide +kernel
theorem dX8_heat_83 : decode cX8_heat 83 = .ok (.fadd, 1) := by decide +kernel
theorem dX8_heat_84 : decode cX8_heat 84 = .ok (.fstore 6, 2) := by decide +kernel
theorem dX8_heat_86 : decode cX8_heat 86 = .ok (.fload 4, 2) := by decide +kernel
theorem dX8_heat_88 : decode cX8_heat 88 = .ok (.fload_n 3, 1) := by decide +kernel
theorem dX8_heat_89 : decode cX8_heat 89 = .ok (.fmul, 1) := by decide +kernel
theorem dX8_heat_90 : decode cX8_heat 90 = .ok (.fstore 4, 2) := by decide +kernel
theorem dX8_heat_92 : decode cX8_heat 92 = .ok (.iinc 7 1, 3) := by decide +kernel
theorem dX8_heat_95 : decode cX8_heat 95 = .ok (.goto (-53), 3) := by decide +kernel
theorem dX8_heat_98 : decode cX8_heat 98 = .ok (.iload_n 2, 1) := by decide +kernel
theorem dX8_heat_99 : decode cX8_heat 99 = .ok (.ifCond .eq 11, 3) := by decide +kernel
theorem dX8_heat_102 : decode cX8_heat 102 = .ok (.fload 6, 2) := by decide +kernel
theorem dX8_heat_104 : decode cX8_heat 104 = .ok (.fload 5, 2) := by decide +kernel
theorem dX8_heat_106 : decode cX8_heat 106 = .ok (.fdiv, 1) := by decide +kernel
theorem dX8_heat_107 : decode cX8_heat 107 = .ok (.goto 5, 3) := by decide +kernel
theorem dX8_heat_110 : decode cX8_heat 110 = .ok (.fload 5, 2) := by decide +kernel
theorem dX8_heat_112 : decode cX8_heat 112 = .ok (.invokestatic 247, 3) := by decide +kernel
theorem dX8_heat_115 : decode cX8_heat 115 = .ok (.ireturn, 1) := by decide +kernel
theorem dX8_upsNow_0 : decode cX8_upsNow 0 = .ok (.iconst 0, 1) := by decide +kernel
theorem dX8_upsNow_1 : decode cX8_upsNow 1 = .ok (.istore_n 1, 1) := by decide +kernel
theorem dX8_upsNow_2 : decode cX8_upsNow 2 = .ok (.iconst 0, 1) := by decide +kernel
theorem dX8_upsNow_3 : decode cX8_upsNow 3 = .ok (.istore_n 2, 1) := by decide +kernel
theorem dX8_upsNow_4 : decode cX8_upsNow 4 = .ok (.iload_n 2, 1) := by decide +kernel
theorem dX8_upsNow_5 : decode cX8_upsNow 5 = .ok (.aload_n 0, 1) := by decide +kernel
theorem dX8_upsNow_6 : decode cX8_upsNow 6 = .ok (.getfield 7, 3) := by decide +kernel
theorem dX8_upsNow_9 : decode cX8_upsNow 9 = .ok (.iconst 0, 1) := by decide +kernel
theorem dX8_upsNow_10 : decode cX8_upsNow 10 = .ok (.iaload, 1) := by decide +kernel
theorem dX8_upsNow_11 : decode cX8_upsNow 11 = .ok (.if_icmp .ge 24, 3) := by decide +kernel
theorem dX8_upsNow_14 : decode cX8_upsNow 14 = .ok (.iload_n 1, 1) := by decide +kernel
theorem dX8_upsNow_15 : decode cX8_upsNow 15 = .ok (.aload_n 0, 1) := by decide +kernel
theorem dX8_upsNow_16 : decode cX8_upsNow 16 = .ok (.getfield 7, 3) := by decide +kernel
theorem dX8_upsNow_19 : decode cX8_upsNow 19 = .ok (.bipush 6, 2) := by decide +kernel
theorem dX8_upsNow_21 : decode cX8_upsNow 21 = .ok (.iload_n 2, 1) := by decide +kernel
theorem dX8_upsNow_22 : decode cX8_upsNow 22 = .ok (.iadd, 1) := by decide +kernel
theorem dX8_upsNow_23 : decode cX8_upsNow 23 = .ok (.iaload, 1) := by decide +kernel
theorem dX8_upsNow_24 : decode cX8_upsNow 24 = .ok (.invokestatic 129, 3) := by decide +kernel
theorem dX8_upsNow_27 : decode cX8_upsNow 27 = .ok (.iadd, 1) := by decide +kernel
theorem dX8_upsNow_28 : decode cX8_upsNow 28 = .ok (.istore_n 1, 1) := by decide +kernel
theorem dX8_upsNow_29 : decode cX8_upsNow 29 = .ok (.iinc 2 1, 3) := by decide +kernel
theorem dX8_upsNow_32 : decode cX8_upsNow 32 = .ok (.goto (-28), 3) := by decide +kernel
theorem dX8_upsNow_35 : decode cX8_upsNow 35 = .ok (.iload_n 1, 1) := by decide +kernel
theorem dX8_upsNow_36 : decode cX8_upsNow 36 = .ok (.ireturn, 1) := by decide +kernel
theorem dX8_thatWouldTurn_0 : decode cX8_thatWouldTurn 0 = .ok (.iconst 0, 1) := by decide +kernel
theorem dX8_thatWouldTurn_1 : decode cX8_thatWouldTurn 1 = .ok (.istore_n 1, 1) := by decide +kernel
theorem dX8_thatWouldTurn_2 : decode cX8_thatWouldTurn 2 = .ok (.iconst 0, 1) := by decide +kernel
theorem dX8_thatWouldTurn_3 : decode cX8_thatWouldTurn 3 = .ok (.istore_n 2, 1) := by decide +kernel
theorem dX8_thatWouldTurn_4 : decode cX8_thatWouldTurn 4 = .ok (.iload_n 2, 1) := by decide +kernel
theorem dX8_thatWouldTurn_5 : decode cX8_thatWouldTurn 5 = .ok (.aload_n 0, 1) := by decide +kernel
theorem dX8_thatWouldTurn_6 : decode cX8_thatWouldTurn 6 = .ok (.invokevirtual 159, 3) := by decide +kernel
theorem dX8_thatWouldTurn_9 : decode cX8_thatWouldTurn 9 = .ok (.if_icmp .ge 40, 3) := by decide +kernel
theorem dX8_thatWouldTurn_12 : decode cX8_thatWouldTurn 12 = .ok (.iload_n 1, 1) := by decide +kernel
theorem dX8_thatWouldTurn_13 : decode cX8_thatWouldTurn 13 = .ok (.aload_n 0, 1) := by decide +kernel
theorem dX8_thatWouldTurn_14 : decode cX8_thatWouldTurn 14 = .ok (.iload_n 2, 1) := by decide +kernel
theorem dX8_thatWouldTurn_15 : decode cX8_thatWouldTurn 15 = .ok (.aload_n 0, 1) := by decide +kernel
theorem dX8_thatWouldTurn_16 : decode cX8_thatWouldTurn 16 = .ok (.getfield 7, 3) := by decide +kernel
theorem dX8_thatWouldTurn_19 : decode cX8_thatWouldTurn 19 = .ok (.iconst 1, 1) := by decide +kernel
theorem dX8_thatWouldTurn_20 : decode cX8_thatWouldTurn 20 = .ok (.iaload, 1) := by decide +kernel
theorem dX8_thatWouldTurn_21 : decode cX8_thatWouldTurn 21 = .ok (.irem, 1) := by decide +kernel
theorem dX8_thatWouldTurn_22 : decode cX8_thatWouldTurn 22 = .ok (.iload_n 2, 1) := by decide +kernel
theorem dX8_thatWouldTurn_23 : decode cX8_thatWouldTurn 23 = .ok (.aload_n 0, 1) := by decide +kernel
theorem dX8_thatWouldTurn_24 : decode cX8_thatWouldTurn 24 = .ok (.getfield 7, 3) := by decide +kernel
theorem dX8_thatWouldTurn_27 : decode cX8_thatWouldTurn 27 = .ok (.iconst 1, 1) := by decide +kernel
theorem dX8_thatWouldTurn_28 : decode cX8_thatWouldTurn 28 = .ok (.iaload, 1) := by decide +kernel
theorem dX8_thatWouldTurn_29 : decode cX8_thatWouldTurn 29 = .ok (.idiv, 1) := by decide +kernel
theorem dX8_thatWouldTurn_30 : decode cX8_thatWouldTurn 30 = .ok (.invokevirtual 190, 3) := by decide +kernel
theorem dX8_thatWouldTurn_33 : decode cX8_thatWouldTurn 33 = .ok (.ifCond .le 7, 3) := by decide +kernel
theorem dX8_thatWouldTurn_36 : decode cX8_thatWouldTurn 36 = .ok (.iconst 1, 1) := by decide +kernel
theorem dX8_thatWouldTurn_37 : decode cX8_thatWouldTurn 37 = .ok (.goto 4, 3) := by decide +kernel
theorem dX8_thatWouldTurn_40 : decode cX8_thatWouldTurn 40 = .ok (.iconst 0, 1) := by decide +kernel
theorem dX8_thatWouldTurn_41 : decode cX8_thatWouldTurn 41 = .ok (.iadd, 1) := by decide +kernel
theorem dX8_thatWouldTurn_42 : decode cX8_thatWouldTurn 42 = .ok (.istore_n 1, 1) := by decide +kernel
theorem dX8_thatWouldTurn_43 : decode cX8_thatWouldTurn 43 = .ok (.iinc 2 1, 3) := by decide +kernel
theorem dX8_thatWouldTurn_46 : decode cX8_thatWouldTurn 46 = .ok (.goto (-42), 3) := by decide +kernel
theorem dX8_thatWouldTurn_49 : decode cX8_thatWouldTurn 49 = .ok (.iload_n 1, 1) := by decide +kernel
theorem dX8_thatWouldTurn_50 : decode cX8_thatWouldTurn 50 = .ok (.ireturn, 1) := by decide +kernel
theorem dX8_pairs_0 : decode cX8_pairs 0 = .ok (.aload_n 0, 1) := by decide +kernel
theorem dX8_pairs_1 : decode cX8_pairs 1 = .ok (.getfield 7, 3) := by decide +kernel
theorem dX8_pairs_4 : decode cX8_pairs 4 = .ok (.iconst 0, 1) := by decide +kernel
theorem dX8_pairs_5 : decode cX8_pairs 5 = .ok (.iaload, 1) := by decide +kernel
theorem dX8_pairs_6 : decode cX8_pairs 6 = .ok (.istore_n 1, 1) := by decide +kernel
theorem dX8_pairs_7 : decode cX8_pairs 7 = .ok (.aload_n 0, 1) := by decide +kernel
theorem dX8_pairs_8 : decode cX8_pairs 8 = .ok (.getfield 7, 3) := by decide +kernel
theorem dX8_pairs_11 : decode cX8_pairs 11 = .ok (.iconst 1, 1) := by decide +kernel
theorem dX8_pairs_12 : decode cX8_pairs 12 = .ok (.iaload, 1) := by decide +kernel
theorem dX8_pairs_13 : decode cX8_pairs 13 = .ok (.aload_n 0, 1) := by decide +kernel
theorem dX8_pairs_14 : decode cX8_pairs 14 = .ok (.invokevirtual 85, 3) := by decide +kernel
theorem dX8_pairs_17 : decode cX8_pairs 17 = .ok (.ifCond .eq 7, 3) := by decide +kernel
theorem dX8_pairs_20 : decode cX8_pairs 20 = .ok (.iload_n 1, 1) := by decide +kernel
theorem dX8_pairs_21 : decode cX8_pairs 21 = .ok (.goto 6, 3) := by decide +kernel
theorem dX8_pairs_24 : decode cX8_pairs 24 = .ok (.iload_n 1, 1) := by decide +kernel
theorem dX8_pairs_25 : decode cX8_pairs 25 = .ok (.iconst 1, 1) := by decide +kernel
theorem dX8_pairs_26 : decode cX8_pairs 26 = .ok (.isub, 1) := by decide +kernel
theorem dX8_pairs_27 : decode cX8_pairs 27 = .ok (.imul, 1) := by decide +kernel
theorem dX8_pairs_28 : decode cX8_pairs 28 = .ok (.iload_n 1, 1) := by decide +kernel
theorem dX8_pairs_29 : decode cX8_pairs 29 = .ok (.aload_n 0, 1) := by decide +kernel
theorem dX8_pairs_30 : decode cX8_pairs 30 = .ok (.getfield 7, 3) := by decide +kernel
theorem dX8_pairs_33 : decode cX8_pairs 33 = .ok (.iconst 1, 1) := by decide +kernel
theorem dX8_pairs_34 : decode cX8_pairs 34 = .ok (.iaload, 1) := by decide +kernel
theorem dX8_pairs_35 : decode cX8_pairs 35 = .ok (.iconst 1, 1) := by decide +kernel
theorem dX8_pairs_36 : decode cX8_pairs 36 = .ok (.isub, 1) := by decide +kernel
theorem dX8_pairs_37 : decode cX8_pairs 37 = .ok (.imul, 1) := by decide +kernel
theorem dX8_pairs_38 : decode cX8_pairs 38 = .ok (.iadd, 1) := by decide +kernel
theorem dX8_pairs_39 : decode cX8_pairs 39 = .ok (.ireturn, 1) := by decide +kernel
theorem dX8_ofAll_0 : decode cX8_ofAll 0 = .ok (.aload_n 0, 1) := by decide +kernel
theorem dX8_ofAll_1 : decode cX8_ofAll 1 = .ok (.iconst 0, 1) := by decide +kernel
theorem dX8_ofAll_2 : decode cX8_ofAll 2 = .ok (.invokevirtual 120, 3) := by decide +kernel
theorem dX8_ofAll_5 : decode cX8_ofAll 5 = .ok (.iload_n 1, 1) := by decide +kernel
theorem dX8_ofAll_6 : decode cX8_ofAll 6 = .ok (.bipush 8, 2) := by decide +kernel
theorem dX8_ofAll_8 : decode cX8_ofAll 8 = .ok (.if_icmp .ne 10, 3) := by decide +kernel
theorem dX8_ofAll_11 : decode cX8_ofAll 11 = .ok (.aload_n 0, 1) := by decide +kernel
theorem dX8_ofAll_12 : decode cX8_ofAll 12 = .ok (.invokevirtual 241, 3) := by decide +kernel
theorem dX8_ofAll_15 : decode cX8_ofAll 15 = .ok (.goto 29, 3) := by decide +kernel
theorem dX8_ofAll_18 : decode cX8_ofAll 18 = .ok (.iload_n 1, 1) := by decide +kernel
theorem dX8_ofAll_19 : decode cX8_ofAll 19 = .ok (.bipush 9, 2) := by decide +kernel
theorem dX8_ofAll_21 : decode cX8_ofAll 21 = .ok (.if_icmp .ne 10, 3) := by decide +kernel
theorem dX8_ofAll_24 : decode cX8_ofAll 24 = .ok (.aload_n 0, 1) := by decide +kernel
theorem dX8_ofAll_25 : decode cX8_ofAll 25 = .ok (.invokevirtual 244, 3) := by decide +kernel
theorem dX8_ofAll_28 : decode cX8_ofAll 28 = .ok (.goto 16, 3) := by decide +kernel
theorem dX8_ofAll_31 : decode cX8_ofAll 31 = .ok (.aload_n 0, 1) := by decide +kernel
theorem dX8_ofAll_32 : decode cX8_ofAll 32 = .ok (.getfield 22, 3) := by decide +kernel
theorem dX8_ofAll_35 : decode cX8_ofAll 35 = .ok (.sipush 200, 3) := by decide +kernel
theorem dX8_ofAll_38 : decode cX8_ofAll 38 = .ok (.aload_n 0, 1) := by decide +kernel
theorem dX8_ofAll_39 : decode cX8_ofAll 39 = .ok (.invokevirtual 241, 3) := by decide +kernel
theorem dX8_ofAll_42 : decode cX8_ofAll 42 = .ok (.iadd, 1) := by decide +kernel
theorem dX8_ofAll_43 : decode cX8_ofAll 43 = .ok (.iaload, 1) := by decide +kernel
theorem dX8_ofAll_44 : decode cX8_ofAll 44 = .ok (.ireturn, 1) := by decide +kernel
theorem dX8_count_0 : decode cX8_count 0 = .ok (.iload_n 1, 1) := by decide +kernel
theorem dX8_count_1 : decode cX8_count 1 = .ok (.tableswitch 156 0 16 #[83, 83, 83, 90, 95, 101, 106, 106, 118, 118, 118, 124, 129, 134, 141, 146, 151], 83) := by decide +kernel
theorem dX8_count_84 : decode cX8_count 84 = .ok (.aload_n 0, 1) := by decide +kernel
theorem dX8_count_85 : decode cX8_count 85 = .ok (.getfield 7, 3) := by decide +kernel
theorem dX8_count_88 : decode cX8_count 88 = .ok (.iload_n 1, 1) := by decide +kernel
theorem dX8_count_89 : decode cX8_count 89 = .ok (.iaload, 1) := by decide +kernel
theorem dX8_count_90 : decode cX8_count 90 = .ok (.ireturn, 1) := by decide +kernel
theorem dX8_count_91 : decode cX8_count 91 = .ok (.aload_n 0, 1) := by decide +kernel
theorem dX8_count_92 : decode cX8_count 92 = .ok (.invokevirtual 175, 3) := by decide +kernel
theorem dX8_count_95 : decode cX8_count 95 = .ok (.ireturn, 1) := by decide +kernel
theorem dX8_count_96 : decode cX8_count 96 = .ok (.aload_n 0, 1) := by decide +kernel
theorem dX8_count_97 : decode cX8_count 97 = .ok (.iconst 1, 1) := by decide +kernel
theorem dX8_count_98 : decode cX8_count 98 = .ok (.invokevirtual 102, 3) := by decide +kernel
theorem dX8_count_101 : decode cX8_count 101 = .ok (.ireturn, 1) := by decide +kernel
theorem dX8_count_102 : decode cX8_count 102 = .ok (.aload_n 0, 1) := by decide +kernel
theorem dX8_count_103 : decode cX8_count 103 = .ok (.invokevirtual 253, 3) := by decide +kernel
theorem dX8_count_106 : decode cX8_count 106 = .ok (.ireturn, 1) := by decide +kernel
theorem dX8_count_107 : decode cX8_count 107 = .ok (.aload_n 0, 1) := by decide +kernel
theorem dX8_count_108 : decode cX8_count 108 = .ok (.getfield 7, 3) := by decide +kernel
theorem dX8_count_111 : decode cX8_count 111 = .ok (.iconst 3, 1) := by decide +kernel
theorem dX8_count_112 : decode cX8_count 112 = .ok (.iload_n 1, 1) := by decide +kernel
theorem dX8_count_113 : decode cX8_count 113 = .ok (.iadd, 1) := by decide +kernel
theorem dX8_count_114 : decode cX8_count 114 = .ok (.bipush 6, 2) := by decide +kernel
theorem dX8_count_116 : decode cX8_count 116 = .ok (.isub, 1) := by decide +kernel
theorem dX8_count_117 : decode cX8_count 117 = .ok (.iaload, 1) := by decide +kernel
theorem dX8_count_118 : decode cX8_count 118 = .ok (.ireturn, 1) := by decide +kernel
theorem dX8_count_119 : decode cX8_count 119 = .ok (.aload_n 0, 1) := by decide +kernel
theorem dX8_count_120 : decode cX8_count 120 = .ok (.iload_n 1, 1) := by decide +kernel
theorem dX8_count_121 : decode cX8_count 121 = .ok (.invokevirtual 256, 3) := by decide +kernel
theorem dX8_count_124 : decode cX8_count 124 = .ok (.ireturn, 1) := by decide +kernel
theorem dX8_count_125 : decode cX8_count 125 = .ok (.aload_n 0, 1) := by decide +kernel
theorem dX8_count_126 : decode cX8_count 126 = .ok (.invokevirtual 259, 3) := by decide +kernel
theorem dX8_count_129 : decode cX8_count 129 = .ok (.ireturn, 1) := by decide +kernel
theorem dX8_count_130 : decode cX8_count 130 = .ok (.aload_n 0, 1) := by decide +kernel
theorem dX8_count_131 : decode cX8_count 131 = .ok (.invokevirtual 262, 3) := by decide +kernel
theorem dX8_count_134 : decode cX8_count 134 = .ok (.ireturn, 1) := by decide +kernel
theorem dX8_count_135 : decode cX8_count 135 = .ok (.aload_n 0, 1) := by decide +kernel
theorem dX8_count_136 : decode cX8_count 136 = .ok (.getfield 7, 3) := by decide +kernel
theorem dX8_count_139 : decode cX8_count 139 = .ok (.iconst 5, 1) := by decide +kernel
theorem dX8_count_140 : decode cX8_count 140 = .ok (.iaload, 1) := by decide +kernel
theorem dX8_count_141 : decode cX8_count 141 = .ok (.ireturn, 1) := by decide +kernel
theorem dX8_count_142 : decode cX8_count 142 = .ok (.aload_n 0, 1) := by decide +kernel
theorem dX8_count_143 : decode cX8_count 143 = .ok (.invokevirtual 265, 3) := by decide +kernel
theorem dX8_count_146 : decode cX8_count 146 = .ok (.ireturn, 1) := by decide +kernel
theorem dX8_count_147 : decode cX8_count 147 = .ok (.aload_n 0, 1) := by decide +kernel
theorem dX8_count_148 : decode cX8_count 148 = .ok (.getfield 69, 3) := by decide +kernel
theorem dX8_count_151 : decode cX8_count 151 = .ok (.ireturn, 1) := by decide +kernel
theorem dX8_count_152 : decode cX8_count 152 = .ok (.aload_n 0, 1) := by decide +kernel
theorem dX8_count_153 : decode cX8_count 153 = .ok (.getfield 204, 3) := by decide +kernel
theorem dX8_count_156 : decode cX8_count 156 = .ok (.ireturn, 1) := by decide +kernel
theorem dX8_count_157 : decode cX8_count 157 = .ok (.sipush (-1002), 3) := by decide +kernel
theorem dX8_count_160 : decode cX8_count 160 = .ok (.ireturn, 1) := by decide +kernel
theorem dL_law_0 : decode cL_law 0 = .ok (.new 7, 3) := by decide +kernel
theorem dL_law_3 : decode cL_law 3 = .ok (.dup, 1) := by decide +kernel
theorem dL_law_4 : decode cL_law 4 = .ok (.invokespecial 9, 3) := by decide +kernel
theorem dL_law_7 : decode cL_law 7 = .ok (.astore_n 1, 1) := by decide +kernel
theorem dL_law_8 : decode cL_law 8 = .ok (.new 10, 3) := by decide +kernel
theorem dL_law_11 : decode cL_law 11 = .ok (.dup, 1) := by decide +kernel
theorem dL_law_12 : decode cL_law 12 = .ok (.invokespecial 12, 3) := by decide +kernel
theorem dL_law_15 : decode cL_law 15 = .ok (.astore_n 2, 1) := by decide +kernel
theorem dL_law_16 : decode cL_law 16 = .ok (.iconst 0, 1) := by decide +kernel
theorem dL_law_17 : decode cL_law 17 = .ok (.istore_n 3, 1) := by decide +kernel
theorem dL_law_18 : decode cL_law 18 = .ok (.iload_n 3, 1) := by decide +kernel
theorem dL_law_19 : decode cL_law 19 = .ok (.aload_n 0, 1) := by decide +kernel
theorem dL_law_20 : decode cL_law 20 = .ok (.arraylength, 1) := by decide +kernel
theorem dL_law_21 : decode cL_law 21 = .ok (.iconst 4, 1) := by decide +kernel
theorem dL_law_22 : decode cL_law 22 = .ok (.isub, 1) := by decide +kernel
theorem dL_law_23 : decode cL_law 23 = .ok (.if_icmp .gt 730, 3) := by decide +kernel
theorem dL_law_26 : decode cL_law 26 = .ok (.aload_n 0, 1) := by decide +kernel
theorem dL_law_27 : decode cL_law 27 = .ok (.iload_n 3, 1) := by decide +kernel
theorem dL_law_28 : decode cL_law 28 = .ok (.iaload, 1) := by decide +kernel
theorem dL_law_29 : decode cL_law 29 = .ok (.bipush 31, 2) := by decide +kernel
theorem dL_law_31 : decode cL_law 31 = .ok (.iand, 1) := by decide +kernel
theorem dL_law_32 : decode cL_law 32 = .ok (.tableswitch 715 0 20 #[100, 159, 172, 211, 260, 303, 336, 369, 392, 405, 430, 443, 456, 469, 482, 525, 548, 571, 594, 643, 692], 100) := by decide +kernel
theorem dL_law_132 : decode cL_law 132 = .ok (.aload_n 1, 1) := by decide +kernel
theorem dL_law_133 : decode cL_law 133 = .ok (.aload_n 0, 1) := by decide +kernel
theorem dL_law_134 : decode cL_law 134 = .ok (.iload_n 3, 1) := by decide +kernel
theorem dL_law_135 : decode cL_law 135 = .ok (.iconst 1, 1) := by decide +kernel
theorem dL_law_136 : decode cL_law 136 = .ok (.iadd, 1) := by decide +kernel
theorem dL_law_137 : decode cL_law 137 = .ok (.iaload, 1) := by decide +kernel
theorem dL_law_138 : decode cL_law 138 = .ok (.aload_n 0, 1) := by decide +kernel
theorem dL_law_139 : decode cL_law 139 = .ok (.iload_n 3, 1) := by decide +kernel
theorem dL_law_140 : decode cL_law 140 = .ok (.iconst 2, 1) := by decide +kernel
theorem dL_law_141 : decode cL_law 141 = .ok (.iadd, 1) := by decide +kernel
theorem dL_law_142 : decode cL_law 142 = .ok (.iaload, 1) := by decide +kernel
theorem dL_law_143 : decode cL_law 143 = .ok (.aload_n 0, 1) := by decide +kernel
theorem dL_law_144 : decode cL_law 144 = .ok (.iload_n 3, 1) := by decide +kernel
theorem dL_law_145 : decode cL_law 145 = .ok (.iconst 3, 1) := by decide +kernel
theorem dL_law_146 : decode cL_law 146 = .ok (.iadd, 1) := by decide +kernel
theorem dL_law_147 : decode cL_law 147 = .ok (.iaload, 1) := by decide +kernel
theorem dL_law_148 : decode cL_law 148 = .ok (.ifCond .eq 7, 3) := by decide +kernel
theorem dL_law_151 : decode cL_law 151 = .ok (.iconst 1, 1) := by decide +kernel
theorem dL_law_152 : decode cL_law 152 = .ok (.goto 4, 3) := by decide +kernel
theorem dL_law_155 : decode cL_law 155 = .ok (.iconst 0, 1) := by decide +kernel
theorem dL_law_156 : decode cL_law 156 = .ok (.invokevirtual 13, 3) := by decide +kernel
theorem dL_law_159 : decode cL_law 159 = .ok (.aload_n 2, 1) := by decide +kernel
theorem dL_law_160 : decode cL_law 160 = .ok (.aload_n 0, 1) := by decide +kernel
theorem dL_law_161 : decode cL_law 161 = .ok (.iload_n 3, 1) := by decide +kernel
theorem dL_law_162 : decode cL_law 162 = .ok (.iconst 1, 1) := by decide +kernel
theorem dL_law_163 : decode cL_law 163 = .ok (.iadd, 1) := by decide +kernel
theorem dL_law_164 : decode cL_law 164 = .ok (.iaload, 1) := by decide +kernel
theorem dL_law_165 : decode cL_law 165 = .ok (.aload_n 0, 1) := by decide +kernel
theorem dL_law_166 : decode cL_law 166 = .ok (.iload_n 3, 1) := by decide +kernel
theorem dL_law_167 : decode cL_law 167 = .ok (.iconst 2, 1) := by decide +kernel
theorem dL_law_168 : decode cL_law 168 = .ok (.iadd, 1) := by decide +kernel
theorem dL_law_169 : decode cL_law 169 = .ok (.iaload, 1) := by decide +kernel
theorem dL_law_170 : decode cL_law 170 = .ok (.aload_n 0, 1) := by decide +kernel
theorem dL_law_171 : decode cL_law 171 = .ok (.iload_n 3, 1) := by decide +kernel
theorem dL_law_172 : decode cL_law 172 = .ok (.iconst 3, 1) := by decide +kernel
theorem dL_law_173 : decode cL_law 173 = .ok (.iadd, 1) := by decide +kernel
theorem dL_law_174 : decode cL_law 174 = .ok (.iaload, 1) := by decide +kernel
theorem dL_law_175 : decode cL_law 175 = .ok (.ifCond .eq 7, 3) := by decide +kernel
theorem dL_law_178 : decode cL_law 178 = .ok (.iconst 1, 1) := by decide +kernel
theorem dL_law_179 : decode cL_law 179 = .ok (.goto 4, 3) := by decide +kernel
theorem dL_law_182 : decode cL_law 182 = .ok (.iconst 0, 1) := by decide +kernel
theorem dL_law_183 : decode cL_law 183 = .ok (.invokevirtual 17, 3) := by decide +kernel
theorem dL_law_186 : decode cL_law 186 = .ok (.if_icmp .eq 561, 3) := by decide +kernel
theorem dL_law_189 : decode cL_law 189 = .ok (.iconst 0, 1) := by decide +kernel
theorem dL_law_190 : decode cL_law 190 = .ok (.ireturn, 1) := by decide +kernel
theorem dL_law_191 : decode cL_law 191 = .ok (.aload_n 1, 1) := by decide +kernel
theorem dL_law_192 : decode cL_law 192 = .ok (.invokevirtual 18, 3) := by decide +kernel
theorem dL_law_195 : decode cL_law 195 = .ok (.aload_n 2, 1) := by decide +kernel
theorem dL_law_196 : decode cL_law 196 = .ok (.invokevirtual 22, 3) := by decide +kernel
theorem dL_law_199 : decode cL_law 199 = .ok (.if_icmp .eq 548, 3) := by decide +kernel
theorem dL_law_202 : decode cL_law 202 = .ok (.iconst 0, 1) := by decide +kernel
theorem dL_law_203 : decode cL_law 203 = .ok (.ireturn, 1) := by decide +kernel
theorem dL_law_204 : decode cL_law 204 = .ok (.aload_n 1, 1) := by decide +kernel
theorem dL_law_205 : decode cL_law 205 = .ok (.aload_n 0, 1) := by decide +kernel
theorem dL_law_206 : decode cL_law 206 = .ok (.iload_n 3, 1) := by decide +kernel
theorem dL_law_207 : decode cL_law 207 = .ok (.iconst 1, 1) := by decide +kernel
theorem dL_law_208 : decode cL_law 208 = .ok (.iadd, 1) := by decide +kernel
theorem dL_law_209 : decode cL_law 209 = .ok (.iaload, 1) := by decide +kernel
theorem dL_law_210 : decode cL_law 210 = .ok (.ifCond .eq 7, 3) := by decide +kernel
theorem dL_law_213 : decode cL_law 213 = .ok (.iconst 1, 1) := by decide +kernel
theorem dL_law_214 : decode cL_law 214 = .ok (.goto 4, 3) := by decide +kernel
theorem dL_law_217 : decode cL_law 217 = .ok (.iconst 0, 1) := by decide +kernel
theorem dL_law_218 : decode cL_law 218 = .ok (.invokevirtual 23, 3) := by decide +kernel
theorem dL_law_221 : decode cL_law 221 = .ok (.aload_n 2, 1) := by decide +kernel
theorem dL_law_222 : decode cL_law 222 = .ok (.aload_n 0, 1) := by decide +kernel
theorem dL_law_223 : decode cL_law 223 = .ok (.iload_n 3, 1) := by decide +kernel
theorem dL_law_224 : decode cL_law 224 = .ok (.iconst 1, 1) := by decide +kernel
theorem dL_law_225 : decode cL_law 225 = .ok (.iadd, 1) := by decide +kernel
theorem dL_law_226 : decode cL_law 226 = .ok (.iaload, 1) := by decide +kernel
theorem dL_law_227 : decode cL_law 227 = .ok (.ifCond .eq 7, 3) := by decide +kernel
theorem dL_law_230 : decode cL_law 230 = .ok (.iconst 1, 1) := by decide +kernel
theorem dL_law_231 : decode cL_law 231 = .ok (.goto 4, 3) := by decide +kernel
theorem dL_law_234 : decode cL_law 234 = .ok (.iconst 0, 1) := by decide +kernel
theorem dL_law_235 : decode cL_law 235 = .ok (.invokevirtual 27, 3) := by decide +kernel
theorem dL_law_238 : decode cL_law 238 = .ok (.if_icmp .eq 509, 3) := by decide +kernel
theorem dL_law_241 : decode cL_law 241 = .ok (.iconst 0, 1) := by decide +kernel
theorem dL_law_242 : decode cL_law 242 = .ok (.ireturn, 1) := by decide +kernel
theorem dL_law_243 : decode cL_law 243 = .ok (.aload_n 1, 1) := by decide +kernel
theorem dL_law_244 : decode cL_law 244 = .ok (.aload_n 0, 1) := by decide +kernel
theorem dL_law_245 : decode cL_law 245 = .ok (.iload_n 3, 1) := by decide +kernel
theorem dL_law_246 : decode cL_law 246 = .ok (.iconst 1, 1) := by decide +kernel
theorem dL_law_247 : decode cL_law 247 = .ok (.iadd, 1) := by decide +kernel
theorem dL_law_248 : decode cL_law 248 = .ok (.iaload, 1) := by decide +kernel
theorem dL_law_249 : decode cL_law 249 = .ok (.ifCond .eq 7, 3) := by decide +kernel
theorem dL_law_252 : decode cL_law 252 = .ok (.iconst 1, 1) := by decide +kernel
theorem dL_law_253 : decode cL_law 253 = .ok (.goto 4, 3) := by decide +kernel
theorem dL_law_256 : decode cL_law 256 = .ok (.iconst 0, 1) := by decide +kernel
theorem dL_law_257 : decode cL_law 257 = .ok (.aload_n 0, 1) := by decide +kernel
theorem dL_law_258 : decode cL_law 258 = .ok (.iload_n 3, 1) := by decide +kernel
theorem dL_law_259 : decode cL_law 259 = .ok (.iconst 2, 1) := by decide +kernel
theorem dL_law_260 : decode cL_law 260 = .ok (.iadd, 1) := by decide +kernel
theorem dL_law_261 : decode cL_law 261 = .ok (.iaload, 1) := by decide +kernel
theorem dL_law_262 : decode cL_law 262 = .ok (.invokevirtual 28, 3) := by decide +kernel
theorem dL_law_265 : decode cL_law 265 = .ok (.aload_n 2, 1) := by decide +kernel
theorem dL_law_266 : decode cL_law 266 = .ok (.aload_n 0, 1) := by decide +kernel
theorem dL_law_267 : decode cL_law 267 = .ok (.iload_n 3, 1) := by decide +kernel
theorem dL_law_268 : decode cL_law 268 = .ok (.iconst 1, 1) := by decide +kernel
theorem dL_law_269 : decode cL_law 269 = .ok (.iadd, 1) := by decide +kernel
theorem dL_law_270 : decode cL_law 270 = .ok (.iaload, 1) := by decide +kernel
theorem dL_law_271 : decode cL_law 271 = .ok (.ifCond .eq 7, 3) := by decide +kernel
theorem dL_law_274 : decode cL_law 274 = .ok (.iconst 1, 1) := by decide +kernel
theorem dL_law_275 : decode cL_law 275 = .ok (.goto 4, 3) := by decide +kernel
theorem dL_law_278 : decode cL_law 278 = .ok (.iconst 0, 1) := by decide +kernel
theorem dL_law_279 : decode cL_law 279 = .ok (.aload_n 0, 1) := by decide +kernel
theorem dL_law_280 : decode cL_law 280 = .ok (.iload_n 3, 1) := by decide +kernel
theorem dL_law_281 : decode cL_law 281 = .ok (.iconst 2, 1) := by decide +kernel
theorem dL_law_282 : decode cL_law 282 = .ok (.iadd, 1) := by decide +kernel
theorem dL_law_283 : decode cL_law 283 = .ok (.iaload, 1) := by decide +kernel
theorem dL_law_284 : decode cL_law 284 = .ok (.invokevirtual 32, 3) := by decide +kernel
theorem dL_law_287 : decode cL_law 287 = .ok (.if_icmp .eq 460, 3) := by decide +kernel
theorem dL_law_290 : decode cL_law 290 = .ok (.iconst 0, 1) := by decide +kernel
theorem dL_law_291 : decode cL_law 291 = .ok (.ireturn, 1) := by decide +kernel
theorem dL_law_292 : decode cL_law 292 = .ok (.aload_n 1, 1) := by decide +kernel
theorem dL_law_293 : decode cL_law 293 = .ok (.aload_n 0, 1) := by decide +kernel
theorem dL_law_294 : decode cL_law 294 = .ok (.iload_n 3, 1) := by decide +kernel
theorem dL_law_295 : decode cL_law 295 = .ok (.iconst 1, 1) := by decide +kernel
theorem dL_law_296 : decode cL_law 296 = .ok (.iadd, 1) := by decide +kernel
theorem dL_law_297 : decode cL_law 297 = .ok (.iaload, 1) := by decide +kernel
theorem dL_law_298 : decode cL_law 298 = .ok (.aload_n 0, 1) := by decide +kernel
theorem dL_law_299 : decode cL_law 299 = .ok (.iload_n 3, 1) := by decide +kernel
theorem dL_law_300 : decode cL_law 300 = .ok (.iconst 2, 1) := by decide +kernel
theorem dL_law_301 : decode cL_law 301 = .ok (.iadd, 1) := by decide +kernel
theorem dL_law_302 : decode cL_law 302 = .ok (.iaload, 1) := by decide +kernel
theorem dL_law_303 : decode cL_law 303 = .ok (.aload_n 0, 1) := by decide +kernel
theorem dL_law_304 : decode cL_law 304 = .ok (.iload_n 3, 1) := by decide +kernel
theorem dL_law_305 : decode cL_law 305 = .ok (.iconst 3, 1) := by decide +kernel
theorem dL_law_306 : decode cL_law 306 = .ok (.iadd, 1) := by decide +kernel
theorem dL_law_307 : decode cL_law 307 = .ok (.iaload, 1) := by decide +kernel
theorem dL_law_308 : decode cL_law 308 = .ok (.invokevirtual 33, 3) := by decide +kernel
theorem dL_law_311 : decode cL_law 311 = .ok (.aload_n 2, 1) := by decide +kernel
theorem dL_law_312 : decode cL_law 312 = .ok (.aload_n 0, 1) := by decide +kernel
theorem dL_law_313 : decode cL_law 313 = .ok (.iload_n 3, 1) := by decide +kernel
theorem dL_law_314 : decode cL_law 314 = .ok (.iconst 1, 1) := by decide +kernel
theorem dL_law_315 : decode cL_law 315 = .ok (.iadd, 1) := by decide +kernel
theorem dL_law_316 : decode cL_law 316 = .ok (.iaload, 1) := by decide +kernel
theorem dL_law_317 : decode cL_law 317 = .ok (.aload_n 0, 1) := by decide +kernel
theorem dL_law_318 : decode cL_law 318 = .ok (.iload_n 3, 1) := by decide +kernel
theorem dL_law_319 : decode cL_law 319 = .ok (.iconst 2, 1) := by decide +kernel
theorem dL_law_320 : decode cL_law 320 = .ok (.iadd, 1) := by decide +kernel
theorem dL_law_321 : decode cL_law 321 = .ok (.iaload, 1) := by decide +kernel
theorem dL_law_322 : decode cL_law 322 = .ok (.aload_n 0, 1) := by decide +kernel
theorem dL_law_323 : decode cL_law 323 = .ok (.iload_n 3, 1) := by decide +kernel
theorem dL_law_324 : decode cL_law 324 = .ok (.iconst 3, 1) := by decide +kernel
theorem dL_law_325 : decode cL_law 325 = .ok (.iadd, 1) := by decide +kernel
theorem dL_law_326 : decode cL_law 326 = .ok (.iaload, 1) := by decide +kernel
theorem dL_law_327 : decode cL_law 327 = .ok (.invokevirtual 37, 3) := by decide +kernel
theorem dL_law_330 : decode cL_law 330 = .ok (.if_icmp .eq 417, 3) := by decide +kernel
theorem dL_law_333 : decode cL_law 333 = .ok (.iconst 0, 1) := by decide +kernel
theorem dL_law_334 : decode cL_law 334 = .ok (.ireturn, 1) := by decide +kernel
theorem dL_law_335 : decode cL_law 335 = .ok (.aload_n 1, 1) := by decide +kernel
theorem dL_law_336 : decode cL_law 336 = .ok (.aload_n 0, 1) := by decide +kernel
theorem dL_law_337 : decode cL_law 337 = .ok (.iload_n 3, 1) := by decide +kernel
theorem dL_law_338 : decode cL_law 338 = .ok (.iconst 1, 1) := by decide +kernel
theorem dL_law_339 : decode cL_law 339 = .ok (.iadd, 1) := by decide +kernel
theorem dL_law_340 : decode cL_law 340 = .ok (.iaload, 1) := by decide +kernel
theorem dL_law_341 : decode cL_law 341 = .ok (.aload_n 0, 1) := by decide +kernel
theorem dL_law_342 : decode cL_law 342 = .ok (.iload_n 3, 1) := by decide +kernel
theorem dL_law_343 : decode cL_law 343 = .ok (.iconst 2, 1) := by decide +kernel
theorem dL_law_344 : decode cL_law 344 = .ok (.iadd, 1) := by decide +kernel
theorem dL_law_345 : decode cL_law 345 = .ok (.iaload, 1) := by decide +kernel
theorem dL_law_346 : decode cL_law 346 = .ok (.invokevirtual 38, 3) := by decide +kernel
theorem dL_law_349 : decode cL_law 349 = .ok (.aload_n 2, 1) := by decide +kernel
theorem dL_law_350 : decode cL_law 350 = .ok (.aload_n 0, 1) := by decide +kernel
theorem dL_law_351 : decode cL_law 351 = .ok (.iload_n 3, 1) := by decide +kernel
theorem dL_law_352 : decode cL_law 352 = .ok (.iconst 1, 1) := by decide +kernel
theorem dL_law_353 : decode cL_law 353 = .ok (.iadd, 1) := by decide +kernel
theorem dL_law_354 : decode cL_law 354 = .ok (.iaload, 1) := by decide +kernel
theorem dL_law_355 : decode cL_law 355 = .ok (.aload_n 0, 1) := by decide +kernel
theorem dL_law_356 : decode cL_law 356 = .ok (.iload_n 3, 1) := by decide +kernel
theorem dL_law_357 : decode cL_law 357 = .ok (.iconst 2, 1) := by decide +kernel
theorem dL_law_358 : decode cL_law 358 = .ok (.iadd, 1) := by decide +kernel
theorem dL_law_359 : decode cL_law 359 = .ok (.iaload, 1) := by decide +kernel
theorem dL_law_360 : decode cL_law 360 = .ok (.invokevirtual 42, 3) := by decide +kernel
theorem dL_law_363 : decode cL_law 363 = .ok (.if_icmp .eq 384, 3) := by decide +kernel
theorem dL_law_366 : decode cL_law 366 = .ok (.iconst 0, 1) := by decide +kernel
theorem dL_law_367 : decode cL_law 367 = .ok (.ireturn, 1) := by decide +kernel
theorem dL_law_368 : decode cL_law 368 = .ok (.aload_n 1, 1) := by decide +kernel
theorem dL_law_369 : decode cL_law 369 = .ok (.aload_n 0, 1) := by decide +kernel
theorem dL_law_370 : decode cL_law 370 = .ok (.iload_n 3, 1) := by decide +kernel
theorem dL_law_371 : decode cL_law 371 = .ok (.iconst 1, 1) := by decide +kernel
theorem dL_law_372 : decode cL_law 372 = .ok (.iadd, 1) := by decide +kernel
theorem dL_law_373 : decode cL_law 373 = .ok (.iaload, 1) := by decide +kernel
theorem dL_law_374 : decode cL_law 374 = .ok (.aload_n 0, 1) := by decide +kernel
theorem dL_law_375 : decode cL_law 375 = .ok (.iload_n 3, 1) := by decide +kernel
theorem dL_law_376 : decode cL_law 376 = .ok (.iconst 2, 1) := by decide +kernel
theorem dL_law_377 : decode cL_law 377 = .ok (.iadd, 1) := by decide +kernel
theorem dL_law_378 : decode cL_law 378 = .ok (.iaload, 1) := by decide +kernel
theorem dL_law_379 : decode cL_law 379 = .ok (.invokevirtual 43, 3) := by decide +kernel
theorem dL_law_382 : decode cL_law 382 = .ok (.aload_n 2, 1) := by decide +kernel
theorem dL_law_383 : decode cL_law 383 = .ok (.aload_n 0, 1) := by decide +kernel
theorem dL_law_384 : decode cL_law 384 = .ok (.iload_n 3, 1) := by decide +kernel
theorem dL_law_385 : decode cL_law 385 = .ok (.iconst 1, 1) := by decide +kernel
theorem dL_law_386 : decode cL_law 386 = .ok (.iadd, 1) := by decide +kernel
theorem dL_law_387 : decode cL_law 387 = .ok (.iaload, 1) := by decide +kernel
theorem dL_law_388 : decode cL_law 388 = .ok (.aload_n 0, 1) := by decide +kernel
theorem dL_law_389 : decode cL_law 389 = .ok (.iload_n 3, 1) := by decide +kernel
theorem dL_law_390 : decode cL_law 390 = .ok (.iconst 2, 1) := by decide +kernel
theorem dL_law_391 : decode cL_law 391 = .ok (.iadd, 1) := by decide +kernel
theorem dL_law_392 : decode cL_law 392 = .ok (.iaload, 1) := by decide +kernel
theorem dL_law_393 : decode cL_law 393 = .ok (.invokevirtual 46, 3) := by decide +kernel
theorem dL_law_396 : decode cL_law 396 = .ok (.if_icmp .eq 351, 3) := by decide +kernel
theorem dL_law_399 : decode cL_law 399 = .ok (.iconst 0, 1) := by decide +kernel
theorem dL_law_400 : decode cL_law 400 = .ok (.ireturn, 1) := by decide +kernel
theorem dL_law_401 : decode cL_law 401 = .ok (.aload_n 1, 1) := by decide +kernel
theorem dL_law_402 : decode cL_law 402 = .ok (.aload_n 0, 1) := by decide +kernel
theorem dL_law_403 : decode cL_law 403 = .ok (.iload_n 3, 1) := by decide +kernel
theorem dL_law_404 : decode cL_law 404 = .ok (.iconst 1, 1) := by decide +kernel
theorem dL_law_405 : decode cL_law 405 = .ok (.iadd, 1) := by decide +kernel
theorem dL_law_406 : decode cL_law 406 = .ok (.iaload, 1) := by decide +kernel
theorem dL_law_407 : decode cL_law 407 = .ok (.invokevirtual 47, 3) := by decide +kernel
theorem dL_law_410 : decode cL_law 410 = .ok (.aload_n 2, 1) := by decide +kernel
theorem dL_law_411 : decode cL_law 411 = .ok (.aload_n 0, 1) := by decide +kernel
theorem dL_law_412 : decode cL_law 412 = .ok (.iload_n 3, 1) := by decide +kernel
theorem dL_law_413 : decode cL_law 413 = .ok (.iconst 1, 1) := by decide +kernel
theorem dL_law_414 : decode cL_law 414 = .ok (.iadd, 1) := by decide +kernel
theorem dL_law_415 : decode cL_law 415 = .ok (.iaload, 1) := by decide +kernel
theorem dL_law_416 : decode cL_law 416 = .ok (.invokevirtual 51, 3) := by decide +kernel
theorem dL_law_419 : decode cL_law 419 = .ok (.if_icmp .eq 328, 3) := by decide +kernel
theorem dL_law_422 : decode cL_law 422 = .ok (.iconst 0, 1) := by decide +kernel
theorem dL_law_423 : decode cL_law 423 = .ok (.ireturn, 1) := by decide +kernel
theorem dL_law_424 : decode cL_law 424 = .ok (.aload_n 1, 1) := by decide +kernel
theorem dL_law_425 : decode cL_law 425 = .ok (.invokevirtual 52, 3) := by decide +kernel
theorem dL_law_428 : decode cL_law 428 = .ok (.aload_n 2, 1) := by decide +kernel
theorem dL_law_429 : decode cL_law 429 = .ok (.invokevirtual 55, 3) := by decide +kernel
theorem dL_law_432 : decode cL_law 432 = .ok (.if_icmp .eq 315, 3) := by decide +kernel
theorem dL_law_435 : decode cL_law 435 = .ok (.iconst 0, 1) := by decide +kernel
theorem dL_law_436 : decode cL_law 436 = .ok (.ireturn, 1) := by decide +kernel
theorem dL_law_437 : decode cL_law 437 = .ok (.aload_n 1, 1) := by decide +kernel
theorem dL_law_438 : decode cL_law 438 = .ok (.aload_n 0, 1) := by decide +kernel
theorem dL_law_439 : decode cL_law 439 = .ok (.iload_n 3, 1) := by decide +kernel
theorem dL_law_440 : decode cL_law 440 = .ok (.iconst 1, 1) := by decide +kernel
theorem dL_law_441 : decode cL_law 441 = .ok (.iadd, 1) := by decide +kernel
theorem dL_law_442 : decode cL_law 442 = .ok (.iaload, 1) := by decide +kernel
theorem dL_law_443 : decode cL_law 443 = .ok (.i2c, 1) := by decide +kernel
theorem dL_law_444 : decode cL_law 444 = .ok (.invokevirtual 56, 3) := by decide +kernel
theorem dL_law_447 : decode cL_law 447 = .ok (.aload_n 2, 1) := by decide +kernel
theorem dL_law_448 : decode cL_law 448 = .ok (.aload_n 0, 1) := by decide +kernel
theorem dL_law_449 : decode cL_law 449 = .ok (.iload_n 3, 1) := by decide +kernel
theorem dL_law_450 : decode cL_law 450 = .ok (.iconst 1, 1) := by decide +kernel
theorem dL_law_451 : decode cL_law 451 = .ok (.iadd, 1) := by decide +kernel
theorem dL_law_452 : decode cL_law 452 = .ok (.iaload, 1) := by decide +kernel
theorem dL_law_453 : decode cL_law 453 = .ok (.i2c, 1) := by decide +kernel
theorem dL_law_454 : decode cL_law 454 = .ok (.invokevirtual 60, 3) := by decide +kernel
theorem dL_law_457 : decode cL_law 457 = .ok (.if_icmp .eq 290, 3) := by decide +kernel
theorem dL_law_460 : decode cL_law 460 = .ok (.iconst 0, 1) := by decide +kernel
theorem dL_law_461 : decode cL_law 461 = .ok (.ireturn, 1) := by decide +kernel
theorem dL_law_462 : decode cL_law 462 = .ok (.aload_n 1, 1) := by decide +kernel
theorem dL_law_463 : decode cL_law 463 = .ok (.invokevirtual 61, 3) := by decide +kernel
theorem dL_law_466 : decode cL_law 466 = .ok (.aload_n 2, 1) := by decide +kernel
theorem dL_law_467 : decode cL_law 467 = .ok (.invokevirtual 64, 3) := by decide +kernel
theorem dL_law_470 : decode cL_law 470 = .ok (.if_icmp .eq 277, 3) := by decide +kernel
theorem dL_law_473 : decode cL_law 473 = .ok (.iconst 0, 1) := by decide +kernel
theorem dL_law_474 : decode cL_law 474 = .ok (.ireturn, 1) := by decide +kernel
theorem dL_law_475 : decode cL_law 475 = .ok (.aload_n 1, 1) := by decide +kernel
theorem dL_law_476 : decode cL_law 476 = .ok (.invokevirtual 65, 3) := by decide +kernel
theorem dL_law_479 : decode cL_law 479 = .ok (.aload_n 2, 1) := by decide +kernel
theorem dL_law_480 : decode cL_law 480 = .ok (.invokevirtual 68, 3) := by decide +kernel
theorem dL_law_483 : decode cL_law 483 = .ok (.if_icmp .eq 264, 3) := by decide +kernel
theorem dL_law_486 : decode cL_law 486 = .ok (.iconst 0, 1) := by decide +kernel
theorem dL_law_487 : decode cL_law 487 = .ok (.ireturn, 1) := by decide +kernel
theorem dL_law_488 : decode cL_law 488 = .ok (.aload_n 1, 1) := by decide +kernel
theorem dL_law_489 : decode cL_law 489 = .ok (.invokevirtual 69, 3) := by decide +kernel
theorem dL_law_492 : decode cL_law 492 = .ok (.aload_n 2, 1) := by decide +kernel
theorem dL_law_493 : decode cL_law 493 = .ok (.invokevirtual 72, 3) := by decide +kernel
theorem dL_law_496 : decode cL_law 496 = .ok (.if_icmp .eq 251, 3) := by decide +kernel
theorem dL_law_499 : decode cL_law 499 = .ok (.iconst 0, 1) := by decide +kernel
theorem dL_law_500 : decode cL_law 500 = .ok (.ireturn, 1) := by decide +kernel
theorem dL_law_501 : decode cL_law 501 = .ok (.aload_n 1, 1) := by decide +kernel
theorem dL_law_502 : decode cL_law 502 = .ok (.invokevirtual 73, 3) := by decide +kernel
theorem dL_law_505 : decode cL_law 505 = .ok (.aload_n 2, 1) := by decide +kernel
theorem dL_law_506 : decode cL_law 506 = .ok (.invokevirtual 76, 3) := by decide +kernel
theorem dL_law_509 : decode cL_law 509 = .ok (.if_icmp .eq 238, 3) := by decide +kernel
theorem dL_law_512 : decode cL_law 512 = .ok (.iconst 0, 1) := by decide +kernel
theorem dL_law_513 : decode cL_law 513 = .ok (.ireturn, 1) := by decide +kernel
theorem dL_law_514 : decode cL_law 514 = .ok (.aload_n 1, 1) := by decide +kernel
theorem dL_law_515 : decode cL_law 515 = .ok (.aload_n 0, 1) := by decide +kernel
theorem dL_law_516 : decode cL_law 516 = .ok (.iload_n 3, 1) := by decide +kernel
theorem dL_law_517 : decode cL_law 517 = .ok (.iconst 1, 1) := by decide +kernel
theorem dL_law_518 : decode cL_law 518 = .ok (.iadd, 1) := by decide +kernel
theorem dL_law_519 : decode cL_law 519 = .ok (.iaload, 1) := by decide +kernel
theorem dL_law_520 : decode cL_law 520 = .ok (.aload_n 0, 1) := by decide +kernel
theorem dL_law_521 : decode cL_law 521 = .ok (.iload_n 3, 1) := by decide +kernel
theorem dL_law_522 : decode cL_law 522 = .ok (.iconst 2, 1) := by decide +kernel
theorem dL_law_523 : decode cL_law 523 = .ok (.iadd, 1) := by decide +kernel
theorem dL_law_524 : decode cL_law 524 = .ok (.iaload, 1) := by decide +kernel
theorem dL_law_525 : decode cL_law 525 = .ok (.aload_n 0, 1) := by decide +kernel
theorem dL_law_526 : decode cL_law 526 = .ok (.iload_n 3, 1) := by decide +kernel
theorem dL_law_527 : decode cL_law 527 = .ok (.iconst 3, 1) := by decide +kernel
theorem dL_law_528 : decode cL_law 528 = .ok (.iadd, 1) := by decide +kernel
theorem dL_law_529 : decode cL_law 529 = .ok (.iaload, 1) := by decide +kernel
theorem dL_law_530 : decode cL_law 530 = .ok (.invokevirtual 77, 3) := by decide +kernel
theorem dL_law_533 : decode cL_law 533 = .ok (.aload_n 2, 1) := by decide +kernel
theorem dL_law_534 : decode cL_law 534 = .ok (.aload_n 0, 1) := by decide +kernel
theorem dL_law_535 : decode cL_law 535 = .ok (.iload_n 3, 1) := by decide +kernel
theorem dL_law_536 : decode cL_law 536 = .ok (.iconst 1, 1) := by decide +kernel
theorem dL_law_537 : decode cL_law 537 = .ok (.iadd, 1) := by decide +kernel
theorem dL_law_538 : decode cL_law 538 = .ok (.iaload, 1) := by decide +kernel
theorem dL_law_539 : decode cL_law 539 = .ok (.aload_n 0, 1) := by decide +kernel
theorem dL_law_540 : decode cL_law 540 = .ok (.iload_n 3, 1) := by decide +kernel
theorem dL_law_541 : decode cL_law 541 = .ok (.iconst 2, 1) := by decide +kernel
theorem dL_law_542 : decode cL_law 542 = .ok (.iadd, 1) := by decide +kernel
theorem dL_law_543 : decode cL_law 543 = .ok (.iaload, 1) := by decide +kernel
theorem dL_law_544 : decode cL_law 544 = .ok (.aload_n 0, 1) := by decide +kernel
theorem dL_law_545 : decode cL_law 545 = .ok (.iload_n 3, 1) := by decide +kernel
theorem dL_law_546 : decode cL_law 546 = .ok (.iconst 3, 1) := by decide +kernel
theorem dL_law_547 : decode cL_law 547 = .ok (.iadd, 1) := by decide +kernel
theorem dL_law_548 : decode cL_law 548 = .ok (.iaload, 1) := by decide +kernel
theorem dL_law_549 : decode cL_law 549 = .ok (.invokevirtual 80, 3) := by decide +kernel
theorem dL_law_552 : decode cL_law 552 = .ok (.if_icmp .eq 195, 3) := by decide +kernel
theorem dL_law_555 : decode cL_law 555 = .ok (.iconst 0, 1) := by decide +kernel
theorem dL_law_556 : decode cL_law 556 = .ok (.ireturn, 1) := by decide +kernel
theorem dL_law_557 : decode cL_law 557 = .ok (.aload_n 1, 1) := by decide +kernel
theorem dL_law_558 : decode cL_law 558 = .ok (.aload_n 0, 1) := by decide +kernel
theorem dL_law_559 : decode cL_law 559 = .ok (.iload_n 3, 1) := by decide +kernel
theorem dL_law_560 : decode cL_law 560 = .ok (.iconst 1, 1) := by decide +kernel
theorem dL_law_561 : decode cL_law 561 = .ok (.iadd, 1) := by decide +kernel
theorem dL_law_562 : decode cL_law 562 = .ok (.iaload, 1) := by decide +kernel
theorem dL_law_563 : decode cL_law 563 = .ok (.invokevirtual 81, 3) := by decide +kernel
theorem dL_law_566 : decode cL_law 566 = .ok (.aload_n 2, 1) := by decide +kernel
theorem dL_law_567 : decode cL_law 567 = .ok (.aload_n 0, 1) := by decide +kernel
theorem dL_law_568 : decode cL_law 568 = .ok (.iload_n 3, 1) := by decide +kernel
theorem dL_law_569 : decode cL_law 569 = .ok (.iconst 1, 1) := by decide +kernel
theorem dL_law_570 : decode cL_law 570 = .ok (.iadd, 1) := by decide +kernel
theorem dL_law_571 : decode cL_law 571 = .ok (.iaload, 1) := by decide +kernel
theorem dL_law_572 : decode cL_law 572 = .ok (.invokevirtual 84, 3) := by decide +kernel
theorem dL_law_575 : decode cL_law 575 = .ok (.if_icmp .eq 172, 3) := by decide +kernel
theorem dL_law_578 : decode cL_law 578 = .ok (.iconst 0, 1) := by decide +kernel
theorem dL_law_579 : decode cL_law 579 = .ok (.ireturn, 1) := by decide +kernel
theorem dL_law_580 : decode cL_law 580 = .ok (.aload_n 1, 1) := by decide +kernel
theorem dL_law_581 : decode cL_law 581 = .ok (.aload_n 0, 1) := by decide +kernel
theorem dL_law_582 : decode cL_law 582 = .ok (.iload_n 3, 1) := by decide +kernel
theorem dL_law_583 : decode cL_law 583 = .ok (.iconst 1, 1) := by decide +kernel
theorem dL_law_584 : decode cL_law 584 = .ok (.iadd, 1) := by decide +kernel
theorem dL_law_585 : decode cL_law 585 = .ok (.iaload, 1) := by decide +kernel
theorem dL_law_586 : decode cL_law 586 = .ok (.invokevirtual 85, 3) := by decide +kernel
theorem dL_law_589 : decode cL_law 589 = .ok (.aload_n 2, 1) := by decide +kernel
theorem dL_law_590 : decode cL_law 590 = .ok (.aload_n 0, 1) := by decide +kernel
theorem dL_law_591 : decode cL_law 591 = .ok (.iload_n 3, 1) := by decide +kernel
theorem dL_law_592 : decode cL_law 592 = .ok (.iconst 1, 1) := by decide +kernel
theorem dL_law_593 : decode cL_law 593 = .ok (.iadd, 1) := by decide +kernel
theorem dL_law_594 : decode cL_law 594 = .ok (.iaload, 1) := by decide +kernel
theorem dL_law_595 : decode cL_law 595 = .ok (.invokevirtual 88, 3) := by decide +kernel
theorem dL_law_598 : decode cL_law 598 = .ok (.if_icmp .eq 149, 3) := by decide +kernel
theorem dL_law_601 : decode cL_law 601 = .ok (.iconst 0, 1) := by decide +kernel
theorem dL_law_602 : decode cL_law 602 = .ok (.ireturn, 1) := by decide +kernel
theorem dL_law_603 : decode cL_law 603 = .ok (.aload_n 1, 1) := by decide +kernel
theorem dL_law_604 : decode cL_law 604 = .ok (.aload_n 0, 1) := by decide +kernel
theorem dL_law_605 : decode cL_law 605 = .ok (.iload_n 3, 1) := by decide +kernel
theorem dL_law_606 : decode cL_law 606 = .ok (.iconst 1, 1) := by decide +kernel
theorem dL_law_607 : decode cL_law 607 = .ok (.iadd, 1) := by decide +kernel
theorem dL_law_608 : decode cL_law 608 = .ok (.iaload, 1) := by decide +kernel
theorem dL_law_609 : decode cL_law 609 = .ok (.invokevirtual 89, 3) := by decide +kernel
theorem dL_law_612 : decode cL_law 612 = .ok (.aload_n 2, 1) := by decide +kernel
theorem dL_law_613 : decode cL_law 613 = .ok (.aload_n 0, 1) := by decide +kernel
theorem dL_law_614 : decode cL_law 614 = .ok (.iload_n 3, 1) := by decide +kernel
theorem dL_law_615 : decode cL_law 615 = .ok (.iconst 1, 1) := by decide +kernel
theorem dL_law_616 : decode cL_law 616 = .ok (.iadd, 1) := by decide +kernel
theorem dL_law_617 : decode cL_law 617 = .ok (.iaload, 1) := by decide +kernel
theorem dL_law_618 : decode cL_law 618 = .ok (.invokevirtual 92, 3) := by decide +kernel
theorem dL_law_621 : decode cL_law 621 = .ok (.if_icmp .eq 126, 3) := by decide +kernel
theorem dL_law_624 : decode cL_law 624 = .ok (.iconst 0, 1) := by decide +kernel
theorem dL_law_625 : decode cL_law 625 = .ok (.ireturn, 1) := by decide +kernel
theorem dL_law_626 : decode cL_law 626 = .ok (.aload_n 1, 1) := by decide +kernel
theorem dL_law_627 : decode cL_law 627 = .ok (.aload_n 0, 1) := by decide +kernel
theorem dL_law_628 : decode cL_law 628 = .ok (.iload_n 3, 1) := by decide +kernel
theorem dL_law_629 : decode cL_law 629 = .ok (.iconst 1, 1) := by decide +kernel
theorem dL_law_630 : decode cL_law 630 = .ok (.iadd, 1) := by decide +kernel
theorem dL_law_631 : decode cL_law 631 = .ok (.iaload, 1) := by decide +kernel
theorem dL_law_632 : decode cL_law 632 = .ok (.aload_n 0, 1) := by decide +kernel
theorem dL_law_633 : decode cL_law 633 = .ok (.iload_n 3, 1) := by decide +kernel
theorem dL_law_634 : decode cL_law 634 = .ok (.iconst 2, 1) := by decide +kernel
theorem dL_law_635 : decode cL_law 635 = .ok (.iadd, 1) := by decide +kernel
theorem dL_law_636 : decode cL_law 636 = .ok (.iaload, 1) := by decide +kernel
theorem dL_law_637 : decode cL_law 637 = .ok (.ifCond .eq 7, 3) := by decide +kernel
theorem dL_law_640 : decode cL_law 640 = .ok (.iconst 1, 1) := by decide +kernel
theorem dL_law_641 : decode cL_law 641 = .ok (.goto 4, 3) := by decide +kernel
theorem dL_law_644 : decode cL_law 644 = .ok (.iconst 0, 1) := by decide +kernel
theorem dL_law_645 : decode cL_law 645 = .ok (.invokevirtual 93, 3) := by decide +kernel
theorem dL_law_648 : decode cL_law 648 = .ok (.aload_n 2, 1) := by decide +kernel
theorem dL_law_649 : decode cL_law 649 = .ok (.aload_n 0, 1) := by decide +kernel
theorem dL_law_650 : decode cL_law 650 = .ok (.iload_n 3, 1) := by decide +kernel
theorem dL_law_651 : decode cL_law 651 = .ok (.iconst 1, 1) := by decide +kernel
theorem dL_law_652 : decode cL_law 652 = .ok (.iadd, 1) := by decide +kernel
theorem dL_law_653 : decode cL_law 653 = .ok (.iaload, 1) := by decide +kernel
theorem dL_law_654 : decode cL_law 654 = .ok (.aload_n 0, 1) := by decide +kernel
theorem dL_law_655 : decode cL_law 655 = .ok (.iload_n 3, 1) := by decide +kernel
theorem dL_law_656 : decode cL_law 656 = .ok (.iconst 2, 1) := by decide +kernel
theorem dL_law_657 : decode cL_law 657 = .ok (.iadd, 1) := by decide +kernel
theorem dL_law_658 : decode cL_law 658 = .ok (.iaload, 1) := by decide +kernel
theorem dL_law_659 : decode cL_law 659 = .ok (.ifCond .eq 7, 3) := by decide +kernel
theorem dL_law_662 : decode cL_law 662 = .ok (.iconst 1, 1) := by decide +kernel
theorem dL_law_663 : decode cL_law 663 = .ok (.goto 4, 3) := by decide +kernel
theorem dL_law_666 : decode cL_law 666 = .ok (.iconst 0, 1) := by decide +kernel
theorem dL_law_667 : decode cL_law 667 = .ok (.invokevirtual 97, 3) := by decide +kernel
theorem dL_law_670 : decode cL_law 670 = .ok (.if_icmp .eq 77, 3) := by decide +kernel
theorem dL_law_673 : decode cL_law 673 = .ok (.iconst 0, 1) := by decide +kernel
theorem dL_law_674 : decode cL_law 674 = .ok (.ireturn, 1) := by decide +kernel
theorem dL_law_675 : decode cL_law 675 = .ok (.aload_n 1, 1) := by decide +kernel
theorem dL_law_676 : decode cL_law 676 = .ok (.aload_n 0, 1) := by decide +kernel
theorem dL_law_677 : decode cL_law 677 = .ok (.iload_n 3, 1) := by decide +kernel
theorem dL_law_678 : decode cL_law 678 = .ok (.iconst 1, 1) := by decide +kernel
theorem dL_law_679 : decode cL_law 679 = .ok (.iadd, 1) := by decide +kernel
theorem dL_law_680 : decode cL_law 680 = .ok (.iaload, 1) := by decide +kernel
theorem dL_law_681 : decode cL_law 681 = .ok (.aload_n 0, 1) := by decide +kernel
theorem dL_law_682 : decode cL_law 682 = .ok (.iload_n 3, 1) := by decide +kernel
theorem dL_law_683 : decode cL_law 683 = .ok (.iconst 2, 1) := by decide +kernel
theorem dL_law_684 : decode cL_law 684 = .ok (.iadd, 1) := by decide +kernel
theorem dL_law_685 : decode cL_law 685 = .ok (.iaload, 1) := by decide +kernel
theorem dL_law_686 : decode cL_law 686 = .ok (.ifCond .eq 7, 3) := by decide +kernel
theorem dL_law_689 : decode cL_law 689 = .ok (.iconst 1, 1) := by decide +kernel
theorem dL_law_690 : decode cL_law 690 = .ok (.goto 4, 3) := by decide +kernel
theorem dL_law_693 : decode cL_law 693 = .ok (.iconst 0, 1) := by decide +kernel
theorem dL_law_694 : decode cL_law 694 = .ok (.invokevirtual 98, 3) := by decide +kernel
theorem dL_law_697 : decode cL_law 697 = .ok (.aload_n 2, 1) := by decide +kernel
theorem dL_law_698 : decode cL_law 698 = .ok (.aload_n 0, 1) := by decide +kernel
theorem dL_law_699 : decode cL_law 699 = .ok (.iload_n 3, 1) := by decide +kernel
theorem dL_law_700 : decode cL_law 700 = .ok (.iconst 1, 1) := by decide +kernel
theorem dL_law_701 : decode cL_law 701 = .ok (.iadd, 1) := by decide +kernel
theorem dL_law_702 : decode cL_law 702 = .ok (.iaload, 1) := by decide +kernel
theorem dL_law_703 : decode cL_law 703 = .ok (.aload_n 0, 1) := by decide +kernel
theorem dL_law_704 : decode cL_law 704 = .ok (.iload_n 3, 1) := by decide +kernel
theorem dL_law_705 : decode cL_law 705 = .ok (.iconst 2, 1) := by decide +kernel
theorem dL_law_706 : decode cL_law 706 = .ok (.iadd, 1) := by decide +kernel
theorem dL_law_707 : decode cL_law 707 = .ok (.iaload, 1) := by decide +kernel
theorem dL_law_708 : decode cL_law 708 = .ok (.ifCond .eq 7, 3) := by decide +kernel
theorem dL_law_711 : decode cL_law 711 = .ok (.iconst 1, 1) := by decide +kernel
theorem dL_law_712 : decode cL_law 712 = .ok (.goto 4, 3) := by decide +kernel
theorem dL_law_715 : decode cL_law 715 = .ok (.iconst 0, 1) := by decide +kernel
theorem dL_law_716 : decode cL_law 716 = .ok (.invokevirtual 101, 3) := by decide +kernel
theorem dL_law_719 : decode cL_law 719 = .ok (.if_icmp .eq 28, 3) := by decide +kernel
theorem dL_law_722 : decode cL_law 722 = .ok (.iconst 0, 1) := by decide +kernel
theorem dL_law_723 : decode cL_law 723 = .ok (.ireturn, 1) := by decide +kernel
theorem dL_law_724 : decode cL_law 724 = .ok (.aload_n 1, 1) := by decide +kernel
theorem dL_law_725 : decode cL_law 725 = .ok (.aload_n 0, 1) := by decide +kernel
theorem dL_law_726 : decode cL_law 726 = .ok (.iload_n 3, 1) := by decide +kernel
theorem dL_law_727 : decode cL_law 727 = .ok (.iconst 1, 1) := by decide +kernel
theorem dL_law_728 : decode cL_law 728 = .ok (.iadd, 1) := by decide +kernel
theorem dL_law_729 : decode cL_law 729 = .ok (.iaload, 1) := by decide +kernel
theorem dL_law_730 : decode cL_law 730 = .ok (.invokevirtual 102, 3) := by decide +kernel
theorem dL_law_733 : decode cL_law 733 = .ok (.aload_n 2, 1) := by decide +kernel
theorem dL_law_734 : decode cL_law 734 = .ok (.aload_n 0, 1) := by decide +kernel
theorem dL_law_735 : decode cL_law 735 = .ok (.iload_n 3, 1) := by decide +kernel
theorem dL_law_736 : decode cL_law 736 = .ok (.iconst 1, 1) := by decide +kernel
theorem dL_law_737 : decode cL_law 737 = .ok (.iadd, 1) := by decide +kernel
theorem dL_law_738 : decode cL_law 738 = .ok (.iaload, 1) := by decide +kernel
theorem dL_law_739 : decode cL_law 739 = .ok (.invokevirtual 105, 3) := by decide +kernel
theorem dL_law_742 : decode cL_law 742 = .ok (.if_icmp .eq 5, 3) := by decide +kernel
theorem dL_law_745 : decode cL_law 745 = .ok (.iconst 0, 1) := by decide +kernel
theorem dL_law_746 : decode cL_law 746 = .ok (.ireturn, 1) := by decide +kernel
theorem dL_law_747 : decode cL_law 747 = .ok (.iinc 3 4, 3) := by decide +kernel
theorem dL_law_750 : decode cL_law 750 = .ok (.goto (-732), 3) := by decide +kernel
theorem dL_law_753 : decode cL_law 753 = .ok (.iconst 1, 1) := by decide +kernel
theorem dL_law_754 : decode cL_law 754 = .ok (.ireturn, 1) := by decide +kernel
