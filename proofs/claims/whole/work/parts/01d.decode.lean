theorem dX4_init_0 : decode cX4_init 0 = .ok (.aload_n 0, 1) := by decide +kernel
theorem dX4_init_1 : decode cX4_init 1 = .ok (.invokespecial 1, 3) := by decide +kernel
theorem dX4_init_4 : decode cX4_init 4 = .ok (.aload_n 0, 1) := by decide +kernel
theorem dX4_init_5 : decode cX4_init 5 = .ok (.bipush 10, 2) := by decide +kernel
theorem dX4_init_7 : decode cX4_init 7 = .ok (.newarray .boolean, 2) := by decide +kernel
theorem dX4_init_9 : decode cX4_init 9 = .ok (.putfield 9, 3) := by decide +kernel
theorem dX4_init_12 : decode cX4_init 12 = .ok (.aload_n 0, 1) := by decide +kernel
theorem dX4_init_13 : decode cX4_init 13 = .ok (.bipush 10, 2) := by decide +kernel
theorem dX4_init_15 : decode cX4_init 15 = .ok (.newarray .int, 2) := by decide +kernel
theorem dX4_init_17 : decode cX4_init 17 = .ok (.putfield 13, 3) := by decide +kernel
theorem dX4_init_20 : decode cX4_init 20 = .ok (.aload_n 0, 1) := by decide +kernel
theorem dX4_init_21 : decode cX4_init 21 = .ok (.bipush 10, 2) := by decide +kernel
theorem dX4_init_23 : decode cX4_init 23 = .ok (.newarray .int, 2) := by decide +kernel
theorem dX4_init_25 : decode cX4_init 25 = .ok (.putfield 17, 3) := by decide +kernel
theorem dX4_init_28 : decode cX4_init 28 = .ok (.aload_n 0, 1) := by decide +kernel
theorem dX4_init_29 : decode cX4_init 29 = .ok (.bipush 10, 2) := by decide +kernel
theorem dX4_init_31 : decode cX4_init 31 = .ok (.newarray .int, 2) := by decide +kernel
theorem dX4_init_33 : decode cX4_init 33 = .ok (.putfield 20, 3) := by decide +kernel
theorem dX4_init_36 : decode cX4_init 36 = .ok (.aload_n 0, 1) := by decide +kernel
theorem dX4_init_37 : decode cX4_init 37 = .ok (.bipush 10, 2) := by decide +kernel
theorem dX4_init_39 : decode cX4_init 39 = .ok (.newarray .boolean, 2) := by decide +kernel
theorem dX4_init_41 : decode cX4_init 41 = .ok (.putfield 23, 3) := by decide +kernel
theorem dX4_init_44 : decode cX4_init 44 = .ok (.aload_n 0, 1) := by decide +kernel
theorem dX4_init_45 : decode cX4_init 45 = .ok (.bipush 10, 2) := by decide +kernel
theorem dX4_init_47 : decode cX4_init 47 = .ok (.newarray .boolean, 2) := by decide +kernel
theorem dX4_init_49 : decode cX4_init 49 = .ok (.putfield 26, 3) := by decide +kernel
theorem dX4_init_52 : decode cX4_init 52 = .ok (.aload_n 0, 1) := by decide +kernel
theorem dX4_init_53 : decode cX4_init 53 = .ok (.bipush 10, 2) := by decide +kernel
theorem dX4_init_55 : decode cX4_init 55 = .ok (.newarray .int, 2) := by decide +kernel
theorem dX4_init_57 : decode cX4_init 57 = .ok (.putfield 29, 3) := by decide +kernel
theorem dX4_init_60 : decode cX4_init 60 = .ok (.aload_n 0, 1) := by decide +kernel
theorem dX4_init_61 : decode cX4_init 61 = .ok (.bipush 10, 2) := by decide +kernel
theorem dX4_init_63 : decode cX4_init 63 = .ok (.newarray .int, 2) := by decide +kernel
theorem dX4_init_65 : decode cX4_init 65 = .ok (.putfield 32, 3) := by decide +kernel
theorem dX4_init_68 : decode cX4_init 68 = .ok (.aload_n 0, 1) := by decide +kernel
theorem dX4_init_69 : decode cX4_init 69 = .ok (.bipush 100, 2) := by decide +kernel
theorem dX4_init_71 : decode cX4_init 71 = .ok (.newarray .boolean, 2) := by decide +kernel
theorem dX4_init_73 : decode cX4_init 73 = .ok (.putfield 35, 3) := by decide +kernel
theorem dX4_init_76 : decode cX4_init 76 = .ok (.aload_n 0, 1) := by decide +kernel
theorem dX4_init_77 : decode cX4_init 77 = .ok (.bipush 100, 2) := by decide +kernel
theorem dX4_init_79 : decode cX4_init 79 = .ok (.newarray .boolean, 2) := by decide +kernel
theorem dX4_init_81 : decode cX4_init 81 = .ok (.putfield 38, 3) := by decide +kernel
theorem dX4_init_84 : decode cX4_init 84 = .ok (.aload_n 0, 1) := by decide +kernel
theorem dX4_init_85 : decode cX4_init 85 = .ok (.bipush 100, 2) := by decide +kernel
theorem dX4_init_87 : decode cX4_init 87 = .ok (.newarray .int, 2) := by decide +kernel
theorem dX4_init_89 : decode cX4_init 89 = .ok (.putfield 41, 3) := by decide +kernel
theorem dX4_init_92 : decode cX4_init 92 = .ok (.aload_n 0, 1) := by decide +kernel
theorem dX4_init_93 : decode cX4_init 93 = .ok (.bipush 100, 2) := by decide +kernel
theorem dX4_init_95 : decode cX4_init 95 = .ok (.newarray .int, 2) := by decide +kernel
theorem dX4_init_97 : decode cX4_init 97 = .ok (.putfield 44, 3) := by decide +kernel
theorem dX4_init_100 : decode cX4_init 100 = .ok (.aload_n 0, 1) := by decide +kernel
theorem dX4_init_101 : decode cX4_init 101 = .ok (.ldc 47, 2) := by decide +kernel
theorem dX4_init_103 : decode cX4_init 103 = .ok (.newarray .int, 2) := by decide +kernel
theorem dX4_init_105 : decode cX4_init 105 = .ok (.putfield 48, 3) := by decide +kernel
theorem dX4_init_108 : decode cX4_init 108 = .ok (.aload_n 0, 1) := by decide +kernel
theorem dX4_init_109 : decode cX4_init 109 = .ok (.ldc 47, 2) := by decide +kernel
theorem dX4_init_111 : decode cX4_init 111 = .ok (.newarray .int, 2) := by decide +kernel
theorem dX4_init_113 : decode cX4_init 113 = .ok (.putfield 51, 3) := by decide +kernel
theorem dX4_init_116 : decode cX4_init 116 = .ok (.aload_n 0, 1) := by decide +kernel
theorem dX4_init_117 : decode cX4_init 117 = .ok (.ldc 47, 2) := by decide +kernel
theorem dX4_init_119 : decode cX4_init 119 = .ok (.newarray .int, 2) := by decide +kernel
theorem dX4_init_121 : decode cX4_init 121 = .ok (.putfield 54, 3) := by decide +kernel
theorem dX4_init_124 : decode cX4_init 124 = .ok (.aload_n 0, 1) := by decide +kernel
theorem dX4_init_125 : decode cX4_init 125 = .ok (.bipush 10, 2) := by decide +kernel
theorem dX4_init_127 : decode cX4_init 127 = .ok (.newarray .boolean, 2) := by decide +kernel
theorem dX4_init_129 : decode cX4_init 129 = .ok (.putfield 57, 3) := by decide +kernel
theorem dX4_init_132 : decode cX4_init 132 = .ok (.aload_n 0, 1) := by decide +kernel
theorem dX4_init_133 : decode cX4_init 133 = .ok (.iload_n 1, 1) := by decide +kernel
theorem dX4_init_134 : decode cX4_init 134 = .ok (.iconst 2, 1) := by decide +kernel
theorem dX4_init_135 : decode cX4_init 135 = .ok (.if_icmp .ge 7, 3) := by decide +kernel
theorem dX4_init_138 : decode cX4_init 138 = .ok (.iconst 2, 1) := by decide +kernel
theorem dX4_init_139 : decode cX4_init 139 = .ok (.goto 15, 3) := by decide +kernel
theorem dX4_init_142 : decode cX4_init 142 = .ok (.iload_n 1, 1) := by decide +kernel
theorem dX4_init_143 : decode cX4_init 143 = .ok (.bipush 10, 2) := by decide +kernel
theorem dX4_init_145 : decode cX4_init 145 = .ok (.if_icmp .le 8, 3) := by decide +kernel
theorem dX4_init_148 : decode cX4_init 148 = .ok (.bipush 10, 2) := by decide +kernel
theorem dX4_init_150 : decode cX4_init 150 = .ok (.goto 4, 3) := by decide +kernel
theorem dX4_init_153 : decode cX4_init 153 = .ok (.iload_n 1, 1) := by decide +kernel
theorem dX4_init_154 : decode cX4_init 154 = .ok (.putfield 60, 3) := by decide +kernel
theorem dX4_init_157 : decode cX4_init 157 = .ok (.iconst 0, 1) := by decide +kernel
theorem dX4_init_158 : decode cX4_init 158 = .ok (.istore_n 2, 1) := by decide +kernel
theorem dX4_init_159 : decode cX4_init 159 = .ok (.iload_n 2, 1) := by decide +kernel
theorem dX4_init_160 : decode cX4_init 160 = .ok (.bipush 10, 2) := by decide +kernel
theorem dX4_init_162 : decode cX4_init 162 = .ok (.if_icmp .ge 16, 3) := by decide +kernel
theorem dX4_init_165 : decode cX4_init 165 = .ok (.aload_n 0, 1) := by decide +kernel
theorem dX4_init_166 : decode cX4_init 166 = .ok (.getfield 13, 3) := by decide +kernel
theorem dX4_init_169 : decode cX4_init 169 = .ok (.iload_n 2, 1) := by decide +kernel
theorem dX4_init_170 : decode cX4_init 170 = .ok (.iconst (-1), 1) := by decide +kernel
theorem dX4_init_171 : decode cX4_init 171 = .ok (.iastore, 1) := by decide +kernel
theorem dX4_init_172 : decode cX4_init 172 = .ok (.iinc 2 1, 3) := by decide +kernel
theorem dX4_init_175 : decode cX4_init 175 = .ok (.goto (-16), 3) := by decide +kernel
theorem dX4_init_178 : decode cX4_init 178 = .ok (.aload_n 0, 1) := by decide +kernel
theorem dX4_init_179 : decode cX4_init 179 = .ok (.getfield 26, 3) := by decide +kernel
theorem dX4_init_182 : decode cX4_init 182 = .ok (.iconst 0, 1) := by decide +kernel
theorem dX4_init_183 : decode cX4_init 183 = .ok (.iconst 1, 1) := by decide +kernel
theorem dX4_init_184 : decode cX4_init 184 = .ok (.bastore, 1) := by decide +kernel
theorem dX4_init_185 : decode cX4_init 185 = .ok (.return_, 1) := by decide +kernel
theorem dX4_isOne_0 : decode cX4_isOne 0 = .ok (.iload_n 1, 1) := by decide +kernel
theorem dX4_isOne_1 : decode cX4_isOne 1 = .ok (.ifCond .lt 15, 3) := by decide +kernel
theorem dX4_isOne_4 : decode cX4_isOne 4 = .ok (.iload_n 1, 1) := by decide +kernel
theorem dX4_isOne_5 : decode cX4_isOne 5 = .ok (.aload_n 0, 1) := by decide +kernel
theorem dX4_isOne_6 : decode cX4_isOne 6 = .ok (.getfield 60, 3) := by decide +kernel
theorem dX4_isOne_9 : decode cX4_isOne 9 = .ok (.if_icmp .ge 7, 3) := by decide +kernel
theorem dX4_isOne_12 : decode cX4_isOne 12 = .ok (.iconst 1, 1) := by decide +kernel
theorem dX4_isOne_13 : decode cX4_isOne 13 = .ok (.goto 4, 3) := by decide +kernel
theorem dX4_isOne_16 : decode cX4_isOne 16 = .ok (.iconst 0, 1) := by decide +kernel
theorem dX4_isOne_17 : decode cX4_isOne 17 = .ok (.ireturn, 1) := by decide +kernel
theorem dX4_isRow_0 : decode cX4_isRow 0 = .ok (.aload_n 0, 1) := by decide +kernel
theorem dX4_isRow_1 : decode cX4_isRow 1 = .ok (.iload_n 1, 1) := by decide +kernel
theorem dX4_isRow_2 : decode cX4_isRow 2 = .ok (.invokevirtual 64, 3) := by decide +kernel
theorem dX4_isRow_5 : decode cX4_isRow 5 = .ok (.ifCond .eq 20, 3) := by decide +kernel
theorem dX4_isRow_8 : decode cX4_isRow 8 = .ok (.aload_n 0, 1) := by decide +kernel
theorem dX4_isRow_9 : decode cX4_isRow 9 = .ok (.iload_n 2, 1) := by decide +kernel
theorem dX4_isRow_10 : decode cX4_isRow 10 = .ok (.invokevirtual 64, 3) := by decide +kernel
theorem dX4_isRow_13 : decode cX4_isRow 13 = .ok (.ifCond .eq 12, 3) := by decide +kernel
theorem dX4_isRow_16 : decode cX4_isRow 16 = .ok (.iload_n 1, 1) := by decide +kernel
theorem dX4_isRow_17 : decode cX4_isRow 17 = .ok (.iload_n 2, 1) := by decide +kernel
theorem dX4_isRow_18 : decode cX4_isRow 18 = .ok (.if_icmp .eq 7, 3) := by decide +kernel
theorem dX4_isRow_21 : decode cX4_isRow 21 = .ok (.iconst 1, 1) := by decide +kernel
theorem dX4_isRow_22 : decode cX4_isRow 22 = .ok (.goto 4, 3) := by decide +kernel
theorem dX4_isRow_25 : decode cX4_isRow 25 = .ok (.iconst 0, 1) := by decide +kernel
theorem dX4_isRow_26 : decode cX4_isRow 26 = .ok (.ireturn, 1) := by decide +kernel
theorem dX4_row_0 : decode cX4_row 0 = .ok (.bipush 10, 2) := by decide +kernel
theorem dX4_row_2 : decode cX4_row 2 = .ok (.iload_n 0, 1) := by decide +kernel
theorem dX4_row_3 : decode cX4_row 3 = .ok (.imul, 1) := by decide +kernel
theorem dX4_row_4 : decode cX4_row 4 = .ok (.iload_n 1, 1) := by decide +kernel
theorem dX4_row_5 : decode cX4_row 5 = .ok (.iadd, 1) := by decide +kernel
theorem dX4_row_6 : decode cX4_row 6 = .ok (.ireturn, 1) := by decide +kernel
theorem dX4_sends_0 : decode cX4_sends 0 = .ok (.iload_n 1, 1) := by decide +kernel
theorem dX4_sends_1 : decode cX4_sends 1 = .ok (.iload_n 2, 1) := by decide +kernel
theorem dX4_sends_2 : decode cX4_sends 2 = .ok (.invokestatic 68, 3) := by decide +kernel
theorem dX4_sends_5 : decode cX4_sends 5 = .ok (.istore 6, 2) := by decide +kernel
theorem dX4_sends_7 : decode cX4_sends 7 = .ok (.sipush 640, 3) := by decide +kernel
theorem dX4_sends_10 : decode cX4_sends 10 = .ok (.iload 6, 2) := by decide +kernel
theorem dX4_sends_12 : decode cX4_sends 12 = .ok (.imul, 1) := by decide +kernel
theorem dX4_sends_13 : decode cX4_sends 13 = .ok (.aload_n 0, 1) := by decide +kernel
theorem dX4_sends_14 : decode cX4_sends 14 = .ok (.getfield 44, 3) := by decide +kernel
theorem dX4_sends_17 : decode cX4_sends 17 = .ok (.iload 6, 2) := by decide +kernel
theorem dX4_sends_19 : decode cX4_sends 19 = .ok (.iaload, 1) := by decide +kernel
theorem dX4_sends_20 : decode cX4_sends 20 = .ok (.iadd, 1) := by decide +kernel
theorem dX4_sends_21 : decode cX4_sends 21 = .ok (.istore 7, 2) := by decide +kernel
theorem dX4_sends_23 : decode cX4_sends 23 = .ok (.aload_n 0, 1) := by decide +kernel
theorem dX4_sends_24 : decode cX4_sends 24 = .ok (.getfield 48, 3) := by decide +kernel
theorem dX4_sends_27 : decode cX4_sends 27 = .ok (.iload 7, 2) := by decide +kernel
theorem dX4_sends_29 : decode cX4_sends 29 = .ok (.iload_n 3, 1) := by decide +kernel
theorem dX4_sends_30 : decode cX4_sends 30 = .ok (.iastore, 1) := by decide +kernel
theorem dX4_sends_31 : decode cX4_sends 31 = .ok (.aload_n 0, 1) := by decide +kernel
theorem dX4_sends_32 : decode cX4_sends 32 = .ok (.getfield 51, 3) := by decide +kernel
theorem dX4_sends_35 : decode cX4_sends 35 = .ok (.iload 7, 2) := by decide +kernel
theorem dX4_sends_37 : decode cX4_sends 37 = .ok (.iload 4, 2) := by decide +kernel
theorem dX4_sends_39 : decode cX4_sends 39 = .ok (.iastore, 1) := by decide +kernel
theorem dX4_sends_40 : decode cX4_sends 40 = .ok (.aload_n 0, 1) := by decide +kernel
theorem dX4_sends_41 : decode cX4_sends 41 = .ok (.getfield 54, 3) := by decide +kernel
theorem dX4_sends_44 : decode cX4_sends 44 = .ok (.iload 7, 2) := by decide +kernel
theorem dX4_sends_46 : decode cX4_sends 46 = .ok (.iload 5, 2) := by decide +kernel
theorem dX4_sends_48 : decode cX4_sends 48 = .ok (.iastore, 1) := by decide +kernel
theorem dX4_sends_49 : decode cX4_sends 49 = .ok (.aload_n 0, 1) := by decide +kernel
theorem dX4_sends_50 : decode cX4_sends 50 = .ok (.getfield 44, 3) := by decide +kernel
theorem dX4_sends_53 : decode cX4_sends 53 = .ok (.iload 6, 2) := by decide +kernel
theorem dX4_sends_55 : decode cX4_sends 55 = .ok (.dup2, 1) := by decide +kernel
theorem dX4_sends_56 : decode cX4_sends 56 = .ok (.iaload, 1) := by decide +kernel
theorem dX4_sends_57 : decode cX4_sends 57 = .ok (.iconst 1, 1) := by decide +kernel
theorem dX4_sends_58 : decode cX4_sends 58 = .ok (.iadd, 1) := by decide +kernel
theorem dX4_sends_59 : decode cX4_sends 59 = .ok (.iastore, 1) := by decide +kernel
theorem dX4_sends_60 : decode cX4_sends 60 = .ok (.return_, 1) := by decide +kernel
theorem dX4_counted_0 : decode cX4_counted 0 = .ok (.iconst 0, 1) := by decide +kernel
theorem dX4_counted_1 : decode cX4_counted 1 = .ok (.istore_n 3, 1) := by decide +kernel
theorem dX4_counted_2 : decode cX4_counted 2 = .ok (.iconst 0, 1) := by decide +kernel
theorem dX4_counted_3 : decode cX4_counted 3 = .ok (.istore 4, 2) := by decide +kernel
theorem dX4_counted_5 : decode cX4_counted 5 = .ok (.iload 4, 2) := by decide +kernel
theorem dX4_counted_7 : decode cX4_counted 7 = .ok (.aload_n 0, 1) := by decide +kernel
theorem dX4_counted_8 : decode cX4_counted 8 = .ok (.getfield 44, 3) := by decide +kernel
theorem dX4_counted_11 : decode cX4_counted 11 = .ok (.iload_n 1, 1) := by decide +kernel
theorem dX4_counted_12 : decode cX4_counted 12 = .ok (.iaload, 1) := by decide +kernel
theorem dX4_counted_13 : decode cX4_counted 13 = .ok (.if_icmp .ge 34, 3) := by decide +kernel
theorem dX4_counted_16 : decode cX4_counted 16 = .ok (.iload_n 3, 1) := by decide +kernel
theorem dX4_counted_17 : decode cX4_counted 17 = .ok (.aload_n 0, 1) := by decide +kernel
theorem dX4_counted_18 : decode cX4_counted 18 = .ok (.getfield 48, 3) := by decide +kernel
theorem dX4_counted_21 : decode cX4_counted 21 = .ok (.sipush 640, 3) := by decide +kernel
theorem dX4_counted_24 : decode cX4_counted 24 = .ok (.iload_n 1, 1) := by decide +kernel
theorem dX4_counted_25 : decode cX4_counted 25 = .ok (.imul, 1) := by decide +kernel
theorem dX4_counted_26 : decode cX4_counted 26 = .ok (.iload 4, 2) := by decide +kernel
theorem dX4_counted_28 : decode cX4_counted 28 = .ok (.iadd, 1) := by decide +kernel
theorem dX4_counted_29 : decode cX4_counted 29 = .ok (.iaload, 1) := by decide +kernel
theorem dX4_counted_30 : decode cX4_counted 30 = .ok (.iload_n 2, 1) := by decide +kernel
theorem dX4_counted_31 : decode cX4_counted 31 = .ok (.if_icmp .ne 7, 3) := by decide +kernel
theorem dX4_counted_34 : decode cX4_counted 34 = .ok (.iconst 1, 1) := by decide +kernel
theorem dX4_counted_35 : decode cX4_counted 35 = .ok (.goto 4, 3) := by decide +kernel
theorem dX4_counted_38 : decode cX4_counted 38 = .ok (.iconst 0, 1) := by decide +kernel
theorem dX4_counted_39 : decode cX4_counted 39 = .ok (.iadd, 1) := by decide +kernel
theorem dX4_counted_40 : decode cX4_counted 40 = .ok (.istore_n 3, 1) := by decide +kernel
theorem dX4_counted_41 : decode cX4_counted 41 = .ok (.iinc 4 1, 3) := by decide +kernel
theorem dX4_counted_44 : decode cX4_counted 44 = .ok (.goto (-39), 3) := by decide +kernel
theorem dX4_counted_47 : decode cX4_counted 47 = .ok (.iload_n 3, 1) := by decide +kernel
theorem dX4_counted_48 : decode cX4_counted 48 = .ok (.ireturn, 1) := by decide +kernel
theorem dX4_waitsFor_0 : decode cX4_waitsFor 0 = .ok (.iconst 0, 1) := by decide +kernel
theorem dX4_waitsFor_1 : decode cX4_waitsFor 1 = .ok (.istore_n 2, 1) := by decide +kernel
theorem dX4_waitsFor_2 : decode cX4_waitsFor 2 = .ok (.iconst 0, 1) := by decide +kernel
theorem dX4_waitsFor_3 : decode cX4_waitsFor 3 = .ok (.istore_n 3, 1) := by decide +kernel
theorem dX4_waitsFor_4 : decode cX4_waitsFor 4 = .ok (.iload_n 3, 1) := by decide +kernel
theorem dX4_waitsFor_5 : decode cX4_waitsFor 5 = .ok (.aload_n 0, 1) := by decide +kernel
theorem dX4_waitsFor_6 : decode cX4_waitsFor 6 = .ok (.getfield 60, 3) := by decide +kernel
theorem dX4_waitsFor_9 : decode cX4_waitsFor 9 = .ok (.if_icmp .ge 30, 3) := by decide +kernel
theorem dX4_waitsFor_12 : decode cX4_waitsFor 12 = .ok (.iload_n 2, 1) := by decide +kernel
theorem dX4_waitsFor_13 : decode cX4_waitsFor 13 = .ok (.aload_n 0, 1) := by decide +kernel
theorem dX4_waitsFor_14 : decode cX4_waitsFor 14 = .ok (.getfield 35, 3) := by decide +kernel
theorem dX4_waitsFor_17 : decode cX4_waitsFor 17 = .ok (.iload_n 1, 1) := by decide +kernel
theorem dX4_waitsFor_18 : decode cX4_waitsFor 18 = .ok (.iload_n 3, 1) := by decide +kernel
theorem dX4_waitsFor_19 : decode cX4_waitsFor 19 = .ok (.invokestatic 68, 3) := by decide +kernel
theorem dX4_waitsFor_22 : decode cX4_waitsFor 22 = .ok (.baload, 1) := by decide +kernel
theorem dX4_waitsFor_23 : decode cX4_waitsFor 23 = .ok (.ifCond .eq 7, 3) := by decide +kernel
theorem dX4_waitsFor_26 : decode cX4_waitsFor 26 = .ok (.iconst 1, 1) := by decide +kernel
theorem dX4_waitsFor_27 : decode cX4_waitsFor 27 = .ok (.goto 4, 3) := by decide +kernel
theorem dX4_waitsFor_30 : decode cX4_waitsFor 30 = .ok (.iconst 0, 1) := by decide +kernel
theorem dX4_waitsFor_31 : decode cX4_waitsFor 31 = .ok (.iadd, 1) := by decide +kernel
theorem dX4_waitsFor_32 : decode cX4_waitsFor 32 = .ok (.istore_n 2, 1) := by decide +kernel
theorem dX4_waitsFor_33 : decode cX4_waitsFor 33 = .ok (.iinc 3 1, 3) := by decide +kernel
theorem dX4_waitsFor_36 : decode cX4_waitsFor 36 = .ok (.goto (-32), 3) := by decide +kernel
theorem dX4_waitsFor_39 : decode cX4_waitsFor 39 = .ok (.iload_n 2, 1) := by decide +kernel
theorem dX4_waitsFor_40 : decode cX4_waitsFor 40 = .ok (.ireturn, 1) := by decide +kernel
theorem dX4_isBlocked_0 : decode cX4_isBlocked 0 = .ok (.aload_n 0, 1) := by decide +kernel
theorem dX4_isBlocked_1 : decode cX4_isBlocked 1 = .ok (.iload_n 1, 1) := by decide +kernel
theorem dX4_isBlocked_2 : decode cX4_isBlocked 2 = .ok (.invokevirtual 72, 3) := by decide +kernel
theorem dX4_isBlocked_5 : decode cX4_isBlocked 5 = .ok (.ifCond .le 7, 3) := by decide +kernel
theorem dX4_isBlocked_8 : decode cX4_isBlocked 8 = .ok (.iconst 1, 1) := by decide +kernel
theorem dX4_isBlocked_9 : decode cX4_isBlocked 9 = .ok (.goto 4, 3) := by decide +kernel
theorem dX4_isBlocked_12 : decode cX4_isBlocked 12 = .ok (.iconst 0, 1) := by decide +kernel
theorem dX4_isBlocked_13 : decode cX4_isBlocked 13 = .ok (.ireturn, 1) := by decide +kernel
theorem dX4_isFree_0 : decode cX4_isFree 0 = .ok (.aload_n 0, 1) := by decide +kernel
theorem dX4_isFree_1 : decode cX4_isFree 1 = .ok (.iload_n 1, 1) := by decide +kernel
theorem dX4_isFree_2 : decode cX4_isFree 2 = .ok (.invokevirtual 64, 3) := by decide +kernel
theorem dX4_isFree_5 : decode cX4_isFree 5 = .ok (.ifCond .eq 24, 3) := by decide +kernel
theorem dX4_isFree_8 : decode cX4_isFree 8 = .ok (.aload_n 0, 1) := by decide +kernel
theorem dX4_isFree_9 : decode cX4_isFree 9 = .ok (.getfield 9, 3) := by decide +kernel
theorem dX4_isFree_12 : decode cX4_isFree 12 = .ok (.iload_n 1, 1) := by decide +kernel
theorem dX4_isFree_13 : decode cX4_isFree 13 = .ok (.baload, 1) := by decide +kernel
theorem dX4_isFree_14 : decode cX4_isFree 14 = .ok (.ifCond .eq 15, 3) := by decide +kernel
theorem dX4_isFree_17 : decode cX4_isFree 17 = .ok (.aload_n 0, 1) := by decide +kernel
theorem dX4_isFree_18 : decode cX4_isFree 18 = .ok (.iload_n 1, 1) := by decide +kernel
theorem dX4_isFree_19 : decode cX4_isFree 19 = .ok (.invokevirtual 76, 3) := by decide +kernel
theorem dX4_isFree_22 : decode cX4_isFree 22 = .ok (.ifCond .ne 7, 3) := by decide +kernel
theorem dX4_isFree_25 : decode cX4_isFree 25 = .ok (.iconst 1, 1) := by decide +kernel
theorem dX4_isFree_26 : decode cX4_isFree 26 = .ok (.goto 4, 3) := by decide +kernel
theorem dX4_isFree_29 : decode cX4_isFree 29 = .ok (.iconst 0, 1) := by decide +kernel
theorem dX4_isFree_30 : decode cX4_isFree 30 = .ok (.ireturn, 1) := by decide +kernel
theorem dX4_isInTree_0 : decode cX4_isInTree 0 = .ok (.iload_n 1, 1) := by decide +kernel
theorem dX4_isInTree_1 : decode cX4_isInTree 1 = .ok (.ifCond .ne 25, 3) := by decide +kernel
theorem dX4_isInTree_4 : decode cX4_isInTree 4 = .ok (.aload_n 0, 1) := by decide +kernel
theorem dX4_isInTree_5 : decode cX4_isInTree 5 = .ok (.getfield 79, 3) := by decide +kernel
theorem dX4_isInTree_8 : decode cX4_isInTree 8 = .ok (.ifCond .eq 14, 3) := by decide +kernel
theorem dX4_isInTree_11 : decode cX4_isInTree 11 = .ok (.aload_n 0, 1) := by decide +kernel
theorem dX4_isInTree_12 : decode cX4_isInTree 12 = .ok (.getfield 83, 3) := by decide +kernel
theorem dX4_isInTree_15 : decode cX4_isInTree 15 = .ok (.ifCond .ne 7, 3) := by decide +kernel
theorem dX4_isInTree_18 : decode cX4_isInTree 18 = .ok (.iconst 1, 1) := by decide +kernel
theorem dX4_isInTree_19 : decode cX4_isInTree 19 = .ok (.goto 22, 3) := by decide +kernel
theorem dX4_isInTree_22 : decode cX4_isInTree 22 = .ok (.iconst 0, 1) := by decide +kernel
theorem dX4_isInTree_23 : decode cX4_isInTree 23 = .ok (.goto 18, 3) := by decide +kernel
theorem dX4_isInTree_26 : decode cX4_isInTree 26 = .ok (.aload_n 0, 1) := by decide +kernel
theorem dX4_isInTree_27 : decode cX4_isInTree 27 = .ok (.getfield 13, 3) := by decide +kernel
theorem dX4_isInTree_30 : decode cX4_isInTree 30 = .ok (.iload_n 1, 1) := by decide +kernel
theorem dX4_isInTree_31 : decode cX4_isInTree 31 = .ok (.iaload, 1) := by decide +kernel
theorem dX4_isInTree_32 : decode cX4_isInTree 32 = .ok (.iconst (-1), 1) := by decide +kernel
theorem dX4_isInTree_33 : decode cX4_isInTree 33 = .ok (.if_icmp .eq 7, 3) := by decide +kernel
theorem dX4_isInTree_36 : decode cX4_isInTree 36 = .ok (.iconst 1, 1) := by decide +kernel
theorem dX4_isInTree_37 : decode cX4_isInTree 37 = .ok (.goto 4, 3) := by decide +kernel
theorem dX4_isInTree_40 : decode cX4_isInTree 40 = .ok (.iconst 0, 1) := by decide +kernel
theorem dX4_isInTree_41 : decode cX4_isInTree 41 = .ok (.ireturn, 1) := by decide +kernel
theorem dX4_quiet_0 : decode cX4_quiet 0 = .ok (.iconst 0, 1) := by decide +kernel
theorem dX4_quiet_1 : decode cX4_quiet 1 = .ok (.istore_n 1, 1) := by decide +kernel
theorem dX4_quiet_2 : decode cX4_quiet 2 = .ok (.iload_n 1, 1) := by decide +kernel
theorem dX4_quiet_3 : decode cX4_quiet 3 = .ok (.aload_n 0, 1) := by decide +kernel
theorem dX4_quiet_4 : decode cX4_quiet 4 = .ok (.getfield 60, 3) := by decide +kernel
theorem dX4_quiet_7 : decode cX4_quiet 7 = .ok (.if_icmp .ge 51, 3) := by decide +kernel
theorem dX4_quiet_10 : decode cX4_quiet 10 = .ok (.aload_n 0, 1) := by decide +kernel
theorem dX4_quiet_11 : decode cX4_quiet 11 = .ok (.getfield 9, 3) := by decide +kernel
theorem dX4_quiet_14 : decode cX4_quiet 14 = .ok (.iload_n 1, 1) := by decide +kernel
theorem dX4_quiet_15 : decode cX4_quiet 15 = .ok (.baload, 1) := by decide +kernel
theorem dX4_quiet_16 : decode cX4_quiet 16 = .ok (.ifCond .eq 5, 3) := by decide +kernel
theorem dX4_quiet_19 : decode cX4_quiet 19 = .ok (.iconst 0, 1) := by decide +kernel
theorem dX4_quiet_20 : decode cX4_quiet 20 = .ok (.ireturn, 1) := by decide +kernel
theorem dX4_quiet_21 : decode cX4_quiet 21 = .ok (.iconst 0, 1) := by decide +kernel
theorem dX4_quiet_22 : decode cX4_quiet 22 = .ok (.istore_n 2, 1) := by decide +kernel
theorem dX4_quiet_23 : decode cX4_quiet 23 = .ok (.iload_n 2, 1) := by decide +kernel
theorem dX4_quiet_24 : decode cX4_quiet 24 = .ok (.aload_n 0, 1) := by decide +kernel
theorem dX4_quiet_25 : decode cX4_quiet 25 = .ok (.getfield 60, 3) := by decide +kernel
theorem dX4_quiet_28 : decode cX4_quiet 28 = .ok (.if_icmp .ge 24, 3) := by decide +kernel
theorem dX4_quiet_31 : decode cX4_quiet 31 = .ok (.aload_n 0, 1) := by decide +kernel
theorem dX4_quiet_32 : decode cX4_quiet 32 = .ok (.iload_n 1, 1) := by decide +kernel
theorem dX4_quiet_33 : decode cX4_quiet 33 = .ok (.iload_n 2, 1) := by decide +kernel
theorem dX4_quiet_34 : decode cX4_quiet 34 = .ok (.invokestatic 68, 3) := by decide +kernel
theorem dX4_quiet_37 : decode cX4_quiet 37 = .ok (.iconst 1, 1) := by decide +kernel
theorem dX4_quiet_38 : decode cX4_quiet 38 = .ok (.invokevirtual 86, 3) := by decide +kernel
theorem dX4_quiet_41 : decode cX4_quiet 41 = .ok (.ifCond .le 5, 3) := by decide +kernel
theorem dX4_quiet_44 : decode cX4_quiet 44 = .ok (.iconst 0, 1) := by decide +kernel
theorem dX4_quiet_45 : decode cX4_quiet 45 = .ok (.ireturn, 1) := by decide +kernel
theorem dX4_quiet_46 : decode cX4_quiet 46 = .ok (.iinc 2 1, 3) := by decide +kernel
theorem dX4_quiet_49 : decode cX4_quiet 49 = .ok (.goto (-26), 3) := by decide +kernel
theorem dX4_quiet_52 : decode cX4_quiet 52 = .ok (.iinc 1 1, 3) := by decide +kernel
theorem dX4_quiet_55 : decode cX4_quiet 55 = .ok (.goto (-53), 3) := by decide +kernel
theorem dX4_quiet_58 : decode cX4_quiet 58 = .ok (.iconst 1, 1) := by decide +kernel
theorem dX4_quiet_59 : decode cX4_quiet 59 = .ok (.ireturn, 1) := by decide +kernel
theorem dX4_settles_0 : decode cX4_settles 0 = .ok (.iconst 0, 1) := by decide +kernel
theorem dX4_settles_1 : decode cX4_settles 1 = .ok (.istore_n 1, 1) := by decide +kernel
theorem dX4_settles_2 : decode cX4_settles 2 = .ok (.iconst 0, 1) := by decide +kernel
theorem dX4_settles_3 : decode cX4_settles 3 = .ok (.istore_n 2, 1) := by decide +kernel
theorem dX4_settles_4 : decode cX4_settles 4 = .ok (.iload_n 2, 1) := by decide +kernel
theorem dX4_settles_5 : decode cX4_settles 5 = .ok (.aload_n 0, 1) := by decide +kernel
theorem dX4_settles_6 : decode cX4_settles 6 = .ok (.getfield 60, 3) := by decide +kernel
theorem dX4_settles_9 : decode cX4_settles 9 = .ok (.if_icmp .ge 73, 3) := by decide +kernel
theorem dX4_settles_12 : decode cX4_settles 12 = .ok (.aload_n 0, 1) := by decide +kernel
theorem dX4_settles_13 : decode cX4_settles 13 = .ok (.iload_n 2, 1) := by decide +kernel
theorem dX4_settles_14 : decode cX4_settles 14 = .ok (.invokevirtual 89, 3) := by decide +kernel
theorem dX4_settles_17 : decode cX4_settles 17 = .ok (.ifCond .eq 59, 3) := by decide +kernel
theorem dX4_settles_20 : decode cX4_settles 20 = .ok (.aload_n 0, 1) := by decide +kernel
theorem dX4_settles_21 : decode cX4_settles 21 = .ok (.getfield 9, 3) := by decide +kernel
theorem dX4_settles_24 : decode cX4_settles 24 = .ok (.iload_n 2, 1) := by decide +kernel
theorem dX4_settles_25 : decode cX4_settles 25 = .ok (.baload, 1) := by decide +kernel
theorem dX4_settles_26 : decode cX4_settles 26 = .ok (.ifCond .ne 50, 3) := by decide +kernel
theorem dX4_settles_29 : decode cX4_settles 29 = .ok (.aload_n 0, 1) := by decide +kernel
theorem dX4_settles_30 : decode cX4_settles 30 = .ok (.getfield 17, 3) := by decide +kernel
theorem dX4_settles_33 : decode cX4_settles 33 = .ok (.iload_n 2, 1) := by decide +kernel
theorem dX4_settles_34 : decode cX4_settles 34 = .ok (.iaload, 1) := by decide +kernel
theorem dX4_settles_35 : decode cX4_settles 35 = .ok (.ifCond .le 6, 3) := by decide +kernel
theorem dX4_settles_38 : decode cX4_settles 38 = .ok (.goto 38, 3) := by decide +kernel
theorem dX4_settles_41 : decode cX4_settles 41 = .ok (.iload_n 2, 1) := by decide +kernel
theorem dX4_settles_42 : decode cX4_settles 42 = .ok (.ifCond .ne 13, 3) := by decide +kernel
theorem dX4_settles_45 : decode cX4_settles 45 = .ok (.aload_n 0, 1) := by decide +kernel
theorem dX4_settles_46 : decode cX4_settles 46 = .ok (.iconst 1, 1) := by decide +kernel
theorem dX4_settles_47 : decode cX4_settles 47 = .ok (.putfield 83, 3) := by decide +kernel
theorem dX4_settles_50 : decode cX4_settles 50 = .ok (.iconst 1, 1) := by decide +kernel
theorem dX4_settles_51 : decode cX4_settles 51 = .ok (.istore_n 1, 1) := by decide +kernel
theorem dX4_settles_52 : decode cX4_settles 52 = .ok (.goto 24, 3) := by decide +kernel
theorem dX4_settles_55 : decode cX4_settles 55 = .ok (.aload_n 0, 1) := by decide +kernel
theorem dX4_settles_56 : decode cX4_settles 56 = .ok (.iload_n 2, 1) := by decide +kernel
theorem dX4_settles_57 : decode cX4_settles 57 = .ok (.aload_n 0, 1) := by decide +kernel
theorem dX4_settles_58 : decode cX4_settles 58 = .ok (.getfield 13, 3) := by decide +kernel
theorem dX4_settles_61 : decode cX4_settles 61 = .ok (.iload_n 2, 1) := by decide +kernel
theorem dX4_settles_62 : decode cX4_settles 62 = .ok (.iaload, 1) := by decide +kernel
theorem dX4_settles_63 : decode cX4_settles 63 = .ok (.iconst 2, 1) := by decide +kernel
theorem dX4_settles_64 : decode cX4_settles 64 = .ok (.iconst (-1), 1) := by decide +kernel
theorem dX4_settles_65 : decode cX4_settles 65 = .ok (.iconst (-1), 1) := by decide +kernel
theorem dX4_settles_66 : decode cX4_settles 66 = .ok (.invokevirtual 92, 3) := by decide +kernel
theorem dX4_settles_69 : decode cX4_settles 69 = .ok (.aload_n 0, 1) := by decide +kernel
theorem dX4_settles_70 : decode cX4_settles 70 = .ok (.getfield 13, 3) := by decide +kernel
theorem dX4_settles_73 : decode cX4_settles 73 = .ok (.iload_n 2, 1) := by decide +kernel
theorem dX4_settles_74 : decode cX4_settles 74 = .ok (.iconst (-1), 1) := by decide +kernel
theorem dX4_settles_75 : decode cX4_settles 75 = .ok (.iastore, 1) := by decide +kernel
theorem dX4_settles_76 : decode cX4_settles 76 = .ok (.iinc 2 1, 3) := by decide +kernel
theorem dX4_settles_79 : decode cX4_settles 79 = .ok (.goto (-75), 3) := by decide +kernel
theorem dX4_settles_82 : decode cX4_settles 82 = .ok (.iload_n 1, 1) := by decide +kernel
theorem dX4_settles_83 : decode cX4_settles 83 = .ok (.ifCond .eq 20, 3) := by decide +kernel
theorem dX4_settles_86 : decode cX4_settles 86 = .ok (.aload_n 0, 1) := by decide +kernel
theorem dX4_settles_87 : decode cX4_settles 87 = .ok (.invokevirtual 96, 3) := by decide +kernel
theorem dX4_settles_90 : decode cX4_settles 90 = .ok (.ifCond .ne 13, 3) := by decide +kernel
theorem dX4_settles_93 : decode cX4_settles 93 = .ok (.aload_n 0, 1) := by decide +kernel
theorem dX4_settles_94 : decode cX4_settles 94 = .ok (.dup, 1) := by decide +kernel
theorem dX4_settles_95 : decode cX4_settles 95 = .ok (.getfield 100, 3) := by decide +kernel
theorem dX4_settles_98 : decode cX4_settles 98 = .ok (.iconst 1, 1) := by decide +kernel
theorem dX4_settles_99 : decode cX4_settles 99 = .ok (.iadd, 1) := by decide +kernel
theorem dX4_settles_100 : decode cX4_settles 100 = .ok (.putfield 100, 3) := by decide +kernel
theorem dX4_settles_103 : decode cX4_settles 103 = .ok (.return_, 1) := by decide +kernel
theorem dX4_start_0 : decode cX4_start 0 = .ok (.aload_n 0, 1) := by decide +kernel
theorem dX4_start_1 : decode cX4_start 1 = .ok (.getfield 79, 3) := by decide +kernel
theorem dX4_start_4 : decode cX4_start 4 = .ok (.ifCond .eq 5, 3) := by decide +kernel
theorem dX4_start_7 : decode cX4_start 7 = .ok (.iconst 0, 1) := by decide +kernel
theorem dX4_start_8 : decode cX4_start 8 = .ok (.ireturn, 1) := by decide +kernel
theorem dX4_start_9 : decode cX4_start 9 = .ok (.aload_n 0, 1) := by decide +kernel
theorem dX4_start_10 : decode cX4_start 10 = .ok (.iconst 1, 1) := by decide +kernel
theorem dX4_start_11 : decode cX4_start 11 = .ok (.putfield 79, 3) := by decide +kernel
theorem dX4_start_14 : decode cX4_start 14 = .ok (.aload_n 0, 1) := by decide +kernel
theorem dX4_start_15 : decode cX4_start 15 = .ok (.getfield 9, 3) := by decide +kernel
theorem dX4_start_18 : decode cX4_start 18 = .ok (.iconst 0, 1) := by decide +kernel
theorem dX4_start_19 : decode cX4_start 19 = .ok (.iconst 1, 1) := by decide +kernel
theorem dX4_start_20 : decode cX4_start 20 = .ok (.bastore, 1) := by decide +kernel
theorem dX4_start_21 : decode cX4_start 21 = .ok (.iconst 1, 1) := by decide +kernel
theorem dX4_start_22 : decode cX4_start 22 = .ok (.ireturn, 1) := by decide +kernel
theorem dX4_send_0 : decode cX4_send 0 = .ok (.aload_n 0, 1) := by decide +kernel
theorem dX4_send_1 : decode cX4_send 1 = .ok (.iload_n 1, 1) := by decide +kernel
theorem dX4_send_2 : decode cX4_send 2 = .ok (.iload_n 2, 1) := by decide +kernel
theorem dX4_send_3 : decode cX4_send 3 = .ok (.invokevirtual 103, 3) := by decide +kernel
theorem dX4_send_6 : decode cX4_send 6 = .ok (.ifCond .eq 37, 3) := by decide +kernel
theorem dX4_send_9 : decode cX4_send 9 = .ok (.aload_n 0, 1) := by decide +kernel
theorem dX4_send_10 : decode cX4_send 10 = .ok (.iload_n 1, 1) := by decide +kernel
theorem dX4_send_11 : decode cX4_send 11 = .ok (.invokevirtual 107, 3) := by decide +kernel
theorem dX4_send_14 : decode cX4_send 14 = .ok (.ifCond .eq 29, 3) := by decide +kernel
theorem dX4_send_17 : decode cX4_send 17 = .ok (.aload_n 0, 1) := by decide +kernel
theorem dX4_send_18 : decode cX4_send 18 = .ok (.iload_n 1, 1) := by decide +kernel
theorem dX4_send_19 : decode cX4_send 19 = .ok (.iload_n 2, 1) := by decide +kernel
theorem dX4_send_20 : decode cX4_send 20 = .ok (.invokestatic 68, 3) := by decide +kernel
theorem dX4_send_23 : decode cX4_send 23 = .ok (.iconst 1, 1) := by decide +kernel
theorem dX4_send_24 : decode cX4_send 24 = .ok (.invokevirtual 86, 3) := by decide +kernel
theorem dX4_send_27 : decode cX4_send 27 = .ok (.bipush 20, 2) := by decide +kernel
theorem dX4_send_29 : decode cX4_send 29 = .ok (.if_icmp .eq 14, 3) := by decide +kernel
theorem dX4_send_32 : decode cX4_send 32 = .ok (.aload_n 0, 1) := by decide +kernel
theorem dX4_send_33 : decode cX4_send 33 = .ok (.getfield 17, 3) := by decide +kernel
theorem dX4_send_36 : decode cX4_send 36 = .ok (.iload_n 1, 1) := by decide +kernel
theorem dX4_send_37 : decode cX4_send 37 = .ok (.iaload, 1) := by decide +kernel
theorem dX4_send_38 : decode cX4_send 38 = .ok (.bipush 100, 2) := by decide +kernel
theorem dX4_send_40 : decode cX4_send 40 = .ok (.if_icmp .ne 5, 3) := by decide +kernel
theorem dX4_send_43 : decode cX4_send 43 = .ok (.iconst 0, 1) := by decide +kernel
theorem dX4_send_44 : decode cX4_send 44 = .ok (.ireturn, 1) := by decide +kernel
theorem dX4_send_45 : decode cX4_send 45 = .ok (.aload_n 0, 1) := by decide +kernel
theorem dX4_send_46 : decode cX4_send 46 = .ok (.iload_n 1, 1) := by decide +kernel
theorem dX4_send_47 : decode cX4_send 47 = .ok (.iload_n 2, 1) := by decide +kernel
theorem dX4_send_48 : decode cX4_send 48 = .ok (.iconst 1, 1) := by decide +kernel
theorem dX4_send_49 : decode cX4_send 49 = .ok (.iconst (-1), 1) := by decide +kernel
theorem dX4_send_50 : decode cX4_send 50 = .ok (.iconst (-1), 1) := by decide +kernel
theorem dX4_send_51 : decode cX4_send 51 = .ok (.invokevirtual 92, 3) := by decide +kernel
theorem dX4_send_54 : decode cX4_send 54 = .ok (.aload_n 0, 1) := by decide +kernel
theorem dX4_send_55 : decode cX4_send 55 = .ok (.getfield 17, 3) := by decide +kernel
theorem dX4_send_58 : decode cX4_send 58 = .ok (.iload_n 1, 1) := by decide +kernel
theorem dX4_send_59 : decode cX4_send 59 = .ok (.dup2, 1) := by decide +kernel
theorem dX4_send_60 : decode cX4_send 60 = .ok (.iaload, 1) := by decide +kernel
theorem dX4_send_61 : decode cX4_send 61 = .ok (.iconst 1, 1) := by decide +kernel
theorem dX4_send_62 : decode cX4_send 62 = .ok (.iadd, 1) := by decide +kernel
theorem dX4_send_63 : decode cX4_send 63 = .ok (.iastore, 1) := by decide +kernel
theorem dX4_send_64 : decode cX4_send 64 = .ok (.aload_n 0, 1) := by decide +kernel
theorem dX4_send_65 : decode cX4_send 65 = .ok (.getfield 20, 3) := by decide +kernel
theorem dX4_send_68 : decode cX4_send 68 = .ok (.iload_n 1, 1) := by decide +kernel
theorem dX4_send_69 : decode cX4_send 69 = .ok (.dup2, 1) := by decide +kernel
theorem dX4_send_70 : decode cX4_send 70 = .ok (.iaload, 1) := by decide +kernel
theorem dX4_send_71 : decode cX4_send 71 = .ok (.iconst 1, 1) := by decide +kernel
theorem dX4_send_72 : decode cX4_send 72 = .ok (.iadd, 1) := by decide +kernel
theorem dX4_send_73 : decode cX4_send 73 = .ok (.iastore, 1) := by decide +kernel
theorem dX4_send_74 : decode cX4_send 74 = .ok (.iconst 1, 1) := by decide +kernel
theorem dX4_send_75 : decode cX4_send 75 = .ok (.ireturn, 1) := by decide +kernel
theorem dX4_rest_0 : decode cX4_rest 0 = .ok (.aload_n 0, 1) := by decide +kernel
theorem dX4_rest_1 : decode cX4_rest 1 = .ok (.iload_n 1, 1) := by decide +kernel
theorem dX4_rest_2 : decode cX4_rest 2 = .ok (.invokevirtual 107, 3) := by decide +kernel
theorem dX4_rest_5 : decode cX4_rest 5 = .ok (.ifCond .ne 5, 3) := by decide +kernel
theorem dX4_rest_8 : decode cX4_rest 8 = .ok (.iconst 0, 1) := by decide +kernel
theorem dX4_rest_9 : decode cX4_rest 9 = .ok (.ireturn, 1) := by decide +kernel
theorem dX4_rest_10 : decode cX4_rest 10 = .ok (.aload_n 0, 1) := by decide +kernel
theorem dX4_rest_11 : decode cX4_rest 11 = .ok (.getfield 9, 3) := by decide +kernel
theorem dX4_rest_14 : decode cX4_rest 14 = .ok (.iload_n 1, 1) := by decide +kernel
theorem dX4_rest_15 : decode cX4_rest 15 = .ok (.iconst 0, 1) := by decide +kernel
theorem dX4_rest_16 : decode cX4_rest 16 = .ok (.bastore, 1) := by decide +kernel
theorem dX4_rest_17 : decode cX4_rest 17 = .ok (.aload_n 0, 1) := by decide +kernel
theorem dX4_rest_18 : decode cX4_rest 18 = .ok (.invokevirtual 110, 3) := by decide +kernel
theorem dX4_rest_21 : decode cX4_rest 21 = .ok (.iconst 1, 1) := by decide +kernel
theorem dX4_rest_22 : decode cX4_rest 22 = .ok (.ireturn, 1) := by decide +kernel
theorem dX4_ask_0 : decode cX4_ask 0 = .ok (.aload_n 0, 1) := by decide +kernel
theorem dX4_ask_1 : decode cX4_ask 1 = .ok (.iload_n 1, 1) := by decide +kernel
theorem dX4_ask_2 : decode cX4_ask 2 = .ok (.invokevirtual 107, 3) := by decide +kernel
theorem dX4_ask_5 : decode cX4_ask 5 = .ok (.ifCond .ne 5, 3) := by decide +kernel
theorem dX4_ask_8 : decode cX4_ask 8 = .ok (.iconst (-1), 1) := by decide +kernel
theorem dX4_ask_9 : decode cX4_ask 9 = .ok (.ireturn, 1) := by decide +kernel
theorem dX4_ask_10 : decode cX4_ask 10 = .ok (.iconst 0, 1) := by decide +kernel
theorem dX4_ask_11 : decode cX4_ask 11 = .ok (.istore_n 3, 1) := by decide +kernel
theorem dX4_ask_12 : decode cX4_ask 12 = .ok (.iconst 0, 1) := by decide +kernel
theorem dX4_ask_13 : decode cX4_ask 13 = .ok (.istore 4, 2) := by decide +kernel
theorem dX4_ask_15 : decode cX4_ask 15 = .ok (.iload 4, 2) := by decide +kernel
theorem dX4_ask_17 : decode cX4_ask 17 = .ok (.aload_n 0, 1) := by decide +kernel
theorem dX4_ask_18 : decode cX4_ask 18 = .ok (.getfield 60, 3) := by decide +kernel
theorem dX4_ask_21 : decode cX4_ask 21 = .ok (.if_icmp .ge 52, 3) := by decide +kernel
theorem dX4_ask_24 : decode cX4_ask 24 = .ok (.iload 4, 2) := by decide +kernel
theorem dX4_ask_26 : decode cX4_ask 26 = .ok (.iload_n 1, 1) := by decide +kernel
theorem dX4_ask_27 : decode cX4_ask 27 = .ok (.if_icmp .eq 40, 3) := by decide +kernel
theorem dX4_ask_30 : decode cX4_ask 30 = .ok (.iload_n 2, 1) := by decide +kernel
theorem dX4_ask_31 : decode cX4_ask 31 = .ok (.iload 4, 2) := by decide +kernel
theorem dX4_ask_33 : decode cX4_ask 33 = .ok (.ishr, 1) := by decide +kernel
theorem dX4_ask_34 : decode cX4_ask 34 = .ok (.iconst 1, 1) := by decide +kernel
theorem dX4_ask_35 : decode cX4_ask 35 = .ok (.iand, 1) := by decide +kernel
theorem dX4_ask_36 : decode cX4_ask 36 = .ok (.ifCond .ne 6, 3) := by decide +kernel
theorem dX4_ask_39 : decode cX4_ask 39 = .ok (.goto 28, 3) := by decide +kernel
theorem dX4_ask_42 : decode cX4_ask 42 = .ok (.aload_n 0, 1) := by decide +kernel
theorem dX4_ask_43 : decode cX4_ask 43 = .ok (.iload_n 1, 1) := by decide +kernel
theorem dX4_ask_44 : decode cX4_ask 44 = .ok (.iload 4, 2) := by decide +kernel
theorem dX4_ask_46 : decode cX4_ask 46 = .ok (.iconst 4, 1) := by decide +kernel
theorem dX4_ask_47 : decode cX4_ask 47 = .ok (.iconst (-1), 1) := by decide +kernel
theorem dX4_ask_48 : decode cX4_ask 48 = .ok (.iconst (-1), 1) := by decide +kernel
theorem dX4_ask_49 : decode cX4_ask 49 = .ok (.invokevirtual 92, 3) := by decide +kernel
theorem dX4_ask_52 : decode cX4_ask 52 = .ok (.aload_n 0, 1) := by decide +kernel
theorem dX4_ask_53 : decode cX4_ask 53 = .ok (.getfield 35, 3) := by decide +kernel
theorem dX4_ask_56 : decode cX4_ask 56 = .ok (.iload_n 1, 1) := by decide +kernel
theorem dX4_ask_57 : decode cX4_ask 57 = .ok (.iload 4, 2) := by decide +kernel
theorem dX4_ask_59 : decode cX4_ask 59 = .ok (.invokestatic 68, 3) := by decide +kernel
theorem dX4_ask_62 : decode cX4_ask 62 = .ok (.iconst 1, 1) := by decide +kernel
theorem dX4_ask_63 : decode cX4_ask 63 = .ok (.bastore, 1) := by decide +kernel
theorem dX4_ask_64 : decode cX4_ask 64 = .ok (.iinc 3 1, 3) := by decide +kernel
theorem dX4_ask_67 : decode cX4_ask 67 = .ok (.iinc 4 1, 3) := by decide +kernel
theorem dX4_ask_70 : decode cX4_ask 70 = .ok (.goto (-55), 3) := by decide +kernel
theorem dX4_ask_73 : decode cX4_ask 73 = .ok (.iload_n 3, 1) := by decide +kernel
theorem dX4_ask_74 : decode cX4_ask 74 = .ok (.ifCond .ne 7, 3) := by decide +kernel
theorem dX4_ask_77 : decode cX4_ask 77 = .ok (.iconst (-1), 1) := by decide +kernel
theorem dX4_ask_78 : decode cX4_ask 78 = .ok (.goto 4, 3) := by decide +kernel
theorem dX4_ask_81 : decode cX4_ask 81 = .ok (.iload_n 3, 1) := by decide +kernel
theorem dX4_ask_82 : decode cX4_ask 82 = .ok (.ireturn, 1) := by decide +kernel
theorem dX4_answer_0 : decode cX4_answer 0 = .ok (.aload_n 0, 1) := by decide +kernel
theorem dX4_answer_1 : decode cX4_answer 1 = .ok (.iload_n 1, 1) := by decide +kernel
theorem dX4_answer_2 : decode cX4_answer 2 = .ok (.iload_n 2, 1) := by decide +kernel
theorem dX4_answer_3 : decode cX4_answer 3 = .ok (.invokevirtual 103, 3) := by decide +kernel
theorem dX4_answer_6 : decode cX4_answer 6 = .ok (.ifCond .eq 24, 3) := by decide +kernel
theorem dX4_answer_9 : decode cX4_answer 9 = .ok (.aload_n 0, 1) := by decide +kernel
theorem dX4_answer_10 : decode cX4_answer 10 = .ok (.iload_n 1, 1) := by decide +kernel
theorem dX4_answer_11 : decode cX4_answer 11 = .ok (.invokevirtual 76, 3) := by decide +kernel
theorem dX4_answer_14 : decode cX4_answer 14 = .ok (.ifCond .ne 16, 3) := by decide +kernel
theorem dX4_answer_17 : decode cX4_answer 17 = .ok (.aload_n 0, 1) := by decide +kernel
theorem dX4_answer_18 : decode cX4_answer 18 = .ok (.getfield 38, 3) := by decide +kernel
theorem dX4_answer_21 : decode cX4_answer 21 = .ok (.iload_n 1, 1) := by decide +kernel
theorem dX4_answer_22 : decode cX4_answer 22 = .ok (.iload_n 2, 1) := by decide +kernel
theorem dX4_answer_23 : decode cX4_answer 23 = .ok (.invokestatic 68, 3) := by decide +kernel
theorem dX4_answer_26 : decode cX4_answer 26 = .ok (.baload, 1) := by decide +kernel
theorem dX4_answer_27 : decode cX4_answer 27 = .ok (.ifCond .ne 5, 3) := by decide +kernel
theorem dX4_answer_30 : decode cX4_answer 30 = .ok (.iconst 0, 1) := by decide +kernel
theorem dX4_answer_31 : decode cX4_answer 31 = .ok (.ireturn, 1) := by decide +kernel
theorem dX4_answer_32 : decode cX4_answer 32 = .ok (.aload_n 0, 1) := by decide +kernel
theorem dX4_answer_33 : decode cX4_answer 33 = .ok (.getfield 38, 3) := by decide +kernel
theorem dX4_answer_36 : decode cX4_answer 36 = .ok (.iload_n 1, 1) := by decide +kernel
theorem dX4_answer_37 : decode cX4_answer 37 = .ok (.iload_n 2, 1) := by decide +kernel
theorem dX4_answer_38 : decode cX4_answer 38 = .ok (.invokestatic 68, 3) := by decide +kernel
theorem dX4_answer_41 : decode cX4_answer 41 = .ok (.iconst 0, 1) := by decide +kernel
theorem dX4_answer_42 : decode cX4_answer 42 = .ok (.bastore, 1) := by decide +kernel
theorem dX4_answer_43 : decode cX4_answer 43 = .ok (.aload_n 0, 1) := by decide +kernel
theorem dX4_answer_44 : decode cX4_answer 44 = .ok (.iload_n 1, 1) := by decide +kernel
theorem dX4_answer_45 : decode cX4_answer 45 = .ok (.iload_n 2, 1) := by decide +kernel
theorem dX4_answer_46 : decode cX4_answer 46 = .ok (.iconst 5, 1) := by decide +kernel
theorem dX4_answer_47 : decode cX4_answer 47 = .ok (.iconst (-1), 1) := by decide +kernel
theorem dX4_answer_48 : decode cX4_answer 48 = .ok (.iconst (-1), 1) := by decide +kernel
theorem dX4_answer_49 : decode cX4_answer 49 = .ok (.invokevirtual 92, 3) := by decide +kernel
theorem dX4_answer_52 : decode cX4_answer 52 = .ok (.iconst 1, 1) := by decide +kernel
theorem dX4_answer_53 : decode cX4_answer 53 = .ok (.ireturn, 1) := by decide +kernel
theorem dX4_probes_0 : decode cX4_probes 0 = .ok (.iconst 0, 1) := by decide +kernel
theorem dX4_probes_1 : decode cX4_probes 1 = .ok (.istore 4, 2) := by decide +kernel
theorem dX4_probes_3 : decode cX4_probes 3 = .ok (.iload 4, 2) := by decide +kernel
theorem dX4_probes_5 : decode cX4_probes 5 = .ok (.aload_n 0, 1) := by decide +kernel
theorem dX4_probes_6 : decode cX4_probes 6 = .ok (.getfield 60, 3) := by decide +kernel
theorem dX4_probes_9 : decode cX4_probes 9 = .ok (.if_icmp .ge 34, 3) := by decide +kernel
theorem dX4_probes_12 : decode cX4_probes 12 = .ok (.aload_n 0, 1) := by decide +kernel
theorem dX4_probes_13 : decode cX4_probes 13 = .ok (.getfield 35, 3) := by decide +kernel
theorem dX4_probes_16 : decode cX4_probes 16 = .ok (.iload_n 1, 1) := by decide +kernel
theorem dX4_probes_17 : decode cX4_probes 17 = .ok (.iload 4, 2) := by decide +kernel
theorem dX4_probes_19 : decode cX4_probes 19 = .ok (.invokestatic 68, 3) := by decide +kernel
theorem dX4_probes_22 : decode cX4_probes 22 = .ok (.baload, 1) := by decide +kernel
theorem dX4_probes_23 : decode cX4_probes 23 = .ok (.ifCond .eq 14, 3) := by decide +kernel
theorem dX4_probes_26 : decode cX4_probes 26 = .ok (.aload_n 0, 1) := by decide +kernel
theorem dX4_probes_27 : decode cX4_probes 27 = .ok (.iload_n 1, 1) := by decide +kernel
theorem dX4_probes_28 : decode cX4_probes 28 = .ok (.iload 4, 2) := by decide +kernel
theorem dX4_probes_30 : decode cX4_probes 30 = .ok (.bipush 6, 2) := by decide +kernel
theorem dX4_probes_32 : decode cX4_probes 32 = .ok (.iload_n 2, 1) := by decide +kernel
theorem dX4_probes_33 : decode cX4_probes 33 = .ok (.iload_n 3, 1) := by decide +kernel
theorem dX4_probes_34 : decode cX4_probes 34 = .ok (.invokevirtual 92, 3) := by decide +kernel
theorem dX4_probes_37 : decode cX4_probes 37 = .ok (.iinc 4 1, 3) := by decide +kernel
theorem dX4_probes_40 : decode cX4_probes 40 = .ok (.goto (-37), 3) := by decide +kernel
theorem dX4_probes_43 : decode cX4_probes 43 = .ok (.return_, 1) := by decide +kernel
theorem dX4_probe_0 : decode cX4_probe 0 = .ok (.aload_n 0, 1) := by decide +kernel
theorem dX4_probe_1 : decode cX4_probe 1 = .ok (.iload_n 1, 1) := by decide +kernel
theorem dX4_probe_2 : decode cX4_probe 2 = .ok (.invokevirtual 64, 3) := by decide +kernel
theorem dX4_probe_5 : decode cX4_probe 5 = .ok (.ifCond .eq 22, 3) := by decide +kernel
theorem dX4_probe_8 : decode cX4_probe 8 = .ok (.aload_n 0, 1) := by decide +kernel
theorem dX4_probe_9 : decode cX4_probe 9 = .ok (.iload_n 1, 1) := by decide +kernel
theorem dX4_probe_10 : decode cX4_probe 10 = .ok (.invokevirtual 76, 3) := by decide +kernel
theorem dX4_probe_13 : decode cX4_probe 13 = .ok (.ifCond .eq 14, 3) := by decide +kernel
theorem dX4_probe_16 : decode cX4_probe 16 = .ok (.aload_n 0, 1) := by decide +kernel
theorem dX4_probe_17 : decode cX4_probe 17 = .ok (.getfield 32, 3) := by decide +kernel
theorem dX4_probe_20 : decode cX4_probe 20 = .ok (.iload_n 1, 1) := by decide +kernel
theorem dX4_probe_21 : decode cX4_probe 21 = .ok (.iaload, 1) := by decide +kernel
theorem dX4_probe_22 : decode cX4_probe 22 = .ok (.bipush 50, 2) := by decide +kernel
theorem dX4_probe_24 : decode cX4_probe 24 = .ok (.if_icmp .ne 5, 3) := by decide +kernel
theorem dX4_probe_27 : decode cX4_probe 27 = .ok (.iconst (-1), 1) := by decide +kernel
theorem dX4_probe_28 : decode cX4_probe 28 = .ok (.ireturn, 1) := by decide +kernel
theorem dX4_probe_29 : decode cX4_probe 29 = .ok (.aload_n 0, 1) := by decide +kernel
theorem dX4_probe_30 : decode cX4_probe 30 = .ok (.getfield 32, 3) := by decide +kernel
theorem dX4_probe_33 : decode cX4_probe 33 = .ok (.iload_n 1, 1) := by decide +kernel
theorem dX4_probe_34 : decode cX4_probe 34 = .ok (.dup2, 1) := by decide +kernel
theorem dX4_probe_35 : decode cX4_probe 35 = .ok (.iaload, 1) := by decide +kernel
theorem dX4_probe_36 : decode cX4_probe 36 = .ok (.iconst 1, 1) := by decide +kernel
theorem dX4_probe_37 : decode cX4_probe 37 = .ok (.iadd, 1) := by decide +kernel
theorem dX4_probe_38 : decode cX4_probe 38 = .ok (.iastore, 1) := by decide +kernel
theorem dX4_probe_39 : decode cX4_probe 39 = .ok (.aload_n 0, 1) := by decide +kernel
theorem dX4_probe_40 : decode cX4_probe 40 = .ok (.iload_n 1, 1) := by decide +kernel
theorem dX4_probe_41 : decode cX4_probe 41 = .ok (.iload_n 1, 1) := by decide +kernel
theorem dX4_probe_42 : decode cX4_probe 42 = .ok (.aload_n 0, 1) := by decide +kernel
theorem dX4_probe_43 : decode cX4_probe 43 = .ok (.getfield 32, 3) := by decide +kernel
theorem dX4_probe_46 : decode cX4_probe 46 = .ok (.iload_n 1, 1) := by decide +kernel
theorem dX4_probe_47 : decode cX4_probe 47 = .ok (.iaload, 1) := by decide +kernel
theorem dX4_probe_48 : decode cX4_probe 48 = .ok (.invokevirtual 113, 3) := by decide +kernel
theorem dX4_probe_51 : decode cX4_probe 51 = .ok (.aload_n 0, 1) := by decide +kernel
theorem dX4_probe_52 : decode cX4_probe 52 = .ok (.getfield 32, 3) := by decide +kernel
theorem dX4_probe_55 : decode cX4_probe 55 = .ok (.iload_n 1, 1) := by decide +kernel
theorem dX4_probe_56 : decode cX4_probe 56 = .ok (.iaload, 1) := by decide +kernel
theorem dX4_probe_57 : decode cX4_probe 57 = .ok (.ireturn, 1) := by decide +kernel
theorem dX4_pass_0 : decode cX4_pass 0 = .ok (.aload_n 0, 1) := by decide +kernel
theorem dX4_pass_1 : decode cX4_pass 1 = .ok (.iload_n 1, 1) := by decide +kernel
theorem dX4_pass_2 : decode cX4_pass 2 = .ok (.invokevirtual 64, 3) := by decide +kernel
theorem dX4_pass_5 : decode cX4_pass 5 = .ok (.ifCond .eq 35, 3) := by decide +kernel
theorem dX4_pass_8 : decode cX4_pass 8 = .ok (.aload_n 0, 1) := by decide +kernel
theorem dX4_pass_9 : decode cX4_pass 9 = .ok (.getfield 26, 3) := by decide +kernel
theorem dX4_pass_12 : decode cX4_pass 12 = .ok (.iload_n 1, 1) := by decide +kernel
theorem dX4_pass_13 : decode cX4_pass 13 = .ok (.baload, 1) := by decide +kernel
theorem dX4_pass_14 : decode cX4_pass 14 = .ok (.ifCond .eq 26, 3) := by decide +kernel
theorem dX4_pass_17 : decode cX4_pass 17 = .ok (.aload_n 0, 1) := by decide +kernel
theorem dX4_pass_18 : decode cX4_pass 18 = .ok (.getfield 9, 3) := by decide +kernel
theorem dX4_pass_21 : decode cX4_pass 21 = .ok (.iload_n 1, 1) := by decide +kernel
theorem dX4_pass_22 : decode cX4_pass 22 = .ok (.baload, 1) := by decide +kernel
theorem dX4_pass_23 : decode cX4_pass 23 = .ok (.ifCond .ne 17, 3) := by decide +kernel
theorem dX4_pass_26 : decode cX4_pass 26 = .ok (.aload_n 0, 1) := by decide +kernel
theorem dX4_pass_27 : decode cX4_pass 27 = .ok (.getfield 79, 3) := by decide +kernel
theorem dX4_pass_30 : decode cX4_pass 30 = .ok (.ifCond .eq 10, 3) := by decide +kernel
theorem dX4_pass_33 : decode cX4_pass 33 = .ok (.aload_n 0, 1) := by decide +kernel
theorem dX4_pass_34 : decode cX4_pass 34 = .ok (.getfield 117, 3) := by decide +kernel
theorem dX4_pass_37 : decode cX4_pass 37 = .ok (.ifCond .eq 5, 3) := by decide +kernel
theorem dX4_pass_40 : decode cX4_pass 40 = .ok (.iconst (-1), 1) := by decide +kernel
theorem dX4_pass_41 : decode cX4_pass 41 = .ok (.ireturn, 1) := by decide +kernel
theorem dX4_pass_42 : decode cX4_pass 42 = .ok (.iload_n 1, 1) := by decide +kernel
theorem dX4_pass_43 : decode cX4_pass 43 = .ok (.ifCond .le 70, 3) := by decide +kernel
theorem dX4_pass_46 : decode cX4_pass 46 = .ok (.aload_n 0, 1) := by decide +kernel
theorem dX4_pass_47 : decode cX4_pass 47 = .ok (.dup, 1) := by decide +kernel
theorem dX4_pass_48 : decode cX4_pass 48 = .ok (.getfield 120, 3) := by decide +kernel
theorem dX4_pass_51 : decode cX4_pass 51 = .ok (.aload_n 0, 1) := by decide +kernel
theorem dX4_pass_52 : decode cX4_pass 52 = .ok (.getfield 20, 3) := by decide +kernel
theorem dX4_pass_55 : decode cX4_pass 55 = .ok (.iload_n 1, 1) := by decide +kernel
theorem dX4_pass_56 : decode cX4_pass 56 = .ok (.iaload, 1) := by decide +kernel
theorem dX4_pass_57 : decode cX4_pass 57 = .ok (.iadd, 1) := by decide +kernel
theorem dX4_pass_58 : decode cX4_pass 58 = .ok (.putfield 120, 3) := by decide +kernel
theorem dX4_pass_61 : decode cX4_pass 61 = .ok (.aload_n 0, 1) := by decide +kernel
theorem dX4_pass_62 : decode cX4_pass 62 = .ok (.aload_n 0, 1) := by decide +kernel
theorem dX4_pass_63 : decode cX4_pass 63 = .ok (.getfield 123, 3) := by decide +kernel
theorem dX4_pass_66 : decode cX4_pass 66 = .ok (.ifCond .ne 12, 3) := by decide +kernel
theorem dX4_pass_69 : decode cX4_pass 69 = .ok (.aload_n 0, 1) := by decide +kernel
theorem dX4_pass_70 : decode cX4_pass 70 = .ok (.getfield 23, 3) := by decide +kernel
theorem dX4_pass_73 : decode cX4_pass 73 = .ok (.iload_n 1, 1) := by decide +kernel
theorem dX4_pass_74 : decode cX4_pass 74 = .ok (.baload, 1) := by decide +kernel
theorem dX4_pass_75 : decode cX4_pass 75 = .ok (.ifCond .eq 7, 3) := by decide +kernel
theorem dX4_pass_78 : decode cX4_pass 78 = .ok (.iconst 1, 1) := by decide +kernel
theorem dX4_pass_79 : decode cX4_pass 79 = .ok (.goto 4, 3) := by decide +kernel
theorem dX4_pass_82 : decode cX4_pass 82 = .ok (.iconst 0, 1) := by decide +kernel
theorem dX4_pass_83 : decode cX4_pass 83 = .ok (.putfield 123, 3) := by decide +kernel
theorem dX4_pass_86 : decode cX4_pass 86 = .ok (.aload_n 0, 1) := by decide +kernel
theorem dX4_pass_87 : decode cX4_pass 87 = .ok (.getfield 23, 3) := by decide +kernel
theorem dX4_pass_90 : decode cX4_pass 90 = .ok (.iload_n 1, 1) := by decide +kernel
theorem dX4_pass_91 : decode cX4_pass 91 = .ok (.iconst 0, 1) := by decide +kernel
theorem dX4_pass_92 : decode cX4_pass 92 = .ok (.bastore, 1) := by decide +kernel
theorem dX4_pass_93 : decode cX4_pass 93 = .ok (.aload_n 0, 1) := by decide +kernel
theorem dX4_pass_94 : decode cX4_pass 94 = .ok (.getfield 26, 3) := by decide +kernel
theorem dX4_pass_97 : decode cX4_pass 97 = .ok (.iload_n 1, 1) := by decide +kernel
theorem dX4_pass_98 : decode cX4_pass 98 = .ok (.iconst 0, 1) := by decide +kernel
theorem dX4_pass_99 : decode cX4_pass 99 = .ok (.bastore, 1) := by decide +kernel
theorem dX4_pass_100 : decode cX4_pass 100 = .ok (.aload_n 0, 1) := by decide +kernel
theorem dX4_pass_101 : decode cX4_pass 101 = .ok (.iload_n 1, 1) := by decide +kernel
theorem dX4_pass_102 : decode cX4_pass 102 = .ok (.iload_n 1, 1) := by decide +kernel
theorem dX4_pass_103 : decode cX4_pass 103 = .ok (.iconst 1, 1) := by decide +kernel
theorem dX4_pass_104 : decode cX4_pass 104 = .ok (.isub, 1) := by decide +kernel
theorem dX4_pass_105 : decode cX4_pass 105 = .ok (.iconst 3, 1) := by decide +kernel
theorem dX4_pass_106 : decode cX4_pass 106 = .ok (.iconst (-1), 1) := by decide +kernel
theorem dX4_pass_107 : decode cX4_pass 107 = .ok (.iconst (-1), 1) := by decide +kernel
theorem dX4_pass_108 : decode cX4_pass 108 = .ok (.invokevirtual 92, 3) := by decide +kernel
theorem dX4_pass_111 : decode cX4_pass 111 = .ok (.iconst 1, 1) := by decide +kernel
theorem dX4_pass_112 : decode cX4_pass 112 = .ok (.ireturn, 1) := by decide +kernel
theorem dX4_pass_113 : decode cX4_pass 113 = .ok (.aload_n 0, 1) := by decide +kernel
theorem dX4_pass_114 : decode cX4_pass 114 = .ok (.getfield 126, 3) := by decide +kernel
theorem dX4_pass_117 : decode cX4_pass 117 = .ok (.ifCond .le 57, 3) := by decide +kernel
theorem dX4_pass_120 : decode cX4_pass 120 = .ok (.aload_n 0, 1) := by decide +kernel
theorem dX4_pass_121 : decode cX4_pass 121 = .ok (.getfield 123, 3) := by decide +kernel
theorem dX4_pass_124 : decode cX4_pass 124 = .ok (.ifCond .ne 50, 3) := by decide +kernel
theorem dX4_pass_127 : decode cX4_pass 127 = .ok (.aload_n 0, 1) := by decide +kernel
theorem dX4_pass_128 : decode cX4_pass 128 = .ok (.getfield 23, 3) := by decide +kernel
theorem dX4_pass_131 : decode cX4_pass 131 = .ok (.iconst 0, 1) := by decide +kernel
theorem dX4_pass_132 : decode cX4_pass 132 = .ok (.baload, 1) := by decide +kernel
theorem dX4_pass_133 : decode cX4_pass 133 = .ok (.ifCond .ne 41, 3) := by decide +kernel
theorem dX4_pass_136 : decode cX4_pass 136 = .ok (.aload_n 0, 1) := by decide +kernel
theorem dX4_pass_137 : decode cX4_pass 137 = .ok (.getfield 120, 3) := by decide +kernel
theorem dX4_pass_140 : decode cX4_pass 140 = .ok (.aload_n 0, 1) := by decide +kernel
theorem dX4_pass_141 : decode cX4_pass 141 = .ok (.getfield 20, 3) := by decide +kernel
theorem dX4_pass_144 : decode cX4_pass 144 = .ok (.iconst 0, 1) := by decide +kernel
theorem dX4_pass_145 : decode cX4_pass 145 = .ok (.iaload, 1) := by decide +kernel
theorem dX4_pass_146 : decode cX4_pass 146 = .ok (.iadd, 1) := by decide +kernel
theorem dX4_pass_147 : decode cX4_pass 147 = .ok (.ifCond .ne 27, 3) := by decide +kernel
theorem dX4_pass_150 : decode cX4_pass 150 = .ok (.aload_n 0, 1) := by decide +kernel
theorem dX4_pass_151 : decode cX4_pass 151 = .ok (.iconst 1, 1) := by decide +kernel
theorem dX4_pass_152 : decode cX4_pass 152 = .ok (.putfield 117, 3) := by decide +kernel
theorem dX4_pass_155 : decode cX4_pass 155 = .ok (.aload_n 0, 1) := by decide +kernel
theorem dX4_pass_156 : decode cX4_pass 156 = .ok (.invokevirtual 96, 3) := by decide +kernel
theorem dX4_pass_159 : decode cX4_pass 159 = .ok (.ifCond .ne 13, 3) := by decide +kernel
theorem dX4_pass_162 : decode cX4_pass 162 = .ok (.aload_n 0, 1) := by decide +kernel
theorem dX4_pass_163 : decode cX4_pass 163 = .ok (.dup, 1) := by decide +kernel
theorem dX4_pass_164 : decode cX4_pass 164 = .ok (.getfield 100, 3) := by decide +kernel
theorem dX4_pass_167 : decode cX4_pass 167 = .ok (.iconst 1, 1) := by decide +kernel
theorem dX4_pass_168 : decode cX4_pass 168 = .ok (.iadd, 1) := by decide +kernel
theorem dX4_pass_169 : decode cX4_pass 169 = .ok (.putfield 100, 3) := by decide +kernel
theorem dX4_pass_172 : decode cX4_pass 172 = .ok (.iconst 2, 1) := by decide +kernel
theorem dX4_pass_173 : decode cX4_pass 173 = .ok (.ireturn, 1) := by decide +kernel
theorem dX4_pass_174 : decode cX4_pass 174 = .ok (.aload_n 0, 1) := by decide +kernel
theorem dX4_pass_175 : decode cX4_pass 175 = .ok (.dup, 1) := by decide +kernel
theorem dX4_pass_176 : decode cX4_pass 176 = .ok (.getfield 126, 3) := by decide +kernel
theorem dX4_pass_179 : decode cX4_pass 179 = .ok (.iconst 1, 1) := by decide +kernel
theorem dX4_pass_180 : decode cX4_pass 180 = .ok (.iadd, 1) := by decide +kernel
theorem dX4_pass_181 : decode cX4_pass 181 = .ok (.putfield 126, 3) := by decide +kernel
theorem dX4_pass_184 : decode cX4_pass 184 = .ok (.aload_n 0, 1) := by decide +kernel
theorem dX4_pass_185 : decode cX4_pass 185 = .ok (.getfield 23, 3) := by decide +kernel
theorem dX4_pass_188 : decode cX4_pass 188 = .ok (.iconst 0, 1) := by decide +kernel
theorem dX4_pass_189 : decode cX4_pass 189 = .ok (.iconst 0, 1) := by decide +kernel
theorem dX4_pass_190 : decode cX4_pass 190 = .ok (.bastore, 1) := by decide +kernel
theorem dX4_pass_191 : decode cX4_pass 191 = .ok (.aload_n 0, 1) := by decide +kernel
theorem dX4_pass_192 : decode cX4_pass 192 = .ok (.iconst 0, 1) := by decide +kernel
theorem dX4_pass_193 : decode cX4_pass 193 = .ok (.putfield 123, 3) := by decide +kernel
theorem dX4_pass_196 : decode cX4_pass 196 = .ok (.aload_n 0, 1) := by decide +kernel
theorem dX4_pass_197 : decode cX4_pass 197 = .ok (.iconst 0, 1) := by decide +kernel
theorem dX4_pass_198 : decode cX4_pass 198 = .ok (.putfield 120, 3) := by decide +kernel
theorem dX4_pass_201 : decode cX4_pass 201 = .ok (.aload_n 0, 1) := by decide +kernel
theorem dX4_pass_202 : decode cX4_pass 202 = .ok (.getfield 26, 3) := by decide +kernel
theorem dX4_pass_205 : decode cX4_pass 205 = .ok (.iconst 0, 1) := by decide +kernel
theorem dX4_pass_206 : decode cX4_pass 206 = .ok (.iconst 0, 1) := by decide +kernel
theorem dX4_pass_207 : decode cX4_pass 207 = .ok (.bastore, 1) := by decide +kernel
theorem dX4_pass_208 : decode cX4_pass 208 = .ok (.aload_n 0, 1) := by decide +kernel
theorem dX4_pass_209 : decode cX4_pass 209 = .ok (.iconst 0, 1) := by decide +kernel
theorem dX4_pass_210 : decode cX4_pass 210 = .ok (.aload_n 0, 1) := by decide +kernel
theorem dX4_pass_211 : decode cX4_pass 211 = .ok (.getfield 60, 3) := by decide +kernel
theorem dX4_pass_214 : decode cX4_pass 214 = .ok (.iconst 1, 1) := by decide +kernel
theorem dX4_pass_215 : decode cX4_pass 215 = .ok (.isub, 1) := by decide +kernel
theorem dX4_pass_216 : decode cX4_pass 216 = .ok (.iconst 3, 1) := by decide +kernel
theorem dX4_pass_217 : decode cX4_pass 217 = .ok (.iconst (-1), 1) := by decide +kernel
theorem dX4_pass_218 : decode cX4_pass 218 = .ok (.iconst (-1), 1) := by decide +kernel
theorem dX4_pass_219 : decode cX4_pass 219 = .ok (.invokevirtual 92, 3) := by decide +kernel
theorem dX4_pass_222 : decode cX4_pass 222 = .ok (.iconst 1, 1) := by decide +kernel
theorem dX4_pass_223 : decode cX4_pass 223 = .ok (.ireturn, 1) := by decide +kernel
theorem dX4_hangs_0 : decode cX4_hangs 0 = .ok (.aload_n 0, 1) := by decide +kernel
theorem dX4_hangs_1 : decode cX4_hangs 1 = .ok (.getfield 35, 3) := by decide +kernel
theorem dX4_hangs_4 : decode cX4_hangs 4 = .ok (.iload_n 1, 1) := by decide +kernel
theorem dX4_hangs_5 : decode cX4_hangs 5 = .ok (.iload_n 2, 1) := by decide +kernel
theorem dX4_hangs_6 : decode cX4_hangs 6 = .ok (.invokestatic 68, 3) := by decide +kernel
theorem dX4_hangs_9 : decode cX4_hangs 9 = .ok (.baload, 1) := by decide +kernel
theorem dX4_hangs_10 : decode cX4_hangs 10 = .ok (.ifCond .eq 20, 3) := by decide +kernel
theorem dX4_hangs_13 : decode cX4_hangs 13 = .ok (.aload_n 0, 1) := by decide +kernel
theorem dX4_hangs_14 : decode cX4_hangs 14 = .ok (.iload_n 2, 1) := by decide +kernel
theorem dX4_hangs_15 : decode cX4_hangs 15 = .ok (.iload_n 1, 1) := by decide +kernel
theorem dX4_hangs_16 : decode cX4_hangs 16 = .ok (.invokestatic 68, 3) := by decide +kernel
theorem dX4_hangs_19 : decode cX4_hangs 19 = .ok (.iconst 5, 1) := by decide +kernel
theorem dX4_hangs_20 : decode cX4_hangs 20 = .ok (.invokevirtual 86, 3) := by decide +kernel
theorem dX4_hangs_23 : decode cX4_hangs 23 = .ok (.ifCond .ne 7, 3) := by decide +kernel
theorem dX4_hangs_26 : decode cX4_hangs 26 = .ok (.iconst 1, 1) := by decide +kernel
theorem dX4_hangs_27 : decode cX4_hangs 27 = .ok (.goto 4, 3) := by decide +kernel
theorem dX4_hangs_30 : decode cX4_hangs 30 = .ok (.iconst 0, 1) := by decide +kernel
theorem dX4_hangs_31 : decode cX4_hangs 31 = .ok (.ireturn, 1) := by decide +kernel
theorem dX4_isInRing_0 : decode cX4_isInRing 0 = .ok (.iconst 0, 1) := by decide +kernel
theorem dX4_isInRing_1 : decode cX4_isInRing 1 = .ok (.istore_n 2, 1) := by decide +kernel
theorem dX4_isInRing_2 : decode cX4_isInRing 2 = .ok (.iload_n 2, 1) := by decide +kernel
theorem dX4_isInRing_3 : decode cX4_isInRing 3 = .ok (.aload_n 0, 1) := by decide +kernel
theorem dX4_isInRing_4 : decode cX4_isInRing 4 = .ok (.getfield 60, 3) := by decide +kernel
theorem dX4_isInRing_7 : decode cX4_isInRing 7 = .ok (.if_icmp .ge 21, 3) := by decide +kernel
theorem dX4_isInRing_10 : decode cX4_isInRing 10 = .ok (.aload_n 0, 1) := by decide +kernel
theorem dX4_isInRing_11 : decode cX4_isInRing 11 = .ok (.getfield 57, 3) := by decide +kernel
theorem dX4_isInRing_14 : decode cX4_isInRing 14 = .ok (.iload_n 2, 1) := by decide +kernel
theorem dX4_isInRing_15 : decode cX4_isInRing 15 = .ok (.aload_n 0, 1) := by decide +kernel
theorem dX4_isInRing_16 : decode cX4_isInRing 16 = .ok (.iload_n 1, 1) := by decide +kernel
theorem dX4_isInRing_17 : decode cX4_isInRing 17 = .ok (.iload_n 2, 1) := by decide +kernel
theorem dX4_isInRing_18 : decode cX4_isInRing 18 = .ok (.invokevirtual 129, 3) := by decide +kernel
theorem dX4_isInRing_21 : decode cX4_isInRing 21 = .ok (.bastore, 1) := by decide +kernel
theorem dX4_isInRing_22 : decode cX4_isInRing 22 = .ok (.iinc 2 1, 3) := by decide +kernel
theorem dX4_isInRing_25 : decode cX4_isInRing 25 = .ok (.goto (-23), 3) := by decide +kernel
theorem dX4_isInRing_28 : decode cX4_isInRing 28 = .ok (.iconst 1, 1) := by decide +kernel
theorem dX4_isInRing_29 : decode cX4_isInRing 29 = .ok (.istore_n 2, 1) := by decide +kernel
theorem dX4_isInRing_30 : decode cX4_isInRing 30 = .ok (.iload_n 2, 1) := by decide +kernel
theorem dX4_isInRing_31 : decode cX4_isInRing 31 = .ok (.ifCond .eq 84, 3) := by decide +kernel
theorem dX4_isInRing_34 : decode cX4_isInRing 34 = .ok (.iconst 0, 1) := by decide +kernel
theorem dX4_isInRing_35 : decode cX4_isInRing 35 = .ok (.istore_n 2, 1) := by decide +kernel
theorem dX4_isInRing_36 : decode cX4_isInRing 36 = .ok (.iconst 0, 1) := by decide +kernel
theorem dX4_isInRing_37 : decode cX4_isInRing 37 = .ok (.istore_n 3, 1) := by decide +kernel
theorem dX4_isInRing_38 : decode cX4_isInRing 38 = .ok (.iload_n 3, 1) := by decide +kernel
theorem dX4_isInRing_39 : decode cX4_isInRing 39 = .ok (.aload_n 0, 1) := by decide +kernel
theorem dX4_isInRing_40 : decode cX4_isInRing 40 = .ok (.getfield 60, 3) := by decide +kernel
theorem dX4_isInRing_43 : decode cX4_isInRing 43 = .ok (.if_icmp .ge 69, 3) := by decide +kernel
theorem dX4_isInRing_46 : decode cX4_isInRing 46 = .ok (.iconst 0, 1) := by decide +kernel
theorem dX4_isInRing_47 : decode cX4_isInRing 47 = .ok (.istore 4, 2) := by decide +kernel
theorem dX4_isInRing_49 : decode cX4_isInRing 49 = .ok (.iload 4, 2) := by decide +kernel
theorem dX4_isInRing_51 : decode cX4_isInRing 51 = .ok (.aload_n 0, 1) := by decide +kernel
theorem dX4_isInRing_52 : decode cX4_isInRing 52 = .ok (.getfield 60, 3) := by decide +kernel
theorem dX4_isInRing_55 : decode cX4_isInRing 55 = .ok (.if_icmp .ge 51, 3) := by decide +kernel
theorem dX4_isInRing_58 : decode cX4_isInRing 58 = .ok (.aload_n 0, 1) := by decide +kernel
theorem dX4_isInRing_59 : decode cX4_isInRing 59 = .ok (.getfield 57, 3) := by decide +kernel
theorem dX4_isInRing_62 : decode cX4_isInRing 62 = .ok (.iload_n 3, 1) := by decide +kernel
theorem dX4_isInRing_63 : decode cX4_isInRing 63 = .ok (.baload, 1) := by decide +kernel
theorem dX4_isInRing_64 : decode cX4_isInRing 64 = .ok (.ifCond .eq 42, 3) := by decide +kernel
theorem dX4_isInRing_67 : decode cX4_isInRing 67 = .ok (.aload_n 0, 1) := by decide +kernel
theorem dX4_isInRing_68 : decode cX4_isInRing 68 = .ok (.getfield 57, 3) := by decide +kernel
theorem dX4_isInRing_71 : decode cX4_isInRing 71 = .ok (.iload 4, 2) := by decide +kernel
theorem dX4_isInRing_73 : decode cX4_isInRing 73 = .ok (.baload, 1) := by decide +kernel
theorem dX4_isInRing_74 : decode cX4_isInRing 74 = .ok (.ifCond .ne 26, 3) := by decide +kernel
theorem dX4_isInRing_77 : decode cX4_isInRing 77 = .ok (.aload_n 0, 1) := by decide +kernel
theorem dX4_isInRing_78 : decode cX4_isInRing 78 = .ok (.iload_n 3, 1) := by decide +kernel
theorem dX4_isInRing_79 : decode cX4_isInRing 79 = .ok (.iload 4, 2) := by decide +kernel
theorem dX4_isInRing_81 : decode cX4_isInRing 81 = .ok (.invokevirtual 129, 3) := by decide +kernel
theorem dX4_isInRing_84 : decode cX4_isInRing 84 = .ok (.ifCond .ne 6, 3) := by decide +kernel
theorem dX4_isInRing_87 : decode cX4_isInRing 87 = .ok (.goto 13, 3) := by decide +kernel
theorem dX4_isInRing_90 : decode cX4_isInRing 90 = .ok (.aload_n 0, 1) := by decide +kernel
theorem dX4_isInRing_91 : decode cX4_isInRing 91 = .ok (.getfield 57, 3) := by decide +kernel
theorem dX4_isInRing_94 : decode cX4_isInRing 94 = .ok (.iload 4, 2) := by decide +kernel
theorem dX4_isInRing_96 : decode cX4_isInRing 96 = .ok (.iconst 1, 1) := by decide +kernel
theorem dX4_isInRing_97 : decode cX4_isInRing 97 = .ok (.bastore, 1) := by decide +kernel
theorem dX4_isInRing_98 : decode cX4_isInRing 98 = .ok (.iconst 1, 1) := by decide +kernel
theorem dX4_isInRing_99 : decode cX4_isInRing 99 = .ok (.istore_n 2, 1) := by decide +kernel
theorem dX4_isInRing_100 : decode cX4_isInRing 100 = .ok (.iinc 4 1, 3) := by decide +kernel
theorem dX4_isInRing_103 : decode cX4_isInRing 103 = .ok (.goto (-54), 3) := by decide +kernel
theorem dX4_isInRing_106 : decode cX4_isInRing 106 = .ok (.iinc 3 1, 3) := by decide +kernel
theorem dX4_isInRing_109 : decode cX4_isInRing 109 = .ok (.goto (-71), 3) := by decide +kernel
theorem dX4_isInRing_112 : decode cX4_isInRing 112 = .ok (.goto (-82), 3) := by decide +kernel
theorem dX4_isInRing_115 : decode cX4_isInRing 115 = .ok (.aload_n 0, 1) := by decide +kernel
theorem dX4_isInRing_116 : decode cX4_isInRing 116 = .ok (.getfield 57, 3) := by decide +kernel
theorem dX4_isInRing_119 : decode cX4_isInRing 119 = .ok (.iload_n 1, 1) := by decide +kernel
theorem dX4_isInRing_120 : decode cX4_isInRing 120 = .ok (.baload, 1) := by decide +kernel
theorem dX4_isInRing_121 : decode cX4_isInRing 121 = .ok (.ireturn, 1) := by decide +kernel
theorem dX4_work_0 : decode cX4_work 0 = .ok (.aload_n 0, 1) := by decide +kernel
theorem dX4_work_1 : decode cX4_work 1 = .ok (.getfield 9, 3) := by decide +kernel
theorem dX4_work_4 : decode cX4_work 4 = .ok (.iload_n 2, 1) := by decide +kernel
theorem dX4_work_5 : decode cX4_work 5 = .ok (.iconst 1, 1) := by decide +kernel
theorem dX4_work_6 : decode cX4_work 6 = .ok (.bastore, 1) := by decide +kernel
theorem dX4_work_7 : decode cX4_work 7 = .ok (.aload_n 0, 1) := by decide +kernel
theorem dX4_work_8 : decode cX4_work 8 = .ok (.getfield 23, 3) := by decide +kernel
theorem dX4_work_11 : decode cX4_work 11 = .ok (.iload_n 2, 1) := by decide +kernel
theorem dX4_work_12 : decode cX4_work 12 = .ok (.iconst 1, 1) := by decide +kernel
theorem dX4_work_13 : decode cX4_work 13 = .ok (.bastore, 1) := by decide +kernel
theorem dX4_work_14 : decode cX4_work 14 = .ok (.aload_n 0, 1) := by decide +kernel
theorem dX4_work_15 : decode cX4_work 15 = .ok (.getfield 20, 3) := by decide +kernel
theorem dX4_work_18 : decode cX4_work 18 = .ok (.iload_n 2, 1) := by decide +kernel
theorem dX4_work_19 : decode cX4_work 19 = .ok (.dup2, 1) := by decide +kernel
theorem dX4_work_20 : decode cX4_work 20 = .ok (.iaload, 1) := by decide +kernel
theorem dX4_work_21 : decode cX4_work 21 = .ok (.iconst 1, 1) := by decide +kernel
theorem dX4_work_22 : decode cX4_work 22 = .ok (.isub, 1) := by decide +kernel
theorem dX4_work_23 : decode cX4_work 23 = .ok (.iastore, 1) := by decide +kernel
theorem dX4_work_24 : decode cX4_work 24 = .ok (.aload_n 0, 1) := by decide +kernel
theorem dX4_work_25 : decode cX4_work 25 = .ok (.iload_n 2, 1) := by decide +kernel
theorem dX4_work_26 : decode cX4_work 26 = .ok (.invokevirtual 89, 3) := by decide +kernel
theorem dX4_work_29 : decode cX4_work 29 = .ok (.ifCond .eq 15, 3) := by decide +kernel
theorem dX4_work_32 : decode cX4_work 32 = .ok (.aload_n 0, 1) := by decide +kernel
theorem dX4_work_33 : decode cX4_work 33 = .ok (.iload_n 2, 1) := by decide +kernel
theorem dX4_work_34 : decode cX4_work 34 = .ok (.iload_n 1, 1) := by decide +kernel
theorem dX4_work_35 : decode cX4_work 35 = .ok (.iconst 2, 1) := by decide +kernel
theorem dX4_work_36 : decode cX4_work 36 = .ok (.iconst (-1), 1) := by decide +kernel
theorem dX4_work_37 : decode cX4_work 37 = .ok (.iconst (-1), 1) := by decide +kernel
theorem dX4_work_38 : decode cX4_work 38 = .ok (.invokevirtual 92, 3) := by decide +kernel
theorem dX4_work_41 : decode cX4_work 41 = .ok (.goto 10, 3) := by decide +kernel
theorem dX4_work_44 : decode cX4_work 44 = .ok (.aload_n 0, 1) := by decide +kernel
theorem dX4_work_45 : decode cX4_work 45 = .ok (.getfield 13, 3) := by decide +kernel
theorem dX4_work_48 : decode cX4_work 48 = .ok (.iload_n 2, 1) := by decide +kernel
theorem dX4_work_49 : decode cX4_work 49 = .ok (.iload_n 1, 1) := by decide +kernel
theorem dX4_work_50 : decode cX4_work 50 = .ok (.iastore, 1) := by decide +kernel
theorem dX4_work_51 : decode cX4_work 51 = .ok (.return_, 1) := by decide +kernel
theorem dX4_probed_0 : decode cX4_probed 0 = .ok (.aload_n 0, 1) := by decide +kernel
theorem dX4_probed_1 : decode cX4_probed 1 = .ok (.iload_n 2, 1) := by decide +kernel
theorem dX4_probed_2 : decode cX4_probed 2 = .ok (.invokevirtual 76, 3) := by decide +kernel
theorem dX4_probed_5 : decode cX4_probed 5 = .ok (.ifCond .eq 16, 3) := by decide +kernel
theorem dX4_probed_8 : decode cX4_probed 8 = .ok (.aload_n 0, 1) := by decide +kernel
theorem dX4_probed_9 : decode cX4_probed 9 = .ok (.getfield 38, 3) := by decide +kernel
theorem dX4_probed_12 : decode cX4_probed 12 = .ok (.iload_n 2, 1) := by decide +kernel
theorem dX4_probed_13 : decode cX4_probed 13 = .ok (.iload_n 1, 1) := by decide +kernel
theorem dX4_probed_14 : decode cX4_probed 14 = .ok (.invokestatic 68, 3) := by decide +kernel
theorem dX4_probed_17 : decode cX4_probed 17 = .ok (.baload, 1) := by decide +kernel
theorem dX4_probed_18 : decode cX4_probed 18 = .ok (.ifCond .ne 4, 3) := by decide +kernel
theorem dX4_probed_21 : decode cX4_probed 21 = .ok (.return_, 1) := by decide +kernel
theorem dX4_probed_22 : decode cX4_probed 22 = .ok (.iload_n 2, 1) := by decide +kernel
theorem dX4_probed_23 : decode cX4_probed 23 = .ok (.iload_n 3, 1) := by decide +kernel
theorem dX4_probed_24 : decode cX4_probed 24 = .ok (.if_icmp .ne 44, 3) := by decide +kernel
theorem dX4_probed_27 : decode cX4_probed 27 = .ok (.aload_n 0, 1) := by decide +kernel
theorem dX4_probed_28 : decode cX4_probed 28 = .ok (.getfield 29, 3) := by decide +kernel
theorem dX4_probed_31 : decode cX4_probed 31 = .ok (.iload_n 3, 1) := by decide +kernel
theorem dX4_probed_32 : decode cX4_probed 32 = .ok (.dup2, 1) := by decide +kernel
theorem dX4_probed_33 : decode cX4_probed 33 = .ok (.iaload, 1) := by decide +kernel
theorem dX4_probed_34 : decode cX4_probed 34 = .ok (.iconst 1, 1) := by decide +kernel
theorem dX4_probed_35 : decode cX4_probed 35 = .ok (.iadd, 1) := by decide +kernel
theorem dX4_probed_36 : decode cX4_probed 36 = .ok (.iastore, 1) := by decide +kernel
theorem dX4_probed_37 : decode cX4_probed 37 = .ok (.aload_n 0, 1) := by decide +kernel
theorem dX4_probed_38 : decode cX4_probed 38 = .ok (.dup, 1) := by decide +kernel
theorem dX4_probed_39 : decode cX4_probed 39 = .ok (.getfield 132, 3) := by decide +kernel
theorem dX4_probed_42 : decode cX4_probed 42 = .ok (.iconst 1, 1) := by decide +kernel
theorem dX4_probed_43 : decode cX4_probed 43 = .ok (.iadd, 1) := by decide +kernel
theorem dX4_probed_44 : decode cX4_probed 44 = .ok (.putfield 132, 3) := by decide +kernel
theorem dX4_probed_47 : decode cX4_probed 47 = .ok (.aload_n 0, 1) := by decide +kernel
theorem dX4_probed_48 : decode cX4_probed 48 = .ok (.iload_n 3, 1) := by decide +kernel
theorem dX4_probed_49 : decode cX4_probed 49 = .ok (.invokevirtual 135, 3) := by decide +kernel
theorem dX4_probed_52 : decode cX4_probed 52 = .ok (.ifCond .ne 51, 3) := by decide +kernel
theorem dX4_probed_55 : decode cX4_probed 55 = .ok (.aload_n 0, 1) := by decide +kernel
theorem dX4_probed_56 : decode cX4_probed 56 = .ok (.dup, 1) := by decide +kernel
theorem dX4_probed_57 : decode cX4_probed 57 = .ok (.getfield 138, 3) := by decide +kernel
theorem dX4_probed_60 : decode cX4_probed 60 = .ok (.iconst 1, 1) := by decide +kernel
theorem dX4_probed_61 : decode cX4_probed 61 = .ok (.iadd, 1) := by decide +kernel
theorem dX4_probed_62 : decode cX4_probed 62 = .ok (.putfield 138, 3) := by decide +kernel
theorem dX4_probed_65 : decode cX4_probed 65 = .ok (.goto 38, 3) := by decide +kernel
theorem dX4_probed_68 : decode cX4_probed 68 = .ok (.iload 4, 2) := by decide +kernel
theorem dX4_probed_70 : decode cX4_probed 70 = .ok (.aload_n 0, 1) := by decide +kernel
theorem dX4_probed_71 : decode cX4_probed 71 = .ok (.getfield 41, 3) := by decide +kernel
theorem dX4_probed_74 : decode cX4_probed 74 = .ok (.iload_n 2, 1) := by decide +kernel
theorem dX4_probed_75 : decode cX4_probed 75 = .ok (.iload_n 3, 1) := by decide +kernel
theorem dX4_probed_76 : decode cX4_probed 76 = .ok (.invokestatic 68, 3) := by decide +kernel
theorem dX4_probed_79 : decode cX4_probed 79 = .ok (.iaload, 1) := by decide +kernel
theorem dX4_probed_80 : decode cX4_probed 80 = .ok (.if_icmp .le 23, 3) := by decide +kernel
theorem dX4_probed_83 : decode cX4_probed 83 = .ok (.aload_n 0, 1) := by decide +kernel
theorem dX4_probed_84 : decode cX4_probed 84 = .ok (.getfield 41, 3) := by decide +kernel
theorem dX4_probed_87 : decode cX4_probed 87 = .ok (.iload_n 2, 1) := by decide +kernel
theorem dX4_probed_88 : decode cX4_probed 88 = .ok (.iload_n 3, 1) := by decide +kernel
theorem dX4_probed_89 : decode cX4_probed 89 = .ok (.invokestatic 68, 3) := by decide +kernel
theorem dX4_probed_92 : decode cX4_probed 92 = .ok (.iload 4, 2) := by decide +kernel
theorem dX4_probed_94 : decode cX4_probed 94 = .ok (.iastore, 1) := by decide +kernel
theorem dX4_probed_95 : decode cX4_probed 95 = .ok (.aload_n 0, 1) := by decide +kernel
theorem dX4_probed_96 : decode cX4_probed 96 = .ok (.iload_n 2, 1) := by decide +kernel
theorem dX4_probed_97 : decode cX4_probed 97 = .ok (.iload_n 3, 1) := by decide +kernel
theorem dX4_probed_98 : decode cX4_probed 98 = .ok (.iload 4, 2) := by decide +kernel
theorem dX4_probed_100 : decode cX4_probed 100 = .ok (.invokevirtual 113, 3) := by decide +kernel
theorem dX4_probed_103 : decode cX4_probed 103 = .ok (.return_, 1) := by decide +kernel
theorem dX4_receive_0 : decode cX4_receive 0 = .ok (.aload_n 0, 1) := by decide +kernel
theorem dX4_receive_1 : decode cX4_receive 1 = .ok (.iload_n 1, 1) := by decide +kernel
theorem dX4_receive_2 : decode cX4_receive 2 = .ok (.iload_n 2, 1) := by decide +kernel
theorem dX4_receive_3 : decode cX4_receive 3 = .ok (.invokevirtual 103, 3) := by decide +kernel
theorem dX4_receive_6 : decode cX4_receive 6 = .ok (.ifCond .eq 16, 3) := by decide +kernel
theorem dX4_receive_9 : decode cX4_receive 9 = .ok (.aload_n 0, 1) := by decide +kernel
theorem dX4_receive_10 : decode cX4_receive 10 = .ok (.getfield 44, 3) := by decide +kernel
theorem dX4_receive_13 : decode cX4_receive 13 = .ok (.iload_n 1, 1) := by decide +kernel
theorem dX4_receive_14 : decode cX4_receive 14 = .ok (.iload_n 2, 1) := by decide +kernel
theorem dX4_receive_15 : decode cX4_receive 15 = .ok (.invokestatic 68, 3) := by decide +kernel
theorem dX4_receive_18 : decode cX4_receive 18 = .ok (.iaload, 1) := by decide +kernel
theorem dX4_receive_19 : decode cX4_receive 19 = .ok (.ifCond .ne 5, 3) := by decide +kernel
theorem dX4_receive_22 : decode cX4_receive 22 = .ok (.iconst (-1), 1) := by decide +kernel
theorem dX4_receive_23 : decode cX4_receive 23 = .ok (.ireturn, 1) := by decide +kernel
theorem dX4_receive_24 : decode cX4_receive 24 = .ok (.iload_n 1, 1) := by decide +kernel
theorem dX4_receive_25 : decode cX4_receive 25 = .ok (.iload_n 2, 1) := by decide +kernel
theorem dX4_receive_26 : decode cX4_receive 26 = .ok (.invokestatic 68, 3) := by decide +kernel
theorem dX4_receive_29 : decode cX4_receive 29 = .ok (.istore_n 3, 1) := by decide +kernel
theorem dX4_receive_30 : decode cX4_receive 30 = .ok (.sipush 640, 3) := by decide +kernel
theorem dX4_receive_33 : decode cX4_receive 33 = .ok (.iload_n 3, 1) := by decide +kernel
theorem dX4_receive_34 : decode cX4_receive 34 = .ok (.imul, 1) := by decide +kernel
theorem dX4_receive_35 : decode cX4_receive 35 = .ok (.istore 4, 2) := by decide +kernel
theorem dX4_receive_37 : decode cX4_receive 37 = .ok (.aload_n 0, 1) := by decide +kernel
theorem dX4_receive_38 : decode cX4_receive 38 = .ok (.getfield 48, 3) := by decide +kernel
theorem dX4_receive_41 : decode cX4_receive 41 = .ok (.iload 4, 2) := by decide +kernel
theorem dX4_receive_43 : decode cX4_receive 43 = .ok (.iaload, 1) := by decide +kernel
theorem dX4_receive_44 : decode cX4_receive 44 = .ok (.istore 5, 2) := by decide +kernel
theorem dX4_receive_46 : decode cX4_receive 46 = .ok (.aload_n 0, 1) := by decide +kernel
theorem dX4_receive_47 : decode cX4_receive 47 = .ok (.getfield 51, 3) := by decide +kernel
theorem dX4_receive_50 : decode cX4_receive 50 = .ok (.iload 4, 2) := by decide +kernel
theorem dX4_receive_52 : decode cX4_receive 52 = .ok (.iaload, 1) := by decide +kernel
theorem dX4_receive_53 : decode cX4_receive 53 = .ok (.istore 6, 2) := by decide +kernel
theorem dX4_receive_55 : decode cX4_receive 55 = .ok (.aload_n 0, 1) := by decide +kernel
theorem dX4_receive_56 : decode cX4_receive 56 = .ok (.getfield 54, 3) := by decide +kernel
theorem dX4_receive_59 : decode cX4_receive 59 = .ok (.iload 4, 2) := by decide +kernel
theorem dX4_receive_61 : decode cX4_receive 61 = .ok (.iaload, 1) := by decide +kernel
theorem dX4_receive_62 : decode cX4_receive 62 = .ok (.istore 7, 2) := by decide +kernel
theorem dX4_receive_64 : decode cX4_receive 64 = .ok (.aload_n 0, 1) := by decide +kernel
theorem dX4_receive_65 : decode cX4_receive 65 = .ok (.getfield 44, 3) := by decide +kernel
theorem dX4_receive_68 : decode cX4_receive 68 = .ok (.iload_n 3, 1) := by decide +kernel
theorem dX4_receive_69 : decode cX4_receive 69 = .ok (.dup2, 1) := by decide +kernel
theorem dX4_receive_70 : decode cX4_receive 70 = .ok (.iaload, 1) := by decide +kernel
theorem dX4_receive_71 : decode cX4_receive 71 = .ok (.iconst 1, 1) := by decide +kernel
theorem dX4_receive_72 : decode cX4_receive 72 = .ok (.isub, 1) := by decide +kernel
theorem dX4_receive_73 : decode cX4_receive 73 = .ok (.iastore, 1) := by decide +kernel
theorem dX4_receive_74 : decode cX4_receive 74 = .ok (.iload 4, 2) := by decide +kernel
theorem dX4_receive_76 : decode cX4_receive 76 = .ok (.istore 8, 2) := by decide +kernel
theorem dX4_receive_78 : decode cX4_receive 78 = .ok (.iload 8, 2) := by decide +kernel
theorem dX4_receive_80 : decode cX4_receive 80 = .ok (.iload 4, 2) := by decide +kernel
theorem dX4_receive_82 : decode cX4_receive 82 = .ok (.aload_n 0, 1) := by decide +kernel
theorem dX4_receive_83 : decode cX4_receive 83 = .ok (.getfield 44, 3) := by decide +kernel
theorem dX4_receive_86 : decode cX4_receive 86 = .ok (.iload_n 3, 1) := by decide +kernel
theorem dX4_receive_87 : decode cX4_receive 87 = .ok (.iaload, 1) := by decide +kernel
theorem dX4_receive_88 : decode cX4_receive 88 = .ok (.iadd, 1) := by decide +kernel
theorem dX4_receive_89 : decode cX4_receive 89 = .ok (.if_icmp .ge 57, 3) := by decide +kernel
theorem dX4_receive_92 : decode cX4_receive 92 = .ok (.aload_n 0, 1) := by decide +kernel
theorem dX4_receive_93 : decode cX4_receive 93 = .ok (.getfield 48, 3) := by decide +kernel
theorem dX4_receive_96 : decode cX4_receive 96 = .ok (.iload 8, 2) := by decide +kernel
theorem dX4_receive_98 : decode cX4_receive 98 = .ok (.aload_n 0, 1) := by decide +kernel
theorem dX4_receive_99 : decode cX4_receive 99 = .ok (.getfield 48, 3) := by decide +kernel
theorem dX4_receive_102 : decode cX4_receive 102 = .ok (.iload 8, 2) := by decide +kernel
theorem dX4_receive_104 : decode cX4_receive 104 = .ok (.iconst 1, 1) := by decide +kernel
theorem dX4_receive_105 : decode cX4_receive 105 = .ok (.iadd, 1) := by decide +kernel
theorem dX4_receive_106 : decode cX4_receive 106 = .ok (.iaload, 1) := by decide +kernel
theorem dX4_receive_107 : decode cX4_receive 107 = .ok (.iastore, 1) := by decide +kernel
theorem dX4_receive_108 : decode cX4_receive 108 = .ok (.aload_n 0, 1) := by decide +kernel
theorem dX4_receive_109 : decode cX4_receive 109 = .ok (.getfield 51, 3) := by decide +kernel
theorem dX4_receive_112 : decode cX4_receive 112 = .ok (.iload 8, 2) := by decide +kernel
theorem dX4_receive_114 : decode cX4_receive 114 = .ok (.aload_n 0, 1) := by decide +kernel
theorem dX4_receive_115 : decode cX4_receive 115 = .ok (.getfield 51, 3) := by decide +kernel
theorem dX4_receive_118 : decode cX4_receive 118 = .ok (.iload 8, 2) := by decide +kernel
theorem dX4_receive_120 : decode cX4_receive 120 = .ok (.iconst 1, 1) := by decide +kernel
theorem dX4_receive_121 : decode cX4_receive 121 = .ok (.iadd, 1) := by decide +kernel
theorem dX4_receive_122 : decode cX4_receive 122 = .ok (.iaload, 1) := by decide +kernel
theorem dX4_receive_123 : decode cX4_receive 123 = .ok (.iastore, 1) := by decide +kernel
theorem dX4_receive_124 : decode cX4_receive 124 = .ok (.aload_n 0, 1) := by decide +kernel
theorem dX4_receive_125 : decode cX4_receive 125 = .ok (.getfield 54, 3) := by decide +kernel
theorem dX4_receive_128 : decode cX4_receive 128 = .ok (.iload 8, 2) := by decide +kernel
theorem dX4_receive_130 : decode cX4_receive 130 = .ok (.aload_n 0, 1) := by decide +kernel
theorem dX4_receive_131 : decode cX4_receive 131 = .ok (.getfield 54, 3) := by decide +kernel
theorem dX4_receive_134 : decode cX4_receive 134 = .ok (.iload 8, 2) := by decide +kernel
theorem dX4_receive_136 : decode cX4_receive 136 = .ok (.iconst 1, 1) := by decide +kernel
theorem dX4_receive_137 : decode cX4_receive 137 = .ok (.iadd, 1) := by decide +kernel
theorem dX4_receive_138 : decode cX4_receive 138 = .ok (.iaload, 1) := by decide +kernel
theorem dX4_receive_139 : decode cX4_receive 139 = .ok (.iastore, 1) := by decide +kernel
theorem dX4_receive_140 : decode cX4_receive 140 = .ok (.iinc 8 1, 3) := by decide +kernel
theorem dX4_receive_143 : decode cX4_receive 143 = .ok (.goto (-65), 3) := by decide +kernel
theorem dX4_receive_146 : decode cX4_receive 146 = .ok (.aload_n 0, 1) := by decide +kernel
theorem dX4_receive_147 : decode cX4_receive 147 = .ok (.dup, 1) := by decide +kernel
theorem dX4_receive_148 : decode cX4_receive 148 = .ok (.getfield 141, 3) := by decide +kernel
theorem dX4_receive_151 : decode cX4_receive 151 = .ok (.iconst 1, 1) := by decide +kernel
theorem dX4_receive_152 : decode cX4_receive 152 = .ok (.iadd, 1) := by decide +kernel
theorem dX4_receive_153 : decode cX4_receive 153 = .ok (.putfield 141, 3) := by decide +kernel
theorem dX4_receive_156 : decode cX4_receive 156 = .ok (.iload 5, 2) := by decide +kernel
theorem dX4_receive_158 : decode cX4_receive 158 = .ok (.tableswitch 94 1 5 #[34, 43, 56, 66, 80], 34) := by decide +kernel
theorem dX4_receive_192 : decode cX4_receive 192 = .ok (.aload_n 0, 1) := by decide +kernel
theorem dX4_receive_193 : decode cX4_receive 193 = .ok (.iload_n 1, 1) := by decide +kernel
theorem dX4_receive_194 : decode cX4_receive 194 = .ok (.iload_n 2, 1) := by decide +kernel
theorem dX4_receive_195 : decode cX4_receive 195 = .ok (.invokevirtual 144, 3) := by decide +kernel
theorem dX4_receive_198 : decode cX4_receive 198 = .ok (.goto 64, 3) := by decide +kernel
theorem dX4_receive_201 : decode cX4_receive 201 = .ok (.aload_n 0, 1) := by decide +kernel
theorem dX4_receive_202 : decode cX4_receive 202 = .ok (.getfield 17, 3) := by decide +kernel
theorem dX4_receive_205 : decode cX4_receive 205 = .ok (.iload_n 2, 1) := by decide +kernel
theorem dX4_receive_206 : decode cX4_receive 206 = .ok (.dup2, 1) := by decide +kernel
theorem dX4_receive_207 : decode cX4_receive 207 = .ok (.iaload, 1) := by decide +kernel
theorem dX4_receive_208 : decode cX4_receive 208 = .ok (.iconst 1, 1) := by decide +kernel
theorem dX4_receive_209 : decode cX4_receive 209 = .ok (.isub, 1) := by decide +kernel
theorem dX4_receive_210 : decode cX4_receive 210 = .ok (.iastore, 1) := by decide +kernel
theorem dX4_receive_211 : decode cX4_receive 211 = .ok (.goto 51, 3) := by decide +kernel
theorem dX4_receive_214 : decode cX4_receive 214 = .ok (.aload_n 0, 1) := by decide +kernel
theorem dX4_receive_215 : decode cX4_receive 215 = .ok (.getfield 26, 3) := by decide +kernel
theorem dX4_receive_218 : decode cX4_receive 218 = .ok (.iload_n 2, 1) := by decide +kernel
theorem dX4_receive_219 : decode cX4_receive 219 = .ok (.iconst 1, 1) := by decide +kernel
theorem dX4_receive_220 : decode cX4_receive 220 = .ok (.bastore, 1) := by decide +kernel
theorem dX4_receive_221 : decode cX4_receive 221 = .ok (.goto 41, 3) := by decide +kernel
theorem dX4_receive_224 : decode cX4_receive 224 = .ok (.aload_n 0, 1) := by decide +kernel
theorem dX4_receive_225 : decode cX4_receive 225 = .ok (.getfield 38, 3) := by decide +kernel
theorem dX4_receive_228 : decode cX4_receive 228 = .ok (.iload_n 2, 1) := by decide +kernel
theorem dX4_receive_229 : decode cX4_receive 229 = .ok (.iload_n 1, 1) := by decide +kernel
theorem dX4_receive_230 : decode cX4_receive 230 = .ok (.invokestatic 68, 3) := by decide +kernel
theorem dX4_receive_233 : decode cX4_receive 233 = .ok (.iconst 1, 1) := by decide +kernel
theorem dX4_receive_234 : decode cX4_receive 234 = .ok (.bastore, 1) := by decide +kernel
theorem dX4_receive_235 : decode cX4_receive 235 = .ok (.goto 27, 3) := by decide +kernel
theorem dX4_receive_238 : decode cX4_receive 238 = .ok (.aload_n 0, 1) := by decide +kernel
theorem dX4_receive_239 : decode cX4_receive 239 = .ok (.getfield 35, 3) := by decide +kernel
theorem dX4_receive_242 : decode cX4_receive 242 = .ok (.iload_n 2, 1) := by decide +kernel
theorem dX4_receive_243 : decode cX4_receive 243 = .ok (.iload_n 1, 1) := by decide +kernel
theorem dX4_receive_244 : decode cX4_receive 244 = .ok (.invokestatic 68, 3) := by decide +kernel
theorem dX4_receive_247 : decode cX4_receive 247 = .ok (.iconst 0, 1) := by decide +kernel
theorem dX4_receive_248 : decode cX4_receive 248 = .ok (.bastore, 1) := by decide +kernel
theorem dX4_receive_249 : decode cX4_receive 249 = .ok (.goto 13, 3) := by decide +kernel
theorem dX4_receive_252 : decode cX4_receive 252 = .ok (.aload_n 0, 1) := by decide +kernel
theorem dX4_receive_253 : decode cX4_receive 253 = .ok (.iload_n 1, 1) := by decide +kernel
theorem dX4_receive_254 : decode cX4_receive 254 = .ok (.iload_n 2, 1) := by decide +kernel
theorem dX4_receive_255 : decode cX4_receive 255 = .ok (.iload 6, 2) := by decide +kernel
theorem dX4_receive_257 : decode cX4_receive 257 = .ok (.iload 7, 2) := by decide +kernel
theorem dX4_receive_259 : decode cX4_receive 259 = .ok (.invokevirtual 148, 3) := by decide +kernel
theorem dX4_receive_262 : decode cX4_receive 262 = .ok (.aload_n 0, 1) := by decide +kernel
theorem dX4_receive_263 : decode cX4_receive 263 = .ok (.invokevirtual 110, 3) := by decide +kernel
theorem dX4_receive_266 : decode cX4_receive 266 = .ok (.iload 5, 2) := by decide +kernel
theorem dX4_receive_268 : decode cX4_receive 268 = .ok (.ireturn, 1) := by decide +kernel
theorem dX4_run_0 : decode cX4_run 0 = .ok (.iload_n 1, 1) := by decide +kernel
theorem dX4_run_1 : decode cX4_run 1 = .ok (.ifCond .lt 10, 3) := by decide +kernel
theorem dX4_run_4 : decode cX4_run 4 = .ok (.iload_n 1, 1) := by decide +kernel
theorem dX4_run_5 : decode cX4_run 5 = .ok (.sipush 2000, 3) := by decide +kernel
theorem dX4_run_8 : decode cX4_run 8 = .ok (.if_icmp .le 5, 3) := by decide +kernel
theorem dX4_run_11 : decode cX4_run 11 = .ok (.iconst (-1), 1) := by decide +kernel
theorem dX4_run_12 : decode cX4_run 12 = .ok (.ireturn, 1) := by decide +kernel
theorem dX4_run_13 : decode cX4_run 13 = .ok (.iload_n 2, 1) := by decide +kernel
theorem dX4_run_14 : decode cX4_run 14 = .ok (.istore_n 3, 1) := by decide +kernel
theorem dX4_run_15 : decode cX4_run 15 = .ok (.iconst 0, 1) := by decide +kernel
theorem dX4_run_16 : decode cX4_run 16 = .ok (.istore 4, 2) := by decide +kernel
theorem dX4_run_18 : decode cX4_run 18 = .ok (.iconst 0, 1) := by decide +kernel
theorem dX4_run_19 : decode cX4_run 19 = .ok (.istore 5, 2) := by decide +kernel
theorem dX4_run_21 : decode cX4_run 21 = .ok (.iload 5, 2) := by decide +kernel
theorem dX4_run_23 : decode cX4_run 23 = .ok (.iload_n 1, 1) := by decide +kernel
theorem dX4_run_24 : decode cX4_run 24 = .ok (.if_icmp .ge 94, 3) := by decide +kernel
theorem dX4_run_27 : decode cX4_run 27 = .ok (.iload_n 3, 1) := by decide +kernel
theorem dX4_run_28 : decode cX4_run 28 = .ok (.ldc 152, 2) := by decide +kernel
theorem dX4_run_30 : decode cX4_run 30 = .ok (.imul, 1) := by decide +kernel
theorem dX4_run_31 : decode cX4_run 31 = .ok (.sipush 12345, 3) := by decide +kernel
theorem dX4_run_34 : decode cX4_run 34 = .ok (.iadd, 1) := by decide +kernel
theorem dX4_run_35 : decode cX4_run 35 = .ok (.istore_n 3, 1) := by decide +kernel
theorem dX4_run_36 : decode cX4_run 36 = .ok (.iload_n 3, 1) := by decide +kernel
theorem dX4_run_37 : decode cX4_run 37 = .ok (.bipush 16, 2) := by decide +kernel
theorem dX4_run_39 : decode cX4_run 39 = .ok (.iushr, 1) := by decide +kernel
theorem dX4_run_40 : decode cX4_run 40 = .ok (.aload_n 0, 1) := by decide +kernel
theorem dX4_run_41 : decode cX4_run 41 = .ok (.getfield 60, 3) := by decide +kernel
theorem dX4_run_44 : decode cX4_run 44 = .ok (.aload_n 0, 1) := by decide +kernel
theorem dX4_run_45 : decode cX4_run 45 = .ok (.getfield 60, 3) := by decide +kernel
theorem dX4_run_48 : decode cX4_run 48 = .ok (.imul, 1) := by decide +kernel
theorem dX4_run_49 : decode cX4_run 49 = .ok (.irem, 1) := by decide +kernel
theorem dX4_run_50 : decode cX4_run 50 = .ok (.istore 6, 2) := by decide +kernel
theorem dX4_run_52 : decode cX4_run 52 = .ok (.iload 6, 2) := by decide +kernel
theorem dX4_run_54 : decode cX4_run 54 = .ok (.aload_n 0, 1) := by decide +kernel
theorem dX4_run_55 : decode cX4_run 55 = .ok (.getfield 60, 3) := by decide +kernel
theorem dX4_run_58 : decode cX4_run 58 = .ok (.idiv, 1) := by decide +kernel
theorem dX4_run_59 : decode cX4_run 59 = .ok (.istore 7, 2) := by decide +kernel
theorem dX4_run_61 : decode cX4_run 61 = .ok (.iload 6, 2) := by decide +kernel
theorem dX4_run_63 : decode cX4_run 63 = .ok (.aload_n 0, 1) := by decide +kernel
theorem dX4_run_64 : decode cX4_run 64 = .ok (.getfield 60, 3) := by decide +kernel
theorem dX4_run_67 : decode cX4_run 67 = .ok (.irem, 1) := by decide +kernel
theorem dX4_run_68 : decode cX4_run 68 = .ok (.istore 8, 2) := by decide +kernel
theorem dX4_run_70 : decode cX4_run 70 = .ok (.iload 7, 2) := by decide +kernel
theorem dX4_run_72 : decode cX4_run 72 = .ok (.iload 8, 2) := by decide +kernel
theorem dX4_run_74 : decode cX4_run 74 = .ok (.if_icmp .ne 12, 3) := by decide +kernel
theorem dX4_run_77 : decode cX4_run 77 = .ok (.aload_n 0, 1) := by decide +kernel
theorem dX4_run_78 : decode cX4_run 78 = .ok (.iload 7, 2) := by decide +kernel
theorem dX4_run_80 : decode cX4_run 80 = .ok (.invokevirtual 153, 3) := by decide +kernel
theorem dX4_run_83 : decode cX4_run 83 = .ok (.goto 11, 3) := by decide +kernel
theorem dX4_run_86 : decode cX4_run 86 = .ok (.aload_n 0, 1) := by decide +kernel
theorem dX4_run_87 : decode cX4_run 87 = .ok (.iload 7, 2) := by decide +kernel
theorem dX4_run_89 : decode cX4_run 89 = .ok (.iload 8, 2) := by decide +kernel
theorem dX4_run_91 : decode cX4_run 91 = .ok (.invokevirtual 156, 3) := by decide +kernel
theorem dX4_run_94 : decode cX4_run 94 = .ok (.istore 9, 2) := by decide +kernel
theorem dX4_run_96 : decode cX4_run 96 = .ok (.iload 4, 2) := by decide +kernel
theorem dX4_run_98 : decode cX4_run 98 = .ok (.iload 9, 2) := by decide +kernel
theorem dX4_run_100 : decode cX4_run 100 = .ok (.iconst (-1), 1) := by decide +kernel
theorem dX4_run_101 : decode cX4_run 101 = .ok (.if_icmp .ne 7, 3) := by decide +kernel
theorem dX4_run_104 : decode cX4_run 104 = .ok (.iconst 0, 1) := by decide +kernel
theorem dX4_run_105 : decode cX4_run 105 = .ok (.goto 4, 3) := by decide +kernel
theorem dX4_run_108 : decode cX4_run 108 = .ok (.iconst 1, 1) := by decide +kernel
theorem dX4_run_109 : decode cX4_run 109 = .ok (.iadd, 1) := by decide +kernel
theorem dX4_run_110 : decode cX4_run 110 = .ok (.istore 4, 2) := by decide +kernel
theorem dX4_run_112 : decode cX4_run 112 = .ok (.iinc 5 1, 3) := by decide +kernel
theorem dX4_run_115 : decode cX4_run 115 = .ok (.goto (-94), 3) := by decide +kernel
theorem dX4_run_118 : decode cX4_run 118 = .ok (.iload 4, 2) := by decide +kernel
theorem dX4_run_120 : decode cX4_run 120 = .ok (.ireturn, 1) := by decide +kernel
theorem dX4_pendingAt_0 : decode cX4_pendingAt 0 = .ok (.iconst 0, 1) := by decide +kernel
theorem dX4_pendingAt_1 : decode cX4_pendingAt 1 = .ok (.istore_n 2, 1) := by decide +kernel
theorem dX4_pendingAt_2 : decode cX4_pendingAt 2 = .ok (.iconst 0, 1) := by decide +kernel
theorem dX4_pendingAt_3 : decode cX4_pendingAt 3 = .ok (.istore_n 3, 1) := by decide +kernel
theorem dX4_pendingAt_4 : decode cX4_pendingAt 4 = .ok (.iload_n 3, 1) := by decide +kernel
theorem dX4_pendingAt_5 : decode cX4_pendingAt 5 = .ok (.aload_n 0, 1) := by decide +kernel
theorem dX4_pendingAt_6 : decode cX4_pendingAt 6 = .ok (.getfield 60, 3) := by decide +kernel
theorem dX4_pendingAt_9 : decode cX4_pendingAt 9 = .ok (.if_icmp .ge 30, 3) := by decide +kernel
theorem dX4_pendingAt_12 : decode cX4_pendingAt 12 = .ok (.iload_n 2, 1) := by decide +kernel
theorem dX4_pendingAt_13 : decode cX4_pendingAt 13 = .ok (.aload_n 0, 1) := by decide +kernel
theorem dX4_pendingAt_14 : decode cX4_pendingAt 14 = .ok (.getfield 38, 3) := by decide +kernel
theorem dX4_pendingAt_17 : decode cX4_pendingAt 17 = .ok (.iload_n 1, 1) := by decide +kernel
theorem dX4_pendingAt_18 : decode cX4_pendingAt 18 = .ok (.iload_n 3, 1) := by decide +kernel
theorem dX4_pendingAt_19 : decode cX4_pendingAt 19 = .ok (.invokestatic 68, 3) := by decide +kernel
theorem dX4_pendingAt_22 : decode cX4_pendingAt 22 = .ok (.baload, 1) := by decide +kernel
theorem dX4_pendingAt_23 : decode cX4_pendingAt 23 = .ok (.ifCond .eq 7, 3) := by decide +kernel
theorem dX4_pendingAt_26 : decode cX4_pendingAt 26 = .ok (.iconst 1, 1) := by decide +kernel
theorem dX4_pendingAt_27 : decode cX4_pendingAt 27 = .ok (.goto 4, 3) := by decide +kernel
theorem dX4_pendingAt_30 : decode cX4_pendingAt 30 = .ok (.iconst 0, 1) := by decide +kernel
theorem dX4_pendingAt_31 : decode cX4_pendingAt 31 = .ok (.iadd, 1) := by decide +kernel
theorem dX4_pendingAt_32 : decode cX4_pendingAt 32 = .ok (.istore_n 2, 1) := by decide +kernel
theorem dX4_pendingAt_33 : decode cX4_pendingAt 33 = .ok (.iinc 3 1, 3) := by decide +kernel
theorem dX4_pendingAt_36 : decode cX4_pendingAt 36 = .ok (.goto (-32), 3) := by decide +kernel
theorem dX4_pendingAt_39 : decode cX4_pendingAt 39 = .ok (.iload_n 2, 1) := by decide +kernel
theorem dX4_pendingAt_40 : decode cX4_pendingAt 40 = .ok (.ireturn, 1) := by decide +kernel
theorem dX4_toInt_0 : decode cX4_toInt 0 = .ok (.iload_n 0, 1) := by decide +kernel
theorem dX4_toInt_1 : decode cX4_toInt 1 = .ok (.ifCond .eq 7, 3) := by decide +kernel
theorem dX4_toInt_4 : decode cX4_toInt 4 = .ok (.iconst 1, 1) := by decide +kernel
theorem dX4_toInt_5 : decode cX4_toInt 5 = .ok (.goto 4, 3) := by decide +kernel
theorem dX4_toInt_8 : decode cX4_toInt 8 = .ok (.iconst 0, 1) := by decide +kernel
theorem dX4_toInt_9 : decode cX4_toInt 9 = .ok (.ireturn, 1) := by decide +kernel
theorem dX4_told_0 : decode cX4_told 0 = .ok (.aload_n 0, 1) := by decide +kernel
theorem dX4_told_1 : decode cX4_told 1 = .ok (.iload_n 1, 1) := by decide +kernel
theorem dX4_told_2 : decode cX4_told 2 = .ok (.invokevirtual 64, 3) := by decide +kernel
theorem dX4_told_5 : decode cX4_told 5 = .ok (.ifCond .ne 5, 3) := by decide +kernel
theorem dX4_told_8 : decode cX4_told 8 = .ok (.iconst (-1), 1) := by decide +kernel
theorem dX4_told_9 : decode cX4_told 9 = .ok (.ireturn, 1) := by decide +kernel
theorem dX4_told_10 : decode cX4_told 10 = .ok (.iload_n 2, 1) := by decide +kernel
theorem dX4_told_11 : decode cX4_told 11 = .ok (.tableswitch 156 0 11 #[61, 71, 80, 89, 96, 103, 110, 120, 130, 136, 142, 149], 61) := by decide +kernel
theorem dX4_told_72 : decode cX4_told 72 = .ok (.aload_n 0, 1) := by decide +kernel
theorem dX4_told_73 : decode cX4_told 73 = .ok (.getfield 9, 3) := by decide +kernel
theorem dX4_told_76 : decode cX4_told 76 = .ok (.iload_n 1, 1) := by decide +kernel
theorem dX4_told_77 : decode cX4_told 77 = .ok (.baload, 1) := by decide +kernel
theorem dX4_told_78 : decode cX4_told 78 = .ok (.invokestatic 159, 3) := by decide +kernel
theorem dX4_told_81 : decode cX4_told 81 = .ok (.ireturn, 1) := by decide +kernel
theorem dX4_told_82 : decode cX4_told 82 = .ok (.aload_n 0, 1) := by decide +kernel
theorem dX4_told_83 : decode cX4_told 83 = .ok (.iload_n 1, 1) := by decide +kernel
theorem dX4_told_84 : decode cX4_told 84 = .ok (.invokevirtual 76, 3) := by decide +kernel
theorem dX4_told_87 : decode cX4_told 87 = .ok (.invokestatic 159, 3) := by decide +kernel
theorem dX4_told_90 : decode cX4_told 90 = .ok (.ireturn, 1) := by decide +kernel
theorem dX4_told_91 : decode cX4_told 91 = .ok (.aload_n 0, 1) := by decide +kernel
theorem dX4_told_92 : decode cX4_told 92 = .ok (.iload_n 1, 1) := by decide +kernel
theorem dX4_told_93 : decode cX4_told 93 = .ok (.invokevirtual 89, 3) := by decide +kernel
theorem dX4_told_96 : decode cX4_told 96 = .ok (.invokestatic 159, 3) := by decide +kernel
theorem dX4_told_99 : decode cX4_told 99 = .ok (.ireturn, 1) := by decide +kernel
theorem dX4_told_100 : decode cX4_told 100 = .ok (.aload_n 0, 1) := by decide +kernel
theorem dX4_told_101 : decode cX4_told 101 = .ok (.getfield 13, 3) := by decide +kernel
theorem dX4_told_104 : decode cX4_told 104 = .ok (.iload_n 1, 1) := by decide +kernel
theorem dX4_told_105 : decode cX4_told 105 = .ok (.iaload, 1) := by decide +kernel
theorem dX4_told_106 : decode cX4_told 106 = .ok (.ireturn, 1) := by decide +kernel
theorem dX4_told_107 : decode cX4_told 107 = .ok (.aload_n 0, 1) := by decide +kernel
theorem dX4_told_108 : decode cX4_told 108 = .ok (.getfield 17, 3) := by decide +kernel
theorem dX4_told_111 : decode cX4_told 111 = .ok (.iload_n 1, 1) := by decide +kernel
theorem dX4_told_112 : decode cX4_told 112 = .ok (.iaload, 1) := by decide +kernel
theorem dX4_told_113 : decode cX4_told 113 = .ok (.ireturn, 1) := by decide +kernel
theorem dX4_told_114 : decode cX4_told 114 = .ok (.aload_n 0, 1) := by decide +kernel
theorem dX4_told_115 : decode cX4_told 115 = .ok (.getfield 20, 3) := by decide +kernel
theorem dX4_told_118 : decode cX4_told 118 = .ok (.iload_n 1, 1) := by decide +kernel
theorem dX4_told_119 : decode cX4_told 119 = .ok (.iaload, 1) := by decide +kernel
theorem dX4_told_120 : decode cX4_told 120 = .ok (.ireturn, 1) := by decide +kernel
theorem dX4_told_121 : decode cX4_told 121 = .ok (.aload_n 0, 1) := by decide +kernel
theorem dX4_told_122 : decode cX4_told 122 = .ok (.getfield 23, 3) := by decide +kernel
theorem dX4_told_125 : decode cX4_told 125 = .ok (.iload_n 1, 1) := by decide +kernel
theorem dX4_told_126 : decode cX4_told 126 = .ok (.baload, 1) := by decide +kernel
theorem dX4_told_127 : decode cX4_told 127 = .ok (.invokestatic 159, 3) := by decide +kernel
theorem dX4_told_130 : decode cX4_told 130 = .ok (.ireturn, 1) := by decide +kernel
theorem dX4_told_131 : decode cX4_told 131 = .ok (.aload_n 0, 1) := by decide +kernel
theorem dX4_told_132 : decode cX4_told 132 = .ok (.getfield 26, 3) := by decide +kernel
theorem dX4_told_135 : decode cX4_told 135 = .ok (.iload_n 1, 1) := by decide +kernel
theorem dX4_told_136 : decode cX4_told 136 = .ok (.baload, 1) := by decide +kernel
theorem dX4_told_137 : decode cX4_told 137 = .ok (.invokestatic 159, 3) := by decide +kernel
theorem dX4_told_140 : decode cX4_told 140 = .ok (.ireturn, 1) := by decide +kernel
theorem dX4_told_141 : decode cX4_told 141 = .ok (.aload_n 0, 1) := by decide +kernel
theorem dX4_told_142 : decode cX4_told 142 = .ok (.iload_n 1, 1) := by decide +kernel
theorem dX4_told_143 : decode cX4_told 143 = .ok (.invokevirtual 72, 3) := by decide +kernel
theorem dX4_told_146 : decode cX4_told 146 = .ok (.ireturn, 1) := by decide +kernel
theorem dX4_told_147 : decode cX4_told 147 = .ok (.aload_n 0, 1) := by decide +kernel
theorem dX4_told_148 : decode cX4_told 148 = .ok (.iload_n 1, 1) := by decide +kernel
theorem dX4_told_149 : decode cX4_told 149 = .ok (.invokevirtual 163, 3) := by decide +kernel
theorem dX4_told_152 : decode cX4_told 152 = .ok (.ireturn, 1) := by decide +kernel
theorem dX4_told_153 : decode cX4_told 153 = .ok (.aload_n 0, 1) := by decide +kernel
theorem dX4_told_154 : decode cX4_told 154 = .ok (.getfield 29, 3) := by decide +kernel
theorem dX4_told_157 : decode cX4_told 157 = .ok (.iload_n 1, 1) := by decide +kernel
theorem dX4_told_158 : decode cX4_told 158 = .ok (.iaload, 1) := by decide +kernel
theorem dX4_told_159 : decode cX4_told 159 = .ok (.ireturn, 1) := by decide +kernel
theorem dX4_told_160 : decode cX4_told 160 = .ok (.aload_n 0, 1) := by decide +kernel
theorem dX4_told_161 : decode cX4_told 161 = .ok (.getfield 32, 3) := by decide +kernel
theorem dX4_told_164 : decode cX4_told 164 = .ok (.iload_n 1, 1) := by decide +kernel
theorem dX4_told_165 : decode cX4_told 165 = .ok (.iaload, 1) := by decide +kernel
theorem dX4_told_166 : decode cX4_told 166 = .ok (.ireturn, 1) := by decide +kernel
theorem dX4_told_167 : decode cX4_told 167 = .ok (.iconst (-1), 1) := by decide +kernel
theorem dX4_told_168 : decode cX4_told 168 = .ok (.ireturn, 1) := by decide +kernel
theorem dX4_waits_0 : decode cX4_waits 0 = .ok (.aload_n 0, 1) := by decide +kernel
theorem dX4_waits_1 : decode cX4_waits 1 = .ok (.iload_n 1, 1) := by decide +kernel
theorem dX4_waits_2 : decode cX4_waits 2 = .ok (.invokevirtual 64, 3) := by decide +kernel
theorem dX4_waits_5 : decode cX4_waits 5 = .ok (.ifCond .eq 28, 3) := by decide +kernel
theorem dX4_waits_8 : decode cX4_waits 8 = .ok (.aload_n 0, 1) := by decide +kernel
theorem dX4_waits_9 : decode cX4_waits 9 = .ok (.iload_n 2, 1) := by decide +kernel
theorem dX4_waits_10 : decode cX4_waits 10 = .ok (.invokevirtual 64, 3) := by decide +kernel
theorem dX4_waits_13 : decode cX4_waits 13 = .ok (.ifCond .eq 20, 3) := by decide +kernel
theorem dX4_waits_16 : decode cX4_waits 16 = .ok (.aload_n 0, 1) := by decide +kernel
theorem dX4_waits_17 : decode cX4_waits 17 = .ok (.getfield 35, 3) := by decide +kernel
theorem dX4_waits_20 : decode cX4_waits 20 = .ok (.iload_n 1, 1) := by decide +kernel
theorem dX4_waits_21 : decode cX4_waits 21 = .ok (.iload_n 2, 1) := by decide +kernel
theorem dX4_waits_22 : decode cX4_waits 22 = .ok (.invokestatic 68, 3) := by decide +kernel
theorem dX4_waits_25 : decode cX4_waits 25 = .ok (.baload, 1) := by decide +kernel
theorem dX4_waits_26 : decode cX4_waits 26 = .ok (.ifCond .eq 7, 3) := by decide +kernel
theorem dX4_waits_29 : decode cX4_waits 29 = .ok (.iconst 1, 1) := by decide +kernel
theorem dX4_waits_30 : decode cX4_waits 30 = .ok (.goto 4, 3) := by decide +kernel
theorem dX4_waits_33 : decode cX4_waits 33 = .ok (.iconst 0, 1) := by decide +kernel
theorem dX4_waits_34 : decode cX4_waits 34 = .ok (.ireturn, 1) := by decide +kernel
theorem dX4_message_0 : decode cX4_message 0 = .ok (.aload_n 0, 1) := by decide +kernel
theorem dX4_message_1 : decode cX4_message 1 = .ok (.iload_n 1, 1) := by decide +kernel
theorem dX4_message_2 : decode cX4_message 2 = .ok (.iload_n 2, 1) := by decide +kernel
theorem dX4_message_3 : decode cX4_message 3 = .ok (.invokevirtual 103, 3) := by decide +kernel
theorem dX4_message_6 : decode cX4_message 6 = .ok (.ifCond .eq 21, 3) := by decide +kernel
theorem dX4_message_9 : decode cX4_message 9 = .ok (.iload_n 3, 1) := by decide +kernel
theorem dX4_message_10 : decode cX4_message 10 = .ok (.ifCond .lt 17, 3) := by decide +kernel
theorem dX4_message_13 : decode cX4_message 13 = .ok (.iload_n 3, 1) := by decide +kernel
theorem dX4_message_14 : decode cX4_message 14 = .ok (.aload_n 0, 1) := by decide +kernel
theorem dX4_message_15 : decode cX4_message 15 = .ok (.getfield 44, 3) := by decide +kernel
theorem dX4_message_18 : decode cX4_message 18 = .ok (.iload_n 1, 1) := by decide +kernel
theorem dX4_message_19 : decode cX4_message 19 = .ok (.iload_n 2, 1) := by decide +kernel
theorem dX4_message_20 : decode cX4_message 20 = .ok (.invokestatic 68, 3) := by decide +kernel
theorem dX4_message_23 : decode cX4_message 23 = .ok (.iaload, 1) := by decide +kernel
theorem dX4_message_24 : decode cX4_message 24 = .ok (.if_icmp .lt 5, 3) := by decide +kernel
theorem dX4_message_27 : decode cX4_message 27 = .ok (.iconst (-1), 1) := by decide +kernel
theorem dX4_message_28 : decode cX4_message 28 = .ok (.ireturn, 1) := by decide +kernel
theorem dX4_message_29 : decode cX4_message 29 = .ok (.sipush 640, 3) := by decide +kernel
theorem dX4_message_32 : decode cX4_message 32 = .ok (.iload_n 1, 1) := by decide +kernel
theorem dX4_message_33 : decode cX4_message 33 = .ok (.iload_n 2, 1) := by decide +kernel
theorem dX4_message_34 : decode cX4_message 34 = .ok (.invokestatic 68, 3) := by decide +kernel
theorem dX4_message_37 : decode cX4_message 37 = .ok (.imul, 1) := by decide +kernel
theorem dX4_message_38 : decode cX4_message 38 = .ok (.iload_n 3, 1) := by decide +kernel
theorem dX4_message_39 : decode cX4_message 39 = .ok (.iadd, 1) := by decide +kernel
theorem dX4_message_40 : decode cX4_message 40 = .ok (.istore 5, 2) := by decide +kernel
theorem dX4_message_42 : decode cX4_message 42 = .ok (.iload 4, 2) := by decide +kernel
theorem dX4_message_44 : decode cX4_message 44 = .ok (.ifCond .ne 13, 3) := by decide +kernel
theorem dX4_message_47 : decode cX4_message 47 = .ok (.aload_n 0, 1) := by decide +kernel
theorem dX4_message_48 : decode cX4_message 48 = .ok (.getfield 48, 3) := by decide +kernel
theorem dX4_message_51 : decode cX4_message 51 = .ok (.iload 5, 2) := by decide +kernel
theorem dX4_message_53 : decode cX4_message 53 = .ok (.iaload, 1) := by decide +kernel
theorem dX4_message_54 : decode cX4_message 54 = .ok (.goto 36, 3) := by decide +kernel
theorem dX4_message_57 : decode cX4_message 57 = .ok (.iload 4, 2) := by decide +kernel
theorem dX4_message_59 : decode cX4_message 59 = .ok (.iconst 1, 1) := by decide +kernel
theorem dX4_message_60 : decode cX4_message 60 = .ok (.if_icmp .ne 13, 3) := by decide +kernel
theorem dX4_message_63 : decode cX4_message 63 = .ok (.aload_n 0, 1) := by decide +kernel
theorem dX4_message_64 : decode cX4_message 64 = .ok (.getfield 51, 3) := by decide +kernel
theorem dX4_message_67 : decode cX4_message 67 = .ok (.iload 5, 2) := by decide +kernel
theorem dX4_message_69 : decode cX4_message 69 = .ok (.iaload, 1) := by decide +kernel
theorem dX4_message_70 : decode cX4_message 70 = .ok (.goto 20, 3) := by decide +kernel
theorem dX4_message_73 : decode cX4_message 73 = .ok (.iload 4, 2) := by decide +kernel
theorem dX4_message_75 : decode cX4_message 75 = .ok (.iconst 2, 1) := by decide +kernel
theorem dX4_message_76 : decode cX4_message 76 = .ok (.if_icmp .ne 13, 3) := by decide +kernel
theorem dX4_message_79 : decode cX4_message 79 = .ok (.aload_n 0, 1) := by decide +kernel
theorem dX4_message_80 : decode cX4_message 80 = .ok (.getfield 54, 3) := by decide +kernel
theorem dX4_message_83 : decode cX4_message 83 = .ok (.iload 5, 2) := by decide +kernel
theorem dX4_message_85 : decode cX4_message 85 = .ok (.iaload, 1) := by decide +kernel
theorem dX4_message_86 : decode cX4_message 86 = .ok (.goto 4, 3) := by decide +kernel
theorem dX4_message_89 : decode cX4_message 89 = .ok (.iconst (-1), 1) := by decide +kernel
theorem dX4_message_90 : decode cX4_message 90 = .ok (.ireturn, 1) := by decide +kernel
theorem dX4_wrong_0 : decode cX4_wrong 0 = .ok (.aload_n 0, 1) := by decide +kernel
theorem dX4_wrong_1 : decode cX4_wrong 1 = .ok (.getfield 100, 3) := by decide +kernel
theorem dX4_wrong_4 : decode cX4_wrong 4 = .ok (.ireturn, 1) := by decide +kernel
theorem dX4_falsely_0 : decode cX4_falsely 0 = .ok (.aload_n 0, 1) := by decide +kernel
theorem dX4_falsely_1 : decode cX4_falsely 1 = .ok (.getfield 138, 3) := by decide +kernel
theorem dX4_falsely_4 : decode cX4_falsely 4 = .ok (.ireturn, 1) := by decide +kernel
theorem dX4_count_0 : decode cX4_count 0 = .ok (.iconst 0, 1) := by decide +kernel
theorem dX4_count_1 : decode cX4_count 1 = .ok (.istore_n 2, 1) := by decide +kernel
theorem dX4_count_2 : decode cX4_count 2 = .ok (.iload_n 1, 1) := by decide +kernel
theorem dX4_count_3 : decode cX4_count 3 = .ok (.tableswitch 152 0 9 #[53, 58, 66, 74, 79, 84, 92, 117, 142, 147], 53) := by decide +kernel
theorem dX4_count_56 : decode cX4_count 56 = .ok (.aload_n 0, 1) := by decide +kernel
theorem dX4_count_57 : decode cX4_count 57 = .ok (.getfield 60, 3) := by decide +kernel
theorem dX4_count_60 : decode cX4_count 60 = .ok (.ireturn, 1) := by decide +kernel
theorem dX4_count_61 : decode cX4_count 61 = .ok (.aload_n 0, 1) := by decide +kernel
theorem dX4_count_62 : decode cX4_count 62 = .ok (.getfield 83, 3) := by decide +kernel
theorem dX4_count_65 : decode cX4_count 65 = .ok (.invokestatic 159, 3) := by decide +kernel
theorem dX4_count_68 : decode cX4_count 68 = .ok (.ireturn, 1) := by decide +kernel
theorem dX4_count_69 : decode cX4_count 69 = .ok (.aload_n 0, 1) := by decide +kernel
theorem dX4_count_70 : decode cX4_count 70 = .ok (.getfield 117, 3) := by decide +kernel
theorem dX4_count_73 : decode cX4_count 73 = .ok (.invokestatic 159, 3) := by decide +kernel
theorem dX4_count_76 : decode cX4_count 76 = .ok (.ireturn, 1) := by decide +kernel
theorem dX4_count_77 : decode cX4_count 77 = .ok (.aload_n 0, 1) := by decide +kernel
theorem dX4_count_78 : decode cX4_count 78 = .ok (.getfield 126, 3) := by decide +kernel
theorem dX4_count_81 : decode cX4_count 81 = .ok (.ireturn, 1) := by decide +kernel
theorem dX4_count_82 : decode cX4_count 82 = .ok (.aload_n 0, 1) := by decide +kernel
theorem dX4_count_83 : decode cX4_count 83 = .ok (.getfield 120, 3) := by decide +kernel
theorem dX4_count_86 : decode cX4_count 86 = .ok (.ireturn, 1) := by decide +kernel
theorem dX4_count_87 : decode cX4_count 87 = .ok (.aload_n 0, 1) := by decide +kernel
theorem dX4_count_88 : decode cX4_count 88 = .ok (.getfield 123, 3) := by decide +kernel
theorem dX4_count_91 : decode cX4_count 91 = .ok (.invokestatic 159, 3) := by decide +kernel
theorem dX4_count_94 : decode cX4_count 94 = .ok (.ireturn, 1) := by decide +kernel
theorem dX4_count_95 : decode cX4_count 95 = .ok (.iconst 0, 1) := by decide +kernel
theorem dX4_count_96 : decode cX4_count 96 = .ok (.istore_n 3, 1) := by decide +kernel
theorem dX4_count_97 : decode cX4_count 97 = .ok (.iload_n 3, 1) := by decide +kernel
theorem dX4_count_98 : decode cX4_count 98 = .ok (.bipush 100, 2) := by decide +kernel
theorem dX4_count_100 : decode cX4_count 100 = .ok (.if_icmp .ge 18, 3) := by decide +kernel
theorem dX4_count_103 : decode cX4_count 103 = .ok (.iload_n 2, 1) := by decide +kernel
theorem dX4_count_104 : decode cX4_count 104 = .ok (.aload_n 0, 1) := by decide +kernel
theorem dX4_count_105 : decode cX4_count 105 = .ok (.getfield 44, 3) := by decide +kernel
theorem dX4_count_108 : decode cX4_count 108 = .ok (.iload_n 3, 1) := by decide +kernel
theorem dX4_count_109 : decode cX4_count 109 = .ok (.iaload, 1) := by decide +kernel
theorem dX4_count_110 : decode cX4_count 110 = .ok (.iadd, 1) := by decide +kernel
theorem dX4_count_111 : decode cX4_count 111 = .ok (.istore_n 2, 1) := by decide +kernel
theorem dX4_count_112 : decode cX4_count 112 = .ok (.iinc 3 1, 3) := by decide +kernel
theorem dX4_count_115 : decode cX4_count 115 = .ok (.goto (-18), 3) := by decide +kernel
theorem dX4_count_118 : decode cX4_count 118 = .ok (.iload_n 2, 1) := by decide +kernel
theorem dX4_count_119 : decode cX4_count 119 = .ok (.ireturn, 1) := by decide +kernel
theorem dX4_count_120 : decode cX4_count 120 = .ok (.iconst 0, 1) := by decide +kernel
theorem dX4_count_121 : decode cX4_count 121 = .ok (.istore_n 3, 1) := by decide +kernel
theorem dX4_count_122 : decode cX4_count 122 = .ok (.iload_n 3, 1) := by decide +kernel
theorem dX4_count_123 : decode cX4_count 123 = .ok (.bipush 100, 2) := by decide +kernel
theorem dX4_count_125 : decode cX4_count 125 = .ok (.if_icmp .ge 18, 3) := by decide +kernel
theorem dX4_count_128 : decode cX4_count 128 = .ok (.iload_n 2, 1) := by decide +kernel
theorem dX4_count_129 : decode cX4_count 129 = .ok (.aload_n 0, 1) := by decide +kernel
theorem dX4_count_130 : decode cX4_count 130 = .ok (.iload_n 3, 1) := by decide +kernel
theorem dX4_count_131 : decode cX4_count 131 = .ok (.iconst 1, 1) := by decide +kernel
theorem dX4_count_132 : decode cX4_count 132 = .ok (.invokevirtual 86, 3) := by decide +kernel
theorem dX4_count_135 : decode cX4_count 135 = .ok (.iadd, 1) := by decide +kernel
theorem dX4_count_136 : decode cX4_count 136 = .ok (.istore_n 2, 1) := by decide +kernel
theorem dX4_count_137 : decode cX4_count 137 = .ok (.iinc 3 1, 3) := by decide +kernel
theorem dX4_count_140 : decode cX4_count 140 = .ok (.goto (-18), 3) := by decide +kernel
theorem dX4_count_143 : decode cX4_count 143 = .ok (.iload_n 2, 1) := by decide +kernel
theorem dX4_count_144 : decode cX4_count 144 = .ok (.ireturn, 1) := by decide +kernel
theorem dX4_count_145 : decode cX4_count 145 = .ok (.aload_n 0, 1) := by decide +kernel
theorem dX4_count_146 : decode cX4_count 146 = .ok (.getfield 141, 3) := by decide +kernel
theorem dX4_count_149 : decode cX4_count 149 = .ok (.ireturn, 1) := by decide +kernel
theorem dX4_count_150 : decode cX4_count 150 = .ok (.aload_n 0, 1) := by decide +kernel
theorem dX4_count_151 : decode cX4_count 151 = .ok (.getfield 132, 3) := by decide +kernel
theorem dX4_count_154 : decode cX4_count 154 = .ok (.ireturn, 1) := by decide +kernel
theorem dX4_count_155 : decode cX4_count 155 = .ok (.iconst (-1), 1) := by decide +kernel
theorem dX4_count_156 : decode cX4_count 156 = .ok (.ireturn, 1) := by decide +kernel
