theorem dM_init_0 : decode cM_init 0 = .ok (.aload_n 0, 1) := by decide +kernel
theorem dM_init_1 : decode cM_init 1 = .ok (.invokespecial 1, 3) := by decide +kernel
theorem dM_init_4 : decode cM_init 4 = .ok (.aload_n 0, 1) := by decide +kernel
theorem dM_init_5 : decode cM_init 5 = .ok (.bipush 72, 2) := by decide +kernel
theorem dM_init_7 : decode cM_init 7 = .ok (.newarray .int, 2) := by decide +kernel
theorem dM_init_9 : decode cM_init 9 = .ok (.putfield 7, 3) := by decide +kernel
theorem dM_init_12 : decode cM_init 12 = .ok (.aload_n 0, 1) := by decide +kernel
theorem dM_init_13 : decode cM_init 13 = .ok (.bipush 72, 2) := by decide +kernel
theorem dM_init_15 : decode cM_init 15 = .ok (.newarray .int, 2) := by decide +kernel
theorem dM_init_17 : decode cM_init 17 = .ok (.putfield 13, 3) := by decide +kernel
theorem dM_init_20 : decode cM_init 20 = .ok (.aload_n 0, 1) := by decide +kernel
theorem dM_init_21 : decode cM_init 21 = .ok (.bipush 72, 2) := by decide +kernel
theorem dM_init_23 : decode cM_init 23 = .ok (.newarray .int, 2) := by decide +kernel
theorem dM_init_25 : decode cM_init 25 = .ok (.putfield 16, 3) := by decide +kernel
theorem dM_init_28 : decode cM_init 28 = .ok (.aload_n 0, 1) := by decide +kernel
theorem dM_init_29 : decode cM_init 29 = .ok (.bipush 72, 2) := by decide +kernel
theorem dM_init_31 : decode cM_init 31 = .ok (.newarray .int, 2) := by decide +kernel
theorem dM_init_33 : decode cM_init 33 = .ok (.putfield 19, 3) := by decide +kernel
theorem dM_init_36 : decode cM_init 36 = .ok (.aload_n 0, 1) := by decide +kernel
theorem dM_init_37 : decode cM_init 37 = .ok (.bipush 72, 2) := by decide +kernel
theorem dM_init_39 : decode cM_init 39 = .ok (.newarray .int, 2) := by decide +kernel
theorem dM_init_41 : decode cM_init 41 = .ok (.putfield 22, 3) := by decide +kernel
theorem dM_init_44 : decode cM_init 44 = .ok (.aload_n 0, 1) := by decide +kernel
theorem dM_init_45 : decode cM_init 45 = .ok (.bipush 72, 2) := by decide +kernel
theorem dM_init_47 : decode cM_init 47 = .ok (.newarray .int, 2) := by decide +kernel
theorem dM_init_49 : decode cM_init 49 = .ok (.putfield 25, 3) := by decide +kernel
theorem dM_init_52 : decode cM_init 52 = .ok (.aload_n 0, 1) := by decide +kernel
theorem dM_init_53 : decode cM_init 53 = .ok (.bipush 72, 2) := by decide +kernel
theorem dM_init_55 : decode cM_init 55 = .ok (.newarray .int, 2) := by decide +kernel
theorem dM_init_57 : decode cM_init 57 = .ok (.putfield 28, 3) := by decide +kernel
theorem dM_init_60 : decode cM_init 60 = .ok (.aload_n 0, 1) := by decide +kernel
theorem dM_init_61 : decode cM_init 61 = .ok (.bipush 6, 2) := by decide +kernel
theorem dM_init_63 : decode cM_init 63 = .ok (.newarray .int, 2) := by decide +kernel
theorem dM_init_65 : decode cM_init 65 = .ok (.putfield 31, 3) := by decide +kernel
theorem dM_init_68 : decode cM_init 68 = .ok (.aload_n 0, 1) := by decide +kernel
theorem dM_init_69 : decode cM_init 69 = .ok (.bipush 72, 2) := by decide +kernel
theorem dM_init_71 : decode cM_init 71 = .ok (.newarray .int, 2) := by decide +kernel
theorem dM_init_73 : decode cM_init 73 = .ok (.putfield 34, 3) := by decide +kernel
theorem dM_init_76 : decode cM_init 76 = .ok (.aload_n 0, 1) := by decide +kernel
theorem dM_init_77 : decode cM_init 77 = .ok (.bipush 96, 2) := by decide +kernel
theorem dM_init_79 : decode cM_init 79 = .ok (.newarray .boolean, 2) := by decide +kernel
theorem dM_init_81 : decode cM_init 81 = .ok (.putfield 37, 3) := by decide +kernel
theorem dM_init_84 : decode cM_init 84 = .ok (.aload_n 0, 1) := by decide +kernel
theorem dM_init_85 : decode cM_init 85 = .ok (.bipush 6, 2) := by decide +kernel
theorem dM_init_87 : decode cM_init 87 = .ok (.newarray .int, 2) := by decide +kernel
theorem dM_init_89 : decode cM_init 89 = .ok (.putfield 41, 3) := by decide +kernel
theorem dM_init_92 : decode cM_init 92 = .ok (.aload_n 0, 1) := by decide +kernel
theorem dM_init_93 : decode cM_init 93 = .ok (.bipush 96, 2) := by decide +kernel
theorem dM_init_95 : decode cM_init 95 = .ok (.newarray .int, 2) := by decide +kernel
theorem dM_init_97 : decode cM_init 97 = .ok (.putfield 44, 3) := by decide +kernel
theorem dM_init_100 : decode cM_init 100 = .ok (.aload_n 0, 1) := by decide +kernel
theorem dM_init_101 : decode cM_init 101 = .ok (.bipush 96, 2) := by decide +kernel
theorem dM_init_103 : decode cM_init 103 = .ok (.newarray .int, 2) := by decide +kernel
theorem dM_init_105 : decode cM_init 105 = .ok (.putfield 47, 3) := by decide +kernel
theorem dM_init_108 : decode cM_init 108 = .ok (.aload_n 0, 1) := by decide +kernel
theorem dM_init_109 : decode cM_init 109 = .ok (.bipush 6, 2) := by decide +kernel
theorem dM_init_111 : decode cM_init 111 = .ok (.newarray .int, 2) := by decide +kernel
theorem dM_init_113 : decode cM_init 113 = .ok (.putfield 50, 3) := by decide +kernel
theorem dM_init_116 : decode cM_init 116 = .ok (.aload_n 0, 1) := by decide +kernel
theorem dM_init_117 : decode cM_init 117 = .ok (.bipush 6, 2) := by decide +kernel
theorem dM_init_119 : decode cM_init 119 = .ok (.newarray .int, 2) := by decide +kernel
theorem dM_init_121 : decode cM_init 121 = .ok (.putfield 53, 3) := by decide +kernel
theorem dM_init_124 : decode cM_init 124 = .ok (.aload_n 0, 1) := by decide +kernel
theorem dM_init_125 : decode cM_init 125 = .ok (.bipush 12, 2) := by decide +kernel
theorem dM_init_127 : decode cM_init 127 = .ok (.newarray .int, 2) := by decide +kernel
theorem dM_init_129 : decode cM_init 129 = .ok (.putfield 56, 3) := by decide +kernel
theorem dM_init_132 : decode cM_init 132 = .ok (.aload_n 0, 1) := by decide +kernel
theorem dM_init_133 : decode cM_init 133 = .ok (.bipush 13, 2) := by decide +kernel
theorem dM_init_135 : decode cM_init 135 = .ok (.newarray .int, 2) := by decide +kernel
theorem dM_init_137 : decode cM_init 137 = .ok (.putfield 59, 3) := by decide +kernel
theorem dM_init_140 : decode cM_init 140 = .ok (.iconst 0, 1) := by decide +kernel
theorem dM_init_141 : decode cM_init 141 = .ok (.istore_n 1, 1) := by decide +kernel
theorem dM_init_142 : decode cM_init 142 = .ok (.iload_n 1, 1) := by decide +kernel
theorem dM_init_143 : decode cM_init 143 = .ok (.bipush 6, 2) := by decide +kernel
theorem dM_init_145 : decode cM_init 145 = .ok (.if_icmp .ge 32, 3) := by decide +kernel
theorem dM_init_148 : decode cM_init 148 = .ok (.aload_n 0, 1) := by decide +kernel
theorem dM_init_149 : decode cM_init 149 = .ok (.getfield 41, 3) := by decide +kernel
theorem dM_init_152 : decode cM_init 152 = .ok (.iload_n 1, 1) := by decide +kernel
theorem dM_init_153 : decode cM_init 153 = .ok (.sipush 30000, 3) := by decide +kernel
theorem dM_init_156 : decode cM_init 156 = .ok (.iastore, 1) := by decide +kernel
theorem dM_init_157 : decode cM_init 157 = .ok (.aload_n 0, 1) := by decide +kernel
theorem dM_init_158 : decode cM_init 158 = .ok (.getfield 50, 3) := by decide +kernel
theorem dM_init_161 : decode cM_init 161 = .ok (.iload_n 1, 1) := by decide +kernel
theorem dM_init_162 : decode cM_init 162 = .ok (.iconst 1, 1) := by decide +kernel
theorem dM_init_163 : decode cM_init 163 = .ok (.iastore, 1) := by decide +kernel
theorem dM_init_164 : decode cM_init 164 = .ok (.aload_n 0, 1) := by decide +kernel
theorem dM_init_165 : decode cM_init 165 = .ok (.getfield 53, 3) := by decide +kernel
theorem dM_init_168 : decode cM_init 168 = .ok (.iload_n 1, 1) := by decide +kernel
theorem dM_init_169 : decode cM_init 169 = .ok (.iconst 1, 1) := by decide +kernel
theorem dM_init_170 : decode cM_init 170 = .ok (.iastore, 1) := by decide +kernel
theorem dM_init_171 : decode cM_init 171 = .ok (.iinc 1 1, 3) := by decide +kernel
theorem dM_init_174 : decode cM_init 174 = .ok (.goto (-32), 3) := by decide +kernel
theorem dM_init_177 : decode cM_init 177 = .ok (.iconst 0, 1) := by decide +kernel
theorem dM_init_178 : decode cM_init 178 = .ok (.istore_n 1, 1) := by decide +kernel
theorem dM_init_179 : decode cM_init 179 = .ok (.iload_n 1, 1) := by decide +kernel
theorem dM_init_180 : decode cM_init 180 = .ok (.bipush 96, 2) := by decide +kernel
theorem dM_init_182 : decode cM_init 182 = .ok (.if_icmp .ge 18, 3) := by decide +kernel
theorem dM_init_185 : decode cM_init 185 = .ok (.aload_n 0, 1) := by decide +kernel
theorem dM_init_186 : decode cM_init 186 = .ok (.getfield 47, 3) := by decide +kernel
theorem dM_init_189 : decode cM_init 189 = .ok (.iload_n 1, 1) := by decide +kernel
theorem dM_init_190 : decode cM_init 190 = .ok (.sipush 999, 3) := by decide +kernel
theorem dM_init_193 : decode cM_init 193 = .ok (.iastore, 1) := by decide +kernel
theorem dM_init_194 : decode cM_init 194 = .ok (.iinc 1 1, 3) := by decide +kernel
theorem dM_init_197 : decode cM_init 197 = .ok (.goto (-18), 3) := by decide +kernel
theorem dM_init_200 : decode cM_init 200 = .ok (.return_, 1) := by decide +kernel
theorem dM_thrown_0 : decode cM_thrown 0 = .ok (.aload_n 0, 1) := by decide +kernel
theorem dM_thrown_1 : decode cM_thrown 1 = .ok (.getfield 62, 3) := by decide +kernel
theorem dM_thrown_4 : decode cM_thrown 4 = .ok (.ireturn, 1) := by decide +kernel
theorem dM_throwing_0 : decode cM_throwing 0 = .ok (.aload_n 0, 1) := by decide +kernel
theorem dM_throwing_1 : decode cM_throwing 1 = .ok (.iload_n 1, 1) := by decide +kernel
theorem dM_throwing_2 : decode cM_throwing 2 = .ok (.ifCond .eq 7, 3) := by decide +kernel
theorem dM_throwing_5 : decode cM_throwing 5 = .ok (.iconst 1, 1) := by decide +kernel
theorem dM_throwing_6 : decode cM_throwing 6 = .ok (.goto 20, 3) := by decide +kernel
theorem dM_throwing_9 : decode cM_throwing 9 = .ok (.iload_n 2, 1) := by decide +kernel
theorem dM_throwing_10 : decode cM_throwing 10 = .ok (.ifCond .eq 7, 3) := by decide +kernel
theorem dM_throwing_13 : decode cM_throwing 13 = .ok (.iconst 2, 1) := by decide +kernel
theorem dM_throwing_14 : decode cM_throwing 14 = .ok (.goto 12, 3) := by decide +kernel
theorem dM_throwing_17 : decode cM_throwing 17 = .ok (.iload_n 3, 1) := by decide +kernel
theorem dM_throwing_18 : decode cM_throwing 18 = .ok (.ifCond .eq 7, 3) := by decide +kernel
theorem dM_throwing_21 : decode cM_throwing 21 = .ok (.iconst 3, 1) := by decide +kernel
theorem dM_throwing_22 : decode cM_throwing 22 = .ok (.goto 4, 3) := by decide +kernel
theorem dM_throwing_25 : decode cM_throwing 25 = .ok (.iconst 0, 1) := by decide +kernel
theorem dM_throwing_26 : decode cM_throwing 26 = .ok (.putfield 62, 3) := by decide +kernel
theorem dM_throwing_29 : decode cM_throwing 29 = .ok (.aload_n 0, 1) := by decide +kernel
theorem dM_throwing_30 : decode cM_throwing 30 = .ok (.getfield 62, 3) := by decide +kernel
theorem dM_throwing_33 : decode cM_throwing 33 = .ok (.ifCond .le 7, 3) := by decide +kernel
theorem dM_throwing_36 : decode cM_throwing 36 = .ok (.iconst 1, 1) := by decide +kernel
theorem dM_throwing_37 : decode cM_throwing 37 = .ok (.goto 4, 3) := by decide +kernel
theorem dM_throwing_40 : decode cM_throwing 40 = .ok (.iconst 0, 1) := by decide +kernel
theorem dM_throwing_41 : decode cM_throwing 41 = .ok (.ireturn, 1) := by decide +kernel
theorem dM_in_0 : decode cM_in 0 = .ok (.iload_n 0, 1) := by decide +kernel
theorem dM_in_1 : decode cM_in 1 = .ok (.iload_n 1, 1) := by decide +kernel
theorem dM_in_2 : decode cM_in 2 = .ok (.if_icmp .lt 12, 3) := by decide +kernel
theorem dM_in_5 : decode cM_in 5 = .ok (.iload_n 0, 1) := by decide +kernel
theorem dM_in_6 : decode cM_in 6 = .ok (.iload_n 2, 1) := by decide +kernel
theorem dM_in_7 : decode cM_in 7 = .ok (.if_icmp .gt 7, 3) := by decide +kernel
theorem dM_in_10 : decode cM_in 10 = .ok (.iconst 1, 1) := by decide +kernel
theorem dM_in_11 : decode cM_in 11 = .ok (.goto 4, 3) := by decide +kernel
theorem dM_in_14 : decode cM_in 14 = .ok (.iconst 0, 1) := by decide +kernel
theorem dM_in_15 : decode cM_in 15 = .ok (.ireturn, 1) := by decide +kernel
theorem dM_isKind_0 : decode cM_isKind 0 = .ok (.iload_n 0, 1) := by decide +kernel
theorem dM_isKind_1 : decode cM_isKind 1 = .ok (.iconst 0, 1) := by decide +kernel
theorem dM_isKind_2 : decode cM_isKind 2 = .ok (.iconst 5, 1) := by decide +kernel
theorem dM_isKind_3 : decode cM_isKind 3 = .ok (.invokestatic 66, 3) := by decide +kernel
theorem dM_isKind_6 : decode cM_isKind 6 = .ok (.ireturn, 1) := by decide +kernel
theorem dM_isPiece_0 : decode cM_isPiece 0 = .ok (.iload_n 1, 1) := by decide +kernel
theorem dM_isPiece_1 : decode cM_isPiece 1 = .ok (.iconst 0, 1) := by decide +kernel
theorem dM_isPiece_2 : decode cM_isPiece 2 = .ok (.aload_n 0, 1) := by decide +kernel
theorem dM_isPiece_3 : decode cM_isPiece 3 = .ok (.getfield 70, 3) := by decide +kernel
theorem dM_isPiece_6 : decode cM_isPiece 6 = .ok (.iconst 1, 1) := by decide +kernel
theorem dM_isPiece_7 : decode cM_isPiece 7 = .ok (.isub, 1) := by decide +kernel
theorem dM_isPiece_8 : decode cM_isPiece 8 = .ok (.invokestatic 66, 3) := by decide +kernel
theorem dM_isPiece_11 : decode cM_isPiece 11 = .ok (.ireturn, 1) := by decide +kernel
theorem dM_piece_0 : decode cM_piece 0 = .ok (.iload_n 1, 1) := by decide +kernel
theorem dM_piece_1 : decode cM_piece 1 = .ok (.invokestatic 73, 3) := by decide +kernel
theorem dM_piece_4 : decode cM_piece 4 = .ok (.ifCond .eq 13, 3) := by decide +kernel
theorem dM_piece_7 : decode cM_piece 7 = .ok (.iload_n 2, 1) := by decide +kernel
theorem dM_piece_8 : decode cM_piece 8 = .ok (.iconst 0, 1) := by decide +kernel
theorem dM_piece_9 : decode cM_piece 9 = .ok (.bipush 15, 2) := by decide +kernel
theorem dM_piece_11 : decode cM_piece 11 = .ok (.invokestatic 66, 3) := by decide +kernel
theorem dM_piece_14 : decode cM_piece 14 = .ok (.ifCond .ne 7, 3) := by decide +kernel
theorem dM_piece_17 : decode cM_piece 17 = .ok (.iconst 1, 1) := by decide +kernel
theorem dM_piece_18 : decode cM_piece 18 = .ok (.goto 4, 3) := by decide +kernel
theorem dM_piece_21 : decode cM_piece 21 = .ok (.iconst 0, 1) := by decide +kernel
theorem dM_piece_22 : decode cM_piece 22 = .ok (.istore 5, 2) := by decide +kernel
theorem dM_piece_24 : decode cM_piece 24 = .ok (.aload_n 0, 1) := by decide +kernel
theorem dM_piece_25 : decode cM_piece 25 = .ok (.iload 5, 2) := by decide +kernel
theorem dM_piece_27 : decode cM_piece 27 = .ok (.iload_n 3, 1) := by decide +kernel
theorem dM_piece_28 : decode cM_piece 28 = .ok (.iconst 0, 1) := by decide +kernel
theorem dM_piece_29 : decode cM_piece 29 = .ok (.iconst 3, 1) := by decide +kernel
theorem dM_piece_30 : decode cM_piece 30 = .ok (.invokestatic 66, 3) := by decide +kernel
theorem dM_piece_33 : decode cM_piece 33 = .ok (.ifCond .eq 15, 3) := by decide +kernel
theorem dM_piece_36 : decode cM_piece 36 = .ok (.iload 4, 2) := by decide +kernel
theorem dM_piece_38 : decode cM_piece 38 = .ok (.iconst 0, 1) := by decide +kernel
theorem dM_piece_39 : decode cM_piece 39 = .ok (.sipush 30000, 3) := by decide +kernel
theorem dM_piece_42 : decode cM_piece 42 = .ok (.invokestatic 66, 3) := by decide +kernel
theorem dM_piece_45 : decode cM_piece 45 = .ok (.ifCond .ne 7, 3) := by decide +kernel
theorem dM_piece_48 : decode cM_piece 48 = .ok (.iconst 1, 1) := by decide +kernel
theorem dM_piece_49 : decode cM_piece 49 = .ok (.goto 4, 3) := by decide +kernel
theorem dM_piece_52 : decode cM_piece 52 = .ok (.iconst 0, 1) := by decide +kernel
theorem dM_piece_53 : decode cM_piece 53 = .ok (.iload 5, 2) := by decide +kernel
theorem dM_piece_55 : decode cM_piece 55 = .ok (.ifCond .ne 18, 3) := by decide +kernel
theorem dM_piece_58 : decode cM_piece 58 = .ok (.aload_n 0, 1) := by decide +kernel
theorem dM_piece_59 : decode cM_piece 59 = .ok (.getfield 31, 3) := by decide +kernel
theorem dM_piece_62 : decode cM_piece 62 = .ok (.iload_n 1, 1) := by decide +kernel
theorem dM_piece_63 : decode cM_piece 63 = .ok (.iaload, 1) := by decide +kernel
theorem dM_piece_64 : decode cM_piece 64 = .ok (.bipush 12, 2) := by decide +kernel
theorem dM_piece_66 : decode cM_piece 66 = .ok (.if_icmp .ne 7, 3) := by decide +kernel
theorem dM_piece_69 : decode cM_piece 69 = .ok (.iconst 1, 1) := by decide +kernel
theorem dM_piece_70 : decode cM_piece 70 = .ok (.goto 4, 3) := by decide +kernel
theorem dM_piece_73 : decode cM_piece 73 = .ok (.iconst 0, 1) := by decide +kernel
theorem dM_piece_74 : decode cM_piece 74 = .ok (.invokevirtual 77, 3) := by decide +kernel
theorem dM_piece_77 : decode cM_piece 77 = .ok (.ifCond .eq 5, 3) := by decide +kernel
theorem dM_piece_80 : decode cM_piece 80 = .ok (.iconst 0, 1) := by decide +kernel
theorem dM_piece_81 : decode cM_piece 81 = .ok (.ireturn, 1) := by decide +kernel
theorem dM_piece_82 : decode cM_piece 82 = .ok (.aload_n 0, 1) := by decide +kernel
theorem dM_piece_83 : decode cM_piece 83 = .ok (.getfield 7, 3) := by decide +kernel
theorem dM_piece_86 : decode cM_piece 86 = .ok (.aload_n 0, 1) := by decide +kernel
theorem dM_piece_87 : decode cM_piece 87 = .ok (.getfield 70, 3) := by decide +kernel
theorem dM_piece_90 : decode cM_piece 90 = .ok (.iload_n 1, 1) := by decide +kernel
theorem dM_piece_91 : decode cM_piece 91 = .ok (.iastore, 1) := by decide +kernel
theorem dM_piece_92 : decode cM_piece 92 = .ok (.aload_n 0, 1) := by decide +kernel
theorem dM_piece_93 : decode cM_piece 93 = .ok (.getfield 13, 3) := by decide +kernel
theorem dM_piece_96 : decode cM_piece 96 = .ok (.aload_n 0, 1) := by decide +kernel
theorem dM_piece_97 : decode cM_piece 97 = .ok (.getfield 70, 3) := by decide +kernel
theorem dM_piece_100 : decode cM_piece 100 = .ok (.iload_n 2, 1) := by decide +kernel
theorem dM_piece_101 : decode cM_piece 101 = .ok (.iastore, 1) := by decide +kernel
theorem dM_piece_102 : decode cM_piece 102 = .ok (.aload_n 0, 1) := by decide +kernel
theorem dM_piece_103 : decode cM_piece 103 = .ok (.getfield 16, 3) := by decide +kernel
theorem dM_piece_106 : decode cM_piece 106 = .ok (.aload_n 0, 1) := by decide +kernel
theorem dM_piece_107 : decode cM_piece 107 = .ok (.getfield 70, 3) := by decide +kernel
theorem dM_piece_110 : decode cM_piece 110 = .ok (.iload_n 3, 1) := by decide +kernel
theorem dM_piece_111 : decode cM_piece 111 = .ok (.iastore, 1) := by decide +kernel
theorem dM_piece_112 : decode cM_piece 112 = .ok (.aload_n 0, 1) := by decide +kernel
theorem dM_piece_113 : decode cM_piece 113 = .ok (.getfield 19, 3) := by decide +kernel
theorem dM_piece_116 : decode cM_piece 116 = .ok (.aload_n 0, 1) := by decide +kernel
theorem dM_piece_117 : decode cM_piece 117 = .ok (.getfield 70, 3) := by decide +kernel
theorem dM_piece_120 : decode cM_piece 120 = .ok (.iload 4, 2) := by decide +kernel
theorem dM_piece_122 : decode cM_piece 122 = .ok (.iastore, 1) := by decide +kernel
theorem dM_piece_123 : decode cM_piece 123 = .ok (.aload_n 0, 1) := by decide +kernel
theorem dM_piece_124 : decode cM_piece 124 = .ok (.getfield 22, 3) := by decide +kernel
theorem dM_piece_127 : decode cM_piece 127 = .ok (.aload_n 0, 1) := by decide +kernel
theorem dM_piece_128 : decode cM_piece 128 = .ok (.getfield 70, 3) := by decide +kernel
theorem dM_piece_131 : decode cM_piece 131 = .ok (.iconst 0, 1) := by decide +kernel
theorem dM_piece_132 : decode cM_piece 132 = .ok (.iastore, 1) := by decide +kernel
theorem dM_piece_133 : decode cM_piece 133 = .ok (.aload_n 0, 1) := by decide +kernel
theorem dM_piece_134 : decode cM_piece 134 = .ok (.getfield 25, 3) := by decide +kernel
theorem dM_piece_137 : decode cM_piece 137 = .ok (.aload_n 0, 1) := by decide +kernel
theorem dM_piece_138 : decode cM_piece 138 = .ok (.getfield 70, 3) := by decide +kernel
theorem dM_piece_141 : decode cM_piece 141 = .ok (.sipush 999, 3) := by decide +kernel
theorem dM_piece_144 : decode cM_piece 144 = .ok (.iastore, 1) := by decide +kernel
theorem dM_piece_145 : decode cM_piece 145 = .ok (.aload_n 0, 1) := by decide +kernel
theorem dM_piece_146 : decode cM_piece 146 = .ok (.getfield 28, 3) := by decide +kernel
theorem dM_piece_149 : decode cM_piece 149 = .ok (.aload_n 0, 1) := by decide +kernel
theorem dM_piece_150 : decode cM_piece 150 = .ok (.getfield 70, 3) := by decide +kernel
theorem dM_piece_153 : decode cM_piece 153 = .ok (.iconst 0, 1) := by decide +kernel
theorem dM_piece_154 : decode cM_piece 154 = .ok (.iastore, 1) := by decide +kernel
theorem dM_piece_155 : decode cM_piece 155 = .ok (.aload_n 0, 1) := by decide +kernel
theorem dM_piece_156 : decode cM_piece 156 = .ok (.getfield 34, 3) := by decide +kernel
theorem dM_piece_159 : decode cM_piece 159 = .ok (.bipush 12, 2) := by decide +kernel
theorem dM_piece_161 : decode cM_piece 161 = .ok (.iload_n 1, 1) := by decide +kernel
theorem dM_piece_162 : decode cM_piece 162 = .ok (.imul, 1) := by decide +kernel
theorem dM_piece_163 : decode cM_piece 163 = .ok (.aload_n 0, 1) := by decide +kernel
theorem dM_piece_164 : decode cM_piece 164 = .ok (.getfield 31, 3) := by decide +kernel
theorem dM_piece_167 : decode cM_piece 167 = .ok (.iload_n 1, 1) := by decide +kernel
theorem dM_piece_168 : decode cM_piece 168 = .ok (.iaload, 1) := by decide +kernel
theorem dM_piece_169 : decode cM_piece 169 = .ok (.iadd, 1) := by decide +kernel
theorem dM_piece_170 : decode cM_piece 170 = .ok (.aload_n 0, 1) := by decide +kernel
theorem dM_piece_171 : decode cM_piece 171 = .ok (.getfield 70, 3) := by decide +kernel
theorem dM_piece_174 : decode cM_piece 174 = .ok (.iastore, 1) := by decide +kernel
theorem dM_piece_175 : decode cM_piece 175 = .ok (.aload_n 0, 1) := by decide +kernel
theorem dM_piece_176 : decode cM_piece 176 = .ok (.getfield 31, 3) := by decide +kernel
theorem dM_piece_179 : decode cM_piece 179 = .ok (.iload_n 1, 1) := by decide +kernel
theorem dM_piece_180 : decode cM_piece 180 = .ok (.dup2, 1) := by decide +kernel
theorem dM_piece_181 : decode cM_piece 181 = .ok (.iaload, 1) := by decide +kernel
theorem dM_piece_182 : decode cM_piece 182 = .ok (.iconst 1, 1) := by decide +kernel
theorem dM_piece_183 : decode cM_piece 183 = .ok (.iadd, 1) := by decide +kernel
theorem dM_piece_184 : decode cM_piece 184 = .ok (.iastore, 1) := by decide +kernel
theorem dM_piece_185 : decode cM_piece 185 = .ok (.aload_n 0, 1) := by decide +kernel
theorem dM_piece_186 : decode cM_piece 186 = .ok (.dup, 1) := by decide +kernel
theorem dM_piece_187 : decode cM_piece 187 = .ok (.getfield 70, 3) := by decide +kernel
theorem dM_piece_190 : decode cM_piece 190 = .ok (.iconst 1, 1) := by decide +kernel
theorem dM_piece_191 : decode cM_piece 191 = .ok (.iadd, 1) := by decide +kernel
theorem dM_piece_192 : decode cM_piece 192 = .ok (.putfield 70, 3) := by decide +kernel
theorem dM_piece_195 : decode cM_piece 195 = .ok (.aload_n 0, 1) := by decide +kernel
theorem dM_piece_196 : decode cM_piece 196 = .ok (.getfield 70, 3) := by decide +kernel
theorem dM_piece_199 : decode cM_piece 199 = .ok (.iconst 1, 1) := by decide +kernel
theorem dM_piece_200 : decode cM_piece 200 = .ok (.isub, 1) := by decide +kernel
theorem dM_piece_201 : decode cM_piece 201 = .ok (.ireturn, 1) := by decide +kernel
theorem dM_single_0 : decode cM_single 0 = .ok (.aload_n 0, 1) := by decide +kernel
theorem dM_single_1 : decode cM_single 1 = .ok (.iload_n 1, 1) := by decide +kernel
theorem dM_single_2 : decode cM_single 2 = .ok (.invokestatic 73, 3) := by decide +kernel
theorem dM_single_5 : decode cM_single 5 = .ok (.ifCond .eq 13, 3) := by decide +kernel
theorem dM_single_8 : decode cM_single 8 = .ok (.iload_n 2, 1) := by decide +kernel
theorem dM_single_9 : decode cM_single 9 = .ok (.iconst 0, 1) := by decide +kernel
theorem dM_single_10 : decode cM_single 10 = .ok (.bipush 15, 2) := by decide +kernel
theorem dM_single_12 : decode cM_single 12 = .ok (.invokestatic 66, 3) := by decide +kernel
theorem dM_single_15 : decode cM_single 15 = .ok (.ifCond .ne 7, 3) := by decide +kernel
theorem dM_single_18 : decode cM_single 18 = .ok (.iconst 1, 1) := by decide +kernel
theorem dM_single_19 : decode cM_single 19 = .ok (.goto 4, 3) := by decide +kernel
theorem dM_single_22 : decode cM_single 22 = .ok (.iconst 0, 1) := by decide +kernel
theorem dM_single_23 : decode cM_single 23 = .ok (.iconst 0, 1) := by decide +kernel
theorem dM_single_24 : decode cM_single 24 = .ok (.iconst 0, 1) := by decide +kernel
theorem dM_single_25 : decode cM_single 25 = .ok (.invokevirtual 77, 3) := by decide +kernel
theorem dM_single_28 : decode cM_single 28 = .ok (.ifCond .eq 5, 3) := by decide +kernel
theorem dM_single_31 : decode cM_single 31 = .ok (.iconst 0, 1) := by decide +kernel
theorem dM_single_32 : decode cM_single 32 = .ok (.ireturn, 1) := by decide +kernel
theorem dM_single_33 : decode cM_single 33 = .ok (.aload_n 0, 1) := by decide +kernel
theorem dM_single_34 : decode cM_single 34 = .ok (.getfield 37, 3) := by decide +kernel
theorem dM_single_37 : decode cM_single 37 = .ok (.bipush 16, 2) := by decide +kernel
theorem dM_single_39 : decode cM_single 39 = .ok (.iload_n 1, 1) := by decide +kernel
theorem dM_single_40 : decode cM_single 40 = .ok (.imul, 1) := by decide +kernel
theorem dM_single_41 : decode cM_single 41 = .ok (.iload_n 2, 1) := by decide +kernel
theorem dM_single_42 : decode cM_single 42 = .ok (.iadd, 1) := by decide +kernel
theorem dM_single_43 : decode cM_single 43 = .ok (.baload, 1) := by decide +kernel
theorem dM_single_44 : decode cM_single 44 = .ok (.istore 4, 2) := by decide +kernel
theorem dM_single_46 : decode cM_single 46 = .ok (.aload_n 0, 1) := by decide +kernel
theorem dM_single_47 : decode cM_single 47 = .ok (.getfield 37, 3) := by decide +kernel
theorem dM_single_50 : decode cM_single 50 = .ok (.bipush 16, 2) := by decide +kernel
theorem dM_single_52 : decode cM_single 52 = .ok (.iload_n 1, 1) := by decide +kernel
theorem dM_single_53 : decode cM_single 53 = .ok (.imul, 1) := by decide +kernel
theorem dM_single_54 : decode cM_single 54 = .ok (.iload_n 2, 1) := by decide +kernel
theorem dM_single_55 : decode cM_single 55 = .ok (.iadd, 1) := by decide +kernel
theorem dM_single_56 : decode cM_single 56 = .ok (.iload_n 3, 1) := by decide +kernel
theorem dM_single_57 : decode cM_single 57 = .ok (.bastore, 1) := by decide +kernel
theorem dM_single_58 : decode cM_single 58 = .ok (.iload 4, 2) := by decide +kernel
theorem dM_single_60 : decode cM_single 60 = .ok (.iload_n 3, 1) := by decide +kernel
theorem dM_single_61 : decode cM_single 61 = .ok (.if_icmp .eq 7, 3) := by decide +kernel
theorem dM_single_64 : decode cM_single 64 = .ok (.iconst 1, 1) := by decide +kernel
theorem dM_single_65 : decode cM_single 65 = .ok (.goto 4, 3) := by decide +kernel
theorem dM_single_68 : decode cM_single 68 = .ok (.iconst 0, 1) := by decide +kernel
theorem dM_single_69 : decode cM_single 69 = .ok (.ireturn, 1) := by decide +kernel
theorem dM_bound_0 : decode cM_bound 0 = .ok (.aload_n 0, 1) := by decide +kernel
theorem dM_bound_1 : decode cM_bound 1 = .ok (.iload_n 1, 1) := by decide +kernel
theorem dM_bound_2 : decode cM_bound 2 = .ok (.invokestatic 73, 3) := by decide +kernel
theorem dM_bound_5 : decode cM_bound 5 = .ok (.ifCond .ne 7, 3) := by decide +kernel
theorem dM_bound_8 : decode cM_bound 8 = .ok (.iconst 1, 1) := by decide +kernel
theorem dM_bound_9 : decode cM_bound 9 = .ok (.goto 4, 3) := by decide +kernel
theorem dM_bound_12 : decode cM_bound 12 = .ok (.iconst 0, 1) := by decide +kernel
theorem dM_bound_13 : decode cM_bound 13 = .ok (.iload_n 2, 1) := by decide +kernel
theorem dM_bound_14 : decode cM_bound 14 = .ok (.iconst 0, 1) := by decide +kernel
theorem dM_bound_15 : decode cM_bound 15 = .ok (.sipush 30000, 3) := by decide +kernel
theorem dM_bound_18 : decode cM_bound 18 = .ok (.invokestatic 66, 3) := by decide +kernel
theorem dM_bound_21 : decode cM_bound 21 = .ok (.ifCond .ne 7, 3) := by decide +kernel
theorem dM_bound_24 : decode cM_bound 24 = .ok (.iconst 1, 1) := by decide +kernel
theorem dM_bound_25 : decode cM_bound 25 = .ok (.goto 4, 3) := by decide +kernel
theorem dM_bound_28 : decode cM_bound 28 = .ok (.iconst 0, 1) := by decide +kernel
theorem dM_bound_29 : decode cM_bound 29 = .ok (.iconst 0, 1) := by decide +kernel
theorem dM_bound_30 : decode cM_bound 30 = .ok (.invokevirtual 77, 3) := by decide +kernel
theorem dM_bound_33 : decode cM_bound 33 = .ok (.ifCond .eq 5, 3) := by decide +kernel
theorem dM_bound_36 : decode cM_bound 36 = .ok (.iconst 0, 1) := by decide +kernel
theorem dM_bound_37 : decode cM_bound 37 = .ok (.ireturn, 1) := by decide +kernel
theorem dM_bound_38 : decode cM_bound 38 = .ok (.aload_n 0, 1) := by decide +kernel
theorem dM_bound_39 : decode cM_bound 39 = .ok (.getfield 41, 3) := by decide +kernel
theorem dM_bound_42 : decode cM_bound 42 = .ok (.iload_n 1, 1) := by decide +kernel
theorem dM_bound_43 : decode cM_bound 43 = .ok (.iaload, 1) := by decide +kernel
theorem dM_bound_44 : decode cM_bound 44 = .ok (.istore_n 3, 1) := by decide +kernel
theorem dM_bound_45 : decode cM_bound 45 = .ok (.aload_n 0, 1) := by decide +kernel
theorem dM_bound_46 : decode cM_bound 46 = .ok (.getfield 41, 3) := by decide +kernel
theorem dM_bound_49 : decode cM_bound 49 = .ok (.iload_n 1, 1) := by decide +kernel
theorem dM_bound_50 : decode cM_bound 50 = .ok (.iload_n 2, 1) := by decide +kernel
theorem dM_bound_51 : decode cM_bound 51 = .ok (.iastore, 1) := by decide +kernel
theorem dM_bound_52 : decode cM_bound 52 = .ok (.iload_n 3, 1) := by decide +kernel
theorem dM_bound_53 : decode cM_bound 53 = .ok (.ireturn, 1) := by decide +kernel
theorem dM_table_0 : decode cM_table 0 = .ok (.aload_n 0, 1) := by decide +kernel
theorem dM_table_1 : decode cM_table 1 = .ok (.iload_n 1, 1) := by decide +kernel
theorem dM_table_2 : decode cM_table 2 = .ok (.invokestatic 73, 3) := by decide +kernel
theorem dM_table_5 : decode cM_table 5 = .ok (.ifCond .eq 13, 3) := by decide +kernel
theorem dM_table_8 : decode cM_table 8 = .ok (.iload_n 2, 1) := by decide +kernel
theorem dM_table_9 : decode cM_table 9 = .ok (.iconst 0, 1) := by decide +kernel
theorem dM_table_10 : decode cM_table 10 = .ok (.bipush 15, 2) := by decide +kernel
theorem dM_table_12 : decode cM_table 12 = .ok (.invokestatic 66, 3) := by decide +kernel
theorem dM_table_15 : decode cM_table 15 = .ok (.ifCond .ne 7, 3) := by decide +kernel
theorem dM_table_18 : decode cM_table 18 = .ok (.iconst 1, 1) := by decide +kernel
theorem dM_table_19 : decode cM_table 19 = .ok (.goto 4, 3) := by decide +kernel
theorem dM_table_22 : decode cM_table 22 = .ok (.iconst 0, 1) := by decide +kernel
theorem dM_table_23 : decode cM_table 23 = .ok (.iload_n 3, 1) := by decide +kernel
theorem dM_table_24 : decode cM_table 24 = .ok (.ifCond .lt 17, 3) := by decide +kernel
theorem dM_table_27 : decode cM_table 27 = .ok (.iload_n 3, 1) := by decide +kernel
theorem dM_table_28 : decode cM_table 28 = .ok (.iload 4, 2) := by decide +kernel
theorem dM_table_30 : decode cM_table 30 = .ok (.if_icmp .gt 11, 3) := by decide +kernel
theorem dM_table_33 : decode cM_table 33 = .ok (.iload 4, 2) := by decide +kernel
theorem dM_table_35 : decode cM_table 35 = .ok (.sipush 999, 3) := by decide +kernel
theorem dM_table_38 : decode cM_table 38 = .ok (.if_icmp .le 7, 3) := by decide +kernel
theorem dM_table_41 : decode cM_table 41 = .ok (.iconst 1, 1) := by decide +kernel
theorem dM_table_42 : decode cM_table 42 = .ok (.goto 4, 3) := by decide +kernel
theorem dM_table_45 : decode cM_table 45 = .ok (.iconst 0, 1) := by decide +kernel
theorem dM_table_46 : decode cM_table 46 = .ok (.iconst 0, 1) := by decide +kernel
theorem dM_table_47 : decode cM_table 47 = .ok (.invokevirtual 77, 3) := by decide +kernel
theorem dM_table_50 : decode cM_table 50 = .ok (.ifCond .eq 4, 3) := by decide +kernel
theorem dM_table_53 : decode cM_table 53 = .ok (.return_, 1) := by decide +kernel
theorem dM_table_54 : decode cM_table 54 = .ok (.aload_n 0, 1) := by decide +kernel
theorem dM_table_55 : decode cM_table 55 = .ok (.getfield 44, 3) := by decide +kernel
theorem dM_table_58 : decode cM_table 58 = .ok (.bipush 16, 2) := by decide +kernel
theorem dM_table_60 : decode cM_table 60 = .ok (.iload_n 1, 1) := by decide +kernel
theorem dM_table_61 : decode cM_table 61 = .ok (.imul, 1) := by decide +kernel
theorem dM_table_62 : decode cM_table 62 = .ok (.iload_n 2, 1) := by decide +kernel
theorem dM_table_63 : decode cM_table 63 = .ok (.iadd, 1) := by decide +kernel
theorem dM_table_64 : decode cM_table 64 = .ok (.iload_n 3, 1) := by decide +kernel
theorem dM_table_65 : decode cM_table 65 = .ok (.iastore, 1) := by decide +kernel
theorem dM_table_66 : decode cM_table 66 = .ok (.aload_n 0, 1) := by decide +kernel
theorem dM_table_67 : decode cM_table 67 = .ok (.getfield 47, 3) := by decide +kernel
theorem dM_table_70 : decode cM_table 70 = .ok (.bipush 16, 2) := by decide +kernel
theorem dM_table_72 : decode cM_table 72 = .ok (.iload_n 1, 1) := by decide +kernel
theorem dM_table_73 : decode cM_table 73 = .ok (.imul, 1) := by decide +kernel
theorem dM_table_74 : decode cM_table 74 = .ok (.iload_n 2, 1) := by decide +kernel
theorem dM_table_75 : decode cM_table 75 = .ok (.iadd, 1) := by decide +kernel
theorem dM_table_76 : decode cM_table 76 = .ok (.iload 4, 2) := by decide +kernel
theorem dM_table_78 : decode cM_table 78 = .ok (.iastore, 1) := by decide +kernel
theorem dM_table_79 : decode cM_table 79 = .ok (.return_, 1) := by decide +kernel
theorem dM_worn_0 : decode cM_worn 0 = .ok (.aload_n 0, 1) := by decide +kernel
theorem dM_worn_1 : decode cM_worn 1 = .ok (.aload_n 0, 1) := by decide +kernel
theorem dM_worn_2 : decode cM_worn 2 = .ok (.iload_n 1, 1) := by decide +kernel
theorem dM_worn_3 : decode cM_worn 3 = .ok (.invokevirtual 81, 3) := by decide +kernel
theorem dM_worn_6 : decode cM_worn 6 = .ok (.ifCond .eq 13, 3) := by decide +kernel
theorem dM_worn_9 : decode cM_worn 9 = .ok (.iload_n 2, 1) := by decide +kernel
theorem dM_worn_10 : decode cM_worn 10 = .ok (.iconst 0, 1) := by decide +kernel
theorem dM_worn_11 : decode cM_worn 11 = .ok (.bipush 15, 2) := by decide +kernel
theorem dM_worn_13 : decode cM_worn 13 = .ok (.invokestatic 66, 3) := by decide +kernel
theorem dM_worn_16 : decode cM_worn 16 = .ok (.ifCond .ne 7, 3) := by decide +kernel
theorem dM_worn_19 : decode cM_worn 19 = .ok (.iconst 1, 1) := by decide +kernel
theorem dM_worn_20 : decode cM_worn 20 = .ok (.goto 4, 3) := by decide +kernel
theorem dM_worn_23 : decode cM_worn 23 = .ok (.iconst 0, 1) := by decide +kernel
theorem dM_worn_24 : decode cM_worn 24 = .ok (.iconst 0, 1) := by decide +kernel
theorem dM_worn_25 : decode cM_worn 25 = .ok (.iconst 0, 1) := by decide +kernel
theorem dM_worn_26 : decode cM_worn 26 = .ok (.invokevirtual 77, 3) := by decide +kernel
theorem dM_worn_29 : decode cM_worn 29 = .ok (.ifCond .eq 4, 3) := by decide +kernel
theorem dM_worn_32 : decode cM_worn 32 = .ok (.return_, 1) := by decide +kernel
theorem dM_worn_33 : decode cM_worn 33 = .ok (.aload_n 0, 1) := by decide +kernel
theorem dM_worn_34 : decode cM_worn 34 = .ok (.getfield 22, 3) := by decide +kernel
theorem dM_worn_37 : decode cM_worn 37 = .ok (.iload_n 1, 1) := by decide +kernel
theorem dM_worn_38 : decode cM_worn 38 = .ok (.aload_n 0, 1) := by decide +kernel
theorem dM_worn_39 : decode cM_worn 39 = .ok (.getfield 44, 3) := by decide +kernel
theorem dM_worn_42 : decode cM_worn 42 = .ok (.bipush 16, 2) := by decide +kernel
theorem dM_worn_44 : decode cM_worn 44 = .ok (.aload_n 0, 1) := by decide +kernel
theorem dM_worn_45 : decode cM_worn 45 = .ok (.getfield 7, 3) := by decide +kernel
theorem dM_worn_48 : decode cM_worn 48 = .ok (.iload_n 1, 1) := by decide +kernel
theorem dM_worn_49 : decode cM_worn 49 = .ok (.iaload, 1) := by decide +kernel
theorem dM_worn_50 : decode cM_worn 50 = .ok (.imul, 1) := by decide +kernel
theorem dM_worn_51 : decode cM_worn 51 = .ok (.iload_n 2, 1) := by decide +kernel
theorem dM_worn_52 : decode cM_worn 52 = .ok (.iadd, 1) := by decide +kernel
theorem dM_worn_53 : decode cM_worn 53 = .ok (.iaload, 1) := by decide +kernel
theorem dM_worn_54 : decode cM_worn 54 = .ok (.iastore, 1) := by decide +kernel
theorem dM_worn_55 : decode cM_worn 55 = .ok (.aload_n 0, 1) := by decide +kernel
theorem dM_worn_56 : decode cM_worn 56 = .ok (.getfield 25, 3) := by decide +kernel
theorem dM_worn_59 : decode cM_worn 59 = .ok (.iload_n 1, 1) := by decide +kernel
theorem dM_worn_60 : decode cM_worn 60 = .ok (.aload_n 0, 1) := by decide +kernel
theorem dM_worn_61 : decode cM_worn 61 = .ok (.getfield 47, 3) := by decide +kernel
theorem dM_worn_64 : decode cM_worn 64 = .ok (.bipush 16, 2) := by decide +kernel
theorem dM_worn_66 : decode cM_worn 66 = .ok (.aload_n 0, 1) := by decide +kernel
theorem dM_worn_67 : decode cM_worn 67 = .ok (.getfield 7, 3) := by decide +kernel
theorem dM_worn_70 : decode cM_worn 70 = .ok (.iload_n 1, 1) := by decide +kernel
theorem dM_worn_71 : decode cM_worn 71 = .ok (.iaload, 1) := by decide +kernel
theorem dM_worn_72 : decode cM_worn 72 = .ok (.imul, 1) := by decide +kernel
theorem dM_worn_73 : decode cM_worn 73 = .ok (.iload_n 2, 1) := by decide +kernel
theorem dM_worn_74 : decode cM_worn 74 = .ok (.iadd, 1) := by decide +kernel
theorem dM_worn_75 : decode cM_worn 75 = .ok (.iaload, 1) := by decide +kernel
theorem dM_worn_76 : decode cM_worn 76 = .ok (.iastore, 1) := by decide +kernel
theorem dM_worn_77 : decode cM_worn 77 = .ok (.return_, 1) := by decide +kernel
theorem dM_aged_0 : decode cM_aged 0 = .ok (.aload_n 0, 1) := by decide +kernel
theorem dM_aged_1 : decode cM_aged 1 = .ok (.aload_n 0, 1) := by decide +kernel
theorem dM_aged_2 : decode cM_aged 2 = .ok (.iload_n 1, 1) := by decide +kernel
theorem dM_aged_3 : decode cM_aged 3 = .ok (.invokevirtual 81, 3) := by decide +kernel
theorem dM_aged_6 : decode cM_aged 6 = .ok (.ifCond .eq 12, 3) := by decide +kernel
theorem dM_aged_9 : decode cM_aged 9 = .ok (.iload_n 2, 1) := by decide +kernel
theorem dM_aged_10 : decode cM_aged 10 = .ok (.iconst 0, 1) := by decide +kernel
theorem dM_aged_11 : decode cM_aged 11 = .ok (.iconst 1, 1) := by decide +kernel
theorem dM_aged_12 : decode cM_aged 12 = .ok (.invokestatic 66, 3) := by decide +kernel
theorem dM_aged_15 : decode cM_aged 15 = .ok (.ifCond .ne 7, 3) := by decide +kernel
theorem dM_aged_18 : decode cM_aged 18 = .ok (.iconst 1, 1) := by decide +kernel
theorem dM_aged_19 : decode cM_aged 19 = .ok (.goto 4, 3) := by decide +kernel
theorem dM_aged_22 : decode cM_aged 22 = .ok (.iconst 0, 1) := by decide +kernel
theorem dM_aged_23 : decode cM_aged 23 = .ok (.iconst 0, 1) := by decide +kernel
theorem dM_aged_24 : decode cM_aged 24 = .ok (.iconst 0, 1) := by decide +kernel
theorem dM_aged_25 : decode cM_aged 25 = .ok (.invokevirtual 77, 3) := by decide +kernel
theorem dM_aged_28 : decode cM_aged 28 = .ok (.ifCond .eq 5, 3) := by decide +kernel
theorem dM_aged_31 : decode cM_aged 31 = .ok (.iconst 0, 1) := by decide +kernel
theorem dM_aged_32 : decode cM_aged 32 = .ok (.ireturn, 1) := by decide +kernel
theorem dM_aged_33 : decode cM_aged 33 = .ok (.iload_n 2, 1) := by decide +kernel
theorem dM_aged_34 : decode cM_aged 34 = .ok (.ifCond .ne 12, 3) := by decide +kernel
theorem dM_aged_37 : decode cM_aged 37 = .ok (.aload_n 0, 1) := by decide +kernel
theorem dM_aged_38 : decode cM_aged 38 = .ok (.getfield 22, 3) := by decide +kernel
theorem dM_aged_41 : decode cM_aged 41 = .ok (.iload_n 1, 1) := by decide +kernel
theorem dM_aged_42 : decode cM_aged 42 = .ok (.iaload, 1) := by decide +kernel
theorem dM_aged_43 : decode cM_aged 43 = .ok (.goto 9, 3) := by decide +kernel
theorem dM_aged_46 : decode cM_aged 46 = .ok (.aload_n 0, 1) := by decide +kernel
theorem dM_aged_47 : decode cM_aged 47 = .ok (.getfield 25, 3) := by decide +kernel
theorem dM_aged_50 : decode cM_aged 50 = .ok (.iload_n 1, 1) := by decide +kernel
theorem dM_aged_51 : decode cM_aged 51 = .ok (.iaload, 1) := by decide +kernel
theorem dM_aged_52 : decode cM_aged 52 = .ok (.ireturn, 1) := by decide +kernel
theorem dM_unsure_0 : decode cM_unsure 0 = .ok (.aload_n 0, 1) := by decide +kernel
theorem dM_unsure_1 : decode cM_unsure 1 = .ok (.aload_n 0, 1) := by decide +kernel
theorem dM_unsure_2 : decode cM_unsure 2 = .ok (.iload_n 1, 1) := by decide +kernel
theorem dM_unsure_3 : decode cM_unsure 3 = .ok (.invokevirtual 81, 3) := by decide +kernel
theorem dM_unsure_6 : decode cM_unsure 6 = .ok (.ifCond .ne 7, 3) := by decide +kernel
theorem dM_unsure_9 : decode cM_unsure 9 = .ok (.iconst 1, 1) := by decide +kernel
theorem dM_unsure_10 : decode cM_unsure 10 = .ok (.goto 4, 3) := by decide +kernel
theorem dM_unsure_13 : decode cM_unsure 13 = .ok (.iconst 0, 1) := by decide +kernel
theorem dM_unsure_14 : decode cM_unsure 14 = .ok (.iconst 0, 1) := by decide +kernel
theorem dM_unsure_15 : decode cM_unsure 15 = .ok (.iconst 0, 1) := by decide +kernel
theorem dM_unsure_16 : decode cM_unsure 16 = .ok (.invokevirtual 77, 3) := by decide +kernel
theorem dM_unsure_19 : decode cM_unsure 19 = .ok (.ifCond .eq 5, 3) := by decide +kernel
theorem dM_unsure_22 : decode cM_unsure 22 = .ok (.iconst 0, 1) := by decide +kernel
theorem dM_unsure_23 : decode cM_unsure 23 = .ok (.ireturn, 1) := by decide +kernel
theorem dM_unsure_24 : decode cM_unsure 24 = .ok (.aload_n 0, 1) := by decide +kernel
theorem dM_unsure_25 : decode cM_unsure 25 = .ok (.getfield 16, 3) := by decide +kernel
theorem dM_unsure_28 : decode cM_unsure 28 = .ok (.iload_n 1, 1) := by decide +kernel
theorem dM_unsure_29 : decode cM_unsure 29 = .ok (.iaload, 1) := by decide +kernel
theorem dM_unsure_30 : decode cM_unsure 30 = .ok (.iconst 3, 1) := by decide +kernel
theorem dM_unsure_31 : decode cM_unsure 31 = .ok (.if_icmp .ne 7, 3) := by decide +kernel
theorem dM_unsure_34 : decode cM_unsure 34 = .ok (.iconst 1, 1) := by decide +kernel
theorem dM_unsure_35 : decode cM_unsure 35 = .ok (.goto 4, 3) := by decide +kernel
theorem dM_unsure_38 : decode cM_unsure 38 = .ok (.iconst 0, 1) := by decide +kernel
theorem dM_unsure_39 : decode cM_unsure 39 = .ok (.istore_n 2, 1) := by decide +kernel
theorem dM_unsure_40 : decode cM_unsure 40 = .ok (.aload_n 0, 1) := by decide +kernel
theorem dM_unsure_41 : decode cM_unsure 41 = .ok (.getfield 16, 3) := by decide +kernel
theorem dM_unsure_44 : decode cM_unsure 44 = .ok (.iload_n 1, 1) := by decide +kernel
theorem dM_unsure_45 : decode cM_unsure 45 = .ok (.iconst 3, 1) := by decide +kernel
theorem dM_unsure_46 : decode cM_unsure 46 = .ok (.iastore, 1) := by decide +kernel
theorem dM_unsure_47 : decode cM_unsure 47 = .ok (.iload_n 2, 1) := by decide +kernel
theorem dM_unsure_48 : decode cM_unsure 48 = .ok (.ifCond .ne 7, 3) := by decide +kernel
theorem dM_unsure_51 : decode cM_unsure 51 = .ok (.iconst 1, 1) := by decide +kernel
theorem dM_unsure_52 : decode cM_unsure 52 = .ok (.goto 4, 3) := by decide +kernel
theorem dM_unsure_55 : decode cM_unsure 55 = .ok (.iconst 0, 1) := by decide +kernel
theorem dM_unsure_56 : decode cM_unsure 56 = .ok (.ireturn, 1) := by decide +kernel
theorem dM_rule_0 : decode cM_rule 0 = .ok (.aload_n 0, 1) := by decide +kernel
theorem dM_rule_1 : decode cM_rule 1 = .ok (.getfield 13, 3) := by decide +kernel
theorem dM_rule_4 : decode cM_rule 4 = .ok (.iload_n 1, 1) := by decide +kernel
theorem dM_rule_5 : decode cM_rule 5 = .ok (.iaload, 1) := by decide +kernel
theorem dM_rule_6 : decode cM_rule 6 = .ok (.aload_n 0, 1) := by decide +kernel
theorem dM_rule_7 : decode cM_rule 7 = .ok (.getfield 13, 3) := by decide +kernel
theorem dM_rule_10 : decode cM_rule 10 = .ok (.iload_n 2, 1) := by decide +kernel
theorem dM_rule_11 : decode cM_rule 11 = .ok (.iaload, 1) := by decide +kernel
theorem dM_rule_12 : decode cM_rule 12 = .ok (.if_icmp .ne 7, 3) := by decide +kernel
theorem dM_rule_15 : decode cM_rule 15 = .ok (.iconst 1, 1) := by decide +kernel
theorem dM_rule_16 : decode cM_rule 16 = .ok (.goto 4, 3) := by decide +kernel
theorem dM_rule_19 : decode cM_rule 19 = .ok (.iconst 0, 1) := by decide +kernel
theorem dM_rule_20 : decode cM_rule 20 = .ok (.istore_n 3, 1) := by decide +kernel
theorem dM_rule_21 : decode cM_rule 21 = .ok (.iload_n 3, 1) := by decide +kernel
theorem dM_rule_22 : decode cM_rule 22 = .ok (.ifCond .eq 64, 3) := by decide +kernel
theorem dM_rule_25 : decode cM_rule 25 = .ok (.aload_n 0, 1) := by decide +kernel
theorem dM_rule_26 : decode cM_rule 26 = .ok (.getfield 16, 3) := by decide +kernel
theorem dM_rule_29 : decode cM_rule 29 = .ok (.iload_n 1, 1) := by decide +kernel
theorem dM_rule_30 : decode cM_rule 30 = .ok (.iaload, 1) := by decide +kernel
theorem dM_rule_31 : decode cM_rule 31 = .ok (.aload_n 0, 1) := by decide +kernel
theorem dM_rule_32 : decode cM_rule 32 = .ok (.getfield 16, 3) := by decide +kernel
theorem dM_rule_35 : decode cM_rule 35 = .ok (.iload_n 2, 1) := by decide +kernel
theorem dM_rule_36 : decode cM_rule 36 = .ok (.iaload, 1) := by decide +kernel
theorem dM_rule_37 : decode cM_rule 37 = .ok (.if_icmp .ne 49, 3) := by decide +kernel
theorem dM_rule_40 : decode cM_rule 40 = .ok (.aload_n 0, 1) := by decide +kernel
theorem dM_rule_41 : decode cM_rule 41 = .ok (.getfield 16, 3) := by decide +kernel
theorem dM_rule_44 : decode cM_rule 44 = .ok (.iload_n 1, 1) := by decide +kernel
theorem dM_rule_45 : decode cM_rule 45 = .ok (.iaload, 1) := by decide +kernel
theorem dM_rule_46 : decode cM_rule 46 = .ok (.iconst 2, 1) := by decide +kernel
theorem dM_rule_47 : decode cM_rule 47 = .ok (.if_icmp .lt 37, 3) := by decide +kernel
theorem dM_rule_50 : decode cM_rule 50 = .ok (.aload_n 0, 1) := by decide +kernel
theorem dM_rule_51 : decode cM_rule 51 = .ok (.getfield 16, 3) := by decide +kernel
theorem dM_rule_54 : decode cM_rule 54 = .ok (.iload_n 1, 1) := by decide +kernel
theorem dM_rule_55 : decode cM_rule 55 = .ok (.iaload, 1) := by decide +kernel
theorem dM_rule_56 : decode cM_rule 56 = .ok (.iconst 2, 1) := by decide +kernel
theorem dM_rule_57 : decode cM_rule 57 = .ok (.if_icmp .ne 29, 3) := by decide +kernel
theorem dM_rule_60 : decode cM_rule 60 = .ok (.aload_n 0, 1) := by decide +kernel
theorem dM_rule_61 : decode cM_rule 61 = .ok (.getfield 37, 3) := by decide +kernel
theorem dM_rule_64 : decode cM_rule 64 = .ok (.bipush 16, 2) := by decide +kernel
theorem dM_rule_66 : decode cM_rule 66 = .ok (.aload_n 0, 1) := by decide +kernel
theorem dM_rule_67 : decode cM_rule 67 = .ok (.getfield 7, 3) := by decide +kernel
theorem dM_rule_70 : decode cM_rule 70 = .ok (.iload_n 1, 1) := by decide +kernel
theorem dM_rule_71 : decode cM_rule 71 = .ok (.iaload, 1) := by decide +kernel
theorem dM_rule_72 : decode cM_rule 72 = .ok (.imul, 1) := by decide +kernel
theorem dM_rule_73 : decode cM_rule 73 = .ok (.aload_n 0, 1) := by decide +kernel
theorem dM_rule_74 : decode cM_rule 74 = .ok (.getfield 13, 3) := by decide +kernel
theorem dM_rule_77 : decode cM_rule 77 = .ok (.iload_n 1, 1) := by decide +kernel
theorem dM_rule_78 : decode cM_rule 78 = .ok (.iaload, 1) := by decide +kernel
theorem dM_rule_79 : decode cM_rule 79 = .ok (.iadd, 1) := by decide +kernel
theorem dM_rule_80 : decode cM_rule 80 = .ok (.baload, 1) := by decide +kernel
theorem dM_rule_81 : decode cM_rule 81 = .ok (.ifCond .eq 5, 3) := by decide +kernel
theorem dM_rule_84 : decode cM_rule 84 = .ok (.iconst 1, 1) := by decide +kernel
theorem dM_rule_85 : decode cM_rule 85 = .ok (.ireturn, 1) := by decide +kernel
theorem dM_rule_86 : decode cM_rule 86 = .ok (.aload_n 0, 1) := by decide +kernel
theorem dM_rule_87 : decode cM_rule 87 = .ok (.getfield 22, 3) := by decide +kernel
theorem dM_rule_90 : decode cM_rule 90 = .ok (.iload_n 1, 1) := by decide +kernel
theorem dM_rule_91 : decode cM_rule 91 = .ok (.iaload, 1) := by decide +kernel
theorem dM_rule_92 : decode cM_rule 92 = .ok (.aload_n 0, 1) := by decide +kernel
theorem dM_rule_93 : decode cM_rule 93 = .ok (.getfield 25, 3) := by decide +kernel
theorem dM_rule_96 : decode cM_rule 96 = .ok (.iload_n 2, 1) := by decide +kernel
theorem dM_rule_97 : decode cM_rule 97 = .ok (.iaload, 1) := by decide +kernel
theorem dM_rule_98 : decode cM_rule 98 = .ok (.if_icmp .gt 18, 3) := by decide +kernel
theorem dM_rule_101 : decode cM_rule 101 = .ok (.aload_n 0, 1) := by decide +kernel
theorem dM_rule_102 : decode cM_rule 102 = .ok (.getfield 22, 3) := by decide +kernel
theorem dM_rule_105 : decode cM_rule 105 = .ok (.iload_n 2, 1) := by decide +kernel
theorem dM_rule_106 : decode cM_rule 106 = .ok (.iaload, 1) := by decide +kernel
theorem dM_rule_107 : decode cM_rule 107 = .ok (.aload_n 0, 1) := by decide +kernel
theorem dM_rule_108 : decode cM_rule 108 = .ok (.getfield 25, 3) := by decide +kernel
theorem dM_rule_111 : decode cM_rule 111 = .ok (.iload_n 1, 1) := by decide +kernel
theorem dM_rule_112 : decode cM_rule 112 = .ok (.iaload, 1) := by decide +kernel
theorem dM_rule_113 : decode cM_rule 113 = .ok (.if_icmp .le 5, 3) := by decide +kernel
theorem dM_rule_116 : decode cM_rule 116 = .ok (.iconst 2, 1) := by decide +kernel
theorem dM_rule_117 : decode cM_rule 117 = .ok (.ireturn, 1) := by decide +kernel
theorem dM_rule_118 : decode cM_rule 118 = .ok (.aload_n 0, 1) := by decide +kernel
theorem dM_rule_119 : decode cM_rule 119 = .ok (.getfield 19, 3) := by decide +kernel
theorem dM_rule_122 : decode cM_rule 122 = .ok (.iload_n 1, 1) := by decide +kernel
theorem dM_rule_123 : decode cM_rule 123 = .ok (.iaload, 1) := by decide +kernel
theorem dM_rule_124 : decode cM_rule 124 = .ok (.aload_n 0, 1) := by decide +kernel
theorem dM_rule_125 : decode cM_rule 125 = .ok (.getfield 19, 3) := by decide +kernel
theorem dM_rule_128 : decode cM_rule 128 = .ok (.iload_n 2, 1) := by decide +kernel
theorem dM_rule_129 : decode cM_rule 129 = .ok (.iaload, 1) := by decide +kernel
theorem dM_rule_130 : decode cM_rule 130 = .ok (.if_icmp .le 19, 3) := by decide +kernel
theorem dM_rule_133 : decode cM_rule 133 = .ok (.aload_n 0, 1) := by decide +kernel
theorem dM_rule_134 : decode cM_rule 134 = .ok (.getfield 19, 3) := by decide +kernel
theorem dM_rule_137 : decode cM_rule 137 = .ok (.iload_n 1, 1) := by decide +kernel
theorem dM_rule_138 : decode cM_rule 138 = .ok (.iaload, 1) := by decide +kernel
theorem dM_rule_139 : decode cM_rule 139 = .ok (.aload_n 0, 1) := by decide +kernel
theorem dM_rule_140 : decode cM_rule 140 = .ok (.getfield 19, 3) := by decide +kernel
theorem dM_rule_143 : decode cM_rule 143 = .ok (.iload_n 2, 1) := by decide +kernel
theorem dM_rule_144 : decode cM_rule 144 = .ok (.iaload, 1) := by decide +kernel
theorem dM_rule_145 : decode cM_rule 145 = .ok (.isub, 1) := by decide +kernel
theorem dM_rule_146 : decode cM_rule 146 = .ok (.goto 16, 3) := by decide +kernel
theorem dM_rule_149 : decode cM_rule 149 = .ok (.aload_n 0, 1) := by decide +kernel
theorem dM_rule_150 : decode cM_rule 150 = .ok (.getfield 19, 3) := by decide +kernel
theorem dM_rule_153 : decode cM_rule 153 = .ok (.iload_n 2, 1) := by decide +kernel
theorem dM_rule_154 : decode cM_rule 154 = .ok (.iaload, 1) := by decide +kernel
theorem dM_rule_155 : decode cM_rule 155 = .ok (.aload_n 0, 1) := by decide +kernel
theorem dM_rule_156 : decode cM_rule 156 = .ok (.getfield 19, 3) := by decide +kernel
theorem dM_rule_159 : decode cM_rule 159 = .ok (.iload_n 1, 1) := by decide +kernel
theorem dM_rule_160 : decode cM_rule 160 = .ok (.iaload, 1) := by decide +kernel
theorem dM_rule_161 : decode cM_rule 161 = .ok (.isub, 1) := by decide +kernel
theorem dM_rule_162 : decode cM_rule 162 = .ok (.istore 4, 2) := by decide +kernel
theorem dM_rule_164 : decode cM_rule 164 = .ok (.iload_n 3, 1) := by decide +kernel
theorem dM_rule_165 : decode cM_rule 165 = .ok (.ifCond .eq 41, 3) := by decide +kernel
theorem dM_rule_168 : decode cM_rule 168 = .ok (.aload_n 0, 1) := by decide +kernel
theorem dM_rule_169 : decode cM_rule 169 = .ok (.getfield 19, 3) := by decide +kernel
theorem dM_rule_172 : decode cM_rule 172 = .ok (.iload_n 1, 1) := by decide +kernel
theorem dM_rule_173 : decode cM_rule 173 = .ok (.iaload, 1) := by decide +kernel
theorem dM_rule_174 : decode cM_rule 174 = .ok (.ifCond .le 32, 3) := by decide +kernel
theorem dM_rule_177 : decode cM_rule 177 = .ok (.aload_n 0, 1) := by decide +kernel
theorem dM_rule_178 : decode cM_rule 178 = .ok (.getfield 19, 3) := by decide +kernel
theorem dM_rule_181 : decode cM_rule 181 = .ok (.iload_n 2, 1) := by decide +kernel
theorem dM_rule_182 : decode cM_rule 182 = .ok (.iaload, 1) := by decide +kernel
theorem dM_rule_183 : decode cM_rule 183 = .ok (.ifCond .le 23, 3) := by decide +kernel
theorem dM_rule_186 : decode cM_rule 186 = .ok (.iload 4, 2) := by decide +kernel
theorem dM_rule_188 : decode cM_rule 188 = .ok (.aload_n 0, 1) := by decide +kernel
theorem dM_rule_189 : decode cM_rule 189 = .ok (.getfield 41, 3) := by decide +kernel
theorem dM_rule_192 : decode cM_rule 192 = .ok (.aload_n 0, 1) := by decide +kernel
theorem dM_rule_193 : decode cM_rule 193 = .ok (.getfield 7, 3) := by decide +kernel
theorem dM_rule_196 : decode cM_rule 196 = .ok (.iload_n 1, 1) := by decide +kernel
theorem dM_rule_197 : decode cM_rule 197 = .ok (.iaload, 1) := by decide +kernel
theorem dM_rule_198 : decode cM_rule 198 = .ok (.iaload, 1) := by decide +kernel
theorem dM_rule_199 : decode cM_rule 199 = .ok (.if_icmp .le 7, 3) := by decide +kernel
theorem dM_rule_202 : decode cM_rule 202 = .ok (.iconst 3, 1) := by decide +kernel
theorem dM_rule_203 : decode cM_rule 203 = .ok (.goto 4, 3) := by decide +kernel
theorem dM_rule_206 : decode cM_rule 206 = .ok (.iconst 0, 1) := by decide +kernel
theorem dM_rule_207 : decode cM_rule 207 = .ok (.ireturn, 1) := by decide +kernel
theorem dM_clash_0 : decode cM_clash 0 = .ok (.aload_n 0, 1) := by decide +kernel
theorem dM_clash_1 : decode cM_clash 1 = .ok (.iload_n 1, 1) := by decide +kernel
theorem dM_clash_2 : decode cM_clash 2 = .ok (.invokevirtual 81, 3) := by decide +kernel
theorem dM_clash_5 : decode cM_clash 5 = .ok (.ifCond .eq 11, 3) := by decide +kernel
theorem dM_clash_8 : decode cM_clash 8 = .ok (.aload_n 0, 1) := by decide +kernel
theorem dM_clash_9 : decode cM_clash 9 = .ok (.iload_n 2, 1) := by decide +kernel
theorem dM_clash_10 : decode cM_clash 10 = .ok (.invokevirtual 81, 3) := by decide +kernel
theorem dM_clash_13 : decode cM_clash 13 = .ok (.ifCond .ne 7, 3) := by decide +kernel
theorem dM_clash_16 : decode cM_clash 16 = .ok (.iconst 1, 1) := by decide +kernel
theorem dM_clash_17 : decode cM_clash 17 = .ok (.goto 4, 3) := by decide +kernel
theorem dM_clash_20 : decode cM_clash 20 = .ok (.iconst 0, 1) := by decide +kernel
theorem dM_clash_21 : decode cM_clash 21 = .ok (.istore_n 3, 1) := by decide +kernel
theorem dM_clash_22 : decode cM_clash 22 = .ok (.aload_n 0, 1) := by decide +kernel
theorem dM_clash_23 : decode cM_clash 23 = .ok (.iload_n 3, 1) := by decide +kernel
theorem dM_clash_24 : decode cM_clash 24 = .ok (.iload_n 3, 1) := by decide +kernel
theorem dM_clash_25 : decode cM_clash 25 = .ok (.ifCond .ne 27, 3) := by decide +kernel
theorem dM_clash_28 : decode cM_clash 28 = .ok (.iload_n 1, 1) := by decide +kernel
theorem dM_clash_29 : decode cM_clash 29 = .ok (.iload_n 2, 1) := by decide +kernel
theorem dM_clash_30 : decode cM_clash 30 = .ok (.if_icmp .eq 18, 3) := by decide +kernel
theorem dM_clash_33 : decode cM_clash 33 = .ok (.aload_n 0, 1) := by decide +kernel
theorem dM_clash_34 : decode cM_clash 34 = .ok (.getfield 7, 3) := by decide +kernel
theorem dM_clash_37 : decode cM_clash 37 = .ok (.iload_n 1, 1) := by decide +kernel
theorem dM_clash_38 : decode cM_clash 38 = .ok (.iaload, 1) := by decide +kernel
theorem dM_clash_39 : decode cM_clash 39 = .ok (.aload_n 0, 1) := by decide +kernel
theorem dM_clash_40 : decode cM_clash 40 = .ok (.getfield 7, 3) := by decide +kernel
theorem dM_clash_43 : decode cM_clash 43 = .ok (.iload_n 2, 1) := by decide +kernel
theorem dM_clash_44 : decode cM_clash 44 = .ok (.iaload, 1) := by decide +kernel
theorem dM_clash_45 : decode cM_clash 45 = .ok (.if_icmp .eq 7, 3) := by decide +kernel
theorem dM_clash_48 : decode cM_clash 48 = .ok (.iconst 1, 1) := by decide +kernel
theorem dM_clash_49 : decode cM_clash 49 = .ok (.goto 4, 3) := by decide +kernel
theorem dM_clash_52 : decode cM_clash 52 = .ok (.iconst 0, 1) := by decide +kernel
theorem dM_clash_53 : decode cM_clash 53 = .ok (.iconst 0, 1) := by decide +kernel
theorem dM_clash_54 : decode cM_clash 54 = .ok (.invokevirtual 77, 3) := by decide +kernel
theorem dM_clash_57 : decode cM_clash 57 = .ok (.ifCond .eq 5, 3) := by decide +kernel
theorem dM_clash_60 : decode cM_clash 60 = .ok (.iconst 0, 1) := by decide +kernel
theorem dM_clash_61 : decode cM_clash 61 = .ok (.ireturn, 1) := by decide +kernel
theorem dM_clash_62 : decode cM_clash 62 = .ok (.aload_n 0, 1) := by decide +kernel
theorem dM_clash_63 : decode cM_clash 63 = .ok (.iload_n 1, 1) := by decide +kernel
theorem dM_clash_64 : decode cM_clash 64 = .ok (.iload_n 2, 1) := by decide +kernel
theorem dM_clash_65 : decode cM_clash 65 = .ok (.invokevirtual 84, 3) := by decide +kernel
theorem dM_clash_68 : decode cM_clash 68 = .ok (.ireturn, 1) := by decide +kernel
theorem dM_clashes_0 : decode cM_clashes 0 = .ok (.aload_n 0, 1) := by decide +kernel
theorem dM_clashes_1 : decode cM_clashes 1 = .ok (.aload_n 0, 1) := by decide +kernel
theorem dM_clashes_2 : decode cM_clashes 2 = .ok (.getfield 34, 3) := by decide +kernel
theorem dM_clashes_5 : decode cM_clashes 5 = .ok (.bipush 12, 2) := by decide +kernel
theorem dM_clashes_7 : decode cM_clashes 7 = .ok (.iload_n 1, 1) := by decide +kernel
theorem dM_clashes_8 : decode cM_clashes 8 = .ok (.imul, 1) := by decide +kernel
theorem dM_clashes_9 : decode cM_clashes 9 = .ok (.iload_n 2, 1) := by decide +kernel
theorem dM_clashes_10 : decode cM_clashes 10 = .ok (.iadd, 1) := by decide +kernel
theorem dM_clashes_11 : decode cM_clashes 11 = .ok (.iaload, 1) := by decide +kernel
theorem dM_clashes_12 : decode cM_clashes 12 = .ok (.aload_n 0, 1) := by decide +kernel
theorem dM_clashes_13 : decode cM_clashes 13 = .ok (.getfield 34, 3) := by decide +kernel
theorem dM_clashes_16 : decode cM_clashes 16 = .ok (.bipush 12, 2) := by decide +kernel
theorem dM_clashes_18 : decode cM_clashes 18 = .ok (.iload_n 1, 1) := by decide +kernel
theorem dM_clashes_19 : decode cM_clashes 19 = .ok (.imul, 1) := by decide +kernel
theorem dM_clashes_20 : decode cM_clashes 20 = .ok (.iload_n 3, 1) := by decide +kernel
theorem dM_clashes_21 : decode cM_clashes 21 = .ok (.iadd, 1) := by decide +kernel
theorem dM_clashes_22 : decode cM_clashes 22 = .ok (.iaload, 1) := by decide +kernel
theorem dM_clashes_23 : decode cM_clashes 23 = .ok (.invokevirtual 84, 3) := by decide +kernel
theorem dM_clashes_26 : decode cM_clashes 26 = .ok (.ifCond .le 7, 3) := by decide +kernel
theorem dM_clashes_29 : decode cM_clashes 29 = .ok (.iconst 1, 1) := by decide +kernel
theorem dM_clashes_30 : decode cM_clashes 30 = .ok (.goto 4, 3) := by decide +kernel
theorem dM_clashes_33 : decode cM_clashes 33 = .ok (.iconst 0, 1) := by decide +kernel
theorem dM_clashes_34 : decode cM_clashes 34 = .ok (.ireturn, 1) := by decide +kernel
theorem dM_fits_0 : decode cM_fits 0 = .ok (.iconst 1, 1) := by decide +kernel
theorem dM_fits_1 : decode cM_fits 1 = .ok (.istore 4, 2) := by decide +kernel
theorem dM_fits_3 : decode cM_fits 3 = .ok (.iconst 0, 1) := by decide +kernel
theorem dM_fits_4 : decode cM_fits 4 = .ok (.istore 5, 2) := by decide +kernel
theorem dM_fits_6 : decode cM_fits 6 = .ok (.iload 5, 2) := by decide +kernel
theorem dM_fits_8 : decode cM_fits 8 = .ok (.iload_n 2, 1) := by decide +kernel
theorem dM_fits_9 : decode cM_fits 9 = .ok (.if_icmp .ge 43, 3) := by decide +kernel
theorem dM_fits_12 : decode cM_fits 12 = .ok (.iload 4, 2) := by decide +kernel
theorem dM_fits_14 : decode cM_fits 14 = .ok (.ifCond .eq 29, 3) := by decide +kernel
theorem dM_fits_17 : decode cM_fits 17 = .ok (.aload_n 0, 1) := by decide +kernel
theorem dM_fits_18 : decode cM_fits 18 = .ok (.getfield 56, 3) := by decide +kernel
theorem dM_fits_21 : decode cM_fits 21 = .ok (.iload 5, 2) := by decide +kernel
theorem dM_fits_23 : decode cM_fits 23 = .ok (.iaload, 1) := by decide +kernel
theorem dM_fits_24 : decode cM_fits 24 = .ok (.iload_n 3, 1) := by decide +kernel
theorem dM_fits_25 : decode cM_fits 25 = .ok (.if_icmp .ne 14, 3) := by decide +kernel
theorem dM_fits_28 : decode cM_fits 28 = .ok (.aload_n 0, 1) := by decide +kernel
theorem dM_fits_29 : decode cM_fits 29 = .ok (.iload_n 1, 1) := by decide +kernel
theorem dM_fits_30 : decode cM_fits 30 = .ok (.iload 5, 2) := by decide +kernel
theorem dM_fits_32 : decode cM_fits 32 = .ok (.iload_n 2, 1) := by decide +kernel
theorem dM_fits_33 : decode cM_fits 33 = .ok (.invokevirtual 88, 3) := by decide +kernel
theorem dM_fits_36 : decode cM_fits 36 = .ok (.ifCond .ne 7, 3) := by decide +kernel
theorem dM_fits_39 : decode cM_fits 39 = .ok (.iconst 1, 1) := by decide +kernel
theorem dM_fits_40 : decode cM_fits 40 = .ok (.goto 4, 3) := by decide +kernel
theorem dM_fits_43 : decode cM_fits 43 = .ok (.iconst 0, 1) := by decide +kernel
theorem dM_fits_44 : decode cM_fits 44 = .ok (.istore 4, 2) := by decide +kernel
theorem dM_fits_46 : decode cM_fits 46 = .ok (.iinc 5 1, 3) := by decide +kernel
theorem dM_fits_49 : decode cM_fits 49 = .ok (.goto (-43), 3) := by decide +kernel
theorem dM_fits_52 : decode cM_fits 52 = .ok (.iload 4, 2) := by decide +kernel
theorem dM_fits_54 : decode cM_fits 54 = .ok (.ireturn, 1) := by decide +kernel
theorem dM_parts_0 : decode cM_parts 0 = .ok (.aload_n 0, 1) := by decide +kernel
theorem dM_parts_1 : decode cM_parts 1 = .ok (.getfield 31, 3) := by decide +kernel
theorem dM_parts_4 : decode cM_parts 4 = .ok (.iload_n 1, 1) := by decide +kernel
theorem dM_parts_5 : decode cM_parts 5 = .ok (.iaload, 1) := by decide +kernel
theorem dM_parts_6 : decode cM_parts 6 = .ok (.istore_n 3, 1) := by decide +kernel
theorem dM_parts_7 : decode cM_parts 7 = .ok (.iconst 0, 1) := by decide +kernel
theorem dM_parts_8 : decode cM_parts 8 = .ok (.istore 4, 2) := by decide +kernel
theorem dM_parts_10 : decode cM_parts 10 = .ok (.iconst 0, 1) := by decide +kernel
theorem dM_parts_11 : decode cM_parts 11 = .ok (.istore 5, 2) := by decide +kernel
theorem dM_parts_13 : decode cM_parts 13 = .ok (.aload_n 0, 1) := by decide +kernel
theorem dM_parts_14 : decode cM_parts 14 = .ok (.getfield 59, 3) := by decide +kernel
theorem dM_parts_17 : decode cM_parts 17 = .ok (.iconst 0, 1) := by decide +kernel
theorem dM_parts_18 : decode cM_parts 18 = .ok (.iconst 0, 1) := by decide +kernel
theorem dM_parts_19 : decode cM_parts 19 = .ok (.iastore, 1) := by decide +kernel
theorem dM_parts_20 : decode cM_parts 20 = .ok (.iload 4, 2) := by decide +kernel
theorem dM_parts_22 : decode cM_parts 22 = .ok (.ifCond .lt 155, 3) := by decide +kernel
theorem dM_parts_25 : decode cM_parts 25 = .ok (.iload 4, 2) := by decide +kernel
theorem dM_parts_27 : decode cM_parts 27 = .ok (.iload_n 3, 1) := by decide +kernel
theorem dM_parts_28 : decode cM_parts 28 = .ok (.if_icmp .ge 149, 3) := by decide +kernel
theorem dM_parts_31 : decode cM_parts 31 = .ok (.iload 5, 2) := by decide +kernel
theorem dM_parts_33 : decode cM_parts 33 = .ok (.istore 6, 2) := by decide +kernel
theorem dM_parts_35 : decode cM_parts 35 = .ok (.aload_n 0, 1) := by decide +kernel
theorem dM_parts_36 : decode cM_parts 36 = .ok (.getfield 59, 3) := by decide +kernel
theorem dM_parts_39 : decode cM_parts 39 = .ok (.iload 4, 2) := by decide +kernel
theorem dM_parts_41 : decode cM_parts 41 = .ok (.iaload, 1) := by decide +kernel
theorem dM_parts_42 : decode cM_parts 42 = .ok (.iload_n 2, 1) := by decide +kernel
theorem dM_parts_43 : decode cM_parts 43 = .ok (.if_icmp .ge 13, 3) := by decide +kernel
theorem dM_parts_46 : decode cM_parts 46 = .ok (.aload_n 0, 1) := by decide +kernel
theorem dM_parts_47 : decode cM_parts 47 = .ok (.getfield 59, 3) := by decide +kernel
theorem dM_parts_50 : decode cM_parts 50 = .ok (.iload 4, 2) := by decide +kernel
theorem dM_parts_52 : decode cM_parts 52 = .ok (.iaload, 1) := by decide +kernel
theorem dM_parts_53 : decode cM_parts 53 = .ok (.goto 6, 3) := by decide +kernel
theorem dM_parts_56 : decode cM_parts 56 = .ok (.iload_n 2, 1) := by decide +kernel
theorem dM_parts_57 : decode cM_parts 57 = .ok (.iconst 1, 1) := by decide +kernel
theorem dM_parts_58 : decode cM_parts 58 = .ok (.isub, 1) := by decide +kernel
theorem dM_parts_59 : decode cM_parts 59 = .ok (.istore 7, 2) := by decide +kernel
theorem dM_parts_61 : decode cM_parts 61 = .ok (.iload 6, 2) := by decide +kernel
theorem dM_parts_63 : decode cM_parts 63 = .ok (.iload 7, 2) := by decide +kernel
theorem dM_parts_65 : decode cM_parts 65 = .ok (.if_icmp .gt 21, 3) := by decide +kernel
theorem dM_parts_68 : decode cM_parts 68 = .ok (.aload_n 0, 1) := by decide +kernel
theorem dM_parts_69 : decode cM_parts 69 = .ok (.iload_n 1, 1) := by decide +kernel
theorem dM_parts_70 : decode cM_parts 70 = .ok (.iload 4, 2) := by decide +kernel
theorem dM_parts_72 : decode cM_parts 72 = .ok (.iload 6, 2) := by decide +kernel
theorem dM_parts_74 : decode cM_parts 74 = .ok (.invokevirtual 91, 3) := by decide +kernel
theorem dM_parts_77 : decode cM_parts 77 = .ok (.ifCond .ne 9, 3) := by decide +kernel
theorem dM_parts_80 : decode cM_parts 80 = .ok (.iinc 6 1, 3) := by decide +kernel
theorem dM_parts_83 : decode cM_parts 83 = .ok (.goto (-22), 3) := by decide +kernel
theorem dM_parts_86 : decode cM_parts 86 = .ok (.iload 6, 2) := by decide +kernel
theorem dM_parts_88 : decode cM_parts 88 = .ok (.iload 7, 2) := by decide +kernel
theorem dM_parts_90 : decode cM_parts 90 = .ok (.if_icmp .gt 61, 3) := by decide +kernel
theorem dM_parts_93 : decode cM_parts 93 = .ok (.aload_n 0, 1) := by decide +kernel
theorem dM_parts_94 : decode cM_parts 94 = .ok (.getfield 56, 3) := by decide +kernel
theorem dM_parts_97 : decode cM_parts 97 = .ok (.iload 4, 2) := by decide +kernel
theorem dM_parts_99 : decode cM_parts 99 = .ok (.iload 6, 2) := by decide +kernel
theorem dM_parts_101 : decode cM_parts 101 = .ok (.iastore, 1) := by decide +kernel
theorem dM_parts_102 : decode cM_parts 102 = .ok (.aload_n 0, 1) := by decide +kernel
theorem dM_parts_103 : decode cM_parts 103 = .ok (.getfield 59, 3) := by decide +kernel
theorem dM_parts_106 : decode cM_parts 106 = .ok (.iload 4, 2) := by decide +kernel
theorem dM_parts_108 : decode cM_parts 108 = .ok (.iconst 1, 1) := by decide +kernel
theorem dM_parts_109 : decode cM_parts 109 = .ok (.iadd, 1) := by decide +kernel
theorem dM_parts_110 : decode cM_parts 110 = .ok (.iload 6, 2) := by decide +kernel
theorem dM_parts_112 : decode cM_parts 112 = .ok (.aload_n 0, 1) := by decide +kernel
theorem dM_parts_113 : decode cM_parts 113 = .ok (.getfield 59, 3) := by decide +kernel
theorem dM_parts_116 : decode cM_parts 116 = .ok (.iload 4, 2) := by decide +kernel
theorem dM_parts_118 : decode cM_parts 118 = .ok (.iaload, 1) := by decide +kernel
theorem dM_parts_119 : decode cM_parts 119 = .ok (.if_icmp .ne 15, 3) := by decide +kernel
theorem dM_parts_122 : decode cM_parts 122 = .ok (.aload_n 0, 1) := by decide +kernel
theorem dM_parts_123 : decode cM_parts 123 = .ok (.getfield 59, 3) := by decide +kernel
theorem dM_parts_126 : decode cM_parts 126 = .ok (.iload 4, 2) := by decide +kernel
theorem dM_parts_128 : decode cM_parts 128 = .ok (.iaload, 1) := by decide +kernel
theorem dM_parts_129 : decode cM_parts 129 = .ok (.iconst 1, 1) := by decide +kernel
theorem dM_parts_130 : decode cM_parts 130 = .ok (.iadd, 1) := by decide +kernel
theorem dM_parts_131 : decode cM_parts 131 = .ok (.goto 10, 3) := by decide +kernel
theorem dM_parts_134 : decode cM_parts 134 = .ok (.aload_n 0, 1) := by decide +kernel
theorem dM_parts_135 : decode cM_parts 135 = .ok (.getfield 59, 3) := by decide +kernel
theorem dM_parts_138 : decode cM_parts 138 = .ok (.iload 4, 2) := by decide +kernel
theorem dM_parts_140 : decode cM_parts 140 = .ok (.iaload, 1) := by decide +kernel
theorem dM_parts_141 : decode cM_parts 141 = .ok (.iastore, 1) := by decide +kernel
theorem dM_parts_142 : decode cM_parts 142 = .ok (.iconst 0, 1) := by decide +kernel
theorem dM_parts_143 : decode cM_parts 143 = .ok (.istore 5, 2) := by decide +kernel
theorem dM_parts_145 : decode cM_parts 145 = .ok (.iinc 4 1, 3) := by decide +kernel
theorem dM_parts_148 : decode cM_parts 148 = .ok (.goto 26, 3) := by decide +kernel
theorem dM_parts_151 : decode cM_parts 151 = .ok (.iinc 4 (-1), 3) := by decide +kernel
theorem dM_parts_154 : decode cM_parts 154 = .ok (.iload 4, 2) := by decide +kernel
theorem dM_parts_156 : decode cM_parts 156 = .ok (.ifCond .ge 7, 3) := by decide +kernel
theorem dM_parts_159 : decode cM_parts 159 = .ok (.iconst 0, 1) := by decide +kernel
theorem dM_parts_160 : decode cM_parts 160 = .ok (.goto 12, 3) := by decide +kernel
theorem dM_parts_163 : decode cM_parts 163 = .ok (.aload_n 0, 1) := by decide +kernel
theorem dM_parts_164 : decode cM_parts 164 = .ok (.getfield 56, 3) := by decide +kernel
theorem dM_parts_167 : decode cM_parts 167 = .ok (.iload 4, 2) := by decide +kernel
theorem dM_parts_169 : decode cM_parts 169 = .ok (.iaload, 1) := by decide +kernel
theorem dM_parts_170 : decode cM_parts 170 = .ok (.iconst 1, 1) := by decide +kernel
theorem dM_parts_171 : decode cM_parts 171 = .ok (.iadd, 1) := by decide +kernel
theorem dM_parts_172 : decode cM_parts 172 = .ok (.istore 5, 2) := by decide +kernel
theorem dM_parts_174 : decode cM_parts 174 = .ok (.goto (-154), 3) := by decide +kernel
theorem dM_parts_177 : decode cM_parts 177 = .ok (.iload 4, 2) := by decide +kernel
theorem dM_parts_179 : decode cM_parts 179 = .ok (.iload_n 3, 1) := by decide +kernel
theorem dM_parts_180 : decode cM_parts 180 = .ok (.if_icmp .ne 7, 3) := by decide +kernel
theorem dM_parts_183 : decode cM_parts 183 = .ok (.iconst 1, 1) := by decide +kernel
theorem dM_parts_184 : decode cM_parts 184 = .ok (.goto 4, 3) := by decide +kernel
theorem dM_parts_187 : decode cM_parts 187 = .ok (.iconst 0, 1) := by decide +kernel
theorem dM_parts_188 : decode cM_parts 188 = .ok (.ireturn, 1) := by decide +kernel
theorem dM_part_0 : decode cM_part 0 = .ok (.aload_n 0, 1) := by decide +kernel
theorem dM_part_1 : decode cM_part 1 = .ok (.getfield 31, 3) := by decide +kernel
theorem dM_part_4 : decode cM_part 4 = .ok (.iload_n 1, 1) := by decide +kernel
theorem dM_part_5 : decode cM_part 5 = .ok (.iaload, 1) := by decide +kernel
theorem dM_part_6 : decode cM_part 6 = .ok (.ifCond .ne 5, 3) := by decide +kernel
theorem dM_part_9 : decode cM_part 9 = .ok (.iconst 0, 1) := by decide +kernel
theorem dM_part_10 : decode cM_part 10 = .ok (.ireturn, 1) := by decide +kernel
theorem dM_part_11 : decode cM_part 11 = .ok (.iconst 1, 1) := by decide +kernel
theorem dM_part_12 : decode cM_part 12 = .ok (.istore_n 2, 1) := by decide +kernel
theorem dM_part_13 : decode cM_part 13 = .ok (.aload_n 0, 1) := by decide +kernel
theorem dM_part_14 : decode cM_part 14 = .ok (.iload_n 1, 1) := by decide +kernel
theorem dM_part_15 : decode cM_part 15 = .ok (.iload_n 2, 1) := by decide +kernel
theorem dM_part_16 : decode cM_part 16 = .ok (.invokevirtual 94, 3) := by decide +kernel
theorem dM_part_19 : decode cM_part 19 = .ok (.ifCond .ne 9, 3) := by decide +kernel
theorem dM_part_22 : decode cM_part 22 = .ok (.iinc 2 1, 3) := by decide +kernel
theorem dM_part_25 : decode cM_part 25 = .ok (.goto (-12), 3) := by decide +kernel
theorem dM_part_28 : decode cM_part 28 = .ok (.iload_n 2, 1) := by decide +kernel
theorem dM_part_29 : decode cM_part 29 = .ok (.ireturn, 1) := by decide +kernel
theorem dM_least_0 : decode cM_least 0 = .ok (.aload_n 0, 1) := by decide +kernel
theorem dM_least_1 : decode cM_least 1 = .ok (.iload_n 1, 1) := by decide +kernel
theorem dM_least_2 : decode cM_least 2 = .ok (.invokestatic 73, 3) := by decide +kernel
theorem dM_least_5 : decode cM_least 5 = .ok (.ifCond .ne 7, 3) := by decide +kernel
theorem dM_least_8 : decode cM_least 8 = .ok (.iconst 1, 1) := by decide +kernel
theorem dM_least_9 : decode cM_least 9 = .ok (.goto 4, 3) := by decide +kernel
theorem dM_least_12 : decode cM_least 12 = .ok (.iconst 0, 1) := by decide +kernel
theorem dM_least_13 : decode cM_least 13 = .ok (.iconst 0, 1) := by decide +kernel
theorem dM_least_14 : decode cM_least 14 = .ok (.iconst 0, 1) := by decide +kernel
theorem dM_least_15 : decode cM_least 15 = .ok (.invokevirtual 77, 3) := by decide +kernel
theorem dM_least_18 : decode cM_least 18 = .ok (.ifCond .eq 5, 3) := by decide +kernel
theorem dM_least_21 : decode cM_least 21 = .ok (.iconst 0, 1) := by decide +kernel
theorem dM_least_22 : decode cM_least 22 = .ok (.ireturn, 1) := by decide +kernel
theorem dM_least_23 : decode cM_least 23 = .ok (.aload_n 0, 1) := by decide +kernel
theorem dM_least_24 : decode cM_least 24 = .ok (.iload_n 1, 1) := by decide +kernel
theorem dM_least_25 : decode cM_least 25 = .ok (.invokevirtual 98, 3) := by decide +kernel
theorem dM_least_28 : decode cM_least 28 = .ok (.ireturn, 1) := by decide +kernel
theorem dM_animal_0 : decode cM_animal 0 = .ok (.aload_n 0, 1) := by decide +kernel
theorem dM_animal_1 : decode cM_animal 1 = .ok (.aload_n 0, 1) := by decide +kernel
theorem dM_animal_2 : decode cM_animal 2 = .ok (.iload_n 1, 1) := by decide +kernel
theorem dM_animal_3 : decode cM_animal 3 = .ok (.invokevirtual 81, 3) := by decide +kernel
theorem dM_animal_6 : decode cM_animal 6 = .ok (.ifCond .ne 7, 3) := by decide +kernel
theorem dM_animal_9 : decode cM_animal 9 = .ok (.iconst 1, 1) := by decide +kernel
theorem dM_animal_10 : decode cM_animal 10 = .ok (.goto 4, 3) := by decide +kernel
theorem dM_animal_13 : decode cM_animal 13 = .ok (.iconst 0, 1) := by decide +kernel
theorem dM_animal_14 : decode cM_animal 14 = .ok (.iconst 0, 1) := by decide +kernel
theorem dM_animal_15 : decode cM_animal 15 = .ok (.iconst 0, 1) := by decide +kernel
theorem dM_animal_16 : decode cM_animal 16 = .ok (.invokevirtual 77, 3) := by decide +kernel
theorem dM_animal_19 : decode cM_animal 19 = .ok (.ifCond .eq 5, 3) := by decide +kernel
theorem dM_animal_22 : decode cM_animal 22 = .ok (.iconst 0, 1) := by decide +kernel
theorem dM_animal_23 : decode cM_animal 23 = .ok (.ireturn, 1) := by decide +kernel
theorem dM_animal_24 : decode cM_animal 24 = .ok (.aload_n 0, 1) := by decide +kernel
theorem dM_animal_25 : decode cM_animal 25 = .ok (.aload_n 0, 1) := by decide +kernel
theorem dM_animal_26 : decode cM_animal 26 = .ok (.getfield 7, 3) := by decide +kernel
theorem dM_animal_29 : decode cM_animal 29 = .ok (.iload_n 1, 1) := by decide +kernel
theorem dM_animal_30 : decode cM_animal 30 = .ok (.iaload, 1) := by decide +kernel
theorem dM_animal_31 : decode cM_animal 31 = .ok (.invokevirtual 98, 3) := by decide +kernel
theorem dM_animal_34 : decode cM_animal 34 = .ok (.istore_n 2, 1) := by decide +kernel
theorem dM_animal_35 : decode cM_animal 35 = .ok (.iconst 0, 1) := by decide +kernel
theorem dM_animal_36 : decode cM_animal 36 = .ok (.istore_n 3, 1) := by decide +kernel
theorem dM_animal_37 : decode cM_animal 37 = .ok (.aload_n 0, 1) := by decide +kernel
theorem dM_animal_38 : decode cM_animal 38 = .ok (.getfield 34, 3) := by decide +kernel
theorem dM_animal_41 : decode cM_animal 41 = .ok (.bipush 12, 2) := by decide +kernel
theorem dM_animal_43 : decode cM_animal 43 = .ok (.aload_n 0, 1) := by decide +kernel
theorem dM_animal_44 : decode cM_animal 44 = .ok (.getfield 7, 3) := by decide +kernel
theorem dM_animal_47 : decode cM_animal 47 = .ok (.iload_n 1, 1) := by decide +kernel
theorem dM_animal_48 : decode cM_animal 48 = .ok (.iaload, 1) := by decide +kernel
theorem dM_animal_49 : decode cM_animal 49 = .ok (.imul, 1) := by decide +kernel
theorem dM_animal_50 : decode cM_animal 50 = .ok (.iload_n 3, 1) := by decide +kernel
theorem dM_animal_51 : decode cM_animal 51 = .ok (.iadd, 1) := by decide +kernel
theorem dM_animal_52 : decode cM_animal 52 = .ok (.iaload, 1) := by decide +kernel
theorem dM_animal_53 : decode cM_animal 53 = .ok (.iload_n 1, 1) := by decide +kernel
theorem dM_animal_54 : decode cM_animal 54 = .ok (.if_icmp .eq 9, 3) := by decide +kernel
theorem dM_animal_57 : decode cM_animal 57 = .ok (.iinc 3 1, 3) := by decide +kernel
theorem dM_animal_60 : decode cM_animal 60 = .ok (.goto (-23), 3) := by decide +kernel
theorem dM_animal_63 : decode cM_animal 63 = .ok (.iload_n 2, 1) := by decide +kernel
theorem dM_animal_64 : decode cM_animal 64 = .ok (.ifCond .le 12, 3) := by decide +kernel
theorem dM_animal_67 : decode cM_animal 67 = .ok (.aload_n 0, 1) := by decide +kernel
theorem dM_animal_68 : decode cM_animal 68 = .ok (.getfield 56, 3) := by decide +kernel
theorem dM_animal_71 : decode cM_animal 71 = .ok (.iload_n 3, 1) := by decide +kernel
theorem dM_animal_72 : decode cM_animal 72 = .ok (.iaload, 1) := by decide +kernel
theorem dM_animal_73 : decode cM_animal 73 = .ok (.goto 4, 3) := by decide +kernel
theorem dM_animal_76 : decode cM_animal 76 = .ok (.iconst 0, 1) := by decide +kernel
theorem dM_animal_77 : decode cM_animal 77 = .ok (.ireturn, 1) := by decide +kernel
theorem dM_isClashing_0 : decode cM_isClashing 0 = .ok (.iconst 1, 1) := by decide +kernel
theorem dM_isClashing_1 : decode cM_isClashing 1 = .ok (.istore_n 3, 1) := by decide +kernel
theorem dM_isClashing_2 : decode cM_isClashing 2 = .ok (.iconst 0, 1) := by decide +kernel
theorem dM_isClashing_3 : decode cM_isClashing 3 = .ok (.istore 4, 2) := by decide +kernel
theorem dM_isClashing_5 : decode cM_isClashing 5 = .ok (.iload 4, 2) := by decide +kernel
theorem dM_isClashing_7 : decode cM_isClashing 7 = .ok (.aload_n 0, 1) := by decide +kernel
theorem dM_isClashing_8 : decode cM_isClashing 8 = .ok (.getfield 31, 3) := by decide +kernel
theorem dM_isClashing_11 : decode cM_isClashing 11 = .ok (.iload_n 1, 1) := by decide +kernel
theorem dM_isClashing_12 : decode cM_isClashing 12 = .ok (.iaload, 1) := by decide +kernel
theorem dM_isClashing_13 : decode cM_isClashing 13 = .ok (.if_icmp .ge 65, 3) := by decide +kernel
theorem dM_isClashing_16 : decode cM_isClashing 16 = .ok (.iconst 0, 1) := by decide +kernel
theorem dM_isClashing_17 : decode cM_isClashing 17 = .ok (.istore 5, 2) := by decide +kernel
theorem dM_isClashing_19 : decode cM_isClashing 19 = .ok (.iload 5, 2) := by decide +kernel
theorem dM_isClashing_21 : decode cM_isClashing 21 = .ok (.iload 4, 2) := by decide +kernel
theorem dM_isClashing_23 : decode cM_isClashing 23 = .ok (.if_icmp .ge 49, 3) := by decide +kernel
theorem dM_isClashing_26 : decode cM_isClashing 26 = .ok (.iload_n 3, 1) := by decide +kernel
theorem dM_isClashing_27 : decode cM_isClashing 27 = .ok (.ifCond .eq 37, 3) := by decide +kernel
theorem dM_isClashing_30 : decode cM_isClashing 30 = .ok (.iload_n 2, 1) := by decide +kernel
theorem dM_isClashing_31 : decode cM_isClashing 31 = .ok (.iload 4, 2) := by decide +kernel
theorem dM_isClashing_33 : decode cM_isClashing 33 = .ok (.ishr, 1) := by decide +kernel
theorem dM_isClashing_34 : decode cM_isClashing 34 = .ok (.iconst 1, 1) := by decide +kernel
theorem dM_isClashing_35 : decode cM_isClashing 35 = .ok (.iand, 1) := by decide +kernel
theorem dM_isClashing_36 : decode cM_isClashing 36 = .ok (.ifCond .eq 24, 3) := by decide +kernel
theorem dM_isClashing_39 : decode cM_isClashing 39 = .ok (.iload_n 2, 1) := by decide +kernel
theorem dM_isClashing_40 : decode cM_isClashing 40 = .ok (.iload 5, 2) := by decide +kernel
theorem dM_isClashing_42 : decode cM_isClashing 42 = .ok (.ishr, 1) := by decide +kernel
theorem dM_isClashing_43 : decode cM_isClashing 43 = .ok (.iconst 1, 1) := by decide +kernel
theorem dM_isClashing_44 : decode cM_isClashing 44 = .ok (.iand, 1) := by decide +kernel
theorem dM_isClashing_45 : decode cM_isClashing 45 = .ok (.ifCond .eq 15, 3) := by decide +kernel
theorem dM_isClashing_48 : decode cM_isClashing 48 = .ok (.aload_n 0, 1) := by decide +kernel
theorem dM_isClashing_49 : decode cM_isClashing 49 = .ok (.iload_n 1, 1) := by decide +kernel
theorem dM_isClashing_50 : decode cM_isClashing 50 = .ok (.iload 4, 2) := by decide +kernel
theorem dM_isClashing_52 : decode cM_isClashing 52 = .ok (.iload 5, 2) := by decide +kernel
theorem dM_isClashing_54 : decode cM_isClashing 54 = .ok (.invokevirtual 88, 3) := by decide +kernel
theorem dM_isClashing_57 : decode cM_isClashing 57 = .ok (.ifCond .eq 7, 3) := by decide +kernel
theorem dM_isClashing_60 : decode cM_isClashing 60 = .ok (.iconst 1, 1) := by decide +kernel
theorem dM_isClashing_61 : decode cM_isClashing 61 = .ok (.goto 4, 3) := by decide +kernel
theorem dM_isClashing_64 : decode cM_isClashing 64 = .ok (.iconst 0, 1) := by decide +kernel
theorem dM_isClashing_65 : decode cM_isClashing 65 = .ok (.istore_n 3, 1) := by decide +kernel
theorem dM_isClashing_66 : decode cM_isClashing 66 = .ok (.iinc 5 1, 3) := by decide +kernel
theorem dM_isClashing_69 : decode cM_isClashing 69 = .ok (.goto (-50), 3) := by decide +kernel
theorem dM_isClashing_72 : decode cM_isClashing 72 = .ok (.iinc 4 1, 3) := by decide +kernel
theorem dM_isClashing_75 : decode cM_isClashing 75 = .ok (.goto (-70), 3) := by decide +kernel
theorem dM_isClashing_78 : decode cM_isClashing 78 = .ok (.iload_n 3, 1) := by decide +kernel
theorem dM_isClashing_79 : decode cM_isClashing 79 = .ok (.ireturn, 1) := by decide +kernel
theorem dM_sizeOf_0 : decode cM_sizeOf 0 = .ok (.iconst 0, 1) := by decide +kernel
theorem dM_sizeOf_1 : decode cM_sizeOf 1 = .ok (.istore_n 1, 1) := by decide +kernel
theorem dM_sizeOf_2 : decode cM_sizeOf 2 = .ok (.iconst 0, 1) := by decide +kernel
theorem dM_sizeOf_3 : decode cM_sizeOf 3 = .ok (.istore_n 2, 1) := by decide +kernel
theorem dM_sizeOf_4 : decode cM_sizeOf 4 = .ok (.iload_n 2, 1) := by decide +kernel
theorem dM_sizeOf_5 : decode cM_sizeOf 5 = .ok (.bipush 12, 2) := by decide +kernel
theorem dM_sizeOf_7 : decode cM_sizeOf 7 = .ok (.if_icmp .ge 17, 3) := by decide +kernel
theorem dM_sizeOf_10 : decode cM_sizeOf 10 = .ok (.iload_n 1, 1) := by decide +kernel
theorem dM_sizeOf_11 : decode cM_sizeOf 11 = .ok (.iload_n 0, 1) := by decide +kernel
theorem dM_sizeOf_12 : decode cM_sizeOf 12 = .ok (.iload_n 2, 1) := by decide +kernel
theorem dM_sizeOf_13 : decode cM_sizeOf 13 = .ok (.ishr, 1) := by decide +kernel
theorem dM_sizeOf_14 : decode cM_sizeOf 14 = .ok (.iconst 1, 1) := by decide +kernel
theorem dM_sizeOf_15 : decode cM_sizeOf 15 = .ok (.iand, 1) := by decide +kernel
theorem dM_sizeOf_16 : decode cM_sizeOf 16 = .ok (.iadd, 1) := by decide +kernel
theorem dM_sizeOf_17 : decode cM_sizeOf 17 = .ok (.istore_n 1, 1) := by decide +kernel
theorem dM_sizeOf_18 : decode cM_sizeOf 18 = .ok (.iinc 2 1, 3) := by decide +kernel
theorem dM_sizeOf_21 : decode cM_sizeOf 21 = .ok (.goto (-17), 3) := by decide +kernel
theorem dM_sizeOf_24 : decode cM_sizeOf 24 = .ok (.iload_n 1, 1) := by decide +kernel
theorem dM_sizeOf_25 : decode cM_sizeOf 25 = .ok (.ireturn, 1) := by decide +kernel
theorem dM_greatest_0 : decode cM_greatest 0 = .ok (.iconst 0, 1) := by decide +kernel
theorem dM_greatest_1 : decode cM_greatest 1 = .ok (.istore_n 2, 1) := by decide +kernel
theorem dM_greatest_2 : decode cM_greatest 2 = .ok (.iconst 1, 1) := by decide +kernel
theorem dM_greatest_3 : decode cM_greatest 3 = .ok (.istore_n 3, 1) := by decide +kernel
theorem dM_greatest_4 : decode cM_greatest 4 = .ok (.iload_n 3, 1) := by decide +kernel
theorem dM_greatest_5 : decode cM_greatest 5 = .ok (.iconst 1, 1) := by decide +kernel
theorem dM_greatest_6 : decode cM_greatest 6 = .ok (.aload_n 0, 1) := by decide +kernel
theorem dM_greatest_7 : decode cM_greatest 7 = .ok (.getfield 31, 3) := by decide +kernel
theorem dM_greatest_10 : decode cM_greatest 10 = .ok (.iload_n 1, 1) := by decide +kernel
theorem dM_greatest_11 : decode cM_greatest 11 = .ok (.iaload, 1) := by decide +kernel
theorem dM_greatest_12 : decode cM_greatest 12 = .ok (.ishl, 1) := by decide +kernel
theorem dM_greatest_13 : decode cM_greatest 13 = .ok (.if_icmp .ge 74, 3) := by decide +kernel
theorem dM_greatest_16 : decode cM_greatest 16 = .ok (.iload_n 3, 1) := by decide +kernel
theorem dM_greatest_17 : decode cM_greatest 17 = .ok (.invokestatic 101, 3) := by decide +kernel
theorem dM_greatest_20 : decode cM_greatest 20 = .ok (.istore 4, 2) := by decide +kernel
theorem dM_greatest_22 : decode cM_greatest 22 = .ok (.iload_n 2, 1) := by decide +kernel
theorem dM_greatest_23 : decode cM_greatest 23 = .ok (.invokestatic 101, 3) := by decide +kernel
theorem dM_greatest_26 : decode cM_greatest 26 = .ok (.istore 5, 2) := by decide +kernel
theorem dM_greatest_28 : decode cM_greatest 28 = .ok (.iload_n 3, 1) := by decide +kernel
theorem dM_greatest_29 : decode cM_greatest 29 = .ok (.iload_n 2, 1) := by decide +kernel
theorem dM_greatest_30 : decode cM_greatest 30 = .ok (.ixor, 1) := by decide +kernel
theorem dM_greatest_31 : decode cM_greatest 31 = .ok (.istore 6, 2) := by decide +kernel
theorem dM_greatest_33 : decode cM_greatest 33 = .ok (.iload_n 3, 1) := by decide +kernel
theorem dM_greatest_34 : decode cM_greatest 34 = .ok (.iload 6, 2) := by decide +kernel
theorem dM_greatest_36 : decode cM_greatest 36 = .ok (.iand, 1) := by decide +kernel
theorem dM_greatest_37 : decode cM_greatest 37 = .ok (.iload 6, 2) := by decide +kernel
theorem dM_greatest_39 : decode cM_greatest 39 = .ok (.ineg, 1) := by decide +kernel
theorem dM_greatest_40 : decode cM_greatest 40 = .ok (.iand, 1) := by decide +kernel
theorem dM_greatest_41 : decode cM_greatest 41 = .ok (.ifCond .eq 7, 3) := by decide +kernel
theorem dM_greatest_44 : decode cM_greatest 44 = .ok (.iconst 1, 1) := by decide +kernel
theorem dM_greatest_45 : decode cM_greatest 45 = .ok (.goto 4, 3) := by decide +kernel
theorem dM_greatest_48 : decode cM_greatest 48 = .ok (.iconst 0, 1) := by decide +kernel
theorem dM_greatest_49 : decode cM_greatest 49 = .ok (.istore 7, 2) := by decide +kernel
theorem dM_greatest_51 : decode cM_greatest 51 = .ok (.iload 4, 2) := by decide +kernel
theorem dM_greatest_53 : decode cM_greatest 53 = .ok (.iload 5, 2) := by decide +kernel
theorem dM_greatest_55 : decode cM_greatest 55 = .ok (.if_icmp .gt 15, 3) := by decide +kernel
theorem dM_greatest_58 : decode cM_greatest 58 = .ok (.iload 4, 2) := by decide +kernel
theorem dM_greatest_60 : decode cM_greatest 60 = .ok (.iload 5, 2) := by decide +kernel
theorem dM_greatest_62 : decode cM_greatest 62 = .ok (.if_icmp .ne 19, 3) := by decide +kernel
theorem dM_greatest_65 : decode cM_greatest 65 = .ok (.iload 7, 2) := by decide +kernel
theorem dM_greatest_67 : decode cM_greatest 67 = .ok (.ifCond .eq 14, 3) := by decide +kernel
theorem dM_greatest_70 : decode cM_greatest 70 = .ok (.aload_n 0, 1) := by decide +kernel
theorem dM_greatest_71 : decode cM_greatest 71 = .ok (.iload_n 1, 1) := by decide +kernel
theorem dM_greatest_72 : decode cM_greatest 72 = .ok (.iload_n 3, 1) := by decide +kernel
theorem dM_greatest_73 : decode cM_greatest 73 = .ok (.invokevirtual 104, 3) := by decide +kernel
theorem dM_greatest_76 : decode cM_greatest 76 = .ok (.ifCond .eq 5, 3) := by decide +kernel
theorem dM_greatest_79 : decode cM_greatest 79 = .ok (.iload_n 3, 1) := by decide +kernel
theorem dM_greatest_80 : decode cM_greatest 80 = .ok (.istore_n 2, 1) := by decide +kernel
theorem dM_greatest_81 : decode cM_greatest 81 = .ok (.iinc 3 1, 3) := by decide +kernel
theorem dM_greatest_84 : decode cM_greatest 84 = .ok (.goto (-80), 3) := by decide +kernel
theorem dM_greatest_87 : decode cM_greatest 87 = .ok (.iload_n 2, 1) := by decide +kernel
theorem dM_greatest_88 : decode cM_greatest 88 = .ok (.ireturn, 1) := by decide +kernel
theorem dM_clashing_0 : decode cM_clashing 0 = .ok (.aload_n 0, 1) := by decide +kernel
theorem dM_clashing_1 : decode cM_clashing 1 = .ok (.iload_n 1, 1) := by decide +kernel
theorem dM_clashing_2 : decode cM_clashing 2 = .ok (.invokestatic 73, 3) := by decide +kernel
theorem dM_clashing_5 : decode cM_clashing 5 = .ok (.ifCond .eq 7, 3) := by decide +kernel
theorem dM_clashing_8 : decode cM_clashing 8 = .ok (.iload_n 2, 1) := by decide +kernel
theorem dM_clashing_9 : decode cM_clashing 9 = .ok (.ifCond .ge 7, 3) := by decide +kernel
theorem dM_clashing_12 : decode cM_clashing 12 = .ok (.iconst 1, 1) := by decide +kernel
theorem dM_clashing_13 : decode cM_clashing 13 = .ok (.goto 4, 3) := by decide +kernel
theorem dM_clashing_16 : decode cM_clashing 16 = .ok (.iconst 0, 1) := by decide +kernel
theorem dM_clashing_17 : decode cM_clashing 17 = .ok (.iconst 0, 1) := by decide +kernel
theorem dM_clashing_18 : decode cM_clashing 18 = .ok (.iconst 0, 1) := by decide +kernel
theorem dM_clashing_19 : decode cM_clashing 19 = .ok (.invokevirtual 77, 3) := by decide +kernel
theorem dM_clashing_22 : decode cM_clashing 22 = .ok (.ifCond .eq 5, 3) := by decide +kernel
theorem dM_clashing_25 : decode cM_clashing 25 = .ok (.iconst 0, 1) := by decide +kernel
theorem dM_clashing_26 : decode cM_clashing 26 = .ok (.ireturn, 1) := by decide +kernel
theorem dM_clashing_27 : decode cM_clashing 27 = .ok (.aload_n 0, 1) := by decide +kernel
theorem dM_clashing_28 : decode cM_clashing 28 = .ok (.iload_n 1, 1) := by decide +kernel
theorem dM_clashing_29 : decode cM_clashing 29 = .ok (.invokevirtual 107, 3) := by decide +kernel
theorem dM_clashing_32 : decode cM_clashing 32 = .ok (.istore_n 3, 1) := by decide +kernel
theorem dM_clashing_33 : decode cM_clashing 33 = .ok (.iload_n 2, 1) := by decide +kernel
theorem dM_clashing_34 : decode cM_clashing 34 = .ok (.istore 4, 2) := by decide +kernel
theorem dM_clashing_36 : decode cM_clashing 36 = .ok (.iconst 0, 1) := by decide +kernel
theorem dM_clashing_37 : decode cM_clashing 37 = .ok (.istore 5, 2) := by decide +kernel
theorem dM_clashing_39 : decode cM_clashing 39 = .ok (.iload 5, 2) := by decide +kernel
theorem dM_clashing_41 : decode cM_clashing 41 = .ok (.aload_n 0, 1) := by decide +kernel
theorem dM_clashing_42 : decode cM_clashing 42 = .ok (.getfield 31, 3) := by decide +kernel
theorem dM_clashing_45 : decode cM_clashing 45 = .ok (.iload_n 1, 1) := by decide +kernel
theorem dM_clashing_46 : decode cM_clashing 46 = .ok (.iaload, 1) := by decide +kernel
theorem dM_clashing_47 : decode cM_clashing 47 = .ok (.if_icmp .ge 42, 3) := by decide +kernel
theorem dM_clashing_50 : decode cM_clashing 50 = .ok (.iload_n 3, 1) := by decide +kernel
theorem dM_clashing_51 : decode cM_clashing 51 = .ok (.iload 5, 2) := by decide +kernel
theorem dM_clashing_53 : decode cM_clashing 53 = .ok (.ishr, 1) := by decide +kernel
theorem dM_clashing_54 : decode cM_clashing 54 = .ok (.iconst 1, 1) := by decide +kernel
theorem dM_clashing_55 : decode cM_clashing 55 = .ok (.iand, 1) := by decide +kernel
theorem dM_clashing_56 : decode cM_clashing 56 = .ok (.ifCond .ne 6, 3) := by decide +kernel
theorem dM_clashing_59 : decode cM_clashing 59 = .ok (.goto 24, 3) := by decide +kernel
theorem dM_clashing_62 : decode cM_clashing 62 = .ok (.iload 4, 2) := by decide +kernel
theorem dM_clashing_64 : decode cM_clashing 64 = .ok (.ifCond .ne 16, 3) := by decide +kernel
theorem dM_clashing_67 : decode cM_clashing 67 = .ok (.aload_n 0, 1) := by decide +kernel
theorem dM_clashing_68 : decode cM_clashing 68 = .ok (.getfield 34, 3) := by decide +kernel
theorem dM_clashing_71 : decode cM_clashing 71 = .ok (.bipush 12, 2) := by decide +kernel
theorem dM_clashing_73 : decode cM_clashing 73 = .ok (.iload_n 1, 1) := by decide +kernel
theorem dM_clashing_74 : decode cM_clashing 74 = .ok (.imul, 1) := by decide +kernel
theorem dM_clashing_75 : decode cM_clashing 75 = .ok (.iload 5, 2) := by decide +kernel
theorem dM_clashing_77 : decode cM_clashing 77 = .ok (.iadd, 1) := by decide +kernel
theorem dM_clashing_78 : decode cM_clashing 78 = .ok (.iaload, 1) := by decide +kernel
theorem dM_clashing_79 : decode cM_clashing 79 = .ok (.ireturn, 1) := by decide +kernel
theorem dM_clashing_80 : decode cM_clashing 80 = .ok (.iinc 4 (-1), 3) := by decide +kernel
theorem dM_clashing_83 : decode cM_clashing 83 = .ok (.iinc 5 1, 3) := by decide +kernel
theorem dM_clashing_86 : decode cM_clashing 86 = .ok (.goto (-47), 3) := by decide +kernel
theorem dM_clashing_89 : decode cM_clashing 89 = .ok (.iconst (-1), 1) := by decide +kernel
theorem dM_clashing_90 : decode cM_clashing 90 = .ok (.ireturn, 1) := by decide +kernel
theorem dM_weight_0 : decode cM_weight 0 = .ok (.aload_n 0, 1) := by decide +kernel
theorem dM_weight_1 : decode cM_weight 1 = .ok (.aload_n 0, 1) := by decide +kernel
theorem dM_weight_2 : decode cM_weight 2 = .ok (.iload_n 1, 1) := by decide +kernel
theorem dM_weight_3 : decode cM_weight 3 = .ok (.invokevirtual 81, 3) := by decide +kernel
theorem dM_weight_6 : decode cM_weight 6 = .ok (.ifCond .ne 7, 3) := by decide +kernel
theorem dM_weight_9 : decode cM_weight 9 = .ok (.iconst 1, 1) := by decide +kernel
theorem dM_weight_10 : decode cM_weight 10 = .ok (.goto 4, 3) := by decide +kernel
theorem dM_weight_13 : decode cM_weight 13 = .ok (.iconst 0, 1) := by decide +kernel
theorem dM_weight_14 : decode cM_weight 14 = .ok (.iload_n 2, 1) := by decide +kernel
theorem dM_weight_15 : decode cM_weight 15 = .ok (.iconst 0, 1) := by decide +kernel
theorem dM_weight_16 : decode cM_weight 16 = .ok (.ldc 110, 2) := by decide +kernel
theorem dM_weight_18 : decode cM_weight 18 = .ok (.invokestatic 66, 3) := by decide +kernel
theorem dM_weight_21 : decode cM_weight 21 = .ok (.ifCond .ne 7, 3) := by decide +kernel
theorem dM_weight_24 : decode cM_weight 24 = .ok (.iconst 1, 1) := by decide +kernel
theorem dM_weight_25 : decode cM_weight 25 = .ok (.goto 4, 3) := by decide +kernel
theorem dM_weight_28 : decode cM_weight 28 = .ok (.iconst 0, 1) := by decide +kernel
theorem dM_weight_29 : decode cM_weight 29 = .ok (.iconst 0, 1) := by decide +kernel
theorem dM_weight_30 : decode cM_weight 30 = .ok (.invokevirtual 77, 3) := by decide +kernel
theorem dM_weight_33 : decode cM_weight 33 = .ok (.ifCond .eq 5, 3) := by decide +kernel
theorem dM_weight_36 : decode cM_weight 36 = .ok (.iconst 0, 1) := by decide +kernel
theorem dM_weight_37 : decode cM_weight 37 = .ok (.ireturn, 1) := by decide +kernel
theorem dM_weight_38 : decode cM_weight 38 = .ok (.aload_n 0, 1) := by decide +kernel
theorem dM_weight_39 : decode cM_weight 39 = .ok (.getfield 28, 3) := by decide +kernel
theorem dM_weight_42 : decode cM_weight 42 = .ok (.iload_n 1, 1) := by decide +kernel
theorem dM_weight_43 : decode cM_weight 43 = .ok (.iaload, 1) := by decide +kernel
theorem dM_weight_44 : decode cM_weight 44 = .ok (.istore_n 3, 1) := by decide +kernel
theorem dM_weight_45 : decode cM_weight 45 = .ok (.aload_n 0, 1) := by decide +kernel
theorem dM_weight_46 : decode cM_weight 46 = .ok (.getfield 28, 3) := by decide +kernel
theorem dM_weight_49 : decode cM_weight 49 = .ok (.iload_n 1, 1) := by decide +kernel
theorem dM_weight_50 : decode cM_weight 50 = .ok (.iload_n 2, 1) := by decide +kernel
theorem dM_weight_51 : decode cM_weight 51 = .ok (.iastore, 1) := by decide +kernel
theorem dM_weight_52 : decode cM_weight 52 = .ok (.iload_n 3, 1) := by decide +kernel
theorem dM_weight_53 : decode cM_weight 53 = .ok (.ireturn, 1) := by decide +kernel
theorem dM_sum_0 : decode cM_sum 0 = .ok (.aload_n 0, 1) := by decide +kernel
theorem dM_sum_1 : decode cM_sum 1 = .ok (.iload_n 1, 1) := by decide +kernel
theorem dM_sum_2 : decode cM_sum 2 = .ok (.invokestatic 73, 3) := by decide +kernel
theorem dM_sum_5 : decode cM_sum 5 = .ok (.ifCond .ne 7, 3) := by decide +kernel
theorem dM_sum_8 : decode cM_sum 8 = .ok (.iconst 1, 1) := by decide +kernel
theorem dM_sum_9 : decode cM_sum 9 = .ok (.goto 4, 3) := by decide +kernel
theorem dM_sum_12 : decode cM_sum 12 = .ok (.iconst 0, 1) := by decide +kernel
theorem dM_sum_13 : decode cM_sum 13 = .ok (.iconst 0, 1) := by decide +kernel
theorem dM_sum_14 : decode cM_sum 14 = .ok (.iconst 0, 1) := by decide +kernel
theorem dM_sum_15 : decode cM_sum 15 = .ok (.invokevirtual 77, 3) := by decide +kernel
theorem dM_sum_18 : decode cM_sum 18 = .ok (.ifCond .eq 5, 3) := by decide +kernel
theorem dM_sum_21 : decode cM_sum 21 = .ok (.iconst 0, 1) := by decide +kernel
theorem dM_sum_22 : decode cM_sum 22 = .ok (.ireturn, 1) := by decide +kernel
theorem dM_sum_23 : decode cM_sum 23 = .ok (.iconst 0, 1) := by decide +kernel
theorem dM_sum_24 : decode cM_sum 24 = .ok (.istore_n 2, 1) := by decide +kernel
theorem dM_sum_25 : decode cM_sum 25 = .ok (.iconst 0, 1) := by decide +kernel
theorem dM_sum_26 : decode cM_sum 26 = .ok (.istore_n 3, 1) := by decide +kernel
theorem dM_sum_27 : decode cM_sum 27 = .ok (.iload_n 3, 1) := by decide +kernel
theorem dM_sum_28 : decode cM_sum 28 = .ok (.aload_n 0, 1) := by decide +kernel
theorem dM_sum_29 : decode cM_sum 29 = .ok (.getfield 70, 3) := by decide +kernel
theorem dM_sum_32 : decode cM_sum 32 = .ok (.if_icmp .ge 32, 3) := by decide +kernel
theorem dM_sum_35 : decode cM_sum 35 = .ok (.iload_n 2, 1) := by decide +kernel
theorem dM_sum_36 : decode cM_sum 36 = .ok (.aload_n 0, 1) := by decide +kernel
theorem dM_sum_37 : decode cM_sum 37 = .ok (.getfield 7, 3) := by decide +kernel
theorem dM_sum_40 : decode cM_sum 40 = .ok (.iload_n 3, 1) := by decide +kernel
theorem dM_sum_41 : decode cM_sum 41 = .ok (.iaload, 1) := by decide +kernel
theorem dM_sum_42 : decode cM_sum 42 = .ok (.iload_n 1, 1) := by decide +kernel
theorem dM_sum_43 : decode cM_sum 43 = .ok (.if_icmp .ne 12, 3) := by decide +kernel
theorem dM_sum_46 : decode cM_sum 46 = .ok (.aload_n 0, 1) := by decide +kernel
theorem dM_sum_47 : decode cM_sum 47 = .ok (.getfield 28, 3) := by decide +kernel
theorem dM_sum_50 : decode cM_sum 50 = .ok (.iload_n 3, 1) := by decide +kernel
theorem dM_sum_51 : decode cM_sum 51 = .ok (.iaload, 1) := by decide +kernel
theorem dM_sum_52 : decode cM_sum 52 = .ok (.goto 4, 3) := by decide +kernel
theorem dM_sum_55 : decode cM_sum 55 = .ok (.iconst 0, 1) := by decide +kernel
theorem dM_sum_56 : decode cM_sum 56 = .ok (.iadd, 1) := by decide +kernel
theorem dM_sum_57 : decode cM_sum 57 = .ok (.istore_n 2, 1) := by decide +kernel
theorem dM_sum_58 : decode cM_sum 58 = .ok (.iinc 3 1, 3) := by decide +kernel
theorem dM_sum_61 : decode cM_sum 61 = .ok (.goto (-34), 3) := by decide +kernel
theorem dM_sum_64 : decode cM_sum 64 = .ok (.iload_n 2, 1) := by decide +kernel
theorem dM_sum_65 : decode cM_sum 65 = .ok (.ireturn, 1) := by decide +kernel
theorem dM_lessen_0 : decode cM_lessen 0 = .ok (.aload_n 0, 1) := by decide +kernel
theorem dM_lessen_1 : decode cM_lessen 1 = .ok (.iload_n 1, 1) := by decide +kernel
theorem dM_lessen_2 : decode cM_lessen 2 = .ok (.putfield 111, 3) := by decide +kernel
theorem dM_lessen_5 : decode cM_lessen 5 = .ok (.aload_n 0, 1) := by decide +kernel
theorem dM_lessen_6 : decode cM_lessen 6 = .ok (.iload_n 1, 1) := by decide +kernel
theorem dM_lessen_7 : decode cM_lessen 7 = .ok (.ifCond .ne 7, 3) := by decide +kernel
theorem dM_lessen_10 : decode cM_lessen 10 = .ok (.iconst 1, 1) := by decide +kernel
theorem dM_lessen_11 : decode cM_lessen 11 = .ok (.goto 4, 3) := by decide +kernel
theorem dM_lessen_14 : decode cM_lessen 14 = .ok (.iload_n 2, 1) := by decide +kernel
theorem dM_lessen_15 : decode cM_lessen 15 = .ok (.putfield 114, 3) := by decide +kernel
theorem dM_lessen_18 : decode cM_lessen 18 = .ok (.iconst 2, 1) := by decide +kernel
theorem dM_lessen_19 : decode cM_lessen 19 = .ok (.istore_n 3, 1) := by decide +kernel
theorem dM_lessen_20 : decode cM_lessen 20 = .ok (.iload_n 3, 1) := by decide +kernel
theorem dM_lessen_21 : decode cM_lessen 21 = .ok (.aload_n 0, 1) := by decide +kernel
theorem dM_lessen_22 : decode cM_lessen 22 = .ok (.getfield 111, 3) := by decide +kernel
theorem dM_lessen_25 : decode cM_lessen 25 = .ok (.if_icmp .gt 50, 3) := by decide +kernel
theorem dM_lessen_28 : decode cM_lessen 28 = .ok (.aload_n 0, 1) := by decide +kernel
theorem dM_lessen_29 : decode cM_lessen 29 = .ok (.getfield 111, 3) := by decide +kernel
theorem dM_lessen_32 : decode cM_lessen 32 = .ok (.iload_n 3, 1) := by decide +kernel
theorem dM_lessen_33 : decode cM_lessen 33 = .ok (.irem, 1) := by decide +kernel
theorem dM_lessen_34 : decode cM_lessen 34 = .ok (.ifCond .ne 35, 3) := by decide +kernel
theorem dM_lessen_37 : decode cM_lessen 37 = .ok (.aload_n 0, 1) := by decide +kernel
theorem dM_lessen_38 : decode cM_lessen 38 = .ok (.getfield 114, 3) := by decide +kernel
theorem dM_lessen_41 : decode cM_lessen 41 = .ok (.iload_n 3, 1) := by decide +kernel
theorem dM_lessen_42 : decode cM_lessen 42 = .ok (.irem, 1) := by decide +kernel
theorem dM_lessen_43 : decode cM_lessen 43 = .ok (.ifCond .ne 26, 3) := by decide +kernel
theorem dM_lessen_46 : decode cM_lessen 46 = .ok (.aload_n 0, 1) := by decide +kernel
theorem dM_lessen_47 : decode cM_lessen 47 = .ok (.aload_n 0, 1) := by decide +kernel
theorem dM_lessen_48 : decode cM_lessen 48 = .ok (.getfield 111, 3) := by decide +kernel
theorem dM_lessen_51 : decode cM_lessen 51 = .ok (.iload_n 3, 1) := by decide +kernel
theorem dM_lessen_52 : decode cM_lessen 52 = .ok (.idiv, 1) := by decide +kernel
theorem dM_lessen_53 : decode cM_lessen 53 = .ok (.putfield 111, 3) := by decide +kernel
theorem dM_lessen_56 : decode cM_lessen 56 = .ok (.aload_n 0, 1) := by decide +kernel
theorem dM_lessen_57 : decode cM_lessen 57 = .ok (.aload_n 0, 1) := by decide +kernel
theorem dM_lessen_58 : decode cM_lessen 58 = .ok (.getfield 114, 3) := by decide +kernel
theorem dM_lessen_61 : decode cM_lessen 61 = .ok (.iload_n 3, 1) := by decide +kernel
theorem dM_lessen_62 : decode cM_lessen 62 = .ok (.idiv, 1) := by decide +kernel
theorem dM_lessen_63 : decode cM_lessen 63 = .ok (.putfield 114, 3) := by decide +kernel
theorem dM_lessen_66 : decode cM_lessen 66 = .ok (.goto (-38), 3) := by decide +kernel
theorem dM_lessen_69 : decode cM_lessen 69 = .ok (.iinc 3 1, 3) := by decide +kernel
theorem dM_lessen_72 : decode cM_lessen 72 = .ok (.goto (-52), 3) := by decide +kernel
theorem dM_lessen_75 : decode cM_lessen 75 = .ok (.return_, 1) := by decide +kernel
theorem dM_share_0 : decode cM_share 0 = .ok (.aload_n 0, 1) := by decide +kernel
theorem dM_share_1 : decode cM_share 1 = .ok (.iload_n 1, 1) := by decide +kernel
theorem dM_share_2 : decode cM_share 2 = .ok (.invokestatic 73, 3) := by decide +kernel
theorem dM_share_5 : decode cM_share 5 = .ok (.ifCond .eq 12, 3) := by decide +kernel
theorem dM_share_8 : decode cM_share 8 = .ok (.iload_n 2, 1) := by decide +kernel
theorem dM_share_9 : decode cM_share 9 = .ok (.iconst 0, 1) := by decide +kernel
theorem dM_share_10 : decode cM_share 10 = .ok (.iconst 1, 1) := by decide +kernel
theorem dM_share_11 : decode cM_share 11 = .ok (.invokestatic 66, 3) := by decide +kernel
theorem dM_share_14 : decode cM_share 14 = .ok (.ifCond .ne 7, 3) := by decide +kernel
theorem dM_share_17 : decode cM_share 17 = .ok (.iconst 1, 1) := by decide +kernel
theorem dM_share_18 : decode cM_share 18 = .ok (.goto 4, 3) := by decide +kernel
theorem dM_share_21 : decode cM_share 21 = .ok (.iconst 0, 1) := by decide +kernel
theorem dM_share_22 : decode cM_share 22 = .ok (.iconst 0, 1) := by decide +kernel
theorem dM_share_23 : decode cM_share 23 = .ok (.iconst 0, 1) := by decide +kernel
theorem dM_share_24 : decode cM_share 24 = .ok (.invokevirtual 77, 3) := by decide +kernel
theorem dM_share_27 : decode cM_share 27 = .ok (.ifCond .eq 5, 3) := by decide +kernel
theorem dM_share_30 : decode cM_share 30 = .ok (.iconst 0, 1) := by decide +kernel
theorem dM_share_31 : decode cM_share 31 = .ok (.ireturn, 1) := by decide +kernel
theorem dM_share_32 : decode cM_share 32 = .ok (.iconst 0, 1) := by decide +kernel
theorem dM_share_33 : decode cM_share 33 = .ok (.istore_n 3, 1) := by decide +kernel
theorem dM_share_34 : decode cM_share 34 = .ok (.iconst 0, 1) := by decide +kernel
theorem dM_share_35 : decode cM_share 35 = .ok (.istore 4, 2) := by decide +kernel
theorem dM_share_37 : decode cM_share 37 = .ok (.iload 4, 2) := by decide +kernel
theorem dM_share_39 : decode cM_share 39 = .ok (.bipush 6, 2) := by decide +kernel
theorem dM_share_41 : decode cM_share 41 = .ok (.if_icmp .ge 18, 3) := by decide +kernel
theorem dM_share_44 : decode cM_share 44 = .ok (.iload_n 3, 1) := by decide +kernel
theorem dM_share_45 : decode cM_share 45 = .ok (.aload_n 0, 1) := by decide +kernel
theorem dM_share_46 : decode cM_share 46 = .ok (.iload 4, 2) := by decide +kernel
theorem dM_share_48 : decode cM_share 48 = .ok (.invokevirtual 98, 3) := by decide +kernel
theorem dM_share_51 : decode cM_share 51 = .ok (.iadd, 1) := by decide +kernel
theorem dM_share_52 : decode cM_share 52 = .ok (.istore_n 3, 1) := by decide +kernel
theorem dM_share_53 : decode cM_share 53 = .ok (.iinc 4 1, 3) := by decide +kernel
theorem dM_share_56 : decode cM_share 56 = .ok (.goto (-19), 3) := by decide +kernel
theorem dM_share_59 : decode cM_share 59 = .ok (.aload_n 0, 1) := by decide +kernel
theorem dM_share_60 : decode cM_share 60 = .ok (.aload_n 0, 1) := by decide +kernel
theorem dM_share_61 : decode cM_share 61 = .ok (.iload_n 1, 1) := by decide +kernel
theorem dM_share_62 : decode cM_share 62 = .ok (.invokevirtual 98, 3) := by decide +kernel
theorem dM_share_65 : decode cM_share 65 = .ok (.iload_n 3, 1) := by decide +kernel
theorem dM_share_66 : decode cM_share 66 = .ok (.invokevirtual 117, 3) := by decide +kernel
theorem dM_share_69 : decode cM_share 69 = .ok (.iload_n 2, 1) := by decide +kernel
theorem dM_share_70 : decode cM_share 70 = .ok (.ifCond .ne 10, 3) := by decide +kernel
theorem dM_share_73 : decode cM_share 73 = .ok (.aload_n 0, 1) := by decide +kernel
theorem dM_share_74 : decode cM_share 74 = .ok (.getfield 111, 3) := by decide +kernel
theorem dM_share_77 : decode cM_share 77 = .ok (.goto 7, 3) := by decide +kernel
theorem dM_share_80 : decode cM_share 80 = .ok (.aload_n 0, 1) := by decide +kernel
theorem dM_share_81 : decode cM_share 81 = .ok (.getfield 114, 3) := by decide +kernel
theorem dM_share_84 : decode cM_share 84 = .ok (.ireturn, 1) := by decide +kernel
theorem dM_sieve_0 : decode cM_sieve 0 = .ok (.aload_n 0, 1) := by decide +kernel
theorem dM_sieve_1 : decode cM_sieve 1 = .ok (.iload_n 1, 1) := by decide +kernel
theorem dM_sieve_2 : decode cM_sieve 2 = .ok (.invokestatic 73, 3) := by decide +kernel
theorem dM_sieve_5 : decode cM_sieve 5 = .ok (.ifCond .ne 7, 3) := by decide +kernel
theorem dM_sieve_8 : decode cM_sieve 8 = .ok (.iconst 1, 1) := by decide +kernel
theorem dM_sieve_9 : decode cM_sieve 9 = .ok (.goto 4, 3) := by decide +kernel
theorem dM_sieve_12 : decode cM_sieve 12 = .ok (.iconst 0, 1) := by decide +kernel
theorem dM_sieve_13 : decode cM_sieve 13 = .ok (.iload_n 3, 1) := by decide +kernel
theorem dM_sieve_14 : decode cM_sieve 14 = .ok (.iconst 1, 1) := by decide +kernel
theorem dM_sieve_15 : decode cM_sieve 15 = .ok (.if_icmp .lt 15, 3) := by decide +kernel
theorem dM_sieve_18 : decode cM_sieve 18 = .ok (.iload_n 3, 1) := by decide +kernel
theorem dM_sieve_19 : decode cM_sieve 19 = .ok (.iload_n 2, 1) := by decide +kernel
theorem dM_sieve_20 : decode cM_sieve 20 = .ok (.if_icmp .gt 10, 3) := by decide +kernel
theorem dM_sieve_23 : decode cM_sieve 23 = .ok (.iload_n 2, 1) := by decide +kernel
theorem dM_sieve_24 : decode cM_sieve 24 = .ok (.sipush 10000, 3) := by decide +kernel
theorem dM_sieve_27 : decode cM_sieve 27 = .ok (.if_icmp .le 7, 3) := by decide +kernel
theorem dM_sieve_30 : decode cM_sieve 30 = .ok (.iconst 1, 1) := by decide +kernel
theorem dM_sieve_31 : decode cM_sieve 31 = .ok (.goto 4, 3) := by decide +kernel
theorem dM_sieve_34 : decode cM_sieve 34 = .ok (.iconst 0, 1) := by decide +kernel
theorem dM_sieve_35 : decode cM_sieve 35 = .ok (.iconst 0, 1) := by decide +kernel
theorem dM_sieve_36 : decode cM_sieve 36 = .ok (.invokevirtual 77, 3) := by decide +kernel
theorem dM_sieve_39 : decode cM_sieve 39 = .ok (.ifCond .eq 4, 3) := by decide +kernel
theorem dM_sieve_42 : decode cM_sieve 42 = .ok (.return_, 1) := by decide +kernel
theorem dM_sieve_43 : decode cM_sieve 43 = .ok (.aload_n 0, 1) := by decide +kernel
theorem dM_sieve_44 : decode cM_sieve 44 = .ok (.getfield 50, 3) := by decide +kernel
theorem dM_sieve_47 : decode cM_sieve 47 = .ok (.iload_n 1, 1) := by decide +kernel
theorem dM_sieve_48 : decode cM_sieve 48 = .ok (.iload_n 2, 1) := by decide +kernel
theorem dM_sieve_49 : decode cM_sieve 49 = .ok (.iastore, 1) := by decide +kernel
theorem dM_sieve_50 : decode cM_sieve 50 = .ok (.aload_n 0, 1) := by decide +kernel
theorem dM_sieve_51 : decode cM_sieve 51 = .ok (.getfield 53, 3) := by decide +kernel
theorem dM_sieve_54 : decode cM_sieve 54 = .ok (.iload_n 1, 1) := by decide +kernel
theorem dM_sieve_55 : decode cM_sieve 55 = .ok (.iload_n 3, 1) := by decide +kernel
theorem dM_sieve_56 : decode cM_sieve 56 = .ok (.iastore, 1) := by decide +kernel
theorem dM_sieve_57 : decode cM_sieve 57 = .ok (.return_, 1) := by decide +kernel
theorem dM_scaled_0 : decode cM_scaled 0 = .ok (.aload_n 0, 1) := by decide +kernel
theorem dM_scaled_1 : decode cM_scaled 1 = .ok (.iload_n 1, 1) := by decide +kernel
theorem dM_scaled_2 : decode cM_scaled 2 = .ok (.invokestatic 73, 3) := by decide +kernel
theorem dM_scaled_5 : decode cM_scaled 5 = .ok (.ifCond .eq 12, 3) := by decide +kernel
theorem dM_scaled_8 : decode cM_scaled 8 = .ok (.iload_n 2, 1) := by decide +kernel
theorem dM_scaled_9 : decode cM_scaled 9 = .ok (.iconst 0, 1) := by decide +kernel
theorem dM_scaled_10 : decode cM_scaled 10 = .ok (.iconst 2, 1) := by decide +kernel
theorem dM_scaled_11 : decode cM_scaled 11 = .ok (.invokestatic 66, 3) := by decide +kernel
theorem dM_scaled_14 : decode cM_scaled 14 = .ok (.ifCond .ne 7, 3) := by decide +kernel
theorem dM_scaled_17 : decode cM_scaled 17 = .ok (.iconst 1, 1) := by decide +kernel
theorem dM_scaled_18 : decode cM_scaled 18 = .ok (.goto 4, 3) := by decide +kernel
theorem dM_scaled_21 : decode cM_scaled 21 = .ok (.iconst 0, 1) := by decide +kernel
theorem dM_scaled_22 : decode cM_scaled 22 = .ok (.iconst 0, 1) := by decide +kernel
theorem dM_scaled_23 : decode cM_scaled 23 = .ok (.iconst 0, 1) := by decide +kernel
theorem dM_scaled_24 : decode cM_scaled 24 = .ok (.invokevirtual 77, 3) := by decide +kernel
theorem dM_scaled_27 : decode cM_scaled 27 = .ok (.ifCond .eq 5, 3) := by decide +kernel
theorem dM_scaled_30 : decode cM_scaled 30 = .ok (.iconst 0, 1) := by decide +kernel
theorem dM_scaled_31 : decode cM_scaled 31 = .ok (.ireturn, 1) := by decide +kernel
theorem dM_scaled_32 : decode cM_scaled 32 = .ok (.aload_n 0, 1) := by decide +kernel
theorem dM_scaled_33 : decode cM_scaled 33 = .ok (.getfield 31, 3) := by decide +kernel
theorem dM_scaled_36 : decode cM_scaled 36 = .ok (.iload_n 1, 1) := by decide +kernel
theorem dM_scaled_37 : decode cM_scaled 37 = .ok (.iaload, 1) := by decide +kernel
theorem dM_scaled_38 : decode cM_scaled 38 = .ok (.aload_n 0, 1) := by decide +kernel
theorem dM_scaled_39 : decode cM_scaled 39 = .ok (.getfield 50, 3) := by decide +kernel
theorem dM_scaled_42 : decode cM_scaled 42 = .ok (.iload_n 1, 1) := by decide +kernel
theorem dM_scaled_43 : decode cM_scaled 43 = .ok (.iaload, 1) := by decide +kernel
theorem dM_scaled_44 : decode cM_scaled 44 = .ok (.imul, 1) := by decide +kernel
theorem dM_scaled_45 : decode cM_scaled 45 = .ok (.istore_n 3, 1) := by decide +kernel
theorem dM_scaled_46 : decode cM_scaled 46 = .ok (.aload_n 0, 1) := by decide +kernel
theorem dM_scaled_47 : decode cM_scaled 47 = .ok (.iload_n 3, 1) := by decide +kernel
theorem dM_scaled_48 : decode cM_scaled 48 = .ok (.aload_n 0, 1) := by decide +kernel
theorem dM_scaled_49 : decode cM_scaled 49 = .ok (.getfield 53, 3) := by decide +kernel
theorem dM_scaled_52 : decode cM_scaled 52 = .ok (.iload_n 1, 1) := by decide +kernel
theorem dM_scaled_53 : decode cM_scaled 53 = .ok (.iaload, 1) := by decide +kernel
theorem dM_scaled_54 : decode cM_scaled 54 = .ok (.irem, 1) := by decide +kernel
theorem dM_scaled_55 : decode cM_scaled 55 = .ok (.aload_n 0, 1) := by decide +kernel
theorem dM_scaled_56 : decode cM_scaled 56 = .ok (.getfield 53, 3) := by decide +kernel
theorem dM_scaled_59 : decode cM_scaled 59 = .ok (.iload_n 1, 1) := by decide +kernel
theorem dM_scaled_60 : decode cM_scaled 60 = .ok (.iaload, 1) := by decide +kernel
theorem dM_scaled_61 : decode cM_scaled 61 = .ok (.invokevirtual 117, 3) := by decide +kernel
theorem dM_scaled_64 : decode cM_scaled 64 = .ok (.iload_n 2, 1) := by decide +kernel
theorem dM_scaled_65 : decode cM_scaled 65 = .ok (.ifCond .ne 14, 3) := by decide +kernel
theorem dM_scaled_68 : decode cM_scaled 68 = .ok (.iload_n 3, 1) := by decide +kernel
theorem dM_scaled_69 : decode cM_scaled 69 = .ok (.aload_n 0, 1) := by decide +kernel
theorem dM_scaled_70 : decode cM_scaled 70 = .ok (.getfield 53, 3) := by decide +kernel
theorem dM_scaled_73 : decode cM_scaled 73 = .ok (.iload_n 1, 1) := by decide +kernel
theorem dM_scaled_74 : decode cM_scaled 74 = .ok (.iaload, 1) := by decide +kernel
theorem dM_scaled_75 : decode cM_scaled 75 = .ok (.idiv, 1) := by decide +kernel
theorem dM_scaled_76 : decode cM_scaled 76 = .ok (.goto 19, 3) := by decide +kernel
theorem dM_scaled_79 : decode cM_scaled 79 = .ok (.iload_n 2, 1) := by decide +kernel
theorem dM_scaled_80 : decode cM_scaled 80 = .ok (.iconst 1, 1) := by decide +kernel
theorem dM_scaled_81 : decode cM_scaled 81 = .ok (.if_icmp .ne 10, 3) := by decide +kernel
theorem dM_scaled_84 : decode cM_scaled 84 = .ok (.aload_n 0, 1) := by decide +kernel
theorem dM_scaled_85 : decode cM_scaled 85 = .ok (.getfield 111, 3) := by decide +kernel
theorem dM_scaled_88 : decode cM_scaled 88 = .ok (.goto 7, 3) := by decide +kernel
theorem dM_scaled_91 : decode cM_scaled 91 = .ok (.aload_n 0, 1) := by decide +kernel
theorem dM_scaled_92 : decode cM_scaled 92 = .ok (.getfield 114, 3) := by decide +kernel
theorem dM_scaled_95 : decode cM_scaled 95 = .ok (.ireturn, 1) := by decide +kernel
theorem dM_diverse_0 : decode cM_diverse 0 = .ok (.aload_n 0, 1) := by decide +kernel
theorem dM_diverse_1 : decode cM_diverse 1 = .ok (.iload_n 1, 1) := by decide +kernel
theorem dM_diverse_2 : decode cM_diverse 2 = .ok (.iconst 0, 1) := by decide +kernel
theorem dM_diverse_3 : decode cM_diverse 3 = .ok (.iconst 1, 1) := by decide +kernel
theorem dM_diverse_4 : decode cM_diverse 4 = .ok (.invokestatic 66, 3) := by decide +kernel
theorem dM_diverse_7 : decode cM_diverse 7 = .ok (.ifCond .ne 7, 3) := by decide +kernel
theorem dM_diverse_10 : decode cM_diverse 10 = .ok (.iconst 1, 1) := by decide +kernel
theorem dM_diverse_11 : decode cM_diverse 11 = .ok (.goto 4, 3) := by decide +kernel
theorem dM_diverse_14 : decode cM_diverse 14 = .ok (.iconst 0, 1) := by decide +kernel
theorem dM_diverse_15 : decode cM_diverse 15 = .ok (.iconst 0, 1) := by decide +kernel
theorem dM_diverse_16 : decode cM_diverse 16 = .ok (.iconst 0, 1) := by decide +kernel
theorem dM_diverse_17 : decode cM_diverse 17 = .ok (.invokevirtual 77, 3) := by decide +kernel
theorem dM_diverse_20 : decode cM_diverse 20 = .ok (.ifCond .eq 5, 3) := by decide +kernel
theorem dM_diverse_23 : decode cM_diverse 23 = .ok (.iconst 0, 1) := by decide +kernel
theorem dM_diverse_24 : decode cM_diverse 24 = .ok (.ireturn, 1) := by decide +kernel
theorem dM_diverse_25 : decode cM_diverse 25 = .ok (.aload_n 0, 1) := by decide +kernel
theorem dM_diverse_26 : decode cM_diverse 26 = .ok (.getfield 70, 3) := by decide +kernel
theorem dM_diverse_29 : decode cM_diverse 29 = .ok (.aload_n 0, 1) := by decide +kernel
theorem dM_diverse_30 : decode cM_diverse 30 = .ok (.getfield 70, 3) := by decide +kernel
theorem dM_diverse_33 : decode cM_diverse 33 = .ok (.iconst 1, 1) := by decide +kernel
theorem dM_diverse_34 : decode cM_diverse 34 = .ok (.isub, 1) := by decide +kernel
theorem dM_diverse_35 : decode cM_diverse 35 = .ok (.imul, 1) := by decide +kernel
theorem dM_diverse_36 : decode cM_diverse 36 = .ok (.istore_n 2, 1) := by decide +kernel
theorem dM_diverse_37 : decode cM_diverse 37 = .ok (.iconst 0, 1) := by decide +kernel
theorem dM_diverse_38 : decode cM_diverse 38 = .ok (.istore_n 3, 1) := by decide +kernel
theorem dM_diverse_39 : decode cM_diverse 39 = .ok (.iconst 0, 1) := by decide +kernel
theorem dM_diverse_40 : decode cM_diverse 40 = .ok (.istore 4, 2) := by decide +kernel
theorem dM_diverse_42 : decode cM_diverse 42 = .ok (.iload 4, 2) := by decide +kernel
theorem dM_diverse_44 : decode cM_diverse 44 = .ok (.bipush 6, 2) := by decide +kernel
theorem dM_diverse_46 : decode cM_diverse 46 = .ok (.if_icmp .ge 29, 3) := by decide +kernel
theorem dM_diverse_49 : decode cM_diverse 49 = .ok (.iload_n 3, 1) := by decide +kernel
theorem dM_diverse_50 : decode cM_diverse 50 = .ok (.aload_n 0, 1) := by decide +kernel
theorem dM_diverse_51 : decode cM_diverse 51 = .ok (.getfield 31, 3) := by decide +kernel
theorem dM_diverse_54 : decode cM_diverse 54 = .ok (.iload 4, 2) := by decide +kernel
theorem dM_diverse_56 : decode cM_diverse 56 = .ok (.iaload, 1) := by decide +kernel
theorem dM_diverse_57 : decode cM_diverse 57 = .ok (.aload_n 0, 1) := by decide +kernel
theorem dM_diverse_58 : decode cM_diverse 58 = .ok (.getfield 31, 3) := by decide +kernel
theorem dM_diverse_61 : decode cM_diverse 61 = .ok (.iload 4, 2) := by decide +kernel
theorem dM_diverse_63 : decode cM_diverse 63 = .ok (.iaload, 1) := by decide +kernel
theorem dM_diverse_64 : decode cM_diverse 64 = .ok (.iconst 1, 1) := by decide +kernel
theorem dM_diverse_65 : decode cM_diverse 65 = .ok (.isub, 1) := by decide +kernel
theorem dM_diverse_66 : decode cM_diverse 66 = .ok (.imul, 1) := by decide +kernel
theorem dM_diverse_67 : decode cM_diverse 67 = .ok (.iadd, 1) := by decide +kernel
theorem dM_diverse_68 : decode cM_diverse 68 = .ok (.istore_n 3, 1) := by decide +kernel
theorem dM_diverse_69 : decode cM_diverse 69 = .ok (.iinc 4 1, 3) := by decide +kernel
theorem dM_diverse_72 : decode cM_diverse 72 = .ok (.goto (-30), 3) := by decide +kernel
theorem dM_diverse_75 : decode cM_diverse 75 = .ok (.aload_n 0, 1) := by decide +kernel
theorem dM_diverse_76 : decode cM_diverse 76 = .ok (.iload_n 2, 1) := by decide +kernel
theorem dM_diverse_77 : decode cM_diverse 77 = .ok (.iload_n 3, 1) := by decide +kernel
theorem dM_diverse_78 : decode cM_diverse 78 = .ok (.isub, 1) := by decide +kernel
theorem dM_diverse_79 : decode cM_diverse 79 = .ok (.iload_n 2, 1) := by decide +kernel
theorem dM_diverse_80 : decode cM_diverse 80 = .ok (.invokevirtual 117, 3) := by decide +kernel
theorem dM_diverse_83 : decode cM_diverse 83 = .ok (.iload_n 1, 1) := by decide +kernel
theorem dM_diverse_84 : decode cM_diverse 84 = .ok (.ifCond .ne 10, 3) := by decide +kernel
theorem dM_diverse_87 : decode cM_diverse 87 = .ok (.aload_n 0, 1) := by decide +kernel
theorem dM_diverse_88 : decode cM_diverse 88 = .ok (.getfield 111, 3) := by decide +kernel
theorem dM_diverse_91 : decode cM_diverse 91 = .ok (.goto 7, 3) := by decide +kernel
theorem dM_diverse_94 : decode cM_diverse 94 = .ok (.aload_n 0, 1) := by decide +kernel
theorem dM_diverse_95 : decode cM_diverse 95 = .ok (.getfield 114, 3) := by decide +kernel
theorem dM_diverse_98 : decode cM_diverse 98 = .ok (.ireturn, 1) := by decide +kernel
theorem dM_pieces_0 : decode cM_pieces 0 = .ok (.aload_n 0, 1) := by decide +kernel
theorem dM_pieces_1 : decode cM_pieces 1 = .ok (.iload_n 1, 1) := by decide +kernel
theorem dM_pieces_2 : decode cM_pieces 2 = .ok (.iconst (-1), 1) := by decide +kernel
theorem dM_pieces_3 : decode cM_pieces 3 = .ok (.if_icmp .eq 14, 3) := by decide +kernel
theorem dM_pieces_6 : decode cM_pieces 6 = .ok (.iload_n 1, 1) := by decide +kernel
theorem dM_pieces_7 : decode cM_pieces 7 = .ok (.invokestatic 73, 3) := by decide +kernel
theorem dM_pieces_10 : decode cM_pieces 10 = .ok (.ifCond .ne 7, 3) := by decide +kernel
theorem dM_pieces_13 : decode cM_pieces 13 = .ok (.iconst 1, 1) := by decide +kernel
theorem dM_pieces_14 : decode cM_pieces 14 = .ok (.goto 4, 3) := by decide +kernel
theorem dM_pieces_17 : decode cM_pieces 17 = .ok (.iconst 0, 1) := by decide +kernel
theorem dM_pieces_18 : decode cM_pieces 18 = .ok (.iconst 0, 1) := by decide +kernel
theorem dM_pieces_19 : decode cM_pieces 19 = .ok (.iconst 0, 1) := by decide +kernel
theorem dM_pieces_20 : decode cM_pieces 20 = .ok (.invokevirtual 77, 3) := by decide +kernel
theorem dM_pieces_23 : decode cM_pieces 23 = .ok (.ifCond .eq 5, 3) := by decide +kernel
theorem dM_pieces_26 : decode cM_pieces 26 = .ok (.iconst 0, 1) := by decide +kernel
theorem dM_pieces_27 : decode cM_pieces 27 = .ok (.ireturn, 1) := by decide +kernel
theorem dM_pieces_28 : decode cM_pieces 28 = .ok (.iload_n 1, 1) := by decide +kernel
theorem dM_pieces_29 : decode cM_pieces 29 = .ok (.iconst (-1), 1) := by decide +kernel
theorem dM_pieces_30 : decode cM_pieces 30 = .ok (.if_icmp .ne 10, 3) := by decide +kernel
theorem dM_pieces_33 : decode cM_pieces 33 = .ok (.aload_n 0, 1) := by decide +kernel
theorem dM_pieces_34 : decode cM_pieces 34 = .ok (.getfield 70, 3) := by decide +kernel
theorem dM_pieces_37 : decode cM_pieces 37 = .ok (.goto 9, 3) := by decide +kernel
theorem dM_pieces_40 : decode cM_pieces 40 = .ok (.aload_n 0, 1) := by decide +kernel
theorem dM_pieces_41 : decode cM_pieces 41 = .ok (.getfield 31, 3) := by decide +kernel
theorem dM_pieces_44 : decode cM_pieces 44 = .ok (.iload_n 1, 1) := by decide +kernel
theorem dM_pieces_45 : decode cM_pieces 45 = .ok (.iaload, 1) := by decide +kernel
theorem dM_pieces_46 : decode cM_pieces 46 = .ok (.ireturn, 1) := by decide +kernel
