theorem dL_lot_0 : decode cL_lot 0 = .ok (.iload_n 1, 1) := by decide +kernel
theorem dL_lot_1 : decode cL_lot 1 = .ok (.aload_n 0, 1) := by decide +kernel
theorem dL_lot_2 : decode cL_lot 2 = .ok (.arraylength, 1) := by decide +kernel
theorem dL_lot_3 : decode cL_lot 3 = .ok (.if_icmp .ge 9, 3) := by decide +kernel
theorem dL_lot_6 : decode cL_lot 6 = .ok (.aload_n 0, 1) := by decide +kernel
theorem dL_lot_7 : decode cL_lot 7 = .ok (.iload_n 1, 1) := by decide +kernel
theorem dL_lot_8 : decode cL_lot 8 = .ok (.iaload, 1) := by decide +kernel
theorem dL_lot_9 : decode cL_lot 9 = .ok (.goto 15, 3) := by decide +kernel
theorem dL_lot_12 : decode cL_lot 12 = .ok (.ldc 7, 2) := by decide +kernel
theorem dL_lot_14 : decode cL_lot 14 = .ok (.iload_n 1, 1) := by decide +kernel
theorem dL_lot_15 : decode cL_lot 15 = .ok (.sipush 4733, 3) := by decide +kernel
theorem dL_lot_18 : decode cL_lot 18 = .ok (.iadd, 1) := by decide +kernel
theorem dL_lot_19 : decode cL_lot 19 = .ok (.imul, 1) := by decide +kernel
theorem dL_lot_20 : decode cL_lot 20 = .ok (.sipush 4507, 3) := by decide +kernel
theorem dL_lot_23 : decode cL_lot 23 = .ok (.iadd, 1) := by decide +kernel
theorem dL_lot_24 : decode cL_lot 24 = .ok (.ireturn, 1) := by decide +kernel
theorem dL_low_0 : decode cL_low 0 = .ok (.iload_n 0, 1) := by decide +kernel
theorem dL_low_1 : decode cL_low 1 = .ok (.ldc 8, 2) := by decide +kernel
theorem dL_low_3 : decode cL_low 3 = .ok (.iand, 1) := by decide +kernel
theorem dL_low_4 : decode cL_low 4 = .ok (.iload_n 1, 1) := by decide +kernel
theorem dL_low_5 : decode cL_low 5 = .ok (.irem, 1) := by decide +kernel
theorem dL_low_6 : decode cL_low 6 = .ok (.ireturn, 1) := by decide +kernel
theorem dL_look_0 : decode cL_look 0 = .ok (.ldc2_w 9, 3) := by decide +kernel
theorem dL_look_3 : decode cL_look 3 = .ok (.lstore_n 1, 1) := by decide +kernel
theorem dL_look_4 : decode cL_look 4 = .ok (.iconst 0, 1) := by decide +kernel
theorem dL_look_5 : decode cL_look 5 = .ok (.istore_n 3, 1) := by decide +kernel
theorem dL_look_6 : decode cL_look 6 = .ok (.iload_n 3, 1) := by decide +kernel
theorem dL_look_7 : decode cL_look 7 = .ok (.bipush 6, 2) := by decide +kernel
theorem dL_look_9 : decode cL_look 9 = .ok (.if_icmp .ge 22, 3) := by decide +kernel
theorem dL_look_12 : decode cL_look 12 = .ok (.ldc2_w 11, 3) := by decide +kernel
theorem dL_look_15 : decode cL_look 15 = .ok (.lload_n 1, 1) := by decide +kernel
theorem dL_look_16 : decode cL_look 16 = .ok (.lmul, 1) := by decide +kernel
theorem dL_look_17 : decode cL_look 17 = .ok (.aload_n 0, 1) := by decide +kernel
theorem dL_look_18 : decode cL_look 18 = .ok (.iload_n 3, 1) := by decide +kernel
theorem dL_look_19 : decode cL_look 19 = .ok (.invokevirtual 13, 3) := by decide +kernel
theorem dL_look_22 : decode cL_look 22 = .ok (.i2l, 1) := by decide +kernel
theorem dL_look_23 : decode cL_look 23 = .ok (.ladd, 1) := by decide +kernel
theorem dL_look_24 : decode cL_look 24 = .ok (.lstore_n 1, 1) := by decide +kernel
theorem dL_look_25 : decode cL_look 25 = .ok (.iinc 3 1, 3) := by decide +kernel
theorem dL_look_28 : decode cL_look 28 = .ok (.goto (-22), 3) := by decide +kernel
theorem dL_look_31 : decode cL_look 31 = .ok (.iconst 0, 1) := by decide +kernel
theorem dL_look_32 : decode cL_look 32 = .ok (.istore_n 3, 1) := by decide +kernel
theorem dL_look_33 : decode cL_look 33 = .ok (.iload_n 3, 1) := by decide +kernel
theorem dL_look_34 : decode cL_look 34 = .ok (.aload_n 0, 1) := by decide +kernel
theorem dL_look_35 : decode cL_look 35 = .ok (.invokevirtual 19, 3) := by decide +kernel
theorem dL_look_38 : decode cL_look 38 = .ok (.if_icmp .ge 22, 3) := by decide +kernel
theorem dL_look_41 : decode cL_look 41 = .ok (.ldc2_w 11, 3) := by decide +kernel
theorem dL_look_44 : decode cL_look 44 = .ok (.lload_n 1, 1) := by decide +kernel
theorem dL_look_45 : decode cL_look 45 = .ok (.lmul, 1) := by decide +kernel
theorem dL_look_46 : decode cL_look 46 = .ok (.aload_n 0, 1) := by decide +kernel
theorem dL_look_47 : decode cL_look 47 = .ok (.iload_n 3, 1) := by decide +kernel
theorem dL_look_48 : decode cL_look 48 = .ok (.invokevirtual 23, 3) := by decide +kernel
theorem dL_look_51 : decode cL_look 51 = .ok (.i2l, 1) := by decide +kernel
theorem dL_look_52 : decode cL_look 52 = .ok (.ladd, 1) := by decide +kernel
theorem dL_look_53 : decode cL_look 53 = .ok (.lstore_n 1, 1) := by decide +kernel
theorem dL_look_54 : decode cL_look 54 = .ok (.iinc 3 1, 3) := by decide +kernel
theorem dL_look_57 : decode cL_look 57 = .ok (.goto (-24), 3) := by decide +kernel
theorem dL_look_60 : decode cL_look 60 = .ok (.iconst 0, 1) := by decide +kernel
theorem dL_look_61 : decode cL_look 61 = .ok (.istore_n 3, 1) := by decide +kernel
theorem dL_look_62 : decode cL_look 62 = .ok (.iload_n 3, 1) := by decide +kernel
theorem dL_look_63 : decode cL_look 63 = .ok (.aload_n 0, 1) := by decide +kernel
theorem dL_look_64 : decode cL_look 64 = .ok (.invokevirtual 26, 3) := by decide +kernel
theorem dL_look_67 : decode cL_look 67 = .ok (.if_icmp .ge 74, 3) := by decide +kernel
theorem dL_look_70 : decode cL_look 70 = .ok (.iconst 0, 1) := by decide +kernel
theorem dL_look_71 : decode cL_look 71 = .ok (.istore 4, 2) := by decide +kernel
theorem dL_look_73 : decode cL_look 73 = .ok (.iload 4, 2) := by decide +kernel
theorem dL_look_75 : decode cL_look 75 = .ok (.iconst 3, 1) := by decide +kernel
theorem dL_look_76 : decode cL_look 76 = .ok (.if_icmp .ge 24, 3) := by decide +kernel
theorem dL_look_79 : decode cL_look 79 = .ok (.ldc2_w 11, 3) := by decide +kernel
theorem dL_look_82 : decode cL_look 82 = .ok (.lload_n 1, 1) := by decide +kernel
theorem dL_look_83 : decode cL_look 83 = .ok (.lmul, 1) := by decide +kernel
theorem dL_look_84 : decode cL_look 84 = .ok (.aload_n 0, 1) := by decide +kernel
theorem dL_look_85 : decode cL_look 85 = .ok (.iload_n 3, 1) := by decide +kernel
theorem dL_look_86 : decode cL_look 86 = .ok (.iload 4, 2) := by decide +kernel
theorem dL_look_88 : decode cL_look 88 = .ok (.invokevirtual 29, 3) := by decide +kernel
theorem dL_look_91 : decode cL_look 91 = .ok (.i2l, 1) := by decide +kernel
theorem dL_look_92 : decode cL_look 92 = .ok (.ladd, 1) := by decide +kernel
theorem dL_look_93 : decode cL_look 93 = .ok (.lstore_n 1, 1) := by decide +kernel
theorem dL_look_94 : decode cL_look 94 = .ok (.iinc 4 1, 3) := by decide +kernel
theorem dL_look_97 : decode cL_look 97 = .ok (.goto (-24), 3) := by decide +kernel
theorem dL_look_100 : decode cL_look 100 = .ok (.iconst 0, 1) := by decide +kernel
theorem dL_look_101 : decode cL_look 101 = .ok (.istore 4, 2) := by decide +kernel
theorem dL_look_103 : decode cL_look 103 = .ok (.iload 4, 2) := by decide +kernel
theorem dL_look_105 : decode cL_look 105 = .ok (.aload_n 0, 1) := by decide +kernel
theorem dL_look_106 : decode cL_look 106 = .ok (.iload_n 3, 1) := by decide +kernel
theorem dL_look_107 : decode cL_look 107 = .ok (.iconst 2, 1) := by decide +kernel
theorem dL_look_108 : decode cL_look 108 = .ok (.invokevirtual 29, 3) := by decide +kernel
theorem dL_look_111 : decode cL_look 111 = .ok (.if_icmp .ge 24, 3) := by decide +kernel
theorem dL_look_114 : decode cL_look 114 = .ok (.ldc2_w 11, 3) := by decide +kernel
theorem dL_look_117 : decode cL_look 117 = .ok (.lload_n 1, 1) := by decide +kernel
theorem dL_look_118 : decode cL_look 118 = .ok (.lmul, 1) := by decide +kernel
theorem dL_look_119 : decode cL_look 119 = .ok (.aload_n 0, 1) := by decide +kernel
theorem dL_look_120 : decode cL_look 120 = .ok (.iload_n 3, 1) := by decide +kernel
theorem dL_look_121 : decode cL_look 121 = .ok (.iload 4, 2) := by decide +kernel
theorem dL_look_123 : decode cL_look 123 = .ok (.invokevirtual 33, 3) := by decide +kernel
theorem dL_look_126 : decode cL_look 126 = .ok (.i2l, 1) := by decide +kernel
theorem dL_look_127 : decode cL_look 127 = .ok (.ladd, 1) := by decide +kernel
theorem dL_look_128 : decode cL_look 128 = .ok (.lstore_n 1, 1) := by decide +kernel
theorem dL_look_129 : decode cL_look 129 = .ok (.iinc 4 1, 3) := by decide +kernel
theorem dL_look_132 : decode cL_look 132 = .ok (.goto (-29), 3) := by decide +kernel
theorem dL_look_135 : decode cL_look 135 = .ok (.iinc 3 1, 3) := by decide +kernel
theorem dL_look_138 : decode cL_look 138 = .ok (.goto (-76), 3) := by decide +kernel
theorem dL_look_141 : decode cL_look 141 = .ok (.lload_n 1, 1) := by decide +kernel
theorem dL_look_142 : decode cL_look 142 = .ok (.lreturn, 1) := by decide +kernel
theorem dL_faults_0 : decode cL_faults 0 = .ok (.aload_n 0, 1) := by decide +kernel
theorem dL_faults_1 : decode cL_faults 1 = .ok (.iload_n 1, 1) := by decide +kernel
theorem dL_faults_2 : decode cL_faults 2 = .ok (.iconst 0, 1) := by decide +kernel
theorem dL_faults_3 : decode cL_faults 3 = .ok (.invokevirtual 29, 3) := by decide +kernel
theorem dL_faults_6 : decode cL_faults 6 = .ok (.istore_n 2, 1) := by decide +kernel
theorem dL_faults_7 : decode cL_faults 7 = .ok (.aload_n 0, 1) := by decide +kernel
theorem dL_faults_8 : decode cL_faults 8 = .ok (.iload_n 1, 1) := by decide +kernel
theorem dL_faults_9 : decode cL_faults 9 = .ok (.iconst 1, 1) := by decide +kernel
theorem dL_faults_10 : decode cL_faults 10 = .ok (.invokevirtual 29, 3) := by decide +kernel
theorem dL_faults_13 : decode cL_faults 13 = .ok (.istore_n 3, 1) := by decide +kernel
theorem dL_faults_14 : decode cL_faults 14 = .ok (.aload_n 0, 1) := by decide +kernel
theorem dL_faults_15 : decode cL_faults 15 = .ok (.iload_n 1, 1) := by decide +kernel
theorem dL_faults_16 : decode cL_faults 16 = .ok (.iconst 5, 1) := by decide +kernel
theorem dL_faults_17 : decode cL_faults 17 = .ok (.invokevirtual 29, 3) := by decide +kernel
theorem dL_faults_20 : decode cL_faults 20 = .ok (.istore 4, 2) := by decide +kernel
theorem dL_faults_22 : decode cL_faults 22 = .ok (.iload 4, 2) := by decide +kernel
theorem dL_faults_24 : decode cL_faults 24 = .ok (.iconst 2, 1) := by decide +kernel
theorem dL_faults_25 : decode cL_faults 25 = .ok (.if_icmp .le 7, 3) := by decide +kernel
theorem dL_faults_28 : decode cL_faults 28 = .ok (.iconst 1, 1) := by decide +kernel
theorem dL_faults_29 : decode cL_faults 29 = .ok (.goto 4, 3) := by decide +kernel
theorem dL_faults_32 : decode cL_faults 32 = .ok (.iconst 0, 1) := by decide +kernel
theorem dL_faults_33 : decode cL_faults 33 = .ok (.istore 5, 2) := by decide +kernel
theorem dL_faults_35 : decode cL_faults 35 = .ok (.iconst 0, 1) := by decide +kernel
theorem dL_faults_36 : decode cL_faults 36 = .ok (.istore 6, 2) := by decide +kernel
theorem dL_faults_38 : decode cL_faults 38 = .ok (.iconst 0, 1) := by decide +kernel
theorem dL_faults_39 : decode cL_faults 39 = .ok (.istore 7, 2) := by decide +kernel
theorem dL_faults_41 : decode cL_faults 41 = .ok (.iload 7, 2) := by decide +kernel
theorem dL_faults_43 : decode cL_faults 43 = .ok (.iload 4, 2) := by decide +kernel
theorem dL_faults_45 : decode cL_faults 45 = .ok (.if_icmp .ge 36, 3) := by decide +kernel
theorem dL_faults_48 : decode cL_faults 48 = .ok (.iload 5, 2) := by decide +kernel
theorem dL_faults_50 : decode cL_faults 50 = .ok (.ifCond .ne 18, 3) := by decide +kernel
theorem dL_faults_53 : decode cL_faults 53 = .ok (.aload_n 0, 1) := by decide +kernel
theorem dL_faults_54 : decode cL_faults 54 = .ok (.iload_n 1, 1) := by decide +kernel
theorem dL_faults_55 : decode cL_faults 55 = .ok (.iload 7, 2) := by decide +kernel
theorem dL_faults_57 : decode cL_faults 57 = .ok (.invokevirtual 36, 3) := by decide +kernel
theorem dL_faults_60 : decode cL_faults 60 = .ok (.aload_n 0, 1) := by decide +kernel
theorem dL_faults_61 : decode cL_faults 61 = .ok (.iconst 4, 1) := by decide +kernel
theorem dL_faults_62 : decode cL_faults 62 = .ok (.invokevirtual 13, 3) := by decide +kernel
theorem dL_faults_65 : decode cL_faults 65 = .ok (.if_icmp .le 7, 3) := by decide +kernel
theorem dL_faults_68 : decode cL_faults 68 = .ok (.iconst 1, 1) := by decide +kernel
theorem dL_faults_69 : decode cL_faults 69 = .ok (.goto 4, 3) := by decide +kernel
theorem dL_faults_72 : decode cL_faults 72 = .ok (.iconst 0, 1) := by decide +kernel
theorem dL_faults_73 : decode cL_faults 73 = .ok (.istore 5, 2) := by decide +kernel
theorem dL_faults_75 : decode cL_faults 75 = .ok (.iinc 7 1, 3) := by decide +kernel
theorem dL_faults_78 : decode cL_faults 78 = .ok (.goto (-37), 3) := by decide +kernel
theorem dL_faults_81 : decode cL_faults 81 = .ok (.iconst 0, 1) := by decide +kernel
theorem dL_faults_82 : decode cL_faults 82 = .ok (.istore 7, 2) := by decide +kernel
theorem dL_faults_84 : decode cL_faults 84 = .ok (.iload 7, 2) := by decide +kernel
theorem dL_faults_86 : decode cL_faults 86 = .ok (.aload_n 0, 1) := by decide +kernel
theorem dL_faults_87 : decode cL_faults 87 = .ok (.invokevirtual 19, 3) := by decide +kernel
theorem dL_faults_90 : decode cL_faults 90 = .ok (.if_icmp .ge 65, 3) := by decide +kernel
theorem dL_faults_93 : decode cL_faults 93 = .ok (.aload_n 0, 1) := by decide +kernel
theorem dL_faults_94 : decode cL_faults 94 = .ok (.iload 7, 2) := by decide +kernel
theorem dL_faults_96 : decode cL_faults 96 = .ok (.invokevirtual 23, 3) := by decide +kernel
theorem dL_faults_99 : decode cL_faults 99 = .ok (.istore 8, 2) := by decide +kernel
theorem dL_faults_101 : decode cL_faults 101 = .ok (.iload 6, 2) := by decide +kernel
theorem dL_faults_103 : decode cL_faults 103 = .ok (.ifCond .ne 39, 3) := by decide +kernel
theorem dL_faults_106 : decode cL_faults 106 = .ok (.iload 8, 2) := by decide +kernel
theorem dL_faults_108 : decode cL_faults 108 = .ok (.iload_n 2, 1) := by decide +kernel
theorem dL_faults_109 : decode cL_faults 109 = .ok (.if_icmp .le 37, 3) := by decide +kernel
theorem dL_faults_112 : decode cL_faults 112 = .ok (.iload 8, 2) := by decide +kernel
theorem dL_faults_114 : decode cL_faults 114 = .ok (.iload_n 3, 1) := by decide +kernel
theorem dL_faults_115 : decode cL_faults 115 = .ok (.if_icmp .ge 31, 3) := by decide +kernel
theorem dL_faults_118 : decode cL_faults 118 = .ok (.iload 8, 2) := by decide +kernel
theorem dL_faults_120 : decode cL_faults 120 = .ok (.iload_n 2, 1) := by decide +kernel
theorem dL_faults_121 : decode cL_faults 121 = .ok (.isub, 1) := by decide +kernel
theorem dL_faults_122 : decode cL_faults 122 = .ok (.aload_n 0, 1) := by decide +kernel
theorem dL_faults_123 : decode cL_faults 123 = .ok (.iconst 5, 1) := by decide +kernel
theorem dL_faults_124 : decode cL_faults 124 = .ok (.invokevirtual 13, 3) := by decide +kernel
theorem dL_faults_127 : decode cL_faults 127 = .ok (.if_icmp .lt 15, 3) := by decide +kernel
theorem dL_faults_130 : decode cL_faults 130 = .ok (.iload_n 3, 1) := by decide +kernel
theorem dL_faults_131 : decode cL_faults 131 = .ok (.iload 8, 2) := by decide +kernel
theorem dL_faults_133 : decode cL_faults 133 = .ok (.isub, 1) := by decide +kernel
theorem dL_faults_134 : decode cL_faults 134 = .ok (.aload_n 0, 1) := by decide +kernel
theorem dL_faults_135 : decode cL_faults 135 = .ok (.iconst 5, 1) := by decide +kernel
theorem dL_faults_136 : decode cL_faults 136 = .ok (.invokevirtual 13, 3) := by decide +kernel
theorem dL_faults_139 : decode cL_faults 139 = .ok (.if_icmp .ge 7, 3) := by decide +kernel
theorem dL_faults_142 : decode cL_faults 142 = .ok (.iconst 1, 1) := by decide +kernel
theorem dL_faults_143 : decode cL_faults 143 = .ok (.goto 4, 3) := by decide +kernel
theorem dL_faults_146 : decode cL_faults 146 = .ok (.iconst 0, 1) := by decide +kernel
theorem dL_faults_147 : decode cL_faults 147 = .ok (.istore 6, 2) := by decide +kernel
theorem dL_faults_149 : decode cL_faults 149 = .ok (.iinc 7 1, 3) := by decide +kernel
theorem dL_faults_152 : decode cL_faults 152 = .ok (.goto (-68), 3) := by decide +kernel
theorem dL_faults_155 : decode cL_faults 155 = .ok (.bipush 25, 2) := by decide +kernel
theorem dL_faults_157 : decode cL_faults 157 = .ok (.aload_n 0, 1) := by decide +kernel
theorem dL_faults_158 : decode cL_faults 158 = .ok (.iload_n 1, 1) := by decide +kernel
theorem dL_faults_159 : decode cL_faults 159 = .ok (.iconst 2, 1) := by decide +kernel
theorem dL_faults_160 : decode cL_faults 160 = .ok (.invokevirtual 29, 3) := by decide +kernel
theorem dL_faults_163 : decode cL_faults 163 = .ok (.imul, 1) := by decide +kernel
theorem dL_faults_164 : decode cL_faults 164 = .ok (.aload_n 0, 1) := by decide +kernel
theorem dL_faults_165 : decode cL_faults 165 = .ok (.iconst 0, 1) := by decide +kernel
theorem dL_faults_166 : decode cL_faults 166 = .ok (.invokevirtual 13, 3) := by decide +kernel
theorem dL_faults_169 : decode cL_faults 169 = .ok (.iload_n 3, 1) := by decide +kernel
theorem dL_faults_170 : decode cL_faults 170 = .ok (.iload_n 2, 1) := by decide +kernel
theorem dL_faults_171 : decode cL_faults 171 = .ok (.isub, 1) := by decide +kernel
theorem dL_faults_172 : decode cL_faults 172 = .ok (.imul, 1) := by decide +kernel
theorem dL_faults_173 : decode cL_faults 173 = .ok (.if_icmp .le 7, 3) := by decide +kernel
theorem dL_faults_176 : decode cL_faults 176 = .ok (.iconst 1, 1) := by decide +kernel
theorem dL_faults_177 : decode cL_faults 177 = .ok (.goto 4, 3) := by decide +kernel
theorem dL_faults_180 : decode cL_faults 180 = .ok (.iconst 0, 1) := by decide +kernel
theorem dL_faults_181 : decode cL_faults 181 = .ok (.iload_n 3, 1) := by decide +kernel
theorem dL_faults_182 : decode cL_faults 182 = .ok (.iload_n 2, 1) := by decide +kernel
theorem dL_faults_183 : decode cL_faults 183 = .ok (.isub, 1) := by decide +kernel
theorem dL_faults_184 : decode cL_faults 184 = .ok (.aload_n 0, 1) := by decide +kernel
theorem dL_faults_185 : decode cL_faults 185 = .ok (.iconst 2, 1) := by decide +kernel
theorem dL_faults_186 : decode cL_faults 186 = .ok (.invokevirtual 13, 3) := by decide +kernel
theorem dL_faults_189 : decode cL_faults 189 = .ok (.if_icmp .ge 7, 3) := by decide +kernel
theorem dL_faults_192 : decode cL_faults 192 = .ok (.iconst 2, 1) := by decide +kernel
theorem dL_faults_193 : decode cL_faults 193 = .ok (.goto 4, 3) := by decide +kernel
theorem dL_faults_196 : decode cL_faults 196 = .ok (.iconst 0, 1) := by decide +kernel
theorem dL_faults_197 : decode cL_faults 197 = .ok (.iadd, 1) := by decide +kernel
theorem dL_faults_198 : decode cL_faults 198 = .ok (.iload_n 3, 1) := by decide +kernel
theorem dL_faults_199 : decode cL_faults 199 = .ok (.iload_n 2, 1) := by decide +kernel
theorem dL_faults_200 : decode cL_faults 200 = .ok (.isub, 1) := by decide +kernel
theorem dL_faults_201 : decode cL_faults 201 = .ok (.aload_n 0, 1) := by decide +kernel
theorem dL_faults_202 : decode cL_faults 202 = .ok (.iconst 3, 1) := by decide +kernel
theorem dL_faults_203 : decode cL_faults 203 = .ok (.invokevirtual 13, 3) := by decide +kernel
theorem dL_faults_206 : decode cL_faults 206 = .ok (.if_icmp .le 7, 3) := by decide +kernel
theorem dL_faults_209 : decode cL_faults 209 = .ok (.iconst 4, 1) := by decide +kernel
theorem dL_faults_210 : decode cL_faults 210 = .ok (.goto 4, 3) := by decide +kernel
theorem dL_faults_213 : decode cL_faults 213 = .ok (.iconst 0, 1) := by decide +kernel
theorem dL_faults_214 : decode cL_faults 214 = .ok (.iadd, 1) := by decide +kernel
theorem dL_faults_215 : decode cL_faults 215 = .ok (.iload_n 1, 1) := by decide +kernel
theorem dL_faults_216 : decode cL_faults 216 = .ok (.iconst 1, 1) := by decide +kernel
theorem dL_faults_217 : decode cL_faults 217 = .ok (.iadd, 1) := by decide +kernel
theorem dL_faults_218 : decode cL_faults 218 = .ok (.aload_n 0, 1) := by decide +kernel
theorem dL_faults_219 : decode cL_faults 219 = .ok (.invokevirtual 26, 3) := by decide +kernel
theorem dL_faults_222 : decode cL_faults 222 = .ok (.if_icmp .ge 26, 3) := by decide +kernel
theorem dL_faults_225 : decode cL_faults 225 = .ok (.aload_n 0, 1) := by decide +kernel
theorem dL_faults_226 : decode cL_faults 226 = .ok (.iload_n 1, 1) := by decide +kernel
theorem dL_faults_227 : decode cL_faults 227 = .ok (.iconst 1, 1) := by decide +kernel
theorem dL_faults_228 : decode cL_faults 228 = .ok (.iadd, 1) := by decide +kernel
theorem dL_faults_229 : decode cL_faults 229 = .ok (.iconst 0, 1) := by decide +kernel
theorem dL_faults_230 : decode cL_faults 230 = .ok (.invokevirtual 29, 3) := by decide +kernel
theorem dL_faults_233 : decode cL_faults 233 = .ok (.iload_n 3, 1) := by decide +kernel
theorem dL_faults_234 : decode cL_faults 234 = .ok (.isub, 1) := by decide +kernel
theorem dL_faults_235 : decode cL_faults 235 = .ok (.aload_n 0, 1) := by decide +kernel
theorem dL_faults_236 : decode cL_faults 236 = .ok (.iconst 1, 1) := by decide +kernel
theorem dL_faults_237 : decode cL_faults 237 = .ok (.invokevirtual 13, 3) := by decide +kernel
theorem dL_faults_240 : decode cL_faults 240 = .ok (.if_icmp .ge 8, 3) := by decide +kernel
theorem dL_faults_243 : decode cL_faults 243 = .ok (.bipush 8, 2) := by decide +kernel
theorem dL_faults_245 : decode cL_faults 245 = .ok (.goto 4, 3) := by decide +kernel
theorem dL_faults_248 : decode cL_faults 248 = .ok (.iconst 0, 1) := by decide +kernel
theorem dL_faults_249 : decode cL_faults 249 = .ok (.iadd, 1) := by decide +kernel
theorem dL_faults_250 : decode cL_faults 250 = .ok (.iload 6, 2) := by decide +kernel
theorem dL_faults_252 : decode cL_faults 252 = .ok (.ifCond .eq 8, 3) := by decide +kernel
theorem dL_faults_255 : decode cL_faults 255 = .ok (.bipush 16, 2) := by decide +kernel
theorem dL_faults_257 : decode cL_faults 257 = .ok (.goto 4, 3) := by decide +kernel
theorem dL_faults_260 : decode cL_faults 260 = .ok (.iconst 0, 1) := by decide +kernel
theorem dL_faults_261 : decode cL_faults 261 = .ok (.iadd, 1) := by decide +kernel
theorem dL_faults_262 : decode cL_faults 262 = .ok (.iload 5, 2) := by decide +kernel
theorem dL_faults_264 : decode cL_faults 264 = .ok (.ifCond .eq 8, 3) := by decide +kernel
theorem dL_faults_267 : decode cL_faults 267 = .ok (.bipush 32, 2) := by decide +kernel
theorem dL_faults_269 : decode cL_faults 269 = .ok (.goto 4, 3) := by decide +kernel
theorem dL_faults_272 : decode cL_faults 272 = .ok (.iconst 0, 1) := by decide +kernel
theorem dL_faults_273 : decode cL_faults 273 = .ok (.iadd, 1) := by decide +kernel
theorem dL_faults_274 : decode cL_faults 274 = .ok (.ireturn, 1) := by decide +kernel
theorem dL_holds_0 : decode cL_holds 0 = .ok (.aload_n 0, 1) := by decide +kernel
theorem dL_holds_1 : decode cL_holds 1 = .ok (.invokevirtual 26, 3) := by decide +kernel
theorem dL_holds_4 : decode cL_holds 4 = .ok (.istore_n 1, 1) := by decide +kernel
theorem dL_holds_5 : decode cL_holds 5 = .ok (.iconst 0, 1) := by decide +kernel
theorem dL_holds_6 : decode cL_holds 6 = .ok (.istore_n 2, 1) := by decide +kernel
theorem dL_holds_7 : decode cL_holds 7 = .ok (.iconst 0, 1) := by decide +kernel
theorem dL_holds_8 : decode cL_holds 8 = .ok (.istore_n 3, 1) := by decide +kernel
theorem dL_holds_9 : decode cL_holds 9 = .ok (.iconst 0, 1) := by decide +kernel
theorem dL_holds_10 : decode cL_holds 10 = .ok (.istore 4, 2) := by decide +kernel
theorem dL_holds_12 : decode cL_holds 12 = .ok (.iconst 0, 1) := by decide +kernel
theorem dL_holds_13 : decode cL_holds 13 = .ok (.istore 5, 2) := by decide +kernel
theorem dL_holds_15 : decode cL_holds 15 = .ok (.iconst 0, 1) := by decide +kernel
theorem dL_holds_16 : decode cL_holds 16 = .ok (.istore 6, 2) := by decide +kernel
theorem dL_holds_18 : decode cL_holds 18 = .ok (.iload_n 1, 1) := by decide +kernel
theorem dL_holds_19 : decode cL_holds 19 = .ok (.ifCond .lt 52, 3) := by decide +kernel
theorem dL_holds_22 : decode cL_holds 22 = .ok (.iload_n 1, 1) := by decide +kernel
theorem dL_holds_23 : decode cL_holds 23 = .ok (.bipush 20, 2) := by decide +kernel
theorem dL_holds_25 : decode cL_holds 25 = .ok (.if_icmp .gt 46, 3) := by decide +kernel
theorem dL_holds_28 : decode cL_holds 28 = .ok (.aload_n 0, 1) := by decide +kernel
theorem dL_holds_29 : decode cL_holds 29 = .ok (.invokevirtual 19, 3) := by decide +kernel
theorem dL_holds_32 : decode cL_holds 32 = .ok (.ifCond .lt 39, 3) := by decide +kernel
theorem dL_holds_35 : decode cL_holds 35 = .ok (.aload_n 0, 1) := by decide +kernel
theorem dL_holds_36 : decode cL_holds 36 = .ok (.invokevirtual 19, 3) := by decide +kernel
theorem dL_holds_39 : decode cL_holds 39 = .ok (.bipush 12, 2) := by decide +kernel
theorem dL_holds_41 : decode cL_holds 41 = .ok (.if_icmp .gt 30, 3) := by decide +kernel
theorem dL_holds_44 : decode cL_holds 44 = .ok (.aload_n 0, 1) := by decide +kernel
theorem dL_holds_45 : decode cL_holds 45 = .ok (.iload_n 1, 1) := by decide +kernel
theorem dL_holds_46 : decode cL_holds 46 = .ok (.iconst 0, 1) := by decide +kernel
theorem dL_holds_47 : decode cL_holds 47 = .ok (.invokevirtual 29, 3) := by decide +kernel
theorem dL_holds_50 : decode cL_holds 50 = .ok (.iconst (-1), 1) := by decide +kernel
theorem dL_holds_51 : decode cL_holds 51 = .ok (.if_icmp .ne 20, 3) := by decide +kernel
theorem dL_holds_54 : decode cL_holds 54 = .ok (.aload_n 0, 1) := by decide +kernel
theorem dL_holds_55 : decode cL_holds 55 = .ok (.aload_n 0, 1) := by decide +kernel
theorem dL_holds_56 : decode cL_holds 56 = .ok (.invokevirtual 19, 3) := by decide +kernel
theorem dL_holds_59 : decode cL_holds 59 = .ok (.invokevirtual 23, 3) := by decide +kernel
theorem dL_holds_62 : decode cL_holds 62 = .ok (.bipush (-6), 2) := by decide +kernel
theorem dL_holds_64 : decode cL_holds 64 = .ok (.if_icmp .ne 7, 3) := by decide +kernel
theorem dL_holds_67 : decode cL_holds 67 = .ok (.iconst 1, 1) := by decide +kernel
theorem dL_holds_68 : decode cL_holds 68 = .ok (.goto 4, 3) := by decide +kernel
theorem dL_holds_71 : decode cL_holds 71 = .ok (.iconst 0, 1) := by decide +kernel
theorem dL_holds_72 : decode cL_holds 72 = .ok (.istore 7, 2) := by decide +kernel
theorem dL_holds_74 : decode cL_holds 74 = .ok (.iconst 1, 1) := by decide +kernel
theorem dL_holds_75 : decode cL_holds 75 = .ok (.istore 8, 2) := by decide +kernel
theorem dL_holds_77 : decode cL_holds 77 = .ok (.iload 8, 2) := by decide +kernel
theorem dL_holds_79 : decode cL_holds 79 = .ok (.aload_n 0, 1) := by decide +kernel
theorem dL_holds_80 : decode cL_holds 80 = .ok (.invokevirtual 19, 3) := by decide +kernel
theorem dL_holds_83 : decode cL_holds 83 = .ok (.if_icmp .ge 58, 3) := by decide +kernel
theorem dL_holds_86 : decode cL_holds 86 = .ok (.iload 7, 2) := by decide +kernel
theorem dL_holds_88 : decode cL_holds 88 = .ok (.ifCond .eq 44, 3) := by decide +kernel
theorem dL_holds_91 : decode cL_holds 91 = .ok (.aload_n 0, 1) := by decide +kernel
theorem dL_holds_92 : decode cL_holds 92 = .ok (.iload 8, 2) := by decide +kernel
theorem dL_holds_94 : decode cL_holds 94 = .ok (.iconst 1, 1) := by decide +kernel
theorem dL_holds_95 : decode cL_holds 95 = .ok (.isub, 1) := by decide +kernel
theorem dL_holds_96 : decode cL_holds 96 = .ok (.invokevirtual 23, 3) := by decide +kernel
theorem dL_holds_99 : decode cL_holds 99 = .ok (.aload_n 0, 1) := by decide +kernel
theorem dL_holds_100 : decode cL_holds 100 = .ok (.iload 8, 2) := by decide +kernel
theorem dL_holds_102 : decode cL_holds 102 = .ok (.invokevirtual 23, 3) := by decide +kernel
theorem dL_holds_105 : decode cL_holds 105 = .ok (.if_icmp .ge 27, 3) := by decide +kernel
theorem dL_holds_108 : decode cL_holds 108 = .ok (.aload_n 0, 1) := by decide +kernel
theorem dL_holds_109 : decode cL_holds 109 = .ok (.iload 8, 2) := by decide +kernel
theorem dL_holds_111 : decode cL_holds 111 = .ok (.invokevirtual 23, 3) := by decide +kernel
theorem dL_holds_114 : decode cL_holds 114 = .ok (.sipush 5000, 3) := by decide +kernel
theorem dL_holds_117 : decode cL_holds 117 = .ok (.if_icmp .ge 15, 3) := by decide +kernel
theorem dL_holds_120 : decode cL_holds 120 = .ok (.aload_n 0, 1) := by decide +kernel
theorem dL_holds_121 : decode cL_holds 121 = .ok (.iconst 0, 1) := by decide +kernel
theorem dL_holds_122 : decode cL_holds 122 = .ok (.invokevirtual 23, 3) := by decide +kernel
theorem dL_holds_125 : decode cL_holds 125 = .ok (.ifCond .le 7, 3) := by decide +kernel
theorem dL_holds_128 : decode cL_holds 128 = .ok (.iconst 1, 1) := by decide +kernel
theorem dL_holds_129 : decode cL_holds 129 = .ok (.goto 4, 3) := by decide +kernel
theorem dL_holds_132 : decode cL_holds 132 = .ok (.iconst 0, 1) := by decide +kernel
theorem dL_holds_133 : decode cL_holds 133 = .ok (.istore 7, 2) := by decide +kernel
theorem dL_holds_135 : decode cL_holds 135 = .ok (.iinc 8 1, 3) := by decide +kernel
theorem dL_holds_138 : decode cL_holds 138 = .ok (.goto (-61), 3) := by decide +kernel
theorem dL_holds_141 : decode cL_holds 141 = .ok (.iconst 0, 1) := by decide +kernel
theorem dL_holds_142 : decode cL_holds 142 = .ok (.istore 8, 2) := by decide +kernel
theorem dL_holds_144 : decode cL_holds 144 = .ok (.iload 8, 2) := by decide +kernel
theorem dL_holds_146 : decode cL_holds 146 = .ok (.iload_n 1, 1) := by decide +kernel
theorem dL_holds_147 : decode cL_holds 147 = .ok (.if_icmp .ge 445, 3) := by decide +kernel
theorem dL_holds_150 : decode cL_holds 150 = .ok (.iload 7, 2) := by decide +kernel
theorem dL_holds_152 : decode cL_holds 152 = .ok (.ifCond .eq 440, 3) := by decide +kernel
theorem dL_holds_155 : decode cL_holds 155 = .ok (.aload_n 0, 1) := by decide +kernel
theorem dL_holds_156 : decode cL_holds 156 = .ok (.iload 8, 2) := by decide +kernel
theorem dL_holds_158 : decode cL_holds 158 = .ok (.iconst 0, 1) := by decide +kernel
theorem dL_holds_159 : decode cL_holds 159 = .ok (.invokevirtual 29, 3) := by decide +kernel
theorem dL_holds_162 : decode cL_holds 162 = .ok (.istore 9, 2) := by decide +kernel
theorem dL_holds_164 : decode cL_holds 164 = .ok (.aload_n 0, 1) := by decide +kernel
theorem dL_holds_165 : decode cL_holds 165 = .ok (.iload 8, 2) := by decide +kernel
theorem dL_holds_167 : decode cL_holds 167 = .ok (.iconst 1, 1) := by decide +kernel
theorem dL_holds_168 : decode cL_holds 168 = .ok (.invokevirtual 29, 3) := by decide +kernel
theorem dL_holds_171 : decode cL_holds 171 = .ok (.istore 10, 2) := by decide +kernel
theorem dL_holds_173 : decode cL_holds 173 = .ok (.aload_n 0, 1) := by decide +kernel
theorem dL_holds_174 : decode cL_holds 174 = .ok (.iload 8, 2) := by decide +kernel
theorem dL_holds_176 : decode cL_holds 176 = .ok (.iconst 2, 1) := by decide +kernel
theorem dL_holds_177 : decode cL_holds 177 = .ok (.invokevirtual 29, 3) := by decide +kernel
theorem dL_holds_180 : decode cL_holds 180 = .ok (.istore 11, 2) := by decide +kernel
theorem dL_holds_182 : decode cL_holds 182 = .ok (.aload_n 0, 1) := by decide +kernel
theorem dL_holds_183 : decode cL_holds 183 = .ok (.iload 8, 2) := by decide +kernel
theorem dL_holds_185 : decode cL_holds 185 = .ok (.iconst 3, 1) := by decide +kernel
theorem dL_holds_186 : decode cL_holds 186 = .ok (.invokevirtual 29, 3) := by decide +kernel
theorem dL_holds_189 : decode cL_holds 189 = .ok (.istore 12, 2) := by decide +kernel
theorem dL_holds_191 : decode cL_holds 191 = .ok (.aload_n 0, 1) := by decide +kernel
theorem dL_holds_192 : decode cL_holds 192 = .ok (.iload 8, 2) := by decide +kernel
theorem dL_holds_194 : decode cL_holds 194 = .ok (.bipush 6, 2) := by decide +kernel
theorem dL_holds_196 : decode cL_holds 196 = .ok (.invokevirtual 29, 3) := by decide +kernel
theorem dL_holds_199 : decode cL_holds 199 = .ok (.istore 13, 2) := by decide +kernel
theorem dL_holds_201 : decode cL_holds 201 = .ok (.iconst (-1), 1) := by decide +kernel
theorem dL_holds_202 : decode cL_holds 202 = .ok (.istore 14, 2) := by decide +kernel
theorem dL_holds_204 : decode cL_holds 204 = .ok (.iconst 0, 1) := by decide +kernel
theorem dL_holds_205 : decode cL_holds 205 = .ok (.istore 15, 2) := by decide +kernel
theorem dL_holds_207 : decode cL_holds 207 = .ok (.iconst 0, 1) := by decide +kernel
theorem dL_holds_208 : decode cL_holds 208 = .ok (.istore 16, 2) := by decide +kernel
theorem dL_holds_210 : decode cL_holds 210 = .ok (.iload 16, 2) := by decide +kernel
theorem dL_holds_212 : decode cL_holds 212 = .ok (.aload_n 0, 1) := by decide +kernel
theorem dL_holds_213 : decode cL_holds 213 = .ok (.iload 8, 2) := by decide +kernel
theorem dL_holds_215 : decode cL_holds 215 = .ok (.iconst 5, 1) := by decide +kernel
theorem dL_holds_216 : decode cL_holds 216 = .ok (.invokevirtual 29, 3) := by decide +kernel
theorem dL_holds_219 : decode cL_holds 219 = .ok (.if_icmp .ge 76, 3) := by decide +kernel
theorem dL_holds_222 : decode cL_holds 222 = .ok (.iload 7, 2) := by decide +kernel
theorem dL_holds_224 : decode cL_holds 224 = .ok (.ifCond .eq 71, 3) := by decide +kernel
theorem dL_holds_227 : decode cL_holds 227 = .ok (.aload_n 0, 1) := by decide +kernel
theorem dL_holds_228 : decode cL_holds 228 = .ok (.iload 8, 2) := by decide +kernel
theorem dL_holds_230 : decode cL_holds 230 = .ok (.iload 16, 2) := by decide +kernel
theorem dL_holds_232 : decode cL_holds 232 = .ok (.invokevirtual 36, 3) := by decide +kernel
theorem dL_holds_235 : decode cL_holds 235 = .ok (.istore 17, 2) := by decide +kernel
theorem dL_holds_237 : decode cL_holds 237 = .ok (.iload 14, 2) := by decide +kernel
theorem dL_holds_239 : decode cL_holds 239 = .ok (.iload 17, 2) := by decide +kernel
theorem dL_holds_241 : decode cL_holds 241 = .ok (.iconst 1, 1) := by decide +kernel
theorem dL_holds_242 : decode cL_holds 242 = .ok (.iadd, 1) := by decide +kernel
theorem dL_holds_243 : decode cL_holds 243 = .ok (.iadd, 1) := by decide +kernel
theorem dL_holds_244 : decode cL_holds 244 = .ok (.istore 14, 2) := by decide +kernel
theorem dL_holds_246 : decode cL_holds 246 = .ok (.iload 15, 2) := by decide +kernel
theorem dL_holds_248 : decode cL_holds 248 = .ok (.iload 17, 2) := by decide +kernel
theorem dL_holds_250 : decode cL_holds 250 = .ok (.iadd, 1) := by decide +kernel
theorem dL_holds_251 : decode cL_holds 251 = .ok (.istore 15, 2) := by decide +kernel
theorem dL_holds_253 : decode cL_holds 253 = .ok (.iload 17, 2) := by decide +kernel
theorem dL_holds_255 : decode cL_holds 255 = .ok (.iconst 1, 1) := by decide +kernel
theorem dL_holds_256 : decode cL_holds 256 = .ok (.if_icmp .lt 27, 3) := by decide +kernel
theorem dL_holds_259 : decode cL_holds 259 = .ok (.iload 15, 2) := by decide +kernel
theorem dL_holds_261 : decode cL_holds 261 = .ok (.iload 11, 2) := by decide +kernel
theorem dL_holds_263 : decode cL_holds 263 = .ok (.if_icmp .eq 16, 3) := by decide +kernel
theorem dL_holds_266 : decode cL_holds 266 = .ok (.aload_n 0, 1) := by decide +kernel
theorem dL_holds_267 : decode cL_holds 267 = .ok (.iload 8, 2) := by decide +kernel
theorem dL_holds_269 : decode cL_holds 269 = .ok (.iload 15, 2) := by decide +kernel
theorem dL_holds_271 : decode cL_holds 271 = .ok (.invokevirtual 33, 3) := by decide +kernel
theorem dL_holds_274 : decode cL_holds 274 = .ok (.bipush 32, 2) := by decide +kernel
theorem dL_holds_276 : decode cL_holds 276 = .ok (.if_icmp .ne 7, 3) := by decide +kernel
theorem dL_holds_279 : decode cL_holds 279 = .ok (.iconst 1, 1) := by decide +kernel
theorem dL_holds_280 : decode cL_holds 280 = .ok (.goto 4, 3) := by decide +kernel
theorem dL_holds_283 : decode cL_holds 283 = .ok (.iconst 0, 1) := by decide +kernel
theorem dL_holds_284 : decode cL_holds 284 = .ok (.istore 7, 2) := by decide +kernel
theorem dL_holds_286 : decode cL_holds 286 = .ok (.iinc 15 1, 3) := by decide +kernel
theorem dL_holds_289 : decode cL_holds 289 = .ok (.iinc 16 1, 3) := by decide +kernel
theorem dL_holds_292 : decode cL_holds 292 = .ok (.goto (-82), 3) := by decide +kernel
theorem dL_holds_295 : decode cL_holds 295 = .ok (.iload 4, 2) := by decide +kernel
theorem dL_holds_297 : decode cL_holds 297 = .ok (.aload_n 0, 1) := by decide +kernel
theorem dL_holds_298 : decode cL_holds 298 = .ok (.iload 8, 2) := by decide +kernel
theorem dL_holds_300 : decode cL_holds 300 = .ok (.invokestatic 41, 3) := by decide +kernel
theorem dL_holds_303 : decode cL_holds 303 = .ok (.ifCond .le 7, 3) := by decide +kernel
theorem dL_holds_306 : decode cL_holds 306 = .ok (.iconst 1, 1) := by decide +kernel
theorem dL_holds_307 : decode cL_holds 307 = .ok (.goto 4, 3) := by decide +kernel
theorem dL_holds_310 : decode cL_holds 310 = .ok (.iconst 0, 1) := by decide +kernel
theorem dL_holds_311 : decode cL_holds 311 = .ok (.iadd, 1) := by decide +kernel
theorem dL_holds_312 : decode cL_holds 312 = .ok (.istore 4, 2) := by decide +kernel
theorem dL_holds_314 : decode cL_holds 314 = .ok (.iload 5, 2) := by decide +kernel
theorem dL_holds_316 : decode cL_holds 316 = .ok (.aload_n 0, 1) := by decide +kernel
theorem dL_holds_317 : decode cL_holds 317 = .ok (.iload 8, 2) := by decide +kernel
theorem dL_holds_319 : decode cL_holds 319 = .ok (.invokestatic 41, 3) := by decide +kernel
theorem dL_holds_322 : decode cL_holds 322 = .ok (.iconst 1, 1) := by decide +kernel
theorem dL_holds_323 : decode cL_holds 323 = .ok (.iand, 1) := by decide +kernel
theorem dL_holds_324 : decode cL_holds 324 = .ok (.iadd, 1) := by decide +kernel
theorem dL_holds_325 : decode cL_holds 325 = .ok (.istore 5, 2) := by decide +kernel
theorem dL_holds_327 : decode cL_holds 327 = .ok (.iload 6, 2) := by decide +kernel
theorem dL_holds_329 : decode cL_holds 329 = .ok (.aload_n 0, 1) := by decide +kernel
theorem dL_holds_330 : decode cL_holds 330 = .ok (.iload 8, 2) := by decide +kernel
theorem dL_holds_332 : decode cL_holds 332 = .ok (.invokestatic 41, 3) := by decide +kernel
theorem dL_holds_335 : decode cL_holds 335 = .ok (.iconst 3, 1) := by decide +kernel
theorem dL_holds_336 : decode cL_holds 336 = .ok (.ishr, 1) := by decide +kernel
theorem dL_holds_337 : decode cL_holds 337 = .ok (.iconst 1, 1) := by decide +kernel
theorem dL_holds_338 : decode cL_holds 338 = .ok (.iand, 1) := by decide +kernel
theorem dL_holds_339 : decode cL_holds 339 = .ok (.iadd, 1) := by decide +kernel
theorem dL_holds_340 : decode cL_holds 340 = .ok (.istore 6, 2) := by decide +kernel
theorem dL_holds_342 : decode cL_holds 342 = .ok (.iload 7, 2) := by decide +kernel
theorem dL_holds_344 : decode cL_holds 344 = .ok (.ifCond .eq 228, 3) := by decide +kernel
theorem dL_holds_347 : decode cL_holds 347 = .ok (.iload 9, 2) := by decide +kernel
theorem dL_holds_349 : decode cL_holds 349 = .ok (.iload_n 2, 1) := by decide +kernel
theorem dL_holds_350 : decode cL_holds 350 = .ok (.if_icmp .lt 222, 3) := by decide +kernel
theorem dL_holds_353 : decode cL_holds 353 = .ok (.iload 10, 2) := by decide +kernel
theorem dL_holds_355 : decode cL_holds 355 = .ok (.iload 9, 2) := by decide +kernel
theorem dL_holds_357 : decode cL_holds 357 = .ok (.if_icmp .le 215, 3) := by decide +kernel
theorem dL_holds_360 : decode cL_holds 360 = .ok (.iload 10, 2) := by decide +kernel
theorem dL_holds_362 : decode cL_holds 362 = .ok (.sipush 5000, 3) := by decide +kernel
theorem dL_holds_365 : decode cL_holds 365 = .ok (.if_icmp .gt 207, 3) := by decide +kernel
theorem dL_holds_368 : decode cL_holds 368 = .ok (.iload 11, 2) := by decide +kernel
theorem dL_holds_370 : decode cL_holds 370 = .ok (.iconst 1, 1) := by decide +kernel
theorem dL_holds_371 : decode cL_holds 371 = .ok (.if_icmp .lt 201, 3) := by decide +kernel
theorem dL_holds_374 : decode cL_holds 374 = .ok (.iload 11, 2) := by decide +kernel
theorem dL_holds_376 : decode cL_holds 376 = .ok (.bipush 40, 2) := by decide +kernel
theorem dL_holds_378 : decode cL_holds 378 = .ok (.if_icmp .gt 194, 3) := by decide +kernel
theorem dL_holds_381 : decode cL_holds 381 = .ok (.iload 14, 2) := by decide +kernel
theorem dL_holds_383 : decode cL_holds 383 = .ok (.iload 11, 2) := by decide +kernel
theorem dL_holds_385 : decode cL_holds 385 = .ok (.if_icmp .ne 187, 3) := by decide +kernel
theorem dL_holds_388 : decode cL_holds 388 = .ok (.aload_n 0, 1) := by decide +kernel
theorem dL_holds_389 : decode cL_holds 389 = .ok (.iload 8, 2) := by decide +kernel
theorem dL_holds_391 : decode cL_holds 391 = .ok (.iconst 0, 1) := by decide +kernel
theorem dL_holds_392 : decode cL_holds 392 = .ok (.invokevirtual 33, 3) := by decide +kernel
theorem dL_holds_395 : decode cL_holds 395 = .ok (.bipush 32, 2) := by decide +kernel
theorem dL_holds_397 : decode cL_holds 397 = .ok (.if_icmp .eq 175, 3) := by decide +kernel
theorem dL_holds_400 : decode cL_holds 400 = .ok (.aload_n 0, 1) := by decide +kernel
theorem dL_holds_401 : decode cL_holds 401 = .ok (.iload 8, 2) := by decide +kernel
theorem dL_holds_403 : decode cL_holds 403 = .ok (.iload 11, 2) := by decide +kernel
theorem dL_holds_405 : decode cL_holds 405 = .ok (.iconst 1, 1) := by decide +kernel
theorem dL_holds_406 : decode cL_holds 406 = .ok (.isub, 1) := by decide +kernel
theorem dL_holds_407 : decode cL_holds 407 = .ok (.invokevirtual 33, 3) := by decide +kernel
theorem dL_holds_410 : decode cL_holds 410 = .ok (.bipush 32, 2) := by decide +kernel
theorem dL_holds_412 : decode cL_holds 412 = .ok (.if_icmp .eq 160, 3) := by decide +kernel
theorem dL_holds_415 : decode cL_holds 415 = .ok (.aload_n 0, 1) := by decide +kernel
theorem dL_holds_416 : decode cL_holds 416 = .ok (.iload 8, 2) := by decide +kernel
theorem dL_holds_418 : decode cL_holds 418 = .ok (.iload 11, 2) := by decide +kernel
theorem dL_holds_420 : decode cL_holds 420 = .ok (.invokevirtual 33, 3) := by decide +kernel
theorem dL_holds_423 : decode cL_holds 423 = .ok (.bipush (-6), 2) := by decide +kernel
theorem dL_holds_425 : decode cL_holds 425 = .ok (.if_icmp .ne 147, 3) := by decide +kernel
theorem dL_holds_428 : decode cL_holds 428 = .ok (.aload_n 0, 1) := by decide +kernel
theorem dL_holds_429 : decode cL_holds 429 = .ok (.iload 8, 2) := by decide +kernel
theorem dL_holds_431 : decode cL_holds 431 = .ok (.iconst (-1), 1) := by decide +kernel
theorem dL_holds_432 : decode cL_holds 432 = .ok (.invokevirtual 33, 3) := by decide +kernel
theorem dL_holds_435 : decode cL_holds 435 = .ok (.bipush (-2), 2) := by decide +kernel
theorem dL_holds_437 : decode cL_holds 437 = .ok (.if_icmp .ne 135, 3) := by decide +kernel
theorem dL_holds_440 : decode cL_holds 440 = .ok (.aload_n 0, 1) := by decide +kernel
theorem dL_holds_441 : decode cL_holds 441 = .ok (.iload 8, 2) := by decide +kernel
theorem dL_holds_443 : decode cL_holds 443 = .ok (.iconst 4, 1) := by decide +kernel
theorem dL_holds_444 : decode cL_holds 444 = .ok (.invokevirtual 29, 3) := by decide +kernel
theorem dL_holds_447 : decode cL_holds 447 = .ok (.aload_n 0, 1) := by decide +kernel
theorem dL_holds_448 : decode cL_holds 448 = .ok (.iload 8, 2) := by decide +kernel
theorem dL_holds_450 : decode cL_holds 450 = .ok (.invokestatic 41, 3) := by decide +kernel
theorem dL_holds_453 : decode cL_holds 453 = .ok (.if_icmp .ne 119, 3) := by decide +kernel
theorem dL_holds_456 : decode cL_holds 456 = .ok (.iload 12, 2) := by decide +kernel
theorem dL_holds_458 : decode cL_holds 458 = .ok (.aload_n 0, 1) := by decide +kernel
theorem dL_holds_459 : decode cL_holds 459 = .ok (.iconst 2, 1) := by decide +kernel
theorem dL_holds_460 : decode cL_holds 460 = .ok (.invokevirtual 13, 3) := by decide +kernel
theorem dL_holds_463 : decode cL_holds 463 = .ok (.if_icmp .lt 109, 3) := by decide +kernel
theorem dL_holds_466 : decode cL_holds 466 = .ok (.iload 12, 2) := by decide +kernel
theorem dL_holds_468 : decode cL_holds 468 = .ok (.aload_n 0, 1) := by decide +kernel
theorem dL_holds_469 : decode cL_holds 469 = .ok (.iconst 0, 1) := by decide +kernel
theorem dL_holds_470 : decode cL_holds 470 = .ok (.invokevirtual 13, 3) := by decide +kernel
theorem dL_holds_473 : decode cL_holds 473 = .ok (.imul, 1) := by decide +kernel
theorem dL_holds_474 : decode cL_holds 474 = .ok (.bipush 25, 2) := by decide +kernel
theorem dL_holds_476 : decode cL_holds 476 = .ok (.iload 11, 2) := by decide +kernel
theorem dL_holds_478 : decode cL_holds 478 = .ok (.imul, 1) := by decide +kernel
theorem dL_holds_479 : decode cL_holds 479 = .ok (.if_icmp .lt 93, 3) := by decide +kernel
theorem dL_holds_482 : decode cL_holds 482 = .ok (.iload 12, 2) := by decide +kernel
theorem dL_holds_484 : decode cL_holds 484 = .ok (.aload_n 0, 1) := by decide +kernel
theorem dL_holds_485 : decode cL_holds 485 = .ok (.iconst 2, 1) := by decide +kernel
theorem dL_holds_486 : decode cL_holds 486 = .ok (.invokevirtual 13, 3) := by decide +kernel
theorem dL_holds_489 : decode cL_holds 489 = .ok (.if_icmp .eq 21, 3) := by decide +kernel
theorem dL_holds_492 : decode cL_holds 492 = .ok (.iload 12, 2) := by decide +kernel
theorem dL_holds_494 : decode cL_holds 494 = .ok (.iconst 1, 1) := by decide +kernel
theorem dL_holds_495 : decode cL_holds 495 = .ok (.isub, 1) := by decide +kernel
theorem dL_holds_496 : decode cL_holds 496 = .ok (.aload_n 0, 1) := by decide +kernel
theorem dL_holds_497 : decode cL_holds 497 = .ok (.iconst 0, 1) := by decide +kernel
theorem dL_holds_498 : decode cL_holds 498 = .ok (.invokevirtual 13, 3) := by decide +kernel
theorem dL_holds_501 : decode cL_holds 501 = .ok (.imul, 1) := by decide +kernel
theorem dL_holds_502 : decode cL_holds 502 = .ok (.bipush 25, 2) := by decide +kernel
theorem dL_holds_504 : decode cL_holds 504 = .ok (.iload 11, 2) := by decide +kernel
theorem dL_holds_506 : decode cL_holds 506 = .ok (.imul, 1) := by decide +kernel
theorem dL_holds_507 : decode cL_holds 507 = .ok (.if_icmp .ge 65, 3) := by decide +kernel
theorem dL_holds_510 : decode cL_holds 510 = .ok (.iload 13, 2) := by decide +kernel
theorem dL_holds_512 : decode cL_holds 512 = .ok (.bipush (-6), 2) := by decide +kernel
theorem dL_holds_514 : decode cL_holds 514 = .ok (.if_icmp .eq 30, 3) := by decide +kernel
theorem dL_holds_517 : decode cL_holds 517 = .ok (.iload 13, 2) := by decide +kernel
theorem dL_holds_519 : decode cL_holds 519 = .ok (.ifCond .le 53, 3) := by decide +kernel
theorem dL_holds_522 : decode cL_holds 522 = .ok (.iload 13, 2) := by decide +kernel
theorem dL_holds_524 : decode cL_holds 524 = .ok (.iload 11, 2) := by decide +kernel
theorem dL_holds_526 : decode cL_holds 526 = .ok (.iconst 1, 1) := by decide +kernel
theorem dL_holds_527 : decode cL_holds 527 = .ok (.isub, 1) := by decide +kernel
theorem dL_holds_528 : decode cL_holds 528 = .ok (.if_icmp .ge 44, 3) := by decide +kernel
theorem dL_holds_531 : decode cL_holds 531 = .ok (.aload_n 0, 1) := by decide +kernel
theorem dL_holds_532 : decode cL_holds 532 = .ok (.iload 8, 2) := by decide +kernel
theorem dL_holds_534 : decode cL_holds 534 = .ok (.iload 13, 2) := by decide +kernel
theorem dL_holds_536 : decode cL_holds 536 = .ok (.invokevirtual 33, 3) := by decide +kernel
theorem dL_holds_539 : decode cL_holds 539 = .ok (.bipush 32, 2) := by decide +kernel
theorem dL_holds_541 : decode cL_holds 541 = .ok (.if_icmp .ne 31, 3) := by decide +kernel
theorem dL_holds_544 : decode cL_holds 544 = .ok (.aload_n 0, 1) := by decide +kernel
theorem dL_holds_545 : decode cL_holds 545 = .ok (.iload 9, 2) := by decide +kernel
theorem dL_holds_547 : decode cL_holds 547 = .ok (.invokevirtual 45, 3) := by decide +kernel
theorem dL_holds_550 : decode cL_holds 550 = .ok (.iload 8, 2) := by decide +kernel
theorem dL_holds_552 : decode cL_holds 552 = .ok (.if_icmp .ne 20, 3) := by decide +kernel
theorem dL_holds_555 : decode cL_holds 555 = .ok (.aload_n 0, 1) := by decide +kernel
theorem dL_holds_556 : decode cL_holds 556 = .ok (.iload 10, 2) := by decide +kernel
theorem dL_holds_558 : decode cL_holds 558 = .ok (.iconst 1, 1) := by decide +kernel
theorem dL_holds_559 : decode cL_holds 559 = .ok (.isub, 1) := by decide +kernel
theorem dL_holds_560 : decode cL_holds 560 = .ok (.invokevirtual 45, 3) := by decide +kernel
theorem dL_holds_563 : decode cL_holds 563 = .ok (.iload 8, 2) := by decide +kernel
theorem dL_holds_565 : decode cL_holds 565 = .ok (.if_icmp .ne 7, 3) := by decide +kernel
theorem dL_holds_568 : decode cL_holds 568 = .ok (.iconst 1, 1) := by decide +kernel
theorem dL_holds_569 : decode cL_holds 569 = .ok (.goto 4, 3) := by decide +kernel
theorem dL_holds_572 : decode cL_holds 572 = .ok (.iconst 0, 1) := by decide +kernel
theorem dL_holds_573 : decode cL_holds 573 = .ok (.istore 7, 2) := by decide +kernel
theorem dL_holds_575 : decode cL_holds 575 = .ok (.iload 10, 2) := by decide +kernel
theorem dL_holds_577 : decode cL_holds 577 = .ok (.istore_n 2, 1) := by decide +kernel
theorem dL_holds_578 : decode cL_holds 578 = .ok (.iload_n 3, 1) := by decide +kernel
theorem dL_holds_579 : decode cL_holds 579 = .ok (.iload 10, 2) := by decide +kernel
theorem dL_holds_581 : decode cL_holds 581 = .ok (.iload 9, 2) := by decide +kernel
theorem dL_holds_583 : decode cL_holds 583 = .ok (.isub, 1) := by decide +kernel
theorem dL_holds_584 : decode cL_holds 584 = .ok (.iadd, 1) := by decide +kernel
theorem dL_holds_585 : decode cL_holds 585 = .ok (.istore_n 3, 1) := by decide +kernel
theorem dL_holds_586 : decode cL_holds 586 = .ok (.iinc 8 1, 3) := by decide +kernel
theorem dL_holds_589 : decode cL_holds 589 = .ok (.goto (-445), 3) := by decide +kernel
theorem dL_holds_592 : decode cL_holds 592 = .ok (.iload 7, 2) := by decide +kernel
theorem dL_holds_594 : decode cL_holds 594 = .ok (.ifCond .eq 72, 3) := by decide +kernel
theorem dL_holds_597 : decode cL_holds 597 = .ok (.iload 4, 2) := by decide +kernel
theorem dL_holds_599 : decode cL_holds 599 = .ok (.aload_n 0, 1) := by decide +kernel
theorem dL_holds_600 : decode cL_holds 600 = .ok (.iconst 0, 1) := by decide +kernel
theorem dL_holds_601 : decode cL_holds 601 = .ok (.invokevirtual 48, 3) := by decide +kernel
theorem dL_holds_604 : decode cL_holds 604 = .ok (.if_icmp .ne 62, 3) := by decide +kernel
theorem dL_holds_607 : decode cL_holds 607 = .ok (.iload 5, 2) := by decide +kernel
theorem dL_holds_609 : decode cL_holds 609 = .ok (.aload_n 0, 1) := by decide +kernel
theorem dL_holds_610 : decode cL_holds 610 = .ok (.iconst 1, 1) := by decide +kernel
theorem dL_holds_611 : decode cL_holds 611 = .ok (.invokevirtual 48, 3) := by decide +kernel
theorem dL_holds_614 : decode cL_holds 614 = .ok (.if_icmp .ne 52, 3) := by decide +kernel
theorem dL_holds_617 : decode cL_holds 617 = .ok (.iload 6, 2) := by decide +kernel
theorem dL_holds_619 : decode cL_holds 619 = .ok (.aload_n 0, 1) := by decide +kernel
theorem dL_holds_620 : decode cL_holds 620 = .ok (.bipush 8, 2) := by decide +kernel
theorem dL_holds_622 : decode cL_holds 622 = .ok (.invokevirtual 48, 3) := by decide +kernel
theorem dL_holds_625 : decode cL_holds 625 = .ok (.if_icmp .ne 41, 3) := by decide +kernel
theorem dL_holds_628 : decode cL_holds 628 = .ok (.iload_n 3, 1) := by decide +kernel
theorem dL_holds_629 : decode cL_holds 629 = .ok (.aload_n 0, 1) := by decide +kernel
theorem dL_holds_630 : decode cL_holds 630 = .ok (.invokevirtual 51, 3) := by decide +kernel
theorem dL_holds_633 : decode cL_holds 633 = .ok (.if_icmp .ne 33, 3) := by decide +kernel
theorem dL_holds_636 : decode cL_holds 636 = .ok (.aload_n 0, 1) := by decide +kernel
theorem dL_holds_637 : decode cL_holds 637 = .ok (.invokevirtual 54, 3) := by decide +kernel
theorem dL_holds_640 : decode cL_holds 640 = .ok (.fconst 0, 1) := by decide +kernel
theorem dL_holds_641 : decode cL_holds 641 = .ok (.fcmp .l, 1) := by decide +kernel
theorem dL_holds_642 : decode cL_holds 642 = .ok (.ifCond .le 7, 3) := by decide +kernel
theorem dL_holds_645 : decode cL_holds 645 = .ok (.iconst 1, 1) := by decide +kernel
theorem dL_holds_646 : decode cL_holds 646 = .ok (.goto 4, 3) := by decide +kernel
theorem dL_holds_649 : decode cL_holds 649 = .ok (.iconst 0, 1) := by decide +kernel
theorem dL_holds_650 : decode cL_holds 650 = .ok (.iload_n 1, 1) := by decide +kernel
theorem dL_holds_651 : decode cL_holds 651 = .ok (.ifCond .le 7, 3) := by decide +kernel
theorem dL_holds_654 : decode cL_holds 654 = .ok (.iconst 1, 1) := by decide +kernel
theorem dL_holds_655 : decode cL_holds 655 = .ok (.goto 4, 3) := by decide +kernel
theorem dL_holds_658 : decode cL_holds 658 = .ok (.iconst 0, 1) := by decide +kernel
theorem dL_holds_659 : decode cL_holds 659 = .ok (.if_icmp .ne 7, 3) := by decide +kernel
theorem dL_holds_662 : decode cL_holds 662 = .ok (.iconst 1, 1) := by decide +kernel
theorem dL_holds_663 : decode cL_holds 663 = .ok (.goto 4, 3) := by decide +kernel
theorem dL_holds_666 : decode cL_holds 666 = .ok (.iconst 0, 1) := by decide +kernel
theorem dL_holds_667 : decode cL_holds 667 = .ok (.ireturn, 1) := by decide +kernel
theorem dL_would_0 : decode cL_would 0 = .ok (.aload_n 0, 1) := by decide +kernel
theorem dL_would_1 : decode cL_would 1 = .ok (.invokevirtual 26, 3) := by decide +kernel
theorem dL_would_4 : decode cL_would 4 = .ok (.istore_n 2, 1) := by decide +kernel
theorem dL_would_5 : decode cL_would 5 = .ok (.iload_n 1, 1) := by decide +kernel
theorem dL_would_6 : decode cL_would 6 = .ok (.bipush 62, 2) := by decide +kernel
theorem dL_would_8 : decode cL_would 8 = .ok (.invokestatic 58, 3) := by decide +kernel
theorem dL_would_11 : decode cL_would 11 = .ok (.istore_n 3, 1) := by decide +kernel
theorem dL_would_12 : decode cL_would 12 = .ok (.aload_n 0, 1) := by decide +kernel
theorem dL_would_13 : decode cL_would 13 = .ok (.iload_n 3, 1) := by decide +kernel
theorem dL_would_14 : decode cL_would 14 = .ok (.invokevirtual 61, 3) := by decide +kernel
theorem dL_would_17 : decode cL_would 17 = .ok (.istore 4, 2) := by decide +kernel
theorem dL_would_19 : decode cL_would 19 = .ok (.aload_n 0, 1) := by decide +kernel
theorem dL_would_20 : decode cL_would 20 = .ok (.invokevirtual 64, 3) := by decide +kernel
theorem dL_would_23 : decode cL_would 23 = .ok (.istore 5, 2) := by decide +kernel
theorem dL_would_25 : decode cL_would 25 = .ok (.iload_n 1, 1) := by decide +kernel
theorem dL_would_26 : decode cL_would 26 = .ok (.bipush 6, 2) := by decide +kernel
theorem dL_would_28 : decode cL_would 28 = .ok (.ishr, 1) := by decide +kernel
theorem dL_would_29 : decode cL_would 29 = .ok (.iconst 5, 1) := by decide +kernel
theorem dL_would_30 : decode cL_would 30 = .ok (.invokestatic 58, 3) := by decide +kernel
theorem dL_would_33 : decode cL_would 33 = .ok (.iconst 1, 1) := by decide +kernel
theorem dL_would_34 : decode cL_would 34 = .ok (.isub, 1) := by decide +kernel
theorem dL_would_35 : decode cL_would 35 = .ok (.istore 6, 2) := by decide +kernel
theorem dL_would_37 : decode cL_would 37 = .ok (.aload_n 0, 1) := by decide +kernel
theorem dL_would_38 : decode cL_would 38 = .ok (.iload 6, 2) := by decide +kernel
theorem dL_would_40 : decode cL_would 40 = .ok (.invokevirtual 67, 3) := by decide +kernel
theorem dL_would_43 : decode cL_would 43 = .ok (.istore 7, 2) := by decide +kernel
theorem dL_would_45 : decode cL_would 45 = .ok (.aload_n 0, 1) := by decide +kernel
theorem dL_would_46 : decode cL_would 46 = .ok (.invokevirtual 70, 3) := by decide +kernel
theorem dL_would_49 : decode cL_would 49 = .ok (.istore 8, 2) := by decide +kernel
theorem dL_would_51 : decode cL_would 51 = .ok (.iload_n 1, 1) := by decide +kernel
theorem dL_would_52 : decode cL_would 52 = .ok (.iconst 4, 1) := by decide +kernel
theorem dL_would_53 : decode cL_would 53 = .ok (.ishr, 1) := by decide +kernel
theorem dL_would_54 : decode cL_would 54 = .ok (.sipush 5002, 3) := by decide +kernel
theorem dL_would_57 : decode cL_would 57 = .ok (.invokestatic 58, 3) := by decide +kernel
theorem dL_would_60 : decode cL_would 60 = .ok (.iconst 1, 1) := by decide +kernel
theorem dL_would_61 : decode cL_would 61 = .ok (.isub, 1) := by decide +kernel
theorem dL_would_62 : decode cL_would 62 = .ok (.istore 9, 2) := by decide +kernel
theorem dL_would_64 : decode cL_would 64 = .ok (.aload_n 0, 1) := by decide +kernel
theorem dL_would_65 : decode cL_would 65 = .ok (.iload 9, 2) := by decide +kernel
theorem dL_would_67 : decode cL_would 67 = .ok (.invokevirtual 45, 3) := by decide +kernel
theorem dL_would_70 : decode cL_would 70 = .ok (.istore 10, 2) := by decide +kernel
theorem dL_would_72 : decode cL_would 72 = .ok (.iload_n 1, 1) := by decide +kernel
theorem dL_would_73 : decode cL_would 73 = .ok (.bipush 9, 2) := by decide +kernel
theorem dL_would_75 : decode cL_would 75 = .ok (.ishr, 1) := by decide +kernel
theorem dL_would_76 : decode cL_would 76 = .ok (.bipush 66, 2) := by decide +kernel
theorem dL_would_78 : decode cL_would 78 = .ok (.invokestatic 58, 3) := by decide +kernel
theorem dL_would_81 : decode cL_would 81 = .ok (.iconst 1, 1) := by decide +kernel
theorem dL_would_82 : decode cL_would 82 = .ok (.isub, 1) := by decide +kernel
theorem dL_would_83 : decode cL_would 83 = .ok (.istore 11, 2) := by decide +kernel
theorem dL_would_85 : decode cL_would 85 = .ok (.aload_n 0, 1) := by decide +kernel
theorem dL_would_86 : decode cL_would 86 = .ok (.iload 11, 2) := by decide +kernel
theorem dL_would_88 : decode cL_would 88 = .ok (.invokevirtual 48, 3) := by decide +kernel
theorem dL_would_91 : decode cL_would 91 = .ok (.istore 12, 2) := by decide +kernel
theorem dL_would_93 : decode cL_would 93 = .ok (.iload 11, 2) := by decide +kernel
theorem dL_would_95 : decode cL_would 95 = .ok (.ifCond .eq 42, 3) := by decide +kernel
theorem dL_would_98 : decode cL_would 98 = .ok (.iload 11, 2) := by decide +kernel
theorem dL_would_100 : decode cL_would 100 = .ok (.iconst 1, 1) := by decide +kernel
theorem dL_would_101 : decode cL_would 101 = .ok (.if_icmp .eq 36, 3) := by decide +kernel
theorem dL_would_104 : decode cL_would 104 = .ok (.iload 11, 2) := by decide +kernel
theorem dL_would_106 : decode cL_would 106 = .ok (.iconst 2, 1) := by decide +kernel
theorem dL_would_107 : decode cL_would 107 = .ok (.if_icmp .eq 30, 3) := by decide +kernel
theorem dL_would_110 : decode cL_would 110 = .ok (.iload 11, 2) := by decide +kernel
theorem dL_would_112 : decode cL_would 112 = .ok (.iconst 4, 1) := by decide +kernel
theorem dL_would_113 : decode cL_would 113 = .ok (.if_icmp .eq 24, 3) := by decide +kernel
theorem dL_would_116 : decode cL_would 116 = .ok (.iload 11, 2) := by decide +kernel
theorem dL_would_118 : decode cL_would 118 = .ok (.bipush 8, 2) := by decide +kernel
theorem dL_would_120 : decode cL_would 120 = .ok (.if_icmp .eq 17, 3) := by decide +kernel
theorem dL_would_123 : decode cL_would 123 = .ok (.iload 11, 2) := by decide +kernel
theorem dL_would_125 : decode cL_would 125 = .ok (.bipush 16, 2) := by decide +kernel
theorem dL_would_127 : decode cL_would 127 = .ok (.if_icmp .eq 10, 3) := by decide +kernel
theorem dL_would_130 : decode cL_would 130 = .ok (.iload 11, 2) := by decide +kernel
theorem dL_would_132 : decode cL_would 132 = .ok (.bipush 32, 2) := by decide +kernel
theorem dL_would_134 : decode cL_would 134 = .ok (.if_icmp .ne 7, 3) := by decide +kernel
theorem dL_would_137 : decode cL_would 137 = .ok (.iconst 1, 1) := by decide +kernel
theorem dL_would_138 : decode cL_would 138 = .ok (.goto 4, 3) := by decide +kernel
theorem dL_would_141 : decode cL_would 141 = .ok (.iconst 0, 1) := by decide +kernel
theorem dL_would_142 : decode cL_would 142 = .ok (.istore 13, 2) := by decide +kernel
theorem dL_would_144 : decode cL_would 144 = .ok (.iload_n 3, 1) := by decide +kernel
theorem dL_would_145 : decode cL_would 145 = .ok (.ifCond .eq 9, 3) := by decide +kernel
theorem dL_would_148 : decode cL_would 148 = .ok (.iload_n 3, 1) := by decide +kernel
theorem dL_would_149 : decode cL_would 149 = .ok (.bipush 61, 2) := by decide +kernel
theorem dL_would_151 : decode cL_would 151 = .ok (.if_icmp .ne 13, 3) := by decide +kernel
theorem dL_would_154 : decode cL_would 154 = .ok (.iload 4, 2) := by decide +kernel
theorem dL_would_156 : decode cL_would 156 = .ok (.bipush (-2), 2) := by decide +kernel
theorem dL_would_158 : decode cL_would 158 = .ok (.if_icmp .ne 123, 3) := by decide +kernel
theorem dL_would_161 : decode cL_would 161 = .ok (.goto 49, 3) := by decide +kernel
theorem dL_would_164 : decode cL_would 164 = .ok (.iload 4, 2) := by decide +kernel
theorem dL_would_166 : decode cL_would 166 = .ok (.ifCond .lt 115, 3) := by decide +kernel
theorem dL_would_169 : decode cL_would 169 = .ok (.iload 4, 2) := by decide +kernel
theorem dL_would_171 : decode cL_would 171 = .ok (.iload_n 2, 1) := by decide +kernel
theorem dL_would_172 : decode cL_would 172 = .ok (.if_icmp .gt 109, 3) := by decide +kernel
theorem dL_would_175 : decode cL_would 175 = .ok (.iload 5, 2) := by decide +kernel
theorem dL_would_177 : decode cL_would 177 = .ok (.bipush (-6), 2) := by decide +kernel
theorem dL_would_179 : decode cL_would 179 = .ok (.if_icmp .ne 12, 3) := by decide +kernel
theorem dL_would_182 : decode cL_would 182 = .ok (.iload_n 3, 1) := by decide +kernel
theorem dL_would_183 : decode cL_would 183 = .ok (.bipush 61, 2) := by decide +kernel
theorem dL_would_185 : decode cL_would 185 = .ok (.if_icmp .ge 96, 3) := by decide +kernel
theorem dL_would_188 : decode cL_would 188 = .ok (.goto 22, 3) := by decide +kernel
theorem dL_would_191 : decode cL_would 191 = .ok (.iload_n 3, 1) := by decide +kernel
theorem dL_would_192 : decode cL_would 192 = .ok (.iload 5, 2) := by decide +kernel
theorem dL_would_194 : decode cL_would 194 = .ok (.if_icmp .ge 11, 3) := by decide +kernel
theorem dL_would_197 : decode cL_would 197 = .ok (.iload 4, 2) := by decide +kernel
theorem dL_would_199 : decode cL_would 199 = .ok (.ifCond .le 82, 3) := by decide +kernel
theorem dL_would_202 : decode cL_would 202 = .ok (.goto 8, 3) := by decide +kernel
theorem dL_would_205 : decode cL_would 205 = .ok (.iload 4, 2) := by decide +kernel
theorem dL_would_207 : decode cL_would 207 = .ok (.ifCond .ne 74, 3) := by decide +kernel
theorem dL_would_210 : decode cL_would 210 = .ok (.iload 6, 2) := by decide +kernel
theorem dL_would_212 : decode cL_would 212 = .ok (.ifCond .lt 9, 3) := by decide +kernel
theorem dL_would_215 : decode cL_would 215 = .ok (.iload 6, 2) := by decide +kernel
theorem dL_would_217 : decode cL_would 217 = .ok (.iconst 2, 1) := by decide +kernel
theorem dL_would_218 : decode cL_would 218 = .ok (.if_icmp .le 13, 3) := by decide +kernel
theorem dL_would_221 : decode cL_would 221 = .ok (.iload 7, 2) := by decide +kernel
theorem dL_would_223 : decode cL_would 223 = .ok (.bipush (-2), 2) := by decide +kernel
theorem dL_would_225 : decode cL_would 225 = .ok (.if_icmp .ne 56, 3) := by decide +kernel
theorem dL_would_228 : decode cL_would 228 = .ok (.goto 37, 3) := by decide +kernel
theorem dL_would_231 : decode cL_would 231 = .ok (.iload 6, 2) := by decide +kernel
theorem dL_would_233 : decode cL_would 233 = .ok (.iconst 2, 1) := by decide +kernel
theorem dL_would_234 : decode cL_would 234 = .ok (.if_icmp .ge 17, 3) := by decide +kernel
theorem dL_would_237 : decode cL_would 237 = .ok (.iload 7, 2) := by decide +kernel
theorem dL_would_239 : decode cL_would 239 = .ok (.ifCond .lt 42, 3) := by decide +kernel
theorem dL_would_242 : decode cL_would 242 = .ok (.iload 7, 2) := by decide +kernel
theorem dL_would_244 : decode cL_would 244 = .ok (.iload_n 2, 1) := by decide +kernel
theorem dL_would_245 : decode cL_would 245 = .ok (.if_icmp .gt 36, 3) := by decide +kernel
theorem dL_would_248 : decode cL_would 248 = .ok (.goto 17, 3) := by decide +kernel
theorem dL_would_251 : decode cL_would 251 = .ok (.iload 7, 2) := by decide +kernel
theorem dL_would_253 : decode cL_would 253 = .ok (.iload_n 2, 1) := by decide +kernel
theorem dL_would_254 : decode cL_would 254 = .ok (.if_icmp .lt 27, 3) := by decide +kernel
theorem dL_would_257 : decode cL_would 257 = .ok (.iload 7, 2) := by decide +kernel
theorem dL_would_259 : decode cL_would 259 = .ok (.sipush 5000, 3) := by decide +kernel
theorem dL_would_262 : decode cL_would 262 = .ok (.if_icmp .gt 19, 3) := by decide +kernel
theorem dL_would_265 : decode cL_would 265 = .ok (.iload 8, 2) := by decide +kernel
theorem dL_would_267 : decode cL_would 267 = .ok (.ifCond .lt 14, 3) := by decide +kernel
theorem dL_would_270 : decode cL_would 270 = .ok (.iload 8, 2) := by decide +kernel
theorem dL_would_272 : decode cL_would 272 = .ok (.bipush 20, 2) := by decide +kernel
theorem dL_would_274 : decode cL_would 274 = .ok (.if_icmp .gt 7, 3) := by decide +kernel
theorem dL_would_277 : decode cL_would 277 = .ok (.iconst 1, 1) := by decide +kernel
theorem dL_would_278 : decode cL_would 278 = .ok (.goto 4, 3) := by decide +kernel
theorem dL_would_281 : decode cL_would 281 = .ok (.iconst 0, 1) := by decide +kernel
theorem dL_would_282 : decode cL_would 282 = .ok (.istore 14, 2) := by decide +kernel
theorem dL_would_284 : decode cL_would 284 = .ok (.iload 14, 2) := by decide +kernel
theorem dL_would_286 : decode cL_would 286 = .ok (.ifCond .eq 102, 3) := by decide +kernel
theorem dL_would_289 : decode cL_would 289 = .ok (.iload 9, 2) := by decide +kernel
theorem dL_would_291 : decode cL_would 291 = .ok (.ifCond .lt 11, 3) := by decide +kernel
theorem dL_would_294 : decode cL_would 294 = .ok (.iload 9, 2) := by decide +kernel
theorem dL_would_296 : decode cL_would 296 = .ok (.sipush 5000, 3) := by decide +kernel
theorem dL_would_299 : decode cL_would 299 = .ok (.if_icmp .ne 13, 3) := by decide +kernel
theorem dL_would_302 : decode cL_would 302 = .ok (.iload 10, 2) := by decide +kernel
theorem dL_would_304 : decode cL_would 304 = .ok (.bipush (-2), 2) := by decide +kernel
theorem dL_would_306 : decode cL_would 306 = .ok (.if_icmp .ne 82, 3) := by decide +kernel
theorem dL_would_309 : decode cL_would 309 = .ok (.goto 45, 3) := by decide +kernel
theorem dL_would_312 : decode cL_would 312 = .ok (.iload 10, 2) := by decide +kernel
theorem dL_would_314 : decode cL_would 314 = .ok (.bipush (-6), 2) := by decide +kernel
theorem dL_would_316 : decode cL_would 316 = .ok (.if_icmp .eq 38, 3) := by decide +kernel
theorem dL_would_319 : decode cL_would 319 = .ok (.iload 10, 2) := by decide +kernel
theorem dL_would_321 : decode cL_would 321 = .ok (.ifCond .lt 67, 3) := by decide +kernel
theorem dL_would_324 : decode cL_would 324 = .ok (.iload 10, 2) := by decide +kernel
theorem dL_would_326 : decode cL_would 326 = .ok (.iload_n 2, 1) := by decide +kernel
theorem dL_would_327 : decode cL_would 327 = .ok (.if_icmp .ge 61, 3) := by decide +kernel
theorem dL_would_330 : decode cL_would 330 = .ok (.aload_n 0, 1) := by decide +kernel
theorem dL_would_331 : decode cL_would 331 = .ok (.iload 10, 2) := by decide +kernel
theorem dL_would_333 : decode cL_would 333 = .ok (.iconst 0, 1) := by decide +kernel
theorem dL_would_334 : decode cL_would 334 = .ok (.invokevirtual 29, 3) := by decide +kernel
theorem dL_would_337 : decode cL_would 337 = .ok (.iload 9, 2) := by decide +kernel
theorem dL_would_339 : decode cL_would 339 = .ok (.if_icmp .gt 49, 3) := by decide +kernel
theorem dL_would_342 : decode cL_would 342 = .ok (.aload_n 0, 1) := by decide +kernel
theorem dL_would_343 : decode cL_would 343 = .ok (.iload 10, 2) := by decide +kernel
theorem dL_would_345 : decode cL_would 345 = .ok (.iconst 1, 1) := by decide +kernel
theorem dL_would_346 : decode cL_would 346 = .ok (.invokevirtual 29, 3) := by decide +kernel
theorem dL_would_349 : decode cL_would 349 = .ok (.iload 9, 2) := by decide +kernel
theorem dL_would_351 : decode cL_would 351 = .ok (.if_icmp .le 37, 3) := by decide +kernel
theorem dL_would_354 : decode cL_would 354 = .ok (.iload 13, 2) := by decide +kernel
theorem dL_would_356 : decode cL_would 356 = .ok (.ifCond .eq 21, 3) := by decide +kernel
theorem dL_would_359 : decode cL_would 359 = .ok (.iload 12, 2) := by decide +kernel
theorem dL_would_361 : decode cL_would 361 = .ok (.ifCond .lt 27, 3) := by decide +kernel
theorem dL_would_364 : decode cL_would 364 = .ok (.iload 12, 2) := by decide +kernel
theorem dL_would_366 : decode cL_would 366 = .ok (.aload_n 0, 1) := by decide +kernel
theorem dL_would_367 : decode cL_would 367 = .ok (.iconst 0, 1) := by decide +kernel
theorem dL_would_368 : decode cL_would 368 = .ok (.invokevirtual 48, 3) := by decide +kernel
theorem dL_would_371 : decode cL_would 371 = .ok (.if_icmp .gt 17, 3) := by decide +kernel
theorem dL_would_374 : decode cL_would 374 = .ok (.goto 10, 3) := by decide +kernel
theorem dL_would_377 : decode cL_would 377 = .ok (.iload 12, 2) := by decide +kernel
theorem dL_would_379 : decode cL_would 379 = .ok (.bipush (-2), 2) := by decide +kernel
theorem dL_would_381 : decode cL_would 381 = .ok (.if_icmp .ne 7, 3) := by decide +kernel
theorem dL_would_384 : decode cL_would 384 = .ok (.iconst 1, 1) := by decide +kernel
theorem dL_would_385 : decode cL_would 385 = .ok (.goto 4, 3) := by decide +kernel
theorem dL_would_388 : decode cL_would 388 = .ok (.iconst 0, 1) := by decide +kernel
theorem dL_would_389 : decode cL_would 389 = .ok (.ireturn, 1) := by decide +kernel
theorem dL_digits_0 : decode cL_digits 0 = .ok (.iload_n 1, 1) := by decide +kernel
theorem dL_digits_1 : decode cL_digits 1 = .ok (.sipush 1000, 3) := by decide +kernel
theorem dL_digits_4 : decode cL_digits 4 = .ok (.if_icmp .lt 18, 3) := by decide +kernel
theorem dL_digits_7 : decode cL_digits 7 = .ok (.aload_n 0, 1) := by decide +kernel
theorem dL_digits_8 : decode cL_digits 8 = .ok (.bipush 48, 2) := by decide +kernel
theorem dL_digits_10 : decode cL_digits 10 = .ok (.iload_n 1, 1) := by decide +kernel
theorem dL_digits_11 : decode cL_digits 11 = .ok (.sipush 1000, 3) := by decide +kernel
theorem dL_digits_14 : decode cL_digits 14 = .ok (.idiv, 1) := by decide +kernel
theorem dL_digits_15 : decode cL_digits 15 = .ok (.iadd, 1) := by decide +kernel
theorem dL_digits_16 : decode cL_digits 16 = .ok (.invokevirtual 73, 3) := by decide +kernel
theorem dL_digits_19 : decode cL_digits 19 = .ok (.ifCond .le 67, 3) := by decide +kernel
theorem dL_digits_22 : decode cL_digits 22 = .ok (.iload_n 1, 1) := by decide +kernel
theorem dL_digits_23 : decode cL_digits 23 = .ok (.bipush 100, 2) := by decide +kernel
theorem dL_digits_25 : decode cL_digits 25 = .ok (.if_icmp .lt 20, 3) := by decide +kernel
theorem dL_digits_28 : decode cL_digits 28 = .ok (.aload_n 0, 1) := by decide +kernel
theorem dL_digits_29 : decode cL_digits 29 = .ok (.bipush 48, 2) := by decide +kernel
theorem dL_digits_31 : decode cL_digits 31 = .ok (.iload_n 1, 1) := by decide +kernel
theorem dL_digits_32 : decode cL_digits 32 = .ok (.bipush 100, 2) := by decide +kernel
theorem dL_digits_34 : decode cL_digits 34 = .ok (.idiv, 1) := by decide +kernel
theorem dL_digits_35 : decode cL_digits 35 = .ok (.bipush 10, 2) := by decide +kernel
theorem dL_digits_37 : decode cL_digits 37 = .ok (.irem, 1) := by decide +kernel
theorem dL_digits_38 : decode cL_digits 38 = .ok (.iadd, 1) := by decide +kernel
theorem dL_digits_39 : decode cL_digits 39 = .ok (.invokevirtual 73, 3) := by decide +kernel
theorem dL_digits_42 : decode cL_digits 42 = .ok (.ifCond .le 44, 3) := by decide +kernel
theorem dL_digits_45 : decode cL_digits 45 = .ok (.iload_n 1, 1) := by decide +kernel
theorem dL_digits_46 : decode cL_digits 46 = .ok (.bipush 10, 2) := by decide +kernel
theorem dL_digits_48 : decode cL_digits 48 = .ok (.if_icmp .lt 20, 3) := by decide +kernel
theorem dL_digits_51 : decode cL_digits 51 = .ok (.aload_n 0, 1) := by decide +kernel
theorem dL_digits_52 : decode cL_digits 52 = .ok (.bipush 48, 2) := by decide +kernel
theorem dL_digits_54 : decode cL_digits 54 = .ok (.iload_n 1, 1) := by decide +kernel
theorem dL_digits_55 : decode cL_digits 55 = .ok (.bipush 10, 2) := by decide +kernel
theorem dL_digits_57 : decode cL_digits 57 = .ok (.idiv, 1) := by decide +kernel
theorem dL_digits_58 : decode cL_digits 58 = .ok (.bipush 10, 2) := by decide +kernel
theorem dL_digits_60 : decode cL_digits 60 = .ok (.irem, 1) := by decide +kernel
theorem dL_digits_61 : decode cL_digits 61 = .ok (.iadd, 1) := by decide +kernel
theorem dL_digits_62 : decode cL_digits 62 = .ok (.invokevirtual 73, 3) := by decide +kernel
theorem dL_digits_65 : decode cL_digits 65 = .ok (.ifCond .le 21, 3) := by decide +kernel
theorem dL_digits_68 : decode cL_digits 68 = .ok (.aload_n 0, 1) := by decide +kernel
theorem dL_digits_69 : decode cL_digits 69 = .ok (.bipush 48, 2) := by decide +kernel
theorem dL_digits_71 : decode cL_digits 71 = .ok (.iload_n 1, 1) := by decide +kernel
theorem dL_digits_72 : decode cL_digits 72 = .ok (.bipush 10, 2) := by decide +kernel
theorem dL_digits_74 : decode cL_digits 74 = .ok (.irem, 1) := by decide +kernel
theorem dL_digits_75 : decode cL_digits 75 = .ok (.iadd, 1) := by decide +kernel
theorem dL_digits_76 : decode cL_digits 76 = .ok (.invokevirtual 73, 3) := by decide +kernel
theorem dL_digits_79 : decode cL_digits 79 = .ok (.ifCond .le 7, 3) := by decide +kernel
theorem dL_digits_82 : decode cL_digits 82 = .ok (.iconst 1, 1) := by decide +kernel
theorem dL_digits_83 : decode cL_digits 83 = .ok (.goto 4, 3) := by decide +kernel
theorem dL_digits_86 : decode cL_digits 86 = .ok (.iconst 0, 1) := by decide +kernel
theorem dL_digits_87 : decode cL_digits 87 = .ok (.ireturn, 1) := by decide +kernel
theorem dL_types_0 : decode cL_types 0 = .ok (.iload_n 1, 1) := by decide +kernel
theorem dL_types_1 : decode cL_types 1 = .ok (.iconst 4, 1) := by decide +kernel
theorem dL_types_2 : decode cL_types 2 = .ok (.invokestatic 58, 3) := by decide +kernel
theorem dL_types_5 : decode cL_types 5 = .ok (.istore_n 2, 1) := by decide +kernel
theorem dL_types_6 : decode cL_types 6 = .ok (.aload_n 0, 1) := by decide +kernel
theorem dL_types_7 : decode cL_types 7 = .ok (.invokevirtual 76, 3) := by decide +kernel
theorem dL_types_10 : decode cL_types 10 = .ok (.ifCond .lt 7, 3) := by decide +kernel
theorem dL_types_13 : decode cL_types 13 = .ok (.iconst 1, 1) := by decide +kernel
theorem dL_types_14 : decode cL_types 14 = .ok (.goto 4, 3) := by decide +kernel
theorem dL_types_17 : decode cL_types 17 = .ok (.iconst 0, 1) := by decide +kernel
theorem dL_types_18 : decode cL_types 18 = .ok (.istore_n 3, 1) := by decide +kernel
theorem dL_types_19 : decode cL_types 19 = .ok (.iconst 0, 1) := by decide +kernel
theorem dL_types_20 : decode cL_types 20 = .ok (.istore 4, 2) := by decide +kernel
theorem dL_types_22 : decode cL_types 22 = .ok (.iload 4, 2) := by decide +kernel
theorem dL_types_24 : decode cL_types 24 = .ok (.iload_n 2, 1) := by decide +kernel
theorem dL_types_25 : decode cL_types 25 = .ok (.if_icmp .ge 278, 3) := by decide +kernel
theorem dL_types_28 : decode cL_types 28 = .ok (.iload_n 1, 1) := by decide +kernel
theorem dL_types_29 : decode cL_types 29 = .ok (.iconst 2, 1) := by decide +kernel
theorem dL_types_30 : decode cL_types 30 = .ok (.iconst 4, 1) := by decide +kernel
theorem dL_types_31 : decode cL_types 31 = .ok (.iload 4, 2) := by decide +kernel
theorem dL_types_33 : decode cL_types 33 = .ok (.imul, 1) := by decide +kernel
theorem dL_types_34 : decode cL_types 34 = .ok (.iadd, 1) := by decide +kernel
theorem dL_types_35 : decode cL_types 35 = .ok (.ishr, 1) := by decide +kernel
theorem dL_types_36 : decode cL_types 36 = .ok (.istore 5, 2) := by decide +kernel
theorem dL_types_38 : decode cL_types 38 = .ok (.iload 5, 2) := by decide +kernel
theorem dL_types_40 : decode cL_types 40 = .ok (.iload_n 1, 1) := by decide +kernel
theorem dL_types_41 : decode cL_types 41 = .ok (.bipush 22, 2) := by decide +kernel
theorem dL_types_43 : decode cL_types 43 = .ok (.ishr, 1) := by decide +kernel
theorem dL_types_44 : decode cL_types 44 = .ok (.iconst 5, 1) := by decide +kernel
theorem dL_types_45 : decode cL_types 45 = .ok (.invokestatic 58, 3) := by decide +kernel
theorem dL_types_48 : decode cL_types 48 = .ok (.ifCond .ne 9, 3) := by decide +kernel
theorem dL_types_51 : decode cL_types 51 = .ok (.sipush 5050, 3) := by decide +kernel
theorem dL_types_54 : decode cL_types 54 = .ok (.goto 6, 3) := by decide +kernel
theorem dL_types_57 : decode cL_types 57 = .ok (.sipush 700, 3) := by decide +kernel
theorem dL_types_60 : decode cL_types 60 = .ok (.invokestatic 58, 3) := by decide +kernel
theorem dL_types_63 : decode cL_types 63 = .ok (.istore 6, 2) := by decide +kernel
theorem dL_types_65 : decode cL_types 65 = .ok (.iload 6, 2) := by decide +kernel
theorem dL_types_67 : decode cL_types 67 = .ok (.iload 5, 2) := by decide +kernel
theorem dL_types_69 : decode cL_types 69 = .ok (.iconst 4, 1) := by decide +kernel
theorem dL_types_70 : decode cL_types 70 = .ok (.ishr, 1) := by decide +kernel
theorem dL_types_71 : decode cL_types 71 = .ok (.bipush 60, 2) := by decide +kernel
theorem dL_types_73 : decode cL_types 73 = .ok (.invokestatic 58, 3) := by decide +kernel
theorem dL_types_76 : decode cL_types 76 = .ok (.iadd, 1) := by decide +kernel
theorem dL_types_77 : decode cL_types 77 = .ok (.iload 5, 2) := by decide +kernel
theorem dL_types_79 : decode cL_types 79 = .ok (.bipush 9, 2) := by decide +kernel
theorem dL_types_81 : decode cL_types 81 = .ok (.ishr, 1) := by decide +kernel
theorem dL_types_82 : decode cL_types 82 = .ok (.bipush 7, 2) := by decide +kernel
theorem dL_types_84 : decode cL_types 84 = .ok (.invokestatic 58, 3) := by decide +kernel
theorem dL_types_87 : decode cL_types 87 = .ok (.ifCond .ne 8, 3) := by decide +kernel
theorem dL_types_90 : decode cL_types 90 = .ok (.bipush 20, 2) := by decide +kernel
theorem dL_types_92 : decode cL_types 92 = .ok (.goto 4, 3) := by decide +kernel
theorem dL_types_95 : decode cL_types 95 = .ok (.iconst 0, 1) := by decide +kernel
theorem dL_types_96 : decode cL_types 96 = .ok (.isub, 1) := by decide +kernel
theorem dL_types_97 : decode cL_types 97 = .ok (.istore 7, 2) := by decide +kernel
theorem dL_types_99 : decode cL_types 99 = .ok (.bipush 32, 2) := by decide +kernel
theorem dL_types_101 : decode cL_types 101 = .ok (.istore 8, 2) := by decide +kernel
theorem dL_types_103 : decode cL_types 103 = .ok (.iload_n 3, 1) := by decide +kernel
theorem dL_types_104 : decode cL_types 104 = .ok (.ifCond .eq 66, 3) := by decide +kernel
theorem dL_types_107 : decode cL_types 107 = .ok (.iload 4, 2) := by decide +kernel
theorem dL_types_109 : decode cL_types 109 = .ok (.ifCond .eq 12, 3) := by decide +kernel
theorem dL_types_112 : decode cL_types 112 = .ok (.aload_n 0, 1) := by decide +kernel
theorem dL_types_113 : decode cL_types 113 = .ok (.bipush 124, 2) := by decide +kernel
theorem dL_types_115 : decode cL_types 115 = .ok (.invokevirtual 73, 3) := by decide +kernel
theorem dL_types_118 : decode cL_types 118 = .ok (.ifCond .le 52, 3) := by decide +kernel
theorem dL_types_121 : decode cL_types 121 = .ok (.aload_n 0, 1) := by decide +kernel
theorem dL_types_122 : decode cL_types 122 = .ok (.iload 6, 2) := by decide +kernel
theorem dL_types_124 : decode cL_types 124 = .ok (.invokestatic 79, 3) := by decide +kernel
theorem dL_types_127 : decode cL_types 127 = .ok (.ifCond .eq 43, 3) := by decide +kernel
theorem dL_types_130 : decode cL_types 130 = .ok (.aload_n 0, 1) := by decide +kernel
theorem dL_types_131 : decode cL_types 131 = .ok (.bipush 45, 2) := by decide +kernel
theorem dL_types_133 : decode cL_types 133 = .ok (.invokevirtual 73, 3) := by decide +kernel
theorem dL_types_136 : decode cL_types 136 = .ok (.ifCond .le 34, 3) := by decide +kernel
theorem dL_types_139 : decode cL_types 139 = .ok (.aload_n 0, 1) := by decide +kernel
theorem dL_types_140 : decode cL_types 140 = .ok (.iload 7, 2) := by decide +kernel
theorem dL_types_142 : decode cL_types 142 = .ok (.ifCond .ge 7, 3) := by decide +kernel
theorem dL_types_145 : decode cL_types 145 = .ok (.iconst 0, 1) := by decide +kernel
theorem dL_types_146 : decode cL_types 146 = .ok (.goto 5, 3) := by decide +kernel
theorem dL_types_149 : decode cL_types 149 = .ok (.iload 7, 2) := by decide +kernel
theorem dL_types_151 : decode cL_types 151 = .ok (.invokestatic 79, 3) := by decide +kernel
theorem dL_types_154 : decode cL_types 154 = .ok (.ifCond .eq 16, 3) := by decide +kernel
theorem dL_types_157 : decode cL_types 157 = .ok (.aload_n 0, 1) := by decide +kernel
theorem dL_types_158 : decode cL_types 158 = .ok (.bipush 58, 2) := by decide +kernel
theorem dL_types_160 : decode cL_types 160 = .ok (.invokevirtual 73, 3) := by decide +kernel
theorem dL_types_163 : decode cL_types 163 = .ok (.ifCond .le 7, 3) := by decide +kernel
theorem dL_types_166 : decode cL_types 166 = .ok (.iconst 1, 1) := by decide +kernel
theorem dL_types_167 : decode cL_types 167 = .ok (.goto 4, 3) := by decide +kernel
theorem dL_types_170 : decode cL_types 170 = .ok (.iconst 0, 1) := by decide +kernel
theorem dL_types_171 : decode cL_types 171 = .ok (.istore_n 3, 1) := by decide +kernel
theorem dL_types_172 : decode cL_types 172 = .ok (.iconst 0, 1) := by decide +kernel
theorem dL_types_173 : decode cL_types 173 = .ok (.istore 9, 2) := by decide +kernel
theorem dL_types_175 : decode cL_types 175 = .ok (.iload 9, 2) := by decide +kernel
theorem dL_types_177 : decode cL_types 177 = .ok (.iconst 1, 1) := by decide +kernel
theorem dL_types_178 : decode cL_types 178 = .ok (.iload 5, 2) := by decide +kernel
theorem dL_types_180 : decode cL_types 180 = .ok (.bipush 7, 2) := by decide +kernel
theorem dL_types_182 : decode cL_types 182 = .ok (.ishr, 1) := by decide +kernel
theorem dL_types_183 : decode cL_types 183 = .ok (.bipush 12, 2) := by decide +kernel
theorem dL_types_185 : decode cL_types 185 = .ok (.invokestatic 58, 3) := by decide +kernel
theorem dL_types_188 : decode cL_types 188 = .ok (.iadd, 1) := by decide +kernel
theorem dL_types_189 : decode cL_types 189 = .ok (.if_icmp .ge 108, 3) := by decide +kernel
theorem dL_types_192 : decode cL_types 192 = .ok (.iload_n 3, 1) := by decide +kernel
theorem dL_types_193 : decode cL_types 193 = .ok (.ifCond .eq 104, 3) := by decide +kernel
theorem dL_types_196 : decode cL_types 196 = .ok (.iload 5, 2) := by decide +kernel
theorem dL_types_198 : decode cL_types 198 = .ok (.iload 9, 2) := by decide +kernel
theorem dL_types_200 : decode cL_types 200 = .ok (.ishr, 1) := by decide +kernel
theorem dL_types_201 : decode cL_types 201 = .ok (.bipush 8, 2) := by decide +kernel
theorem dL_types_203 : decode cL_types 203 = .ok (.invokestatic 58, 3) := by decide +kernel
theorem dL_types_206 : decode cL_types 206 = .ok (.istore 10, 2) := by decide +kernel
theorem dL_types_208 : decode cL_types 208 = .ok (.iload 10, 2) := by decide +kernel
theorem dL_types_210 : decode cL_types 210 = .ok (.ifCond .ne 27, 3) := by decide +kernel
theorem dL_types_213 : decode cL_types 213 = .ok (.iload 8, 2) := by decide +kernel
theorem dL_types_215 : decode cL_types 215 = .ok (.bipush 32, 2) := by decide +kernel
theorem dL_types_217 : decode cL_types 217 = .ok (.if_icmp .ne 15, 3) := by decide +kernel
theorem dL_types_220 : decode cL_types 220 = .ok (.iload_n 1, 1) := by decide +kernel
theorem dL_types_221 : decode cL_types 221 = .ok (.bipush 23, 2) := by decide +kernel
theorem dL_types_223 : decode cL_types 223 = .ok (.ishr, 1) := by decide +kernel
theorem dL_types_224 : decode cL_types 224 = .ok (.bipush 9, 2) := by decide +kernel
theorem dL_types_226 : decode cL_types 226 = .ok (.invokestatic 58, 3) := by decide +kernel
theorem dL_types_229 : decode cL_types 229 = .ok (.ifCond .ne 8, 3) := by decide +kernel
theorem dL_types_232 : decode cL_types 232 = .ok (.bipush 32, 2) := by decide +kernel
theorem dL_types_234 : decode cL_types 234 = .ok (.goto 40, 3) := by decide +kernel
theorem dL_types_237 : decode cL_types 237 = .ok (.iload 10, 2) := by decide +kernel
theorem dL_types_239 : decode cL_types 239 = .ok (.iconst 1, 1) := by decide +kernel
theorem dL_types_240 : decode cL_types 240 = .ok (.if_icmp .ne 8, 3) := by decide +kernel
theorem dL_types_243 : decode cL_types 243 = .ok (.bipush 44, 2) := by decide +kernel
theorem dL_types_245 : decode cL_types 245 = .ok (.goto 29, 3) := by decide +kernel
theorem dL_types_248 : decode cL_types 248 = .ok (.iload 10, 2) := by decide +kernel
theorem dL_types_250 : decode cL_types 250 = .ok (.iconst 2, 1) := by decide +kernel
theorem dL_types_251 : decode cL_types 251 = .ok (.if_icmp .ne 8, 3) := by decide +kernel
theorem dL_types_254 : decode cL_types 254 = .ok (.bipush 46, 2) := by decide +kernel
theorem dL_types_256 : decode cL_types 256 = .ok (.goto 18, 3) := by decide +kernel
theorem dL_types_259 : decode cL_types 259 = .ok (.bipush 97, 2) := by decide +kernel
theorem dL_types_261 : decode cL_types 261 = .ok (.iload 5, 2) := by decide +kernel
theorem dL_types_263 : decode cL_types 263 = .ok (.iload 9, 2) := by decide +kernel
theorem dL_types_265 : decode cL_types 265 = .ok (.iconst 2, 1) := by decide +kernel
theorem dL_types_266 : decode cL_types 266 = .ok (.iadd, 1) := by decide +kernel
theorem dL_types_267 : decode cL_types 267 = .ok (.ishr, 1) := by decide +kernel
theorem dL_types_268 : decode cL_types 268 = .ok (.bipush 26, 2) := by decide +kernel
theorem dL_types_270 : decode cL_types 270 = .ok (.invokestatic 58, 3) := by decide +kernel
theorem dL_types_273 : decode cL_types 273 = .ok (.iadd, 1) := by decide +kernel
theorem dL_types_274 : decode cL_types 274 = .ok (.istore 8, 2) := by decide +kernel
theorem dL_types_276 : decode cL_types 276 = .ok (.aload_n 0, 1) := by decide +kernel
theorem dL_types_277 : decode cL_types 277 = .ok (.iload 8, 2) := by decide +kernel
theorem dL_types_279 : decode cL_types 279 = .ok (.invokevirtual 73, 3) := by decide +kernel
theorem dL_types_282 : decode cL_types 282 = .ok (.ifCond .le 7, 3) := by decide +kernel
theorem dL_types_285 : decode cL_types 285 = .ok (.iconst 1, 1) := by decide +kernel
theorem dL_types_286 : decode cL_types 286 = .ok (.goto 4, 3) := by decide +kernel
theorem dL_types_289 : decode cL_types 289 = .ok (.iconst 0, 1) := by decide +kernel
theorem dL_types_290 : decode cL_types 290 = .ok (.istore_n 3, 1) := by decide +kernel
theorem dL_types_291 : decode cL_types 291 = .ok (.iinc 9 1, 3) := by decide +kernel
theorem dL_types_294 : decode cL_types 294 = .ok (.goto (-119), 3) := by decide +kernel
theorem dL_types_297 : decode cL_types 297 = .ok (.iinc 4 1, 3) := by decide +kernel
theorem dL_types_300 : decode cL_types 300 = .ok (.goto (-278), 3) := by decide +kernel
theorem dL_types_303 : decode cL_types 303 = .ok (.iload_n 3, 1) := by decide +kernel
theorem dL_types_304 : decode cL_types 304 = .ok (.ifCond .eq 28, 3) := by decide +kernel
theorem dL_types_307 : decode cL_types 307 = .ok (.iload_n 1, 1) := by decide +kernel
theorem dL_types_308 : decode cL_types 308 = .ok (.bipush 26, 2) := by decide +kernel
theorem dL_types_310 : decode cL_types 310 = .ok (.ishr, 1) := by decide +kernel
theorem dL_types_311 : decode cL_types 311 = .ok (.bipush 6, 2) := by decide +kernel
theorem dL_types_313 : decode cL_types 313 = .ok (.invokestatic 58, 3) := by decide +kernel
theorem dL_types_316 : decode cL_types 316 = .ok (.ifCond .gt 12, 3) := by decide +kernel
theorem dL_types_319 : decode cL_types 319 = .ok (.aload_n 0, 1) := by decide +kernel
theorem dL_types_320 : decode cL_types 320 = .ok (.bipush 124, 2) := by decide +kernel
theorem dL_types_322 : decode cL_types 322 = .ok (.invokevirtual 73, 3) := by decide +kernel
theorem dL_types_325 : decode cL_types 325 = .ok (.ifCond .le 7, 3) := by decide +kernel
theorem dL_types_328 : decode cL_types 328 = .ok (.iconst 1, 1) := by decide +kernel
theorem dL_types_329 : decode cL_types 329 = .ok (.goto 4, 3) := by decide +kernel
theorem dL_types_332 : decode cL_types 332 = .ok (.iconst 0, 1) := by decide +kernel
theorem dL_types_333 : decode cL_types 333 = .ok (.ireturn, 1) := by decide +kernel
theorem dL_loads_0 : decode cL_loads 0 = .ok (.iload_n 1, 1) := by decide +kernel
theorem dL_loads_1 : decode cL_loads 1 = .ok (.iconst 4, 1) := by decide +kernel
theorem dL_loads_2 : decode cL_loads 2 = .ok (.invokestatic 58, 3) := by decide +kernel
theorem dL_loads_5 : decode cL_loads 5 = .ok (.istore_n 2, 1) := by decide +kernel
theorem dL_loads_6 : decode cL_loads 6 = .ok (.aload_n 0, 1) := by decide +kernel
theorem dL_loads_7 : decode cL_loads 7 = .ok (.invokestatic 83, 3) := by decide +kernel
theorem dL_loads_10 : decode cL_loads 10 = .ok (.lstore_n 3, 1) := by decide +kernel
theorem dL_loads_11 : decode cL_loads 11 = .ok (.aload_n 0, 1) := by decide +kernel
theorem dL_loads_12 : decode cL_loads 12 = .ok (.iload_n 1, 1) := by decide +kernel
theorem dL_loads_13 : decode cL_loads 13 = .ok (.invokestatic 87, 3) := by decide +kernel
theorem dL_loads_16 : decode cL_loads 16 = .ok (.istore 5, 2) := by decide +kernel
theorem dL_loads_18 : decode cL_loads 18 = .ok (.aload_n 0, 1) := by decide +kernel
theorem dL_loads_19 : decode cL_loads 19 = .ok (.invokevirtual 26, 3) := by decide +kernel
theorem dL_loads_22 : decode cL_loads 22 = .ok (.istore 6, 2) := by decide +kernel
theorem dL_loads_24 : decode cL_loads 24 = .ok (.aload_n 0, 1) := by decide +kernel
theorem dL_loads_25 : decode cL_loads 25 = .ok (.invokevirtual 51, 3) := by decide +kernel
theorem dL_loads_28 : decode cL_loads 28 = .ok (.istore 7, 2) := by decide +kernel
theorem dL_loads_30 : decode cL_loads 30 = .ok (.aload_n 0, 1) := by decide +kernel
theorem dL_loads_31 : decode cL_loads 31 = .ok (.invokevirtual 90, 3) := by decide +kernel
theorem dL_loads_34 : decode cL_loads 34 = .ok (.istore 8, 2) := by decide +kernel
theorem dL_loads_36 : decode cL_loads 36 = .ok (.aload_n 0, 1) := by decide +kernel
theorem dL_loads_37 : decode cL_loads 37 = .ok (.invokevirtual 93, 3) := by decide +kernel
theorem dL_loads_40 : decode cL_loads 40 = .ok (.istore 9, 2) := by decide +kernel
theorem dL_loads_42 : decode cL_loads 42 = .ok (.aload_n 0, 1) := by decide +kernel
theorem dL_loads_43 : decode cL_loads 43 = .ok (.iconst 0, 1) := by decide +kernel
theorem dL_loads_44 : decode cL_loads 44 = .ok (.invokevirtual 96, 3) := by decide +kernel
theorem dL_loads_47 : decode cL_loads 47 = .ok (.istore 10, 2) := by decide +kernel
theorem dL_loads_49 : decode cL_loads 49 = .ok (.aload_n 0, 1) := by decide +kernel
theorem dL_loads_50 : decode cL_loads 50 = .ok (.iconst 1, 1) := by decide +kernel
theorem dL_loads_51 : decode cL_loads 51 = .ok (.invokevirtual 96, 3) := by decide +kernel
theorem dL_loads_54 : decode cL_loads 54 = .ok (.istore 11, 2) := by decide +kernel
theorem dL_loads_56 : decode cL_loads 56 = .ok (.aload_n 0, 1) := by decide +kernel
theorem dL_loads_57 : decode cL_loads 57 = .ok (.iconst 2, 1) := by decide +kernel
theorem dL_loads_58 : decode cL_loads 58 = .ok (.invokevirtual 96, 3) := by decide +kernel
theorem dL_loads_61 : decode cL_loads 61 = .ok (.istore 12, 2) := by decide +kernel
theorem dL_loads_63 : decode cL_loads 63 = .ok (.aload_n 0, 1) := by decide +kernel
theorem dL_loads_64 : decode cL_loads 64 = .ok (.invokevirtual 76, 3) := by decide +kernel
theorem dL_loads_67 : decode cL_loads 67 = .ok (.istore 13, 2) := by decide +kernel
theorem dL_loads_69 : decode cL_loads 69 = .ok (.iload 5, 2) := by decide +kernel
theorem dL_loads_71 : decode cL_loads 71 = .ok (.ifCond .eq 34, 3) := by decide +kernel
theorem dL_loads_74 : decode cL_loads 74 = .ok (.iload 9, 2) := by decide +kernel
theorem dL_loads_76 : decode cL_loads 76 = .ok (.bipush (-3), 2) := by decide +kernel
theorem dL_loads_78 : decode cL_loads 78 = .ok (.if_icmp .ne 7, 3) := by decide +kernel
theorem dL_loads_81 : decode cL_loads 81 = .ok (.iconst 1, 1) := by decide +kernel
theorem dL_loads_82 : decode cL_loads 82 = .ok (.goto 4, 3) := by decide +kernel
theorem dL_loads_85 : decode cL_loads 85 = .ok (.iconst 0, 1) := by decide +kernel
theorem dL_loads_86 : decode cL_loads 86 = .ok (.iload 8, 2) := by decide +kernel
theorem dL_loads_88 : decode cL_loads 88 = .ok (.bipush (-6), 2) := by decide +kernel
theorem dL_loads_90 : decode cL_loads 90 = .ok (.if_icmp .eq 7, 3) := by decide +kernel
theorem dL_loads_93 : decode cL_loads 93 = .ok (.iconst 1, 1) := by decide +kernel
theorem dL_loads_94 : decode cL_loads 94 = .ok (.goto 4, 3) := by decide +kernel
theorem dL_loads_97 : decode cL_loads 97 = .ok (.iconst 0, 1) := by decide +kernel
theorem dL_loads_98 : decode cL_loads 98 = .ok (.if_icmp .ne 7, 3) := by decide +kernel
theorem dL_loads_101 : decode cL_loads 101 = .ok (.iconst 1, 1) := by decide +kernel
theorem dL_loads_102 : decode cL_loads 102 = .ok (.goto 4, 3) := by decide +kernel
theorem dL_loads_105 : decode cL_loads 105 = .ok (.iconst 0, 1) := by decide +kernel
theorem dL_loads_106 : decode cL_loads 106 = .ok (.istore 14, 2) := by decide +kernel
theorem dL_loads_108 : decode cL_loads 108 = .ok (.iload 8, 2) := by decide +kernel
theorem dL_loads_110 : decode cL_loads 110 = .ok (.bipush (-6), 2) := by decide +kernel
theorem dL_loads_112 : decode cL_loads 112 = .ok (.if_icmp .eq 35, 3) := by decide +kernel
theorem dL_loads_115 : decode cL_loads 115 = .ok (.iload 14, 2) := by decide +kernel
theorem dL_loads_117 : decode cL_loads 117 = .ok (.ifCond .eq 28, 3) := by decide +kernel
theorem dL_loads_120 : decode cL_loads 120 = .ok (.iload 8, 2) := by decide +kernel
theorem dL_loads_122 : decode cL_loads 122 = .ok (.ifCond .lt 23, 3) := by decide +kernel
theorem dL_loads_125 : decode cL_loads 125 = .ok (.iload 8, 2) := by decide +kernel
theorem dL_loads_127 : decode cL_loads 127 = .ok (.iload 13, 2) := by decide +kernel
theorem dL_loads_129 : decode cL_loads 129 = .ok (.if_icmp .gt 16, 3) := by decide +kernel
theorem dL_loads_132 : decode cL_loads 132 = .ok (.aload_n 0, 1) := by decide +kernel
theorem dL_loads_133 : decode cL_loads 133 = .ok (.invokestatic 83, 3) := by decide +kernel
theorem dL_loads_136 : decode cL_loads 136 = .ok (.lload_n 3, 1) := by decide +kernel
theorem dL_loads_137 : decode cL_loads 137 = .ok (.lcmp, 1) := by decide +kernel
theorem dL_loads_138 : decode cL_loads 138 = .ok (.ifCond .ne 7, 3) := by decide +kernel
theorem dL_loads_141 : decode cL_loads 141 = .ok (.iconst 1, 1) := by decide +kernel
theorem dL_loads_142 : decode cL_loads 142 = .ok (.goto 4, 3) := by decide +kernel
theorem dL_loads_145 : decode cL_loads 145 = .ok (.iconst 0, 1) := by decide +kernel
theorem dL_loads_146 : decode cL_loads 146 = .ok (.ireturn, 1) := by decide +kernel
theorem dL_loads_147 : decode cL_loads 147 = .ok (.iload 14, 2) := by decide +kernel
theorem dL_loads_149 : decode cL_loads 149 = .ok (.ifCond .eq 108, 3) := by decide +kernel
theorem dL_loads_152 : decode cL_loads 152 = .ok (.iload 9, 2) := by decide +kernel
theorem dL_loads_154 : decode cL_loads 154 = .ok (.ifCond .lt 103, 3) := by decide +kernel
theorem dL_loads_157 : decode cL_loads 157 = .ok (.iload 9, 2) := by decide +kernel
theorem dL_loads_159 : decode cL_loads 159 = .ok (.iload_n 2, 1) := by decide +kernel
theorem dL_loads_160 : decode cL_loads 160 = .ok (.if_icmp .gt 97, 3) := by decide +kernel
theorem dL_loads_163 : decode cL_loads 163 = .ok (.aload_n 0, 1) := by decide +kernel
theorem dL_loads_164 : decode cL_loads 164 = .ok (.invokevirtual 26, 3) := by decide +kernel
theorem dL_loads_167 : decode cL_loads 167 = .ok (.iload 6, 2) := by decide +kernel
theorem dL_loads_169 : decode cL_loads 169 = .ok (.iload 9, 2) := by decide +kernel
theorem dL_loads_171 : decode cL_loads 171 = .ok (.iadd, 1) := by decide +kernel
theorem dL_loads_172 : decode cL_loads 172 = .ok (.if_icmp .ne 85, 3) := by decide +kernel
theorem dL_loads_175 : decode cL_loads 175 = .ok (.aload_n 0, 1) := by decide +kernel
theorem dL_loads_176 : decode cL_loads 176 = .ok (.invokevirtual 51, 3) := by decide +kernel
theorem dL_loads_179 : decode cL_loads 179 = .ok (.iload 7, 2) := by decide +kernel
theorem dL_loads_181 : decode cL_loads 181 = .ok (.iload 9, 2) := by decide +kernel
theorem dL_loads_183 : decode cL_loads 183 = .ok (.iadd, 1) := by decide +kernel
theorem dL_loads_184 : decode cL_loads 184 = .ok (.if_icmp .lt 73, 3) := by decide +kernel
theorem dL_loads_187 : decode cL_loads 187 = .ok (.iload 9, 2) := by decide +kernel
theorem dL_loads_189 : decode cL_loads 189 = .ok (.iload_n 2, 1) := by decide +kernel
theorem dL_loads_190 : decode cL_loads 190 = .ok (.if_icmp .ne 27, 3) := by decide +kernel
theorem dL_loads_193 : decode cL_loads 193 = .ok (.iload 10, 2) := by decide +kernel
theorem dL_loads_195 : decode cL_loads 195 = .ok (.bipush (-6), 2) := by decide +kernel
theorem dL_loads_197 : decode cL_loads 197 = .ok (.if_icmp .ne 60, 3) := by decide +kernel
theorem dL_loads_200 : decode cL_loads 200 = .ok (.iload 11, 2) := by decide +kernel
theorem dL_loads_202 : decode cL_loads 202 = .ok (.bipush (-6), 2) := by decide +kernel
theorem dL_loads_204 : decode cL_loads 204 = .ok (.if_icmp .ne 53, 3) := by decide +kernel
theorem dL_loads_207 : decode cL_loads 207 = .ok (.iload 12, 2) := by decide +kernel
theorem dL_loads_209 : decode cL_loads 209 = .ok (.bipush (-6), 2) := by decide +kernel
theorem dL_loads_211 : decode cL_loads 211 = .ok (.if_icmp .ne 46, 3) := by decide +kernel
theorem dL_loads_214 : decode cL_loads 214 = .ok (.goto 39, 3) := by decide +kernel
theorem dL_loads_217 : decode cL_loads 217 = .ok (.iload 10, 2) := by decide +kernel
theorem dL_loads_219 : decode cL_loads 219 = .ok (.iload 9, 2) := by decide +kernel
theorem dL_loads_221 : decode cL_loads 221 = .ok (.if_icmp .ne 36, 3) := by decide +kernel
theorem dL_loads_224 : decode cL_loads 224 = .ok (.iload 11, 2) := by decide +kernel
theorem dL_loads_226 : decode cL_loads 226 = .ok (.iconst 1, 1) := by decide +kernel
theorem dL_loads_227 : decode cL_loads 227 = .ok (.if_icmp .lt 30, 3) := by decide +kernel
theorem dL_loads_230 : decode cL_loads 230 = .ok (.iload 11, 2) := by decide +kernel
theorem dL_loads_232 : decode cL_loads 232 = .ok (.iconst 3, 1) := by decide +kernel
theorem dL_loads_233 : decode cL_loads 233 = .ok (.if_icmp .gt 24, 3) := by decide +kernel
theorem dL_loads_236 : decode cL_loads 236 = .ok (.iload 12, 2) := by decide +kernel
theorem dL_loads_238 : decode cL_loads 238 = .ok (.bipush 6, 2) := by decide +kernel
theorem dL_loads_240 : decode cL_loads 240 = .ok (.iload 9, 2) := by decide +kernel
theorem dL_loads_242 : decode cL_loads 242 = .ok (.imul, 1) := by decide +kernel
theorem dL_loads_243 : decode cL_loads 243 = .ok (.if_icmp .lt 14, 3) := by decide +kernel
theorem dL_loads_246 : decode cL_loads 246 = .ok (.iload 12, 2) := by decide +kernel
theorem dL_loads_248 : decode cL_loads 248 = .ok (.iload 13, 2) := by decide +kernel
theorem dL_loads_250 : decode cL_loads 250 = .ok (.if_icmp .ge 7, 3) := by decide +kernel
theorem dL_loads_253 : decode cL_loads 253 = .ok (.iconst 1, 1) := by decide +kernel
theorem dL_loads_254 : decode cL_loads 254 = .ok (.goto 4, 3) := by decide +kernel
theorem dL_loads_257 : decode cL_loads 257 = .ok (.iconst 0, 1) := by decide +kernel
theorem dL_loads_258 : decode cL_loads 258 = .ok (.ireturn, 1) := by decide +kernel
theorem dL_moves_0 : decode cL_moves 0 = .ok (.aload_n 0, 1) := by decide +kernel
theorem dL_moves_1 : decode cL_moves 1 = .ok (.invokevirtual 26, 3) := by decide +kernel
theorem dL_moves_4 : decode cL_moves 4 = .ok (.istore_n 3, 1) := by decide +kernel
theorem dL_moves_5 : decode cL_moves 5 = .ok (.iload_n 2, 1) := by decide +kernel
theorem dL_moves_6 : decode cL_moves 6 = .ok (.iload_n 3, 1) := by decide +kernel
theorem dL_moves_7 : decode cL_moves 7 = .ok (.iconst 1, 1) := by decide +kernel
theorem dL_moves_8 : decode cL_moves 8 = .ok (.iadd, 1) := by decide +kernel
theorem dL_moves_9 : decode cL_moves 9 = .ok (.invokestatic 58, 3) := by decide +kernel
theorem dL_moves_12 : decode cL_moves 12 = .ok (.istore 4, 2) := by decide +kernel
theorem dL_moves_14 : decode cL_moves 14 = .ok (.iload 4, 2) := by decide +kernel
theorem dL_moves_16 : decode cL_moves 16 = .ok (.iload_n 3, 1) := by decide +kernel
theorem dL_moves_17 : decode cL_moves 17 = .ok (.if_icmp .ne 7, 3) := by decide +kernel
theorem dL_moves_20 : decode cL_moves 20 = .ok (.iconst 1, 1) := by decide +kernel
theorem dL_moves_21 : decode cL_moves 21 = .ok (.goto 4, 3) := by decide +kernel
theorem dL_moves_24 : decode cL_moves 24 = .ok (.iconst 0, 1) := by decide +kernel
theorem dL_moves_25 : decode cL_moves 25 = .ok (.istore 5, 2) := by decide +kernel
theorem dL_moves_27 : decode cL_moves 27 = .ok (.iload 5, 2) := by decide +kernel
theorem dL_moves_29 : decode cL_moves 29 = .ok (.ifCond .eq 7, 3) := by decide +kernel
theorem dL_moves_32 : decode cL_moves 32 = .ok (.iconst 0, 1) := by decide +kernel
theorem dL_moves_33 : decode cL_moves 33 = .ok (.goto 10, 3) := by decide +kernel
theorem dL_moves_36 : decode cL_moves 36 = .ok (.aload_n 0, 1) := by decide +kernel
theorem dL_moves_37 : decode cL_moves 37 = .ok (.iload 4, 2) := by decide +kernel
theorem dL_moves_39 : decode cL_moves 39 = .ok (.iconst 0, 1) := by decide +kernel
theorem dL_moves_40 : decode cL_moves 40 = .ok (.invokevirtual 29, 3) := by decide +kernel
theorem dL_moves_43 : decode cL_moves 43 = .ok (.istore 6, 2) := by decide +kernel
theorem dL_moves_45 : decode cL_moves 45 = .ok (.iload 5, 2) := by decide +kernel
theorem dL_moves_47 : decode cL_moves 47 = .ok (.ifCond .eq 7, 3) := by decide +kernel
theorem dL_moves_50 : decode cL_moves 50 = .ok (.iconst 0, 1) := by decide +kernel
theorem dL_moves_51 : decode cL_moves 51 = .ok (.goto 10, 3) := by decide +kernel
theorem dL_moves_54 : decode cL_moves 54 = .ok (.aload_n 0, 1) := by decide +kernel
theorem dL_moves_55 : decode cL_moves 55 = .ok (.iload 4, 2) := by decide +kernel
theorem dL_moves_57 : decode cL_moves 57 = .ok (.iconst 1, 1) := by decide +kernel
theorem dL_moves_58 : decode cL_moves 58 = .ok (.invokevirtual 29, 3) := by decide +kernel
theorem dL_moves_61 : decode cL_moves 61 = .ok (.istore 7, 2) := by decide +kernel
theorem dL_moves_63 : decode cL_moves 63 = .ok (.iload 5, 2) := by decide +kernel
theorem dL_moves_65 : decode cL_moves 65 = .ok (.ifCond .eq 7, 3) := by decide +kernel
theorem dL_moves_68 : decode cL_moves 68 = .ok (.iconst 0, 1) := by decide +kernel
theorem dL_moves_69 : decode cL_moves 69 = .ok (.goto 10, 3) := by decide +kernel
theorem dL_moves_72 : decode cL_moves 72 = .ok (.aload_n 0, 1) := by decide +kernel
theorem dL_moves_73 : decode cL_moves 73 = .ok (.iload 4, 2) := by decide +kernel
theorem dL_moves_75 : decode cL_moves 75 = .ok (.iconst 2, 1) := by decide +kernel
theorem dL_moves_76 : decode cL_moves 76 = .ok (.invokevirtual 29, 3) := by decide +kernel
theorem dL_moves_79 : decode cL_moves 79 = .ok (.istore 8, 2) := by decide +kernel
theorem dL_moves_81 : decode cL_moves 81 = .ok (.iload 4, 2) := by decide +kernel
theorem dL_moves_83 : decode cL_moves 83 = .ok (.iconst 1, 1) := by decide +kernel
theorem dL_moves_84 : decode cL_moves 84 = .ok (.iadd, 1) := by decide +kernel
theorem dL_moves_85 : decode cL_moves 85 = .ok (.iload_n 3, 1) := by decide +kernel
theorem dL_moves_86 : decode cL_moves 86 = .ok (.if_icmp .ge 15, 3) := by decide +kernel
theorem dL_moves_89 : decode cL_moves 89 = .ok (.aload_n 0, 1) := by decide +kernel
theorem dL_moves_90 : decode cL_moves 90 = .ok (.iload 4, 2) := by decide +kernel
theorem dL_moves_92 : decode cL_moves 92 = .ok (.iconst 1, 1) := by decide +kernel
theorem dL_moves_93 : decode cL_moves 93 = .ok (.iadd, 1) := by decide +kernel
theorem dL_moves_94 : decode cL_moves 94 = .ok (.iconst 0, 1) := by decide +kernel
theorem dL_moves_95 : decode cL_moves 95 = .ok (.invokevirtual 29, 3) := by decide +kernel
theorem dL_moves_98 : decode cL_moves 98 = .ok (.goto 6, 3) := by decide +kernel
theorem dL_moves_101 : decode cL_moves 101 = .ok (.sipush 5000, 3) := by decide +kernel
theorem dL_moves_104 : decode cL_moves 104 = .ok (.istore 9, 2) := by decide +kernel
theorem dL_moves_106 : decode cL_moves 106 = .ok (.iload_n 1, 1) := by decide +kernel
theorem dL_moves_107 : decode cL_moves 107 = .ok (.ifCond .ne 235, 3) := by decide +kernel
theorem dL_moves_110 : decode cL_moves 110 = .ok (.iload_n 2, 1) := by decide +kernel
theorem dL_moves_111 : decode cL_moves 111 = .ok (.iconst 4, 1) := by decide +kernel
theorem dL_moves_112 : decode cL_moves 112 = .ok (.ishr, 1) := by decide +kernel
theorem dL_moves_113 : decode cL_moves 113 = .ok (.iload_n 2, 1) := by decide +kernel
theorem dL_moves_114 : decode cL_moves 114 = .ok (.bipush 15, 2) := by decide +kernel
theorem dL_moves_116 : decode cL_moves 116 = .ok (.ishr, 1) := by decide +kernel
theorem dL_moves_117 : decode cL_moves 117 = .ok (.iconst 4, 1) := by decide +kernel
theorem dL_moves_118 : decode cL_moves 118 = .ok (.invokestatic 58, 3) := by decide +kernel
theorem dL_moves_121 : decode cL_moves 121 = .ok (.ifCond .ne 9, 3) := by decide +kernel
theorem dL_moves_124 : decode cL_moves 124 = .ok (.sipush 2003, 3) := by decide +kernel
theorem dL_moves_127 : decode cL_moves 127 = .ok (.goto 5, 3) := by decide +kernel
theorem dL_moves_130 : decode cL_moves 130 = .ok (.bipush 61, 2) := by decide +kernel
theorem dL_moves_132 : decode cL_moves 132 = .ok (.invokestatic 58, 3) := by decide +kernel
theorem dL_moves_135 : decode cL_moves 135 = .ok (.iload_n 2, 1) := by decide +kernel
theorem dL_moves_136 : decode cL_moves 136 = .ok (.bipush 15, 2) := by decide +kernel
theorem dL_moves_138 : decode cL_moves 138 = .ok (.ishr, 1) := by decide +kernel
theorem dL_moves_139 : decode cL_moves 139 = .ok (.iconst 4, 1) := by decide +kernel
theorem dL_moves_140 : decode cL_moves 140 = .ok (.invokestatic 58, 3) := by decide +kernel
theorem dL_moves_143 : decode cL_moves 143 = .ok (.ifCond .ne 9, 3) := by decide +kernel
theorem dL_moves_146 : decode cL_moves 146 = .ok (.sipush 1001, 3) := by decide +kernel
theorem dL_moves_149 : decode cL_moves 149 = .ok (.goto 5, 3) := by decide +kernel
theorem dL_moves_152 : decode cL_moves 152 = .ok (.bipush 30, 2) := by decide +kernel
theorem dL_moves_154 : decode cL_moves 154 = .ok (.isub, 1) := by decide +kernel
theorem dL_moves_155 : decode cL_moves 155 = .ok (.istore 10, 2) := by decide +kernel
theorem dL_moves_157 : decode cL_moves 157 = .ok (.iload 10, 2) := by decide +kernel
theorem dL_moves_159 : decode cL_moves 159 = .ok (.sipush (-999), 3) := by decide +kernel
theorem dL_moves_162 : decode cL_moves 162 = .ok (.if_icmp .lt 11, 3) := by decide +kernel
theorem dL_moves_165 : decode cL_moves 165 = .ok (.iload 10, 2) := by decide +kernel
theorem dL_moves_167 : decode cL_moves 167 = .ok (.sipush 999, 3) := by decide +kernel
theorem dL_moves_170 : decode cL_moves 170 = .ok (.if_icmp .le 7, 3) := by decide +kernel
theorem dL_moves_173 : decode cL_moves 173 = .ok (.iconst 1, 1) := by decide +kernel
theorem dL_moves_174 : decode cL_moves 174 = .ok (.goto 4, 3) := by decide +kernel
theorem dL_moves_177 : decode cL_moves 177 = .ok (.iconst 0, 1) := by decide +kernel
theorem dL_moves_178 : decode cL_moves 178 = .ok (.istore 11, 2) := by decide +kernel
theorem dL_moves_180 : decode cL_moves 180 = .ok (.iload 5, 2) := by decide +kernel
theorem dL_moves_182 : decode cL_moves 182 = .ok (.ifCond .ne 50, 3) := by decide +kernel
theorem dL_moves_185 : decode cL_moves 185 = .ok (.iload 6, 2) := by decide +kernel
theorem dL_moves_187 : decode cL_moves 187 = .ok (.iload 10, 2) := by decide +kernel
theorem dL_moves_189 : decode cL_moves 189 = .ok (.iadd, 1) := by decide +kernel
theorem dL_moves_190 : decode cL_moves 190 = .ok (.iload 4, 2) := by decide +kernel
theorem dL_moves_192 : decode cL_moves 192 = .ok (.ifCond .ne 7, 3) := by decide +kernel
theorem dL_moves_195 : decode cL_moves 195 = .ok (.iconst 0, 1) := by decide +kernel
theorem dL_moves_196 : decode cL_moves 196 = .ok (.goto 12, 3) := by decide +kernel
theorem dL_moves_199 : decode cL_moves 199 = .ok (.aload_n 0, 1) := by decide +kernel
theorem dL_moves_200 : decode cL_moves 200 = .ok (.iload 4, 2) := by decide +kernel
theorem dL_moves_202 : decode cL_moves 202 = .ok (.iconst 1, 1) := by decide +kernel
theorem dL_moves_203 : decode cL_moves 203 = .ok (.isub, 1) := by decide +kernel
theorem dL_moves_204 : decode cL_moves 204 = .ok (.iconst 1, 1) := by decide +kernel
theorem dL_moves_205 : decode cL_moves 205 = .ok (.invokevirtual 29, 3) := by decide +kernel
theorem dL_moves_208 : decode cL_moves 208 = .ok (.if_icmp .lt 24, 3) := by decide +kernel
theorem dL_moves_211 : decode cL_moves 211 = .ok (.aload_n 0, 1) := by decide +kernel
theorem dL_moves_212 : decode cL_moves 212 = .ok (.iload_n 3, 1) := by decide +kernel
theorem dL_moves_213 : decode cL_moves 213 = .ok (.iconst 1, 1) := by decide +kernel
theorem dL_moves_214 : decode cL_moves 214 = .ok (.isub, 1) := by decide +kernel
theorem dL_moves_215 : decode cL_moves 215 = .ok (.iconst 1, 1) := by decide +kernel
theorem dL_moves_216 : decode cL_moves 216 = .ok (.invokevirtual 29, 3) := by decide +kernel
theorem dL_moves_219 : decode cL_moves 219 = .ok (.iload 10, 2) := by decide +kernel
theorem dL_moves_221 : decode cL_moves 221 = .ok (.iadd, 1) := by decide +kernel
theorem dL_moves_222 : decode cL_moves 222 = .ok (.sipush 5000, 3) := by decide +kernel
theorem dL_moves_225 : decode cL_moves 225 = .ok (.if_icmp .gt 7, 3) := by decide +kernel
theorem dL_moves_228 : decode cL_moves 228 = .ok (.iconst 1, 1) := by decide +kernel
theorem dL_moves_229 : decode cL_moves 229 = .ok (.goto 4, 3) := by decide +kernel
theorem dL_moves_232 : decode cL_moves 232 = .ok (.iconst 0, 1) := by decide +kernel
theorem dL_moves_233 : decode cL_moves 233 = .ok (.istore 12, 2) := by decide +kernel
theorem dL_moves_235 : decode cL_moves 235 = .ok (.aload_n 0, 1) := by decide +kernel
theorem dL_moves_236 : decode cL_moves 236 = .ok (.iload 4, 2) := by decide +kernel
theorem dL_moves_238 : decode cL_moves 238 = .ok (.iload 10, 2) := by decide +kernel
theorem dL_moves_240 : decode cL_moves 240 = .ok (.invokevirtual 99, 3) := by decide +kernel
theorem dL_moves_243 : decode cL_moves 243 = .ok (.istore 13, 2) := by decide +kernel
theorem dL_moves_245 : decode cL_moves 245 = .ok (.iload 13, 2) := by decide +kernel
theorem dL_moves_247 : decode cL_moves 247 = .ok (.iload 5, 2) := by decide +kernel
theorem dL_moves_249 : decode cL_moves 249 = .ok (.ifCond .eq 7, 3) := by decide +kernel
theorem dL_moves_252 : decode cL_moves 252 = .ok (.iconst (-1), 1) := by decide +kernel
theorem dL_moves_253 : decode cL_moves 253 = .ok (.goto 27, 3) := by decide +kernel
theorem dL_moves_256 : decode cL_moves 256 = .ok (.iload 11, 2) := by decide +kernel
theorem dL_moves_258 : decode cL_moves 258 = .ok (.ifCond .eq 8, 3) := by decide +kernel
theorem dL_moves_261 : decode cL_moves 261 = .ok (.bipush (-2), 2) := by decide +kernel
theorem dL_moves_263 : decode cL_moves 263 = .ok (.goto 17, 3) := by decide +kernel
theorem dL_moves_266 : decode cL_moves 266 = .ok (.iload 12, 2) := by decide +kernel
theorem dL_moves_268 : decode cL_moves 268 = .ok (.ifCond .eq 10, 3) := by decide +kernel
theorem dL_moves_271 : decode cL_moves 271 = .ok (.iload_n 3, 1) := by decide +kernel
theorem dL_moves_272 : decode cL_moves 272 = .ok (.iload 4, 2) := by decide +kernel
theorem dL_moves_274 : decode cL_moves 274 = .ok (.isub, 1) := by decide +kernel
theorem dL_moves_275 : decode cL_moves 275 = .ok (.goto 5, 3) := by decide +kernel
theorem dL_moves_278 : decode cL_moves 278 = .ok (.bipush (-5), 2) := by decide +kernel
theorem dL_moves_280 : decode cL_moves 280 = .ok (.if_icmp .ne 60, 3) := by decide +kernel
theorem dL_moves_283 : decode cL_moves 283 = .ok (.iload 5, 2) := by decide +kernel
theorem dL_moves_285 : decode cL_moves 285 = .ok (.ifCond .ne 51, 3) := by decide +kernel
theorem dL_moves_288 : decode cL_moves 288 = .ok (.aload_n 0, 1) := by decide +kernel
theorem dL_moves_289 : decode cL_moves 289 = .ok (.iload 4, 2) := by decide +kernel
theorem dL_moves_291 : decode cL_moves 291 = .ok (.iconst 0, 1) := by decide +kernel
theorem dL_moves_292 : decode cL_moves 292 = .ok (.invokevirtual 29, 3) := by decide +kernel
theorem dL_moves_295 : decode cL_moves 295 = .ok (.iload 6, 2) := by decide +kernel
theorem dL_moves_297 : decode cL_moves 297 = .ok (.iload 13, 2) := by decide +kernel
theorem dL_moves_299 : decode cL_moves 299 = .ok (.ifCond .ge 7, 3) := by decide +kernel
theorem dL_moves_302 : decode cL_moves 302 = .ok (.iconst 0, 1) := by decide +kernel
theorem dL_moves_303 : decode cL_moves 303 = .ok (.goto 5, 3) := by decide +kernel
theorem dL_moves_306 : decode cL_moves 306 = .ok (.iload 10, 2) := by decide +kernel
theorem dL_moves_308 : decode cL_moves 308 = .ok (.iadd, 1) := by decide +kernel
theorem dL_moves_309 : decode cL_moves 309 = .ok (.if_icmp .ne 31, 3) := by decide +kernel
theorem dL_moves_312 : decode cL_moves 312 = .ok (.aload_n 0, 1) := by decide +kernel
theorem dL_moves_313 : decode cL_moves 313 = .ok (.iload 4, 2) := by decide +kernel
theorem dL_moves_315 : decode cL_moves 315 = .ok (.iconst 1, 1) := by decide +kernel
theorem dL_moves_316 : decode cL_moves 316 = .ok (.invokevirtual 29, 3) := by decide +kernel
theorem dL_moves_319 : decode cL_moves 319 = .ok (.iload 7, 2) := by decide +kernel
theorem dL_moves_321 : decode cL_moves 321 = .ok (.iload 13, 2) := by decide +kernel
theorem dL_moves_323 : decode cL_moves 323 = .ok (.ifCond .ge 7, 3) := by decide +kernel
theorem dL_moves_326 : decode cL_moves 326 = .ok (.iconst 0, 1) := by decide +kernel
theorem dL_moves_327 : decode cL_moves 327 = .ok (.goto 5, 3) := by decide +kernel
theorem dL_moves_330 : decode cL_moves 330 = .ok (.iload 10, 2) := by decide +kernel
theorem dL_moves_332 : decode cL_moves 332 = .ok (.iadd, 1) := by decide +kernel
theorem dL_moves_333 : decode cL_moves 333 = .ok (.if_icmp .ne 7, 3) := by decide +kernel
theorem dL_moves_336 : decode cL_moves 336 = .ok (.iconst 1, 1) := by decide +kernel
theorem dL_moves_337 : decode cL_moves 337 = .ok (.goto 4, 3) := by decide +kernel
theorem dL_moves_340 : decode cL_moves 340 = .ok (.iconst 0, 1) := by decide +kernel
theorem dL_moves_341 : decode cL_moves 341 = .ok (.ireturn, 1) := by decide +kernel
theorem dL_moves_342 : decode cL_moves 342 = .ok (.iload_n 1, 1) := by decide +kernel
theorem dL_moves_343 : decode cL_moves 343 = .ok (.iconst 1, 1) := by decide +kernel
theorem dL_moves_344 : decode cL_moves 344 = .ok (.if_icmp .ne 161, 3) := by decide +kernel
theorem dL_moves_347 : decode cL_moves 347 = .ok (.iload_n 2, 1) := by decide +kernel
theorem dL_moves_348 : decode cL_moves 348 = .ok (.bipush 15, 2) := by decide +kernel
theorem dL_moves_350 : decode cL_moves 350 = .ok (.ishr, 1) := by decide +kernel
theorem dL_moves_351 : decode cL_moves 351 = .ok (.iconst 4, 1) := by decide +kernel
theorem dL_moves_352 : decode cL_moves 352 = .ok (.invokestatic 58, 3) := by decide +kernel
theorem dL_moves_355 : decode cL_moves 355 = .ok (.ifCond .ne 17, 3) := by decide +kernel
theorem dL_moves_358 : decode cL_moves 358 = .ok (.iload_n 2, 1) := by decide +kernel
theorem dL_moves_359 : decode cL_moves 359 = .ok (.iconst 4, 1) := by decide +kernel
theorem dL_moves_360 : decode cL_moves 360 = .ok (.ishr, 1) := by decide +kernel
theorem dL_moves_361 : decode cL_moves 361 = .ok (.sipush 5003, 3) := by decide +kernel
theorem dL_moves_364 : decode cL_moves 364 = .ok (.invokestatic 58, 3) := by decide +kernel
theorem dL_moves_367 : decode cL_moves 367 = .ok (.iconst 1, 1) := by decide +kernel
theorem dL_moves_368 : decode cL_moves 368 = .ok (.isub, 1) := by decide +kernel
theorem dL_moves_369 : decode cL_moves 369 = .ok (.goto 14, 3) := by decide +kernel
theorem dL_moves_372 : decode cL_moves 372 = .ok (.iload 6, 2) := by decide +kernel
theorem dL_moves_374 : decode cL_moves 374 = .ok (.iload_n 2, 1) := by decide +kernel
theorem dL_moves_375 : decode cL_moves 375 = .ok (.iconst 4, 1) := by decide +kernel
theorem dL_moves_376 : decode cL_moves 376 = .ok (.ishr, 1) := by decide +kernel
theorem dL_moves_377 : decode cL_moves 377 = .ok (.bipush 60, 2) := by decide +kernel
theorem dL_moves_379 : decode cL_moves 379 = .ok (.invokestatic 58, 3) := by decide +kernel
theorem dL_moves_382 : decode cL_moves 382 = .ok (.iadd, 1) := by decide +kernel
theorem dL_moves_383 : decode cL_moves 383 = .ok (.istore 10, 2) := by decide +kernel
theorem dL_moves_385 : decode cL_moves 385 = .ok (.iload 10, 2) := by decide +kernel
theorem dL_moves_387 : decode cL_moves 387 = .ok (.ifCond .lt 11, 3) := by decide +kernel
theorem dL_moves_390 : decode cL_moves 390 = .ok (.iload 10, 2) := by decide +kernel
theorem dL_moves_392 : decode cL_moves 392 = .ok (.sipush 5000, 3) := by decide +kernel
theorem dL_moves_395 : decode cL_moves 395 = .ok (.if_icmp .le 7, 3) := by decide +kernel
theorem dL_moves_398 : decode cL_moves 398 = .ok (.iconst 1, 1) := by decide +kernel
theorem dL_moves_399 : decode cL_moves 399 = .ok (.goto 4, 3) := by decide +kernel
theorem dL_moves_402 : decode cL_moves 402 = .ok (.iconst 0, 1) := by decide +kernel
theorem dL_moves_403 : decode cL_moves 403 = .ok (.istore 11, 2) := by decide +kernel
theorem dL_moves_405 : decode cL_moves 405 = .ok (.iload 10, 2) := by decide +kernel
theorem dL_moves_407 : decode cL_moves 407 = .ok (.iload 6, 2) := by decide +kernel
theorem dL_moves_409 : decode cL_moves 409 = .ok (.if_icmp .le 14, 3) := by decide +kernel
theorem dL_moves_412 : decode cL_moves 412 = .ok (.iload 10, 2) := by decide +kernel
theorem dL_moves_414 : decode cL_moves 414 = .ok (.iload 9, 2) := by decide +kernel
theorem dL_moves_416 : decode cL_moves 416 = .ok (.if_icmp .gt 7, 3) := by decide +kernel
theorem dL_moves_419 : decode cL_moves 419 = .ok (.iconst 1, 1) := by decide +kernel
theorem dL_moves_420 : decode cL_moves 420 = .ok (.goto 4, 3) := by decide +kernel
theorem dL_moves_423 : decode cL_moves 423 = .ok (.iconst 0, 1) := by decide +kernel
theorem dL_moves_424 : decode cL_moves 424 = .ok (.istore 12, 2) := by decide +kernel
theorem dL_moves_426 : decode cL_moves 426 = .ok (.aload_n 0, 1) := by decide +kernel
theorem dL_moves_427 : decode cL_moves 427 = .ok (.iload 4, 2) := by decide +kernel
theorem dL_moves_429 : decode cL_moves 429 = .ok (.iload 10, 2) := by decide +kernel
theorem dL_moves_431 : decode cL_moves 431 = .ok (.invokevirtual 102, 3) := by decide +kernel
theorem dL_moves_434 : decode cL_moves 434 = .ok (.istore 13, 2) := by decide +kernel
theorem dL_moves_436 : decode cL_moves 436 = .ok (.iload 13, 2) := by decide +kernel
theorem dL_moves_438 : decode cL_moves 438 = .ok (.iload 5, 2) := by decide +kernel
theorem dL_moves_440 : decode cL_moves 440 = .ok (.ifCond .eq 7, 3) := by decide +kernel
theorem dL_moves_443 : decode cL_moves 443 = .ok (.iconst (-1), 1) := by decide +kernel
theorem dL_moves_444 : decode cL_moves 444 = .ok (.goto 25, 3) := by decide +kernel
theorem dL_moves_447 : decode cL_moves 447 = .ok (.iload 11, 2) := by decide +kernel
theorem dL_moves_449 : decode cL_moves 449 = .ok (.ifCond .eq 8, 3) := by decide +kernel
theorem dL_moves_452 : decode cL_moves 452 = .ok (.bipush (-2), 2) := by decide +kernel
theorem dL_moves_454 : decode cL_moves 454 = .ok (.goto 15, 3) := by decide +kernel
theorem dL_moves_457 : decode cL_moves 457 = .ok (.iload 12, 2) := by decide +kernel
theorem dL_moves_459 : decode cL_moves 459 = .ok (.ifCond .eq 8, 3) := by decide +kernel
theorem dL_moves_462 : decode cL_moves 462 = .ok (.iload 7, 2) := by decide +kernel
theorem dL_moves_464 : decode cL_moves 464 = .ok (.goto 5, 3) := by decide +kernel
theorem dL_moves_467 : decode cL_moves 467 = .ok (.bipush (-5), 2) := by decide +kernel
theorem dL_moves_469 : decode cL_moves 469 = .ok (.if_icmp .ne 34, 3) := by decide +kernel
theorem dL_moves_472 : decode cL_moves 472 = .ok (.iload 5, 2) := by decide +kernel
theorem dL_moves_474 : decode cL_moves 474 = .ok (.ifCond .ne 25, 3) := by decide +kernel
theorem dL_moves_477 : decode cL_moves 477 = .ok (.aload_n 0, 1) := by decide +kernel
theorem dL_moves_478 : decode cL_moves 478 = .ok (.iload 4, 2) := by decide +kernel
theorem dL_moves_480 : decode cL_moves 480 = .ok (.iconst 1, 1) := by decide +kernel
theorem dL_moves_481 : decode cL_moves 481 = .ok (.invokevirtual 29, 3) := by decide +kernel
theorem dL_moves_484 : decode cL_moves 484 = .ok (.iload 13, 2) := by decide +kernel
theorem dL_moves_486 : decode cL_moves 486 = .ok (.ifCond .ge 8, 3) := by decide +kernel
theorem dL_moves_489 : decode cL_moves 489 = .ok (.iload 7, 2) := by decide +kernel
theorem dL_moves_491 : decode cL_moves 491 = .ok (.goto 5, 3) := by decide +kernel
theorem dL_moves_494 : decode cL_moves 494 = .ok (.iload 10, 2) := by decide +kernel
theorem dL_moves_496 : decode cL_moves 496 = .ok (.if_icmp .ne 7, 3) := by decide +kernel
theorem dL_moves_499 : decode cL_moves 499 = .ok (.iconst 1, 1) := by decide +kernel
theorem dL_moves_500 : decode cL_moves 500 = .ok (.goto 4, 3) := by decide +kernel
theorem dL_moves_503 : decode cL_moves 503 = .ok (.iconst 0, 1) := by decide +kernel
theorem dL_moves_504 : decode cL_moves 504 = .ok (.ireturn, 1) := by decide +kernel
theorem dL_moves_505 : decode cL_moves 505 = .ok (.iload_n 1, 1) := by decide +kernel
theorem dL_moves_506 : decode cL_moves 506 = .ok (.iconst 2, 1) := by decide +kernel
theorem dL_moves_507 : decode cL_moves 507 = .ok (.if_icmp .ne 230, 3) := by decide +kernel
theorem dL_moves_510 : decode cL_moves 510 = .ok (.iload 5, 2) := by decide +kernel
theorem dL_moves_512 : decode cL_moves 512 = .ok (.ifCond .eq 8, 3) := by decide +kernel
theorem dL_moves_515 : decode cL_moves 515 = .ok (.bipush (-6), 2) := by decide +kernel
theorem dL_moves_517 : decode cL_moves 517 = .ok (.goto 11, 3) := by decide +kernel
theorem dL_moves_520 : decode cL_moves 520 = .ok (.aload_n 0, 1) := by decide +kernel
theorem dL_moves_521 : decode cL_moves 521 = .ok (.iload 4, 2) := by decide +kernel
theorem dL_moves_523 : decode cL_moves 523 = .ok (.bipush 6, 2) := by decide +kernel
theorem dL_moves_525 : decode cL_moves 525 = .ok (.invokevirtual 29, 3) := by decide +kernel
theorem dL_moves_528 : decode cL_moves 528 = .ok (.istore 10, 2) := by decide +kernel
theorem dL_moves_530 : decode cL_moves 530 = .ok (.aload_n 0, 1) := by decide +kernel
theorem dL_moves_531 : decode cL_moves 531 = .ok (.iconst 1, 1) := by decide +kernel
theorem dL_moves_532 : decode cL_moves 532 = .ok (.invokevirtual 13, 3) := by decide +kernel
theorem dL_moves_535 : decode cL_moves 535 = .ok (.istore 11, 2) := by decide +kernel
theorem dL_moves_537 : decode cL_moves 537 = .ok (.aload_n 0, 1) := by decide +kernel
theorem dL_moves_538 : decode cL_moves 538 = .ok (.iload 4, 2) := by decide +kernel
theorem dL_moves_540 : decode cL_moves 540 = .ok (.invokevirtual 105, 3) := by decide +kernel
theorem dL_moves_543 : decode cL_moves 543 = .ok (.istore 12, 2) := by decide +kernel
theorem dL_moves_545 : decode cL_moves 545 = .ok (.iload 12, 2) := by decide +kernel
theorem dL_moves_547 : decode cL_moves 547 = .ok (.iload 5, 2) := by decide +kernel
theorem dL_moves_549 : decode cL_moves 549 = .ok (.ifCond .eq 7, 3) := by decide +kernel
theorem dL_moves_552 : decode cL_moves 552 = .ok (.iconst (-1), 1) := by decide +kernel
theorem dL_moves_553 : decode cL_moves 553 = .ok (.goto 40, 3) := by decide +kernel
theorem dL_moves_556 : decode cL_moves 556 = .ok (.iload 10, 2) := by decide +kernel
theorem dL_moves_558 : decode cL_moves 558 = .ok (.bipush (-6), 2) := by decide +kernel
theorem dL_moves_560 : decode cL_moves 560 = .ok (.if_icmp .eq 15, 3) := by decide +kernel
theorem dL_moves_563 : decode cL_moves 563 = .ok (.iload 7, 2) := by decide +kernel
theorem dL_moves_565 : decode cL_moves 565 = .ok (.iload 6, 2) := by decide +kernel
theorem dL_moves_567 : decode cL_moves 567 = .ok (.isub, 1) := by decide +kernel
theorem dL_moves_568 : decode cL_moves 568 = .ok (.iload 11, 2) := by decide +kernel
theorem dL_moves_570 : decode cL_moves 570 = .ok (.iconst 2, 1) := by decide +kernel
theorem dL_moves_571 : decode cL_moves 571 = .ok (.iadd, 1) := by decide +kernel
theorem dL_moves_572 : decode cL_moves 572 = .ok (.if_icmp .ge 8, 3) := by decide +kernel
theorem dL_moves_575 : decode cL_moves 575 = .ok (.bipush (-5), 2) := by decide +kernel
theorem dL_moves_577 : decode cL_moves 577 = .ok (.goto 16, 3) := by decide +kernel
theorem dL_moves_580 : decode cL_moves 580 = .ok (.iload_n 3, 1) := by decide +kernel
theorem dL_moves_581 : decode cL_moves 581 = .ok (.bipush 20, 2) := by decide +kernel
theorem dL_moves_583 : decode cL_moves 583 = .ok (.if_icmp .ne 8, 3) := by decide +kernel
theorem dL_moves_586 : decode cL_moves 586 = .ok (.bipush (-4), 2) := by decide +kernel
theorem dL_moves_588 : decode cL_moves 588 = .ok (.goto 5, 3) := by decide +kernel
theorem dL_moves_591 : decode cL_moves 591 = .ok (.iload 10, 2) := by decide +kernel
theorem dL_moves_593 : decode cL_moves 593 = .ok (.if_icmp .ne 142, 3) := by decide +kernel
theorem dL_moves_596 : decode cL_moves 596 = .ok (.iload 12, 2) := by decide +kernel
theorem dL_moves_598 : decode cL_moves 598 = .ok (.ifCond .ge 14, 3) := by decide +kernel
theorem dL_moves_601 : decode cL_moves 601 = .ok (.aload_n 0, 1) := by decide +kernel
theorem dL_moves_602 : decode cL_moves 602 = .ok (.invokevirtual 26, 3) := by decide +kernel
theorem dL_moves_605 : decode cL_moves 605 = .ok (.iload_n 3, 1) := by decide +kernel
theorem dL_moves_606 : decode cL_moves 606 = .ok (.if_icmp .ne 129, 3) := by decide +kernel
theorem dL_moves_609 : decode cL_moves 609 = .ok (.goto 122, 3) := by decide +kernel
theorem dL_moves_612 : decode cL_moves 612 = .ok (.aload_n 0, 1) := by decide +kernel
theorem dL_moves_613 : decode cL_moves 613 = .ok (.invokevirtual 26, 3) := by decide +kernel
theorem dL_moves_616 : decode cL_moves 616 = .ok (.iload_n 3, 1) := by decide +kernel
theorem dL_moves_617 : decode cL_moves 617 = .ok (.iconst 1, 1) := by decide +kernel
theorem dL_moves_618 : decode cL_moves 618 = .ok (.iadd, 1) := by decide +kernel
theorem dL_moves_619 : decode cL_moves 619 = .ok (.if_icmp .ne 116, 3) := by decide +kernel
theorem dL_moves_622 : decode cL_moves 622 = .ok (.aload_n 0, 1) := by decide +kernel
theorem dL_moves_623 : decode cL_moves 623 = .ok (.iload 4, 2) := by decide +kernel
theorem dL_moves_625 : decode cL_moves 625 = .ok (.iconst 0, 1) := by decide +kernel
theorem dL_moves_626 : decode cL_moves 626 = .ok (.invokevirtual 29, 3) := by decide +kernel
theorem dL_moves_629 : decode cL_moves 629 = .ok (.iload 6, 2) := by decide +kernel
theorem dL_moves_631 : decode cL_moves 631 = .ok (.if_icmp .ne 104, 3) := by decide +kernel
theorem dL_moves_634 : decode cL_moves 634 = .ok (.aload_n 0, 1) := by decide +kernel
theorem dL_moves_635 : decode cL_moves 635 = .ok (.iload 4, 2) := by decide +kernel
theorem dL_moves_637 : decode cL_moves 637 = .ok (.iconst 1, 1) := by decide +kernel
theorem dL_moves_638 : decode cL_moves 638 = .ok (.iadd, 1) := by decide +kernel
theorem dL_moves_639 : decode cL_moves 639 = .ok (.iconst 1, 1) := by decide +kernel
theorem dL_moves_640 : decode cL_moves 640 = .ok (.invokevirtual 29, 3) := by decide +kernel
theorem dL_moves_643 : decode cL_moves 643 = .ok (.iload 7, 2) := by decide +kernel
theorem dL_moves_645 : decode cL_moves 645 = .ok (.if_icmp .ne 90, 3) := by decide +kernel
theorem dL_moves_648 : decode cL_moves 648 = .ok (.aload_n 0, 1) := by decide +kernel
theorem dL_moves_649 : decode cL_moves 649 = .ok (.iload 4, 2) := by decide +kernel
theorem dL_moves_651 : decode cL_moves 651 = .ok (.iconst 1, 1) := by decide +kernel
theorem dL_moves_652 : decode cL_moves 652 = .ok (.iadd, 1) := by decide +kernel
theorem dL_moves_653 : decode cL_moves 653 = .ok (.iconst 0, 1) := by decide +kernel
theorem dL_moves_654 : decode cL_moves 654 = .ok (.invokevirtual 29, 3) := by decide +kernel
theorem dL_moves_657 : decode cL_moves 657 = .ok (.aload_n 0, 1) := by decide +kernel
theorem dL_moves_658 : decode cL_moves 658 = .ok (.iload 4, 2) := by decide +kernel
theorem dL_moves_660 : decode cL_moves 660 = .ok (.iconst 1, 1) := by decide +kernel
theorem dL_moves_661 : decode cL_moves 661 = .ok (.invokevirtual 29, 3) := by decide +kernel
theorem dL_moves_664 : decode cL_moves 664 = .ok (.iload 11, 2) := by decide +kernel
theorem dL_moves_666 : decode cL_moves 666 = .ok (.iadd, 1) := by decide +kernel
theorem dL_moves_667 : decode cL_moves 667 = .ok (.if_icmp .ne 68, 3) := by decide +kernel
theorem dL_moves_670 : decode cL_moves 670 = .ok (.aload_n 0, 1) := by decide +kernel
theorem dL_moves_671 : decode cL_moves 671 = .ok (.iload 4, 2) := by decide +kernel
theorem dL_moves_673 : decode cL_moves 673 = .ok (.iconst 1, 1) := by decide +kernel
theorem dL_moves_674 : decode cL_moves 674 = .ok (.invokevirtual 29, 3) := by decide +kernel
theorem dL_moves_677 : decode cL_moves 677 = .ok (.iload 6, 2) := by decide +kernel
theorem dL_moves_679 : decode cL_moves 679 = .ok (.iload 7, 2) := by decide +kernel
theorem dL_moves_681 : decode cL_moves 681 = .ok (.iload 6, 2) := by decide +kernel
theorem dL_moves_683 : decode cL_moves 683 = .ok (.isub, 1) := by decide +kernel
theorem dL_moves_684 : decode cL_moves 684 = .ok (.iload 11, 2) := by decide +kernel
theorem dL_moves_686 : decode cL_moves 686 = .ok (.isub, 1) := by decide +kernel
theorem dL_moves_687 : decode cL_moves 687 = .ok (.iload 10, 2) := by decide +kernel
theorem dL_moves_689 : decode cL_moves 689 = .ok (.iload 8, 2) := by decide +kernel
theorem dL_moves_691 : decode cL_moves 691 = .ok (.iconst 1, 1) := by decide +kernel
theorem dL_moves_692 : decode cL_moves 692 = .ok (.isub, 1) := by decide +kernel
theorem dL_moves_693 : decode cL_moves 693 = .ok (.invokestatic 108, 3) := by decide +kernel
theorem dL_moves_696 : decode cL_moves 696 = .ok (.iadd, 1) := by decide +kernel
theorem dL_moves_697 : decode cL_moves 697 = .ok (.if_icmp .ne 38, 3) := by decide +kernel
theorem dL_moves_700 : decode cL_moves 700 = .ok (.aload_n 0, 1) := by decide +kernel
theorem dL_moves_701 : decode cL_moves 701 = .ok (.iload 4, 2) := by decide +kernel
theorem dL_moves_703 : decode cL_moves 703 = .ok (.iconst 2, 1) := by decide +kernel
theorem dL_moves_704 : decode cL_moves 704 = .ok (.invokevirtual 29, 3) := by decide +kernel
theorem dL_moves_707 : decode cL_moves 707 = .ok (.iload 10, 2) := by decide +kernel
theorem dL_moves_709 : decode cL_moves 709 = .ok (.if_icmp .ne 26, 3) := by decide +kernel
theorem dL_moves_712 : decode cL_moves 712 = .ok (.aload_n 0, 1) := by decide +kernel
theorem dL_moves_713 : decode cL_moves 713 = .ok (.iload 4, 2) := by decide +kernel
theorem dL_moves_715 : decode cL_moves 715 = .ok (.iconst 1, 1) := by decide +kernel
theorem dL_moves_716 : decode cL_moves 716 = .ok (.iadd, 1) := by decide +kernel
theorem dL_moves_717 : decode cL_moves 717 = .ok (.iconst 2, 1) := by decide +kernel
theorem dL_moves_718 : decode cL_moves 718 = .ok (.invokevirtual 29, 3) := by decide +kernel
theorem dL_moves_721 : decode cL_moves 721 = .ok (.iload 8, 2) := by decide +kernel
theorem dL_moves_723 : decode cL_moves 723 = .ok (.iconst 1, 1) := by decide +kernel
theorem dL_moves_724 : decode cL_moves 724 = .ok (.isub, 1) := by decide +kernel
theorem dL_moves_725 : decode cL_moves 725 = .ok (.iload 10, 2) := by decide +kernel
theorem dL_moves_727 : decode cL_moves 727 = .ok (.isub, 1) := by decide +kernel
theorem dL_moves_728 : decode cL_moves 728 = .ok (.if_icmp .ne 7, 3) := by decide +kernel
theorem dL_moves_731 : decode cL_moves 731 = .ok (.iconst 1, 1) := by decide +kernel
theorem dL_moves_732 : decode cL_moves 732 = .ok (.goto 4, 3) := by decide +kernel
theorem dL_moves_735 : decode cL_moves 735 = .ok (.iconst 0, 1) := by decide +kernel
theorem dL_moves_736 : decode cL_moves 736 = .ok (.ireturn, 1) := by decide +kernel
theorem dL_moves_737 : decode cL_moves 737 = .ok (.iload_n 1, 1) := by decide +kernel
theorem dL_moves_738 : decode cL_moves 738 = .ok (.iconst 3, 1) := by decide +kernel
theorem dL_moves_739 : decode cL_moves 739 = .ok (.if_icmp .ne 179, 3) := by decide +kernel
theorem dL_moves_742 : decode cL_moves 742 = .ok (.iload 4, 2) := by decide +kernel
theorem dL_moves_744 : decode cL_moves 744 = .ok (.iconst 1, 1) := by decide +kernel
theorem dL_moves_745 : decode cL_moves 745 = .ok (.iadd, 1) := by decide +kernel
theorem dL_moves_746 : decode cL_moves 746 = .ok (.iload_n 3, 1) := by decide +kernel
theorem dL_moves_747 : decode cL_moves 747 = .ok (.if_icmp .ge 15, 3) := by decide +kernel
theorem dL_moves_750 : decode cL_moves 750 = .ok (.aload_n 0, 1) := by decide +kernel
theorem dL_moves_751 : decode cL_moves 751 = .ok (.iload 4, 2) := by decide +kernel
theorem dL_moves_753 : decode cL_moves 753 = .ok (.iconst 1, 1) := by decide +kernel
theorem dL_moves_754 : decode cL_moves 754 = .ok (.iadd, 1) := by decide +kernel
theorem dL_moves_755 : decode cL_moves 755 = .ok (.iconst 2, 1) := by decide +kernel
theorem dL_moves_756 : decode cL_moves 756 = .ok (.invokevirtual 29, 3) := by decide +kernel
theorem dL_moves_759 : decode cL_moves 759 = .ok (.goto 4, 3) := by decide +kernel
theorem dL_moves_762 : decode cL_moves 762 = .ok (.iconst 0, 1) := by decide +kernel
theorem dL_moves_763 : decode cL_moves 763 = .ok (.istore 10, 2) := by decide +kernel
theorem dL_moves_765 : decode cL_moves 765 = .ok (.iload 4, 2) := by decide +kernel
theorem dL_moves_767 : decode cL_moves 767 = .ok (.iconst 1, 1) := by decide +kernel
theorem dL_moves_768 : decode cL_moves 768 = .ok (.iadd, 1) := by decide +kernel
theorem dL_moves_769 : decode cL_moves 769 = .ok (.iload_n 3, 1) := by decide +kernel
theorem dL_moves_770 : decode cL_moves 770 = .ok (.if_icmp .ge 15, 3) := by decide +kernel
theorem dL_moves_773 : decode cL_moves 773 = .ok (.aload_n 0, 1) := by decide +kernel
theorem dL_moves_774 : decode cL_moves 774 = .ok (.iload 4, 2) := by decide +kernel
theorem dL_moves_776 : decode cL_moves 776 = .ok (.iconst 1, 1) := by decide +kernel
theorem dL_moves_777 : decode cL_moves 777 = .ok (.iadd, 1) := by decide +kernel
theorem dL_moves_778 : decode cL_moves 778 = .ok (.iconst 1, 1) := by decide +kernel
theorem dL_moves_779 : decode cL_moves 779 = .ok (.invokevirtual 29, 3) := by decide +kernel
theorem dL_moves_782 : decode cL_moves 782 = .ok (.goto 4, 3) := by decide +kernel
theorem dL_moves_785 : decode cL_moves 785 = .ok (.iconst 0, 1) := by decide +kernel
theorem dL_moves_786 : decode cL_moves 786 = .ok (.istore 11, 2) := by decide +kernel
theorem dL_moves_788 : decode cL_moves 788 = .ok (.aload_n 0, 1) := by decide +kernel
theorem dL_moves_789 : decode cL_moves 789 = .ok (.iload 4, 2) := by decide +kernel
theorem dL_moves_791 : decode cL_moves 791 = .ok (.invokevirtual 112, 3) := by decide +kernel
theorem dL_moves_794 : decode cL_moves 794 = .ok (.istore 12, 2) := by decide +kernel
theorem dL_moves_796 : decode cL_moves 796 = .ok (.iload 12, 2) := by decide +kernel
theorem dL_moves_798 : decode cL_moves 798 = .ok (.iload 4, 2) := by decide +kernel
theorem dL_moves_800 : decode cL_moves 800 = .ok (.iconst 1, 1) := by decide +kernel
theorem dL_moves_801 : decode cL_moves 801 = .ok (.iadd, 1) := by decide +kernel
theorem dL_moves_802 : decode cL_moves 802 = .ok (.iload_n 3, 1) := by decide +kernel
theorem dL_moves_803 : decode cL_moves 803 = .ok (.if_icmp .lt 7, 3) := by decide +kernel
theorem dL_moves_806 : decode cL_moves 806 = .ok (.iconst (-1), 1) := by decide +kernel
theorem dL_moves_807 : decode cL_moves 807 = .ok (.goto 27, 3) := by decide +kernel
theorem dL_moves_810 : decode cL_moves 810 = .ok (.iload 8, 2) := by decide +kernel
theorem dL_moves_812 : decode cL_moves 812 = .ok (.iconst 1, 1) := by decide +kernel
theorem dL_moves_813 : decode cL_moves 813 = .ok (.iadd, 1) := by decide +kernel
theorem dL_moves_814 : decode cL_moves 814 = .ok (.iload 10, 2) := by decide +kernel
theorem dL_moves_816 : decode cL_moves 816 = .ok (.iadd, 1) := by decide +kernel
theorem dL_moves_817 : decode cL_moves 817 = .ok (.bipush 40, 2) := by decide +kernel
theorem dL_moves_819 : decode cL_moves 819 = .ok (.if_icmp .le 8, 3) := by decide +kernel
theorem dL_moves_822 : decode cL_moves 822 = .ok (.bipush (-4), 2) := by decide +kernel
theorem dL_moves_824 : decode cL_moves 824 = .ok (.goto 10, 3) := by decide +kernel
theorem dL_moves_827 : decode cL_moves 827 = .ok (.iload 8, 2) := by decide +kernel
theorem dL_moves_829 : decode cL_moves 829 = .ok (.iconst 1, 1) := by decide +kernel
theorem dL_moves_830 : decode cL_moves 830 = .ok (.iadd, 1) := by decide +kernel
theorem dL_moves_831 : decode cL_moves 831 = .ok (.iload 10, 2) := by decide +kernel
theorem dL_moves_833 : decode cL_moves 833 = .ok (.iadd, 1) := by decide +kernel
theorem dL_moves_834 : decode cL_moves 834 = .ok (.if_icmp .ne 82, 3) := by decide +kernel
theorem dL_moves_837 : decode cL_moves 837 = .ok (.iload 12, 2) := by decide +kernel
theorem dL_moves_839 : decode cL_moves 839 = .ok (.ifCond .ge 14, 3) := by decide +kernel
theorem dL_moves_842 : decode cL_moves 842 = .ok (.aload_n 0, 1) := by decide +kernel
theorem dL_moves_843 : decode cL_moves 843 = .ok (.invokevirtual 26, 3) := by decide +kernel
theorem dL_moves_846 : decode cL_moves 846 = .ok (.iload_n 3, 1) := by decide +kernel
theorem dL_moves_847 : decode cL_moves 847 = .ok (.if_icmp .ne 69, 3) := by decide +kernel
theorem dL_moves_850 : decode cL_moves 850 = .ok (.goto 62, 3) := by decide +kernel
theorem dL_moves_853 : decode cL_moves 853 = .ok (.aload_n 0, 1) := by decide +kernel
theorem dL_moves_854 : decode cL_moves 854 = .ok (.invokevirtual 26, 3) := by decide +kernel
theorem dL_moves_857 : decode cL_moves 857 = .ok (.iload_n 3, 1) := by decide +kernel
theorem dL_moves_858 : decode cL_moves 858 = .ok (.iconst 1, 1) := by decide +kernel
theorem dL_moves_859 : decode cL_moves 859 = .ok (.isub, 1) := by decide +kernel
theorem dL_moves_860 : decode cL_moves 860 = .ok (.if_icmp .ne 56, 3) := by decide +kernel
theorem dL_moves_863 : decode cL_moves 863 = .ok (.aload_n 0, 1) := by decide +kernel
theorem dL_moves_864 : decode cL_moves 864 = .ok (.iload 4, 2) := by decide +kernel
theorem dL_moves_866 : decode cL_moves 866 = .ok (.iconst 1, 1) := by decide +kernel
theorem dL_moves_867 : decode cL_moves 867 = .ok (.invokevirtual 29, 3) := by decide +kernel
theorem dL_moves_870 : decode cL_moves 870 = .ok (.iload 11, 2) := by decide +kernel
theorem dL_moves_872 : decode cL_moves 872 = .ok (.if_icmp .ne 44, 3) := by decide +kernel
theorem dL_moves_875 : decode cL_moves 875 = .ok (.aload_n 0, 1) := by decide +kernel
theorem dL_moves_876 : decode cL_moves 876 = .ok (.iload 4, 2) := by decide +kernel
theorem dL_moves_878 : decode cL_moves 878 = .ok (.iconst 0, 1) := by decide +kernel
theorem dL_moves_879 : decode cL_moves 879 = .ok (.invokevirtual 29, 3) := by decide +kernel
theorem dL_moves_882 : decode cL_moves 882 = .ok (.iload 6, 2) := by decide +kernel
theorem dL_moves_884 : decode cL_moves 884 = .ok (.if_icmp .ne 32, 3) := by decide +kernel
theorem dL_moves_887 : decode cL_moves 887 = .ok (.aload_n 0, 1) := by decide +kernel
theorem dL_moves_888 : decode cL_moves 888 = .ok (.iload 4, 2) := by decide +kernel
theorem dL_moves_890 : decode cL_moves 890 = .ok (.iload 8, 2) := by decide +kernel
theorem dL_moves_892 : decode cL_moves 892 = .ok (.invokevirtual 33, 3) := by decide +kernel
theorem dL_moves_895 : decode cL_moves 895 = .ok (.bipush 32, 2) := by decide +kernel
theorem dL_moves_897 : decode cL_moves 897 = .ok (.if_icmp .ne 19, 3) := by decide +kernel
theorem dL_moves_900 : decode cL_moves 900 = .ok (.aload_n 0, 1) := by decide +kernel
theorem dL_moves_901 : decode cL_moves 901 = .ok (.iload 4, 2) := by decide +kernel
theorem dL_moves_903 : decode cL_moves 903 = .ok (.iconst 2, 1) := by decide +kernel
theorem dL_moves_904 : decode cL_moves 904 = .ok (.invokevirtual 29, 3) := by decide +kernel
theorem dL_moves_907 : decode cL_moves 907 = .ok (.iload 12, 2) := by decide +kernel
theorem dL_moves_909 : decode cL_moves 909 = .ok (.if_icmp .ne 7, 3) := by decide +kernel
theorem dL_moves_912 : decode cL_moves 912 = .ok (.iconst 1, 1) := by decide +kernel
theorem dL_moves_913 : decode cL_moves 913 = .ok (.goto 4, 3) := by decide +kernel
theorem dL_moves_916 : decode cL_moves 916 = .ok (.iconst 0, 1) := by decide +kernel
theorem dL_moves_917 : decode cL_moves 917 = .ok (.ireturn, 1) := by decide +kernel
theorem dL_moves_918 : decode cL_moves 918 = .ok (.aload_n 0, 1) := by decide +kernel
theorem dL_moves_919 : decode cL_moves 919 = .ok (.iload 4, 2) := by decide +kernel
theorem dL_moves_921 : decode cL_moves 921 = .ok (.invokevirtual 115, 3) := by decide +kernel
theorem dL_moves_924 : decode cL_moves 924 = .ok (.iload 5, 2) := by decide +kernel
theorem dL_moves_926 : decode cL_moves 926 = .ok (.ifCond .eq 7, 3) := by decide +kernel
theorem dL_moves_929 : decode cL_moves 929 = .ok (.iconst (-1), 1) := by decide +kernel
theorem dL_moves_930 : decode cL_moves 930 = .ok (.goto 6, 3) := by decide +kernel
theorem dL_moves_933 : decode cL_moves 933 = .ok (.iload_n 3, 1) := by decide +kernel
theorem dL_moves_934 : decode cL_moves 934 = .ok (.iconst 1, 1) := by decide +kernel
theorem dL_moves_935 : decode cL_moves 935 = .ok (.isub, 1) := by decide +kernel
theorem dL_moves_936 : decode cL_moves 936 = .ok (.if_icmp .ne 26, 3) := by decide +kernel
theorem dL_moves_939 : decode cL_moves 939 = .ok (.aload_n 0, 1) := by decide +kernel
theorem dL_moves_940 : decode cL_moves 940 = .ok (.invokevirtual 26, 3) := by decide +kernel
theorem dL_moves_943 : decode cL_moves 943 = .ok (.iload_n 3, 1) := by decide +kernel
theorem dL_moves_944 : decode cL_moves 944 = .ok (.iload 5, 2) := by decide +kernel
theorem dL_moves_946 : decode cL_moves 946 = .ok (.ifCond .eq 7, 3) := by decide +kernel
theorem dL_moves_949 : decode cL_moves 949 = .ok (.iconst 0, 1) := by decide +kernel
theorem dL_moves_950 : decode cL_moves 950 = .ok (.goto 4, 3) := by decide +kernel
theorem dL_moves_953 : decode cL_moves 953 = .ok (.iconst 1, 1) := by decide +kernel
theorem dL_moves_954 : decode cL_moves 954 = .ok (.isub, 1) := by decide +kernel
theorem dL_moves_955 : decode cL_moves 955 = .ok (.if_icmp .ne 7, 3) := by decide +kernel
theorem dL_moves_958 : decode cL_moves 958 = .ok (.iconst 1, 1) := by decide +kernel
theorem dL_moves_959 : decode cL_moves 959 = .ok (.goto 4, 3) := by decide +kernel
theorem dL_moves_962 : decode cL_moves 962 = .ok (.iconst 0, 1) := by decide +kernel
theorem dL_moves_963 : decode cL_moves 963 = .ok (.ireturn, 1) := by decide +kernel
theorem dL_own_0 : decode cL_own 0 = .ok (.iload_n 0, 1) := by decide +kernel
theorem dL_own_1 : decode cL_own 1 = .ok (.iload_n 1, 1) := by decide +kernel
theorem dL_own_2 : decode cL_own 2 = .ok (.imul, 1) := by decide +kernel
theorem dL_own_3 : decode cL_own 3 = .ok (.iload_n 2, 1) := by decide +kernel
theorem dL_own_4 : decode cL_own 4 = .ok (.idiv, 1) := by decide +kernel
theorem dL_own_5 : decode cL_own 5 = .ok (.istore_n 3, 1) := by decide +kernel
theorem dL_own_6 : decode cL_own 6 = .ok (.iload_n 3, 1) := by decide +kernel
theorem dL_own_7 : decode cL_own 7 = .ok (.iconst 1, 1) := by decide +kernel
theorem dL_own_8 : decode cL_own 8 = .ok (.if_icmp .ge 7, 3) := by decide +kernel
theorem dL_own_11 : decode cL_own 11 = .ok (.iconst 1, 1) := by decide +kernel
theorem dL_own_12 : decode cL_own 12 = .ok (.goto 15, 3) := by decide +kernel
theorem dL_own_15 : decode cL_own 15 = .ok (.iload_n 3, 1) := by decide +kernel
theorem dL_own_16 : decode cL_own 16 = .ok (.iload_n 0, 1) := by decide +kernel
theorem dL_own_17 : decode cL_own 17 = .ok (.if_icmp .ge 7, 3) := by decide +kernel
theorem dL_own_20 : decode cL_own 20 = .ok (.iload_n 3, 1) := by decide +kernel
theorem dL_own_21 : decode cL_own 21 = .ok (.goto 6, 3) := by decide +kernel
theorem dL_own_24 : decode cL_own 24 = .ok (.iload_n 0, 1) := by decide +kernel
theorem dL_own_25 : decode cL_own 25 = .ok (.iconst 1, 1) := by decide +kernel
theorem dL_own_26 : decode cL_own 26 = .ok (.isub, 1) := by decide +kernel
theorem dL_own_27 : decode cL_own 27 = .ok (.ireturn, 1) := by decide +kernel
theorem dL_acts_0 : decode cL_acts 0 = .ok (.iload_n 1, 1) := by decide +kernel
theorem dL_acts_1 : decode cL_acts 1 = .ok (.bipush 30, 2) := by decide +kernel
theorem dL_acts_3 : decode cL_acts 3 = .ok (.invokestatic 58, 3) := by decide +kernel
theorem dL_acts_6 : decode cL_acts 6 = .ok (.istore_n 3, 1) := by decide +kernel
theorem dL_acts_7 : decode cL_acts 7 = .ok (.aload_n 0, 1) := by decide +kernel
theorem dL_acts_8 : decode cL_acts 8 = .ok (.invokevirtual 19, 3) := by decide +kernel
theorem dL_acts_11 : decode cL_acts 11 = .ok (.istore 4, 2) := by decide +kernel
theorem dL_acts_13 : decode cL_acts 13 = .ok (.iload_n 3, 1) := by decide +kernel
theorem dL_acts_14 : decode cL_acts 14 = .ok (.bipush 9, 2) := by decide +kernel
theorem dL_acts_16 : decode cL_acts 16 = .ok (.if_icmp .ge 9, 3) := by decide +kernel
theorem dL_acts_19 : decode cL_acts 19 = .ok (.aload_n 0, 1) := by decide +kernel
theorem dL_acts_20 : decode cL_acts 20 = .ok (.iload_n 2, 1) := by decide +kernel
theorem dL_acts_21 : decode cL_acts 21 = .ok (.invokestatic 118, 3) := by decide +kernel
theorem dL_acts_24 : decode cL_acts 24 = .ok (.ireturn, 1) := by decide +kernel
theorem dL_acts_25 : decode cL_acts 25 = .ok (.iload_n 3, 1) := by decide +kernel
theorem dL_acts_26 : decode cL_acts 26 = .ok (.bipush 13, 2) := by decide +kernel
theorem dL_acts_28 : decode cL_acts 28 = .ok (.if_icmp .ge 169, 3) := by decide +kernel
theorem dL_acts_31 : decode cL_acts 31 = .ok (.iload_n 2, 1) := by decide +kernel
theorem dL_acts_32 : decode cL_acts 32 = .ok (.iconst 1, 1) := by decide +kernel
theorem dL_acts_33 : decode cL_acts 33 = .ok (.ishr, 1) := by decide +kernel
theorem dL_acts_34 : decode cL_acts 34 = .ok (.iconst 4, 1) := by decide +kernel
theorem dL_acts_35 : decode cL_acts 35 = .ok (.invokestatic 58, 3) := by decide +kernel
theorem dL_acts_38 : decode cL_acts 38 = .ok (.ifCond .ne 13, 3) := by decide +kernel
theorem dL_acts_41 : decode cL_acts 41 = .ok (.iload_n 2, 1) := by decide +kernel
theorem dL_acts_42 : decode cL_acts 42 = .ok (.sipush 5002, 3) := by decide +kernel
theorem dL_acts_45 : decode cL_acts 45 = .ok (.invokestatic 58, 3) := by decide +kernel
theorem dL_acts_48 : decode cL_acts 48 = .ok (.goto 10, 3) := by decide +kernel
theorem dL_acts_51 : decode cL_acts 51 = .ok (.iload_n 2, 1) := by decide +kernel
theorem dL_acts_52 : decode cL_acts 52 = .ok (.sipush 900, 3) := by decide +kernel
theorem dL_acts_55 : decode cL_acts 55 = .ok (.invokestatic 58, 3) := by decide +kernel
theorem dL_acts_58 : decode cL_acts 58 = .ok (.istore 5, 2) := by decide +kernel
theorem dL_acts_60 : decode cL_acts 60 = .ok (.iload 5, 2) := by decide +kernel
theorem dL_acts_62 : decode cL_acts 62 = .ok (.iconst 1, 1) := by decide +kernel
theorem dL_acts_63 : decode cL_acts 63 = .ok (.if_icmp .lt 11, 3) := by decide +kernel
theorem dL_acts_66 : decode cL_acts 66 = .ok (.iload 5, 2) := by decide +kernel
theorem dL_acts_68 : decode cL_acts 68 = .ok (.sipush 4999, 3) := by decide +kernel
theorem dL_acts_71 : decode cL_acts 71 = .ok (.if_icmp .le 7, 3) := by decide +kernel
theorem dL_acts_74 : decode cL_acts 74 = .ok (.iconst 1, 1) := by decide +kernel
theorem dL_acts_75 : decode cL_acts 75 = .ok (.goto 4, 3) := by decide +kernel
theorem dL_acts_78 : decode cL_acts 78 = .ok (.iconst 0, 1) := by decide +kernel
theorem dL_acts_79 : decode cL_acts 79 = .ok (.istore 6, 2) := by decide +kernel
theorem dL_acts_81 : decode cL_acts 81 = .ok (.iconst 0, 1) := by decide +kernel
theorem dL_acts_82 : decode cL_acts 82 = .ok (.istore 7, 2) := by decide +kernel
theorem dL_acts_84 : decode cL_acts 84 = .ok (.iconst 0, 1) := by decide +kernel
theorem dL_acts_85 : decode cL_acts 85 = .ok (.istore 8, 2) := by decide +kernel
theorem dL_acts_87 : decode cL_acts 87 = .ok (.iload 8, 2) := by decide +kernel
theorem dL_acts_89 : decode cL_acts 89 = .ok (.iload 4, 2) := by decide +kernel
theorem dL_acts_91 : decode cL_acts 91 = .ok (.if_icmp .ge 32, 3) := by decide +kernel
theorem dL_acts_94 : decode cL_acts 94 = .ok (.iload 7, 2) := by decide +kernel
theorem dL_acts_96 : decode cL_acts 96 = .ok (.ifCond .ne 14, 3) := by decide +kernel
theorem dL_acts_99 : decode cL_acts 99 = .ok (.aload_n 0, 1) := by decide +kernel
theorem dL_acts_100 : decode cL_acts 100 = .ok (.iload 8, 2) := by decide +kernel
theorem dL_acts_102 : decode cL_acts 102 = .ok (.invokevirtual 23, 3) := by decide +kernel
theorem dL_acts_105 : decode cL_acts 105 = .ok (.iload 5, 2) := by decide +kernel
theorem dL_acts_107 : decode cL_acts 107 = .ok (.if_icmp .ne 7, 3) := by decide +kernel
theorem dL_acts_110 : decode cL_acts 110 = .ok (.iconst 1, 1) := by decide +kernel
theorem dL_acts_111 : decode cL_acts 111 = .ok (.goto 4, 3) := by decide +kernel
theorem dL_acts_114 : decode cL_acts 114 = .ok (.iconst 0, 1) := by decide +kernel
theorem dL_acts_115 : decode cL_acts 115 = .ok (.istore 7, 2) := by decide +kernel
theorem dL_acts_117 : decode cL_acts 117 = .ok (.iinc 8 1, 3) := by decide +kernel
theorem dL_acts_120 : decode cL_acts 120 = .ok (.goto (-33), 3) := by decide +kernel
theorem dL_acts_123 : decode cL_acts 123 = .ok (.aload_n 0, 1) := by decide +kernel
theorem dL_acts_124 : decode cL_acts 124 = .ok (.iload 5, 2) := by decide +kernel
theorem dL_acts_126 : decode cL_acts 126 = .ok (.invokevirtual 121, 3) := by decide +kernel
theorem dL_acts_129 : decode cL_acts 129 = .ok (.istore 8, 2) := by decide +kernel
theorem dL_acts_131 : decode cL_acts 131 = .ok (.iload 8, 2) := by decide +kernel
theorem dL_acts_133 : decode cL_acts 133 = .ok (.iload 6, 2) := by decide +kernel
theorem dL_acts_135 : decode cL_acts 135 = .ok (.ifCond .eq 8, 3) := by decide +kernel
theorem dL_acts_138 : decode cL_acts 138 = .ok (.bipush (-2), 2) := by decide +kernel
theorem dL_acts_140 : decode cL_acts 140 = .ok (.goto 29, 3) := by decide +kernel
theorem dL_acts_143 : decode cL_acts 143 = .ok (.iload 7, 2) := by decide +kernel
theorem dL_acts_145 : decode cL_acts 145 = .ok (.ifCond .eq 8, 3) := by decide +kernel
theorem dL_acts_148 : decode cL_acts 148 = .ok (.bipush (-5), 2) := by decide +kernel
theorem dL_acts_150 : decode cL_acts 150 = .ok (.goto 19, 3) := by decide +kernel
theorem dL_acts_153 : decode cL_acts 153 = .ok (.iload 4, 2) := by decide +kernel
theorem dL_acts_155 : decode cL_acts 155 = .ok (.bipush 12, 2) := by decide +kernel
theorem dL_acts_157 : decode cL_acts 157 = .ok (.if_icmp .ne 8, 3) := by decide +kernel
theorem dL_acts_160 : decode cL_acts 160 = .ok (.bipush (-4), 2) := by decide +kernel
theorem dL_acts_162 : decode cL_acts 162 = .ok (.goto 7, 3) := by decide +kernel
theorem dL_acts_165 : decode cL_acts 165 = .ok (.iload 4, 2) := by decide +kernel
theorem dL_acts_167 : decode cL_acts 167 = .ok (.iconst 1, 1) := by decide +kernel
theorem dL_acts_168 : decode cL_acts 168 = .ok (.iadd, 1) := by decide +kernel
theorem dL_acts_169 : decode cL_acts 169 = .ok (.if_icmp .ne 26, 3) := by decide +kernel
theorem dL_acts_172 : decode cL_acts 172 = .ok (.aload_n 0, 1) := by decide +kernel
theorem dL_acts_173 : decode cL_acts 173 = .ok (.invokevirtual 19, 3) := by decide +kernel
theorem dL_acts_176 : decode cL_acts 176 = .ok (.iload 8, 2) := by decide +kernel
theorem dL_acts_178 : decode cL_acts 178 = .ok (.ifCond .ge 8, 3) := by decide +kernel
theorem dL_acts_181 : decode cL_acts 181 = .ok (.iload 4, 2) := by decide +kernel
theorem dL_acts_183 : decode cL_acts 183 = .ok (.goto 5, 3) := by decide +kernel
theorem dL_acts_186 : decode cL_acts 186 = .ok (.iload 8, 2) := by decide +kernel
theorem dL_acts_188 : decode cL_acts 188 = .ok (.if_icmp .ne 7, 3) := by decide +kernel
theorem dL_acts_191 : decode cL_acts 191 = .ok (.iconst 1, 1) := by decide +kernel
theorem dL_acts_192 : decode cL_acts 192 = .ok (.goto 4, 3) := by decide +kernel
theorem dL_acts_195 : decode cL_acts 195 = .ok (.iconst 0, 1) := by decide +kernel
theorem dL_acts_196 : decode cL_acts 196 = .ok (.ireturn, 1) := by decide +kernel
theorem dL_acts_197 : decode cL_acts 197 = .ok (.iload_n 3, 1) := by decide +kernel
theorem dL_acts_198 : decode cL_acts 198 = .ok (.bipush 13, 2) := by decide +kernel
theorem dL_acts_200 : decode cL_acts 200 = .ok (.if_icmp .ne 82, 3) := by decide +kernel
theorem dL_acts_203 : decode cL_acts 203 = .ok (.iload 4, 2) := by decide +kernel
theorem dL_acts_205 : decode cL_acts 205 = .ok (.ifCond .le 26, 3) := by decide +kernel
theorem dL_acts_208 : decode cL_acts 208 = .ok (.iload_n 2, 1) := by decide +kernel
theorem dL_acts_209 : decode cL_acts 209 = .ok (.iconst 4, 1) := by decide +kernel
theorem dL_acts_210 : decode cL_acts 210 = .ok (.invokestatic 58, 3) := by decide +kernel
theorem dL_acts_213 : decode cL_acts 213 = .ok (.ifCond .le 18, 3) := by decide +kernel
theorem dL_acts_216 : decode cL_acts 216 = .ok (.aload_n 0, 1) := by decide +kernel
theorem dL_acts_217 : decode cL_acts 217 = .ok (.iload_n 2, 1) := by decide +kernel
theorem dL_acts_218 : decode cL_acts 218 = .ok (.iconst 3, 1) := by decide +kernel
theorem dL_acts_219 : decode cL_acts 219 = .ok (.ishr, 1) := by decide +kernel
theorem dL_acts_220 : decode cL_acts 220 = .ok (.iload 4, 2) := by decide +kernel
theorem dL_acts_222 : decode cL_acts 222 = .ok (.invokestatic 58, 3) := by decide +kernel
theorem dL_acts_225 : decode cL_acts 225 = .ok (.invokevirtual 23, 3) := by decide +kernel
theorem dL_acts_228 : decode cL_acts 228 = .ok (.goto 4, 3) := by decide +kernel
theorem dL_acts_231 : decode cL_acts 231 = .ok (.iconst 0, 1) := by decide +kernel
theorem dL_acts_232 : decode cL_acts 232 = .ok (.istore 5, 2) := by decide +kernel
theorem dL_acts_234 : decode cL_acts 234 = .ok (.aload_n 0, 1) := by decide +kernel
theorem dL_acts_235 : decode cL_acts 235 = .ok (.iload 5, 2) := by decide +kernel
theorem dL_acts_237 : decode cL_acts 237 = .ok (.invokevirtual 124, 3) := by decide +kernel
theorem dL_acts_240 : decode cL_acts 240 = .ok (.iload 5, 2) := by decide +kernel
theorem dL_acts_242 : decode cL_acts 242 = .ok (.ifCond .ne 7, 3) := by decide +kernel
theorem dL_acts_245 : decode cL_acts 245 = .ok (.iconst (-1), 1) := by decide +kernel
theorem dL_acts_246 : decode cL_acts 246 = .ok (.goto 7, 3) := by decide +kernel
theorem dL_acts_249 : decode cL_acts 249 = .ok (.iload 4, 2) := by decide +kernel
theorem dL_acts_251 : decode cL_acts 251 = .ok (.iconst 1, 1) := by decide +kernel
theorem dL_acts_252 : decode cL_acts 252 = .ok (.isub, 1) := by decide +kernel
theorem dL_acts_253 : decode cL_acts 253 = .ok (.if_icmp .ne 27, 3) := by decide +kernel
theorem dL_acts_256 : decode cL_acts 256 = .ok (.aload_n 0, 1) := by decide +kernel
theorem dL_acts_257 : decode cL_acts 257 = .ok (.invokevirtual 19, 3) := by decide +kernel
theorem dL_acts_260 : decode cL_acts 260 = .ok (.iload 4, 2) := by decide +kernel
theorem dL_acts_262 : decode cL_acts 262 = .ok (.iload 5, 2) := by decide +kernel
theorem dL_acts_264 : decode cL_acts 264 = .ok (.ifCond .ne 7, 3) := by decide +kernel
theorem dL_acts_267 : decode cL_acts 267 = .ok (.iconst 0, 1) := by decide +kernel
theorem dL_acts_268 : decode cL_acts 268 = .ok (.goto 4, 3) := by decide +kernel
theorem dL_acts_271 : decode cL_acts 271 = .ok (.iconst 1, 1) := by decide +kernel
theorem dL_acts_272 : decode cL_acts 272 = .ok (.isub, 1) := by decide +kernel
theorem dL_acts_273 : decode cL_acts 273 = .ok (.if_icmp .ne 7, 3) := by decide +kernel
theorem dL_acts_276 : decode cL_acts 276 = .ok (.iconst 1, 1) := by decide +kernel
theorem dL_acts_277 : decode cL_acts 277 = .ok (.goto 4, 3) := by decide +kernel
theorem dL_acts_280 : decode cL_acts 280 = .ok (.iconst 0, 1) := by decide +kernel
theorem dL_acts_281 : decode cL_acts 281 = .ok (.ireturn, 1) := by decide +kernel
theorem dL_acts_282 : decode cL_acts 282 = .ok (.iload_n 3, 1) := by decide +kernel
theorem dL_acts_283 : decode cL_acts 283 = .ok (.bipush 17, 2) := by decide +kernel
theorem dL_acts_285 : decode cL_acts 285 = .ok (.if_icmp .ge 233, 3) := by decide +kernel
theorem dL_acts_288 : decode cL_acts 288 = .ok (.iload_n 2, 1) := by decide +kernel
theorem dL_acts_289 : decode cL_acts 289 = .ok (.bipush 7, 2) := by decide +kernel
theorem dL_acts_291 : decode cL_acts 291 = .ok (.invokestatic 58, 3) := by decide +kernel
theorem dL_acts_294 : decode cL_acts 294 = .ok (.istore 5, 2) := by decide +kernel
theorem dL_acts_296 : decode cL_acts 296 = .ok (.iload 5, 2) := by decide +kernel
theorem dL_acts_298 : decode cL_acts 298 = .ok (.ifCond .eq 9, 3) := by decide +kernel
theorem dL_acts_301 : decode cL_acts 301 = .ok (.iload 5, 2) := by decide +kernel
theorem dL_acts_303 : decode cL_acts 303 = .ok (.iconst 2, 1) := by decide +kernel
theorem dL_acts_304 : decode cL_acts 304 = .ok (.if_icmp .ne 7, 3) := by decide +kernel
theorem dL_acts_307 : decode cL_acts 307 = .ok (.iconst 5, 1) := by decide +kernel
theorem dL_acts_308 : decode cL_acts 308 = .ok (.goto 26, 3) := by decide +kernel
theorem dL_acts_311 : decode cL_acts 311 = .ok (.iload 5, 2) := by decide +kernel
theorem dL_acts_313 : decode cL_acts 313 = .ok (.iconst 3, 1) := by decide +kernel
theorem dL_acts_314 : decode cL_acts 314 = .ok (.if_icmp .ne 8, 3) := by decide +kernel
theorem dL_acts_317 : decode cL_acts 317 = .ok (.bipush 50, 2) := by decide +kernel
theorem dL_acts_319 : decode cL_acts 319 = .ok (.goto 15, 3) := by decide +kernel
theorem dL_acts_322 : decode cL_acts 322 = .ok (.iload 5, 2) := by decide +kernel
theorem dL_acts_324 : decode cL_acts 324 = .ok (.iconst 4, 1) := by decide +kernel
theorem dL_acts_325 : decode cL_acts 325 = .ok (.if_icmp .ne 8, 3) := by decide +kernel
theorem dL_acts_328 : decode cL_acts 328 = .ok (.bipush 10, 2) := by decide +kernel
theorem dL_acts_330 : decode cL_acts 330 = .ok (.goto 4, 3) := by decide +kernel
theorem dL_acts_333 : decode cL_acts 333 = .ok (.iconst 0, 1) := by decide +kernel
theorem dL_acts_334 : decode cL_acts 334 = .ok (.istore 6, 2) := by decide +kernel
theorem dL_acts_336 : decode cL_acts 336 = .ok (.iload 5, 2) := by decide +kernel
theorem dL_acts_338 : decode cL_acts 338 = .ok (.ifCond .eq 9, 3) := by decide +kernel
theorem dL_acts_341 : decode cL_acts 341 = .ok (.iload 5, 2) := by decide +kernel
theorem dL_acts_343 : decode cL_acts 343 = .ok (.iconst 4, 1) := by decide +kernel
theorem dL_acts_344 : decode cL_acts 344 = .ok (.if_icmp .ne 8, 3) := by decide +kernel
theorem dL_acts_347 : decode cL_acts 347 = .ok (.bipush 40, 2) := by decide +kernel
theorem dL_acts_349 : decode cL_acts 349 = .ok (.goto 39, 3) := by decide +kernel
theorem dL_acts_352 : decode cL_acts 352 = .ok (.iload 5, 2) := by decide +kernel
theorem dL_acts_354 : decode cL_acts 354 = .ok (.iconst 1, 1) := by decide +kernel
theorem dL_acts_355 : decode cL_acts 355 = .ok (.if_icmp .ne 8, 3) := by decide +kernel
theorem dL_acts_358 : decode cL_acts 358 = .ok (.bipush 20, 2) := by decide +kernel
theorem dL_acts_360 : decode cL_acts 360 = .ok (.goto 28, 3) := by decide +kernel
theorem dL_acts_363 : decode cL_acts 363 = .ok (.iload 5, 2) := by decide +kernel
theorem dL_acts_365 : decode cL_acts 365 = .ok (.iconst 2, 1) := by decide +kernel
theorem dL_acts_366 : decode cL_acts 366 = .ok (.if_icmp .ne 8, 3) := by decide +kernel
theorem dL_acts_369 : decode cL_acts 369 = .ok (.bipush 50, 2) := by decide +kernel
theorem dL_acts_371 : decode cL_acts 371 = .ok (.goto 17, 3) := by decide +kernel
theorem dL_acts_374 : decode cL_acts 374 = .ok (.iload 5, 2) := by decide +kernel
theorem dL_acts_376 : decode cL_acts 376 = .ok (.iconst 3, 1) := by decide +kernel
theorem dL_acts_377 : decode cL_acts 377 = .ok (.if_icmp .ne 9, 3) := by decide +kernel
theorem dL_acts_380 : decode cL_acts 380 = .ok (.sipush 250, 3) := by decide +kernel
theorem dL_acts_383 : decode cL_acts 383 = .ok (.goto 5, 3) := by decide +kernel
theorem dL_acts_386 : decode cL_acts 386 = .ok (.bipush 12, 2) := by decide +kernel
theorem dL_acts_388 : decode cL_acts 388 = .ok (.istore 7, 2) := by decide +kernel
theorem dL_acts_390 : decode cL_acts 390 = .ok (.iload 6, 2) := by decide +kernel
theorem dL_acts_392 : decode cL_acts 392 = .ok (.iconst 1, 1) := by decide +kernel
theorem dL_acts_393 : decode cL_acts 393 = .ok (.isub, 1) := by decide +kernel
theorem dL_acts_394 : decode cL_acts 394 = .ok (.iload_n 2, 1) := by decide +kernel
theorem dL_acts_395 : decode cL_acts 395 = .ok (.iconst 3, 1) := by decide +kernel
theorem dL_acts_396 : decode cL_acts 396 = .ok (.ishr, 1) := by decide +kernel
theorem dL_acts_397 : decode cL_acts 397 = .ok (.iload 7, 2) := by decide +kernel
theorem dL_acts_399 : decode cL_acts 399 = .ok (.iload 6, 2) := by decide +kernel
theorem dL_acts_401 : decode cL_acts 401 = .ok (.isub, 1) := by decide +kernel
theorem dL_acts_402 : decode cL_acts 402 = .ok (.iconst 3, 1) := by decide +kernel
theorem dL_acts_403 : decode cL_acts 403 = .ok (.iadd, 1) := by decide +kernel
theorem dL_acts_404 : decode cL_acts 404 = .ok (.invokestatic 58, 3) := by decide +kernel
theorem dL_acts_407 : decode cL_acts 407 = .ok (.iadd, 1) := by decide +kernel
theorem dL_acts_408 : decode cL_acts 408 = .ok (.istore 8, 2) := by decide +kernel
theorem dL_acts_410 : decode cL_acts 410 = .ok (.iload 8, 2) := by decide +kernel
theorem dL_acts_412 : decode cL_acts 412 = .ok (.iload 6, 2) := by decide +kernel
theorem dL_acts_414 : decode cL_acts 414 = .ok (.if_icmp .lt 10, 3) := by decide +kernel
theorem dL_acts_417 : decode cL_acts 417 = .ok (.iload 8, 2) := by decide +kernel
theorem dL_acts_419 : decode cL_acts 419 = .ok (.iload 7, 2) := by decide +kernel
theorem dL_acts_421 : decode cL_acts 421 = .ok (.if_icmp .le 7, 3) := by decide +kernel
theorem dL_acts_424 : decode cL_acts 424 = .ok (.iconst 1, 1) := by decide +kernel
theorem dL_acts_425 : decode cL_acts 425 = .ok (.goto 4, 3) := by decide +kernel
theorem dL_acts_428 : decode cL_acts 428 = .ok (.iconst 0, 1) := by decide +kernel
theorem dL_acts_429 : decode cL_acts 429 = .ok (.istore 9, 2) := by decide +kernel
theorem dL_acts_431 : decode cL_acts 431 = .ok (.iload 5, 2) := by decide +kernel
theorem dL_acts_433 : decode cL_acts 433 = .ok (.bipush 6, 2) := by decide +kernel
theorem dL_acts_435 : decode cL_acts 435 = .ok (.if_icmp .ne 7, 3) := by decide +kernel
theorem dL_acts_438 : decode cL_acts 438 = .ok (.iconst 0, 1) := by decide +kernel
theorem dL_acts_439 : decode cL_acts 439 = .ok (.goto 9, 3) := by decide +kernel
theorem dL_acts_442 : decode cL_acts 442 = .ok (.aload_n 0, 1) := by decide +kernel
theorem dL_acts_443 : decode cL_acts 443 = .ok (.iload 5, 2) := by decide +kernel
theorem dL_acts_445 : decode cL_acts 445 = .ok (.invokevirtual 13, 3) := by decide +kernel
theorem dL_acts_448 : decode cL_acts 448 = .ok (.istore 10, 2) := by decide +kernel
theorem dL_acts_450 : decode cL_acts 450 = .ok (.aload_n 0, 1) := by decide +kernel
theorem dL_acts_451 : decode cL_acts 451 = .ok (.iload 5, 2) := by decide +kernel
theorem dL_acts_453 : decode cL_acts 453 = .ok (.iload 8, 2) := by decide +kernel
theorem dL_acts_455 : decode cL_acts 455 = .ok (.invokevirtual 127, 3) := by decide +kernel
theorem dL_acts_458 : decode cL_acts 458 = .ok (.iload 5, 2) := by decide +kernel
theorem dL_acts_460 : decode cL_acts 460 = .ok (.bipush 6, 2) := by decide +kernel
theorem dL_acts_462 : decode cL_acts 462 = .ok (.if_icmp .ne 7, 3) := by decide +kernel
theorem dL_acts_465 : decode cL_acts 465 = .ok (.iconst (-1), 1) := by decide +kernel
theorem dL_acts_466 : decode cL_acts 466 = .ok (.goto 15, 3) := by decide +kernel
theorem dL_acts_469 : decode cL_acts 469 = .ok (.iload 9, 2) := by decide +kernel
theorem dL_acts_471 : decode cL_acts 471 = .ok (.ifCond .eq 8, 3) := by decide +kernel
theorem dL_acts_474 : decode cL_acts 474 = .ok (.bipush (-2), 2) := by decide +kernel
theorem dL_acts_476 : decode cL_acts 476 = .ok (.goto 5, 3) := by decide +kernel
theorem dL_acts_479 : decode cL_acts 479 = .ok (.iload 10, 2) := by decide +kernel
theorem dL_acts_481 : decode cL_acts 481 = .ok (.if_icmp .ne 35, 3) := by decide +kernel
theorem dL_acts_484 : decode cL_acts 484 = .ok (.iload 5, 2) := by decide +kernel
theorem dL_acts_486 : decode cL_acts 486 = .ok (.bipush 6, 2) := by decide +kernel
theorem dL_acts_488 : decode cL_acts 488 = .ok (.if_icmp .eq 24, 3) := by decide +kernel
theorem dL_acts_491 : decode cL_acts 491 = .ok (.aload_n 0, 1) := by decide +kernel
theorem dL_acts_492 : decode cL_acts 492 = .ok (.iload 5, 2) := by decide +kernel
theorem dL_acts_494 : decode cL_acts 494 = .ok (.invokevirtual 13, 3) := by decide +kernel
theorem dL_acts_497 : decode cL_acts 497 = .ok (.iload 9, 2) := by decide +kernel
theorem dL_acts_499 : decode cL_acts 499 = .ok (.ifCond .eq 8, 3) := by decide +kernel
theorem dL_acts_502 : decode cL_acts 502 = .ok (.iload 10, 2) := by decide +kernel
theorem dL_acts_504 : decode cL_acts 504 = .ok (.goto 5, 3) := by decide +kernel
theorem dL_acts_507 : decode cL_acts 507 = .ok (.iload 8, 2) := by decide +kernel
theorem dL_acts_509 : decode cL_acts 509 = .ok (.if_icmp .ne 7, 3) := by decide +kernel
theorem dL_acts_512 : decode cL_acts 512 = .ok (.iconst 1, 1) := by decide +kernel
theorem dL_acts_513 : decode cL_acts 513 = .ok (.goto 4, 3) := by decide +kernel
theorem dL_acts_516 : decode cL_acts 516 = .ok (.iconst 0, 1) := by decide +kernel
theorem dL_acts_517 : decode cL_acts 517 = .ok (.ireturn, 1) := by decide +kernel
theorem dL_acts_518 : decode cL_acts 518 = .ok (.iload_n 3, 1) := by decide +kernel
theorem dL_acts_519 : decode cL_acts 519 = .ok (.bipush 20, 2) := by decide +kernel
theorem dL_acts_521 : decode cL_acts 521 = .ok (.if_icmp .ge 58, 3) := by decide +kernel
theorem dL_acts_524 : decode cL_acts 524 = .ok (.aload_n 0, 1) := by decide +kernel
theorem dL_acts_525 : decode cL_acts 525 = .ok (.iconst 0, 1) := by decide +kernel
theorem dL_acts_526 : decode cL_acts 526 = .ok (.invokevirtual 67, 3) := by decide +kernel
theorem dL_acts_529 : decode cL_acts 529 = .ok (.istore 5, 2) := by decide +kernel
theorem dL_acts_531 : decode cL_acts 531 = .ok (.aload_n 0, 1) := by decide +kernel
theorem dL_acts_532 : decode cL_acts 532 = .ok (.iconst 1, 1) := by decide +kernel
theorem dL_acts_533 : decode cL_acts 533 = .ok (.invokevirtual 67, 3) := by decide +kernel
theorem dL_acts_536 : decode cL_acts 536 = .ok (.istore 6, 2) := by decide +kernel
theorem dL_acts_538 : decode cL_acts 538 = .ok (.aload_n 0, 1) := by decide +kernel
theorem dL_acts_539 : decode cL_acts 539 = .ok (.iconst 2, 1) := by decide +kernel
theorem dL_acts_540 : decode cL_acts 540 = .ok (.invokevirtual 67, 3) := by decide +kernel
theorem dL_acts_543 : decode cL_acts 543 = .ok (.istore 7, 2) := by decide +kernel
theorem dL_acts_545 : decode cL_acts 545 = .ok (.aload_n 0, 1) := by decide +kernel
theorem dL_acts_546 : decode cL_acts 546 = .ok (.invokevirtual 130, 3) := by decide +kernel
theorem dL_acts_549 : decode cL_acts 549 = .ok (.iload 5, 2) := by decide +kernel
theorem dL_acts_551 : decode cL_acts 551 = .ok (.if_icmp .ne 26, 3) := by decide +kernel
theorem dL_acts_554 : decode cL_acts 554 = .ok (.aload_n 0, 1) := by decide +kernel
theorem dL_acts_555 : decode cL_acts 555 = .ok (.iconst 0, 1) := by decide +kernel
theorem dL_acts_556 : decode cL_acts 556 = .ok (.invokevirtual 48, 3) := by decide +kernel
theorem dL_acts_559 : decode cL_acts 559 = .ok (.iload 6, 2) := by decide +kernel
theorem dL_acts_561 : decode cL_acts 561 = .ok (.if_icmp .ne 16, 3) := by decide +kernel
theorem dL_acts_564 : decode cL_acts 564 = .ok (.aload_n 0, 1) := by decide +kernel
theorem dL_acts_565 : decode cL_acts 565 = .ok (.invokevirtual 51, 3) := by decide +kernel
theorem dL_acts_568 : decode cL_acts 568 = .ok (.iload 7, 2) := by decide +kernel
theorem dL_acts_570 : decode cL_acts 570 = .ok (.if_icmp .ne 7, 3) := by decide +kernel
theorem dL_acts_573 : decode cL_acts 573 = .ok (.iconst 1, 1) := by decide +kernel
theorem dL_acts_574 : decode cL_acts 574 = .ok (.goto 4, 3) := by decide +kernel
theorem dL_acts_577 : decode cL_acts 577 = .ok (.iconst 0, 1) := by decide +kernel
theorem dL_acts_578 : decode cL_acts 578 = .ok (.ireturn, 1) := by decide +kernel
theorem dL_acts_579 : decode cL_acts 579 = .ok (.aload_n 0, 1) := by decide +kernel
theorem dL_acts_580 : decode cL_acts 580 = .ok (.iload_n 3, 1) := by decide +kernel
theorem dL_acts_581 : decode cL_acts 581 = .ok (.bipush 22, 2) := by decide +kernel
theorem dL_acts_583 : decode cL_acts 583 = .ok (.if_icmp .ge 7, 3) := by decide +kernel
theorem dL_acts_586 : decode cL_acts 586 = .ok (.iconst 0, 1) := by decide +kernel
theorem dL_acts_587 : decode cL_acts 587 = .ok (.goto 34, 3) := by decide +kernel
theorem dL_acts_590 : decode cL_acts 590 = .ok (.iload_n 3, 1) := by decide +kernel
theorem dL_acts_591 : decode cL_acts 591 = .ok (.bipush 24, 2) := by decide +kernel
theorem dL_acts_593 : decode cL_acts 593 = .ok (.if_icmp .ge 7, 3) := by decide +kernel
theorem dL_acts_596 : decode cL_acts 596 = .ok (.iconst 1, 1) := by decide +kernel
theorem dL_acts_597 : decode cL_acts 597 = .ok (.goto 24, 3) := by decide +kernel
theorem dL_acts_600 : decode cL_acts 600 = .ok (.iload_n 3, 1) := by decide +kernel
theorem dL_acts_601 : decode cL_acts 601 = .ok (.bipush 27, 2) := by decide +kernel
theorem dL_acts_603 : decode cL_acts 603 = .ok (.if_icmp .ge 7, 3) := by decide +kernel
theorem dL_acts_606 : decode cL_acts 606 = .ok (.iconst 2, 1) := by decide +kernel
theorem dL_acts_607 : decode cL_acts 607 = .ok (.goto 14, 3) := by decide +kernel
theorem dL_acts_610 : decode cL_acts 610 = .ok (.iload_n 3, 1) := by decide +kernel
theorem dL_acts_611 : decode cL_acts 611 = .ok (.bipush 29, 2) := by decide +kernel
theorem dL_acts_613 : decode cL_acts 613 = .ok (.if_icmp .ge 7, 3) := by decide +kernel
theorem dL_acts_616 : decode cL_acts 616 = .ok (.iconst 3, 1) := by decide +kernel
theorem dL_acts_617 : decode cL_acts 617 = .ok (.goto 4, 3) := by decide +kernel
theorem dL_acts_620 : decode cL_acts 620 = .ok (.iconst 4, 1) := by decide +kernel
theorem dL_acts_621 : decode cL_acts 621 = .ok (.iload_n 2, 1) := by decide +kernel
theorem dL_acts_622 : decode cL_acts 622 = .ok (.invokestatic 133, 3) := by decide +kernel
theorem dL_acts_625 : decode cL_acts 625 = .ok (.ireturn, 1) := by decide +kernel
theorem dL_law_0 : decode cL_law 0 = .ok (.new 14, 3) := by decide +kernel
theorem dL_law_3 : decode cL_law 3 = .ok (.dup, 1) := by decide +kernel
theorem dL_law_4 : decode cL_law 4 = .ok (.invokespecial 137, 3) := by decide +kernel
theorem dL_law_7 : decode cL_law 7 = .ok (.astore_n 1, 1) := by decide +kernel
theorem dL_law_8 : decode cL_law 8 = .ok (.aload_n 1, 1) := by decide +kernel
theorem dL_law_9 : decode cL_law 9 = .ok (.invokestatic 138, 3) := by decide +kernel
theorem dL_law_12 : decode cL_law 12 = .ok (.ifCond .eq 24, 3) := by decide +kernel
theorem dL_law_15 : decode cL_law 15 = .ok (.aload_n 1, 1) := by decide +kernel
theorem dL_law_16 : decode cL_law 16 = .ok (.iconst 0, 1) := by decide +kernel
theorem dL_law_17 : decode cL_law 17 = .ok (.invokestatic 142, 3) := by decide +kernel
theorem dL_law_20 : decode cL_law 20 = .ok (.ifCond .eq 16, 3) := by decide +kernel
theorem dL_law_23 : decode cL_law 23 = .ok (.aload_n 1, 1) := by decide +kernel
theorem dL_law_24 : decode cL_law 24 = .ok (.invokevirtual 145, 3) := by decide +kernel
theorem dL_law_27 : decode cL_law 27 = .ok (.bipush (-6), 2) := by decide +kernel
theorem dL_law_29 : decode cL_law 29 = .ok (.if_icmp .ne 7, 3) := by decide +kernel
theorem dL_law_32 : decode cL_law 32 = .ok (.iconst 1, 1) := by decide +kernel
theorem dL_law_33 : decode cL_law 33 = .ok (.goto 4, 3) := by decide +kernel
theorem dL_law_36 : decode cL_law 36 = .ok (.iconst 0, 1) := by decide +kernel
theorem dL_law_37 : decode cL_law 37 = .ok (.istore_n 2, 1) := by decide +kernel
theorem dL_law_38 : decode cL_law 38 = .ok (.iconst 0, 1) := by decide +kernel
theorem dL_law_39 : decode cL_law 39 = .ok (.istore_n 3, 1) := by decide +kernel
theorem dL_law_40 : decode cL_law 40 = .ok (.iload_n 3, 1) := by decide +kernel
theorem dL_law_41 : decode cL_law 41 = .ok (.bipush 56, 2) := by decide +kernel
theorem dL_law_43 : decode cL_law 43 = .ok (.if_icmp .ge 186, 3) := by decide +kernel
theorem dL_law_46 : decode cL_law 46 = .ok (.iload_n 2, 1) := by decide +kernel
theorem dL_law_47 : decode cL_law 47 = .ok (.ifCond .eq 182, 3) := by decide +kernel
theorem dL_law_50 : decode cL_law 50 = .ok (.iload_n 3, 1) := by decide +kernel
theorem dL_law_51 : decode cL_law 51 = .ok (.iconst 4, 1) := by decide +kernel
theorem dL_law_52 : decode cL_law 52 = .ok (.if_icmp .ge 7, 3) := by decide +kernel
theorem dL_law_55 : decode cL_law 55 = .ok (.iconst 0, 1) := by decide +kernel
theorem dL_law_56 : decode cL_law 56 = .ok (.goto 10, 3) := by decide +kernel
theorem dL_law_59 : decode cL_law 59 = .ok (.aload_n 0, 1) := by decide +kernel
theorem dL_law_60 : decode cL_law 60 = .ok (.iconst 2, 1) := by decide +kernel
theorem dL_law_61 : decode cL_law 61 = .ok (.iload_n 3, 1) := by decide +kernel
theorem dL_law_62 : decode cL_law 62 = .ok (.imul, 1) := by decide +kernel
theorem dL_law_63 : decode cL_law 63 = .ok (.invokestatic 148, 3) := by decide +kernel
theorem dL_law_66 : decode cL_law 66 = .ok (.istore 4, 2) := by decide +kernel
theorem dL_law_68 : decode cL_law 68 = .ok (.aload_n 0, 1) := by decide +kernel
theorem dL_law_69 : decode cL_law 69 = .ok (.iconst 2, 1) := by decide +kernel
theorem dL_law_70 : decode cL_law 70 = .ok (.iload_n 3, 1) := by decide +kernel
theorem dL_law_71 : decode cL_law 71 = .ok (.imul, 1) := by decide +kernel
theorem dL_law_72 : decode cL_law 72 = .ok (.iconst 1, 1) := by decide +kernel
theorem dL_law_73 : decode cL_law 73 = .ok (.iadd, 1) := by decide +kernel
theorem dL_law_74 : decode cL_law 74 = .ok (.invokestatic 148, 3) := by decide +kernel
theorem dL_law_77 : decode cL_law 77 = .ok (.istore 5, 2) := by decide +kernel
theorem dL_law_79 : decode cL_law 79 = .ok (.aload_n 1, 1) := by decide +kernel
theorem dL_law_80 : decode cL_law 80 = .ok (.invokestatic 83, 3) := by decide +kernel
theorem dL_law_83 : decode cL_law 83 = .ok (.lstore 6, 2) := by decide +kernel
theorem dL_law_85 : decode cL_law 85 = .ok (.aload_n 1, 1) := by decide +kernel
theorem dL_law_86 : decode cL_law 86 = .ok (.iload 4, 2) := by decide +kernel
theorem dL_law_88 : decode cL_law 88 = .ok (.iload 5, 2) := by decide +kernel
theorem dL_law_90 : decode cL_law 90 = .ok (.invokestatic 152, 3) := by decide +kernel
theorem dL_law_93 : decode cL_law 93 = .ok (.ifCond .eq 36, 3) := by decide +kernel
theorem dL_law_96 : decode cL_law 96 = .ok (.iload_n 3, 1) := by decide +kernel
theorem dL_law_97 : decode cL_law 97 = .ok (.iconst 3, 1) := by decide +kernel
theorem dL_law_98 : decode cL_law 98 = .ok (.irem, 1) := by decide +kernel
theorem dL_law_99 : decode cL_law 99 = .ok (.ifCond .gt 10, 3) := by decide +kernel
theorem dL_law_102 : decode cL_law 102 = .ok (.aload_n 1, 1) := by decide +kernel
theorem dL_law_103 : decode cL_law 103 = .ok (.invokestatic 138, 3) := by decide +kernel
theorem dL_law_106 : decode cL_law 106 = .ok (.ifCond .eq 23, 3) := by decide +kernel
theorem dL_law_109 : decode cL_law 109 = .ok (.iload_n 3, 1) := by decide +kernel
theorem dL_law_110 : decode cL_law 110 = .ok (.iconst 4, 1) := by decide +kernel
theorem dL_law_111 : decode cL_law 111 = .ok (.irem, 1) := by decide +kernel
theorem dL_law_112 : decode cL_law 112 = .ok (.iconst 2, 1) := by decide +kernel
theorem dL_law_113 : decode cL_law 113 = .ok (.if_icmp .ne 12, 3) := by decide +kernel
theorem dL_law_116 : decode cL_law 116 = .ok (.aload_n 1, 1) := by decide +kernel
theorem dL_law_117 : decode cL_law 117 = .ok (.iload 5, 2) := by decide +kernel
theorem dL_law_119 : decode cL_law 119 = .ok (.invokestatic 142, 3) := by decide +kernel
theorem dL_law_122 : decode cL_law 122 = .ok (.ifCond .eq 7, 3) := by decide +kernel
theorem dL_law_125 : decode cL_law 125 = .ok (.iconst 1, 1) := by decide +kernel
theorem dL_law_126 : decode cL_law 126 = .ok (.goto 4, 3) := by decide +kernel
theorem dL_law_129 : decode cL_law 129 = .ok (.iconst 0, 1) := by decide +kernel
theorem dL_law_130 : decode cL_law 130 = .ok (.istore_n 2, 1) := by decide +kernel
theorem dL_law_131 : decode cL_law 131 = .ok (.iload_n 2, 1) := by decide +kernel
theorem dL_law_132 : decode cL_law 132 = .ok (.ifCond .eq 48, 3) := by decide +kernel
theorem dL_law_135 : decode cL_law 135 = .ok (.aload_n 1, 1) := by decide +kernel
theorem dL_law_136 : decode cL_law 136 = .ok (.invokestatic 83, 3) := by decide +kernel
theorem dL_law_139 : decode cL_law 139 = .ok (.lload 6, 2) := by decide +kernel
theorem dL_law_141 : decode cL_law 141 = .ok (.lcmp, 1) := by decide +kernel
theorem dL_law_142 : decode cL_law 142 = .ok (.ifCond .eq 38, 3) := by decide +kernel
theorem dL_law_145 : decode cL_law 145 = .ok (.iload 5, 2) := by decide +kernel
theorem dL_law_147 : decode cL_law 147 = .ok (.bipush 8, 2) := by decide +kernel
theorem dL_law_149 : decode cL_law 149 = .ok (.ishr, 1) := by decide +kernel
theorem dL_law_150 : decode cL_law 150 = .ok (.iconst 3, 1) := by decide +kernel
theorem dL_law_151 : decode cL_law 151 = .ok (.invokestatic 58, 3) := by decide +kernel
theorem dL_law_154 : decode cL_law 154 = .ok (.ifCond .ne 26, 3) := by decide +kernel
theorem dL_law_157 : decode cL_law 157 = .ok (.aload_n 1, 1) := by decide +kernel
theorem dL_law_158 : decode cL_law 158 = .ok (.invokevirtual 145, 3) := by decide +kernel
theorem dL_law_161 : decode cL_law 161 = .ok (.ifCond .lt 17, 3) := by decide +kernel
theorem dL_law_164 : decode cL_law 164 = .ok (.aload_n 1, 1) := by decide +kernel
theorem dL_law_165 : decode cL_law 165 = .ok (.invokestatic 83, 3) := by decide +kernel
theorem dL_law_168 : decode cL_law 168 = .ok (.lload 6, 2) := by decide +kernel
theorem dL_law_170 : decode cL_law 170 = .ok (.lcmp, 1) := by decide +kernel
theorem dL_law_171 : decode cL_law 171 = .ok (.ifCond .ne 7, 3) := by decide +kernel
theorem dL_law_174 : decode cL_law 174 = .ok (.iconst 1, 1) := by decide +kernel
theorem dL_law_175 : decode cL_law 175 = .ok (.goto 4, 3) := by decide +kernel
theorem dL_law_178 : decode cL_law 178 = .ok (.iconst 0, 1) := by decide +kernel
theorem dL_law_179 : decode cL_law 179 = .ok (.istore_n 2, 1) := by decide +kernel
theorem dL_law_180 : decode cL_law 180 = .ok (.iload_n 2, 1) := by decide +kernel
theorem dL_law_181 : decode cL_law 181 = .ok (.ifCond .eq 42, 3) := by decide +kernel
theorem dL_law_184 : decode cL_law 184 = .ok (.iload_n 3, 1) := by decide +kernel
theorem dL_law_185 : decode cL_law 185 = .ok (.bipush 11, 2) := by decide +kernel
theorem dL_law_187 : decode cL_law 187 = .ok (.irem, 1) := by decide +kernel
theorem dL_law_188 : decode cL_law 188 = .ok (.bipush 10, 2) := by decide +kernel
theorem dL_law_190 : decode cL_law 190 = .ok (.if_icmp .ne 33, 3) := by decide +kernel
theorem dL_law_193 : decode cL_law 193 = .ok (.aload_n 1, 1) := by decide +kernel
theorem dL_law_194 : decode cL_law 194 = .ok (.invokevirtual 145, 3) := by decide +kernel
theorem dL_law_197 : decode cL_law 197 = .ok (.istore 8, 2) := by decide +kernel
theorem dL_law_199 : decode cL_law 199 = .ok (.iload 8, 2) := by decide +kernel
theorem dL_law_201 : decode cL_law 201 = .ok (.bipush (-6), 2) := by decide +kernel
theorem dL_law_203 : decode cL_law 203 = .ok (.if_icmp .eq 14, 3) := by decide +kernel
theorem dL_law_206 : decode cL_law 206 = .ok (.iload 8, 2) := by decide +kernel
theorem dL_law_208 : decode cL_law 208 = .ok (.ifCond .lt 13, 3) := by decide +kernel
theorem dL_law_211 : decode cL_law 211 = .ok (.iload 8, 2) := by decide +kernel
theorem dL_law_213 : decode cL_law 213 = .ok (.iconst 4, 1) := by decide +kernel
theorem dL_law_214 : decode cL_law 214 = .ok (.if_icmp .ge 7, 3) := by decide +kernel
theorem dL_law_217 : decode cL_law 217 = .ok (.iconst 1, 1) := by decide +kernel
theorem dL_law_218 : decode cL_law 218 = .ok (.goto 4, 3) := by decide +kernel
theorem dL_law_221 : decode cL_law 221 = .ok (.iconst 0, 1) := by decide +kernel
theorem dL_law_222 : decode cL_law 222 = .ok (.istore_n 2, 1) := by decide +kernel
theorem dL_law_223 : decode cL_law 223 = .ok (.iinc 3 1, 3) := by decide +kernel
theorem dL_law_226 : decode cL_law 226 = .ok (.goto (-186), 3) := by decide +kernel
theorem dL_law_229 : decode cL_law 229 = .ok (.iload_n 2, 1) := by decide +kernel
theorem dL_law_230 : decode cL_law 230 = .ok (.ifCond .eq 14, 3) := by decide +kernel
theorem dL_law_233 : decode cL_law 233 = .ok (.aload_n 1, 1) := by decide +kernel
theorem dL_law_234 : decode cL_law 234 = .ok (.invokestatic 138, 3) := by decide +kernel
theorem dL_law_237 : decode cL_law 237 = .ok (.ifCond .eq 7, 3) := by decide +kernel
theorem dL_law_240 : decode cL_law 240 = .ok (.iconst 1, 1) := by decide +kernel
theorem dL_law_241 : decode cL_law 241 = .ok (.goto 4, 3) := by decide +kernel
theorem dL_law_244 : decode cL_law 244 = .ok (.iconst 0, 1) := by decide +kernel
theorem dL_law_245 : decode cL_law 245 = .ok (.ireturn, 1) := by decide +kernel
