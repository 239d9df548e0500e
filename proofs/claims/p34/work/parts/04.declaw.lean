theorem dL_cell_0 : decode cL_cell 0 = .ok (.iload_n 1, 1) := by decide +kernel
theorem dL_cell_1 : decode cL_cell 1 = .ok (.aload_n 0, 1) := by decide +kernel
theorem dL_cell_2 : decode cL_cell 2 = .ok (.arraylength, 1) := by decide +kernel
theorem dL_cell_3 : decode cL_cell 3 = .ok (.if_icmp .ge 9, 3) := by decide +kernel
theorem dL_cell_6 : decode cL_cell 6 = .ok (.aload_n 0, 1) := by decide +kernel
theorem dL_cell_7 : decode cL_cell 7 = .ok (.iload_n 1, 1) := by decide +kernel
theorem dL_cell_8 : decode cL_cell 8 = .ok (.iaload, 1) := by decide +kernel
theorem dL_cell_9 : decode cL_cell 9 = .ok (.goto 14, 3) := by decide +kernel
theorem dL_cell_12 : decode cL_cell 12 = .ok (.ldc 7, 2) := by decide +kernel
theorem dL_cell_14 : decode cL_cell 14 = .ok (.iload_n 1, 1) := by decide +kernel
theorem dL_cell_15 : decode cL_cell 15 = .ok (.bipush 17, 2) := by decide +kernel
theorem dL_cell_17 : decode cL_cell 17 = .ok (.iadd, 1) := by decide +kernel
theorem dL_cell_18 : decode cL_cell 18 = .ok (.imul, 1) := by decide +kernel
theorem dL_cell_19 : decode cL_cell 19 = .ok (.sipush 2311, 3) := by decide +kernel
theorem dL_cell_22 : decode cL_cell 22 = .ok (.iadd, 1) := by decide +kernel
theorem dL_cell_23 : decode cL_cell 23 = .ok (.ldc 8, 2) := by decide +kernel
theorem dL_cell_25 : decode cL_cell 25 = .ok (.iand, 1) := by decide +kernel
theorem dL_cell_26 : decode cL_cell 26 = .ok (.ireturn, 1) := by decide +kernel
theorem dL_seen_0 : decode cL_seen 0 = .ok (.ldc2_w 9, 3) := by decide +kernel
theorem dL_seen_3 : decode cL_seen 3 = .ok (.lstore_n 1, 1) := by decide +kernel
theorem dL_seen_4 : decode cL_seen 4 = .ok (.iconst 0, 1) := by decide +kernel
theorem dL_seen_5 : decode cL_seen 5 = .ok (.istore_n 3, 1) := by decide +kernel
theorem dL_seen_6 : decode cL_seen 6 = .ok (.iload_n 3, 1) := by decide +kernel
theorem dL_seen_7 : decode cL_seen 7 = .ok (.bipush 9, 2) := by decide +kernel
theorem dL_seen_9 : decode cL_seen 9 = .ok (.if_icmp .ge 22, 3) := by decide +kernel
theorem dL_seen_12 : decode cL_seen 12 = .ok (.ldc2_w 11, 3) := by decide +kernel
theorem dL_seen_15 : decode cL_seen 15 = .ok (.lload_n 1, 1) := by decide +kernel
theorem dL_seen_16 : decode cL_seen 16 = .ok (.lmul, 1) := by decide +kernel
theorem dL_seen_17 : decode cL_seen 17 = .ok (.aload_n 0, 1) := by decide +kernel
theorem dL_seen_18 : decode cL_seen 18 = .ok (.iload_n 3, 1) := by decide +kernel
theorem dL_seen_19 : decode cL_seen 19 = .ok (.invokevirtual 13, 3) := by decide +kernel
theorem dL_seen_22 : decode cL_seen 22 = .ok (.i2l, 1) := by decide +kernel
theorem dL_seen_23 : decode cL_seen 23 = .ok (.ladd, 1) := by decide +kernel
theorem dL_seen_24 : decode cL_seen 24 = .ok (.lstore_n 1, 1) := by decide +kernel
theorem dL_seen_25 : decode cL_seen 25 = .ok (.iinc 3 1, 3) := by decide +kernel
theorem dL_seen_28 : decode cL_seen 28 = .ok (.goto (-22), 3) := by decide +kernel
theorem dL_seen_31 : decode cL_seen 31 = .ok (.iconst 0, 1) := by decide +kernel
theorem dL_seen_32 : decode cL_seen 32 = .ok (.istore_n 3, 1) := by decide +kernel
theorem dL_seen_33 : decode cL_seen 33 = .ok (.iload_n 3, 1) := by decide +kernel
theorem dL_seen_34 : decode cL_seen 34 = .ok (.bipush 32, 2) := by decide +kernel
theorem dL_seen_36 : decode cL_seen 36 = .ok (.if_icmp .ge 92, 3) := by decide +kernel
theorem dL_seen_39 : decode cL_seen 39 = .ok (.aload_n 0, 1) := by decide +kernel
theorem dL_seen_40 : decode cL_seen 40 = .ok (.iload_n 3, 1) := by decide +kernel
theorem dL_seen_41 : decode cL_seen 41 = .ok (.invokevirtual 19, 3) := by decide +kernel
theorem dL_seen_44 : decode cL_seen 44 = .ok (.istore 4, 2) := by decide +kernel
theorem dL_seen_46 : decode cL_seen 46 = .ok (.ldc2_w 11, 3) := by decide +kernel
theorem dL_seen_49 : decode cL_seen 49 = .ok (.ldc2_w 11, 3) := by decide +kernel
theorem dL_seen_52 : decode cL_seen 52 = .ok (.ldc2_w 11, 3) := by decide +kernel
theorem dL_seen_55 : decode cL_seen 55 = .ok (.lload_n 1, 1) := by decide +kernel
theorem dL_seen_56 : decode cL_seen 56 = .ok (.lmul, 1) := by decide +kernel
theorem dL_seen_57 : decode cL_seen 57 = .ok (.iload 4, 2) := by decide +kernel
theorem dL_seen_59 : decode cL_seen 59 = .ok (.i2l, 1) := by decide +kernel
theorem dL_seen_60 : decode cL_seen 60 = .ok (.ladd, 1) := by decide +kernel
theorem dL_seen_61 : decode cL_seen 61 = .ok (.lmul, 1) := by decide +kernel
theorem dL_seen_62 : decode cL_seen 62 = .ok (.aload_n 0, 1) := by decide +kernel
theorem dL_seen_63 : decode cL_seen 63 = .ok (.iload_n 3, 1) := by decide +kernel
theorem dL_seen_64 : decode cL_seen 64 = .ok (.invokevirtual 22, 3) := by decide +kernel
theorem dL_seen_67 : decode cL_seen 67 = .ok (.i2l, 1) := by decide +kernel
theorem dL_seen_68 : decode cL_seen 68 = .ok (.ladd, 1) := by decide +kernel
theorem dL_seen_69 : decode cL_seen 69 = .ok (.lmul, 1) := by decide +kernel
theorem dL_seen_70 : decode cL_seen 70 = .ok (.aload_n 0, 1) := by decide +kernel
theorem dL_seen_71 : decode cL_seen 71 = .ok (.iload_n 3, 1) := by decide +kernel
theorem dL_seen_72 : decode cL_seen 72 = .ok (.invokevirtual 25, 3) := by decide +kernel
theorem dL_seen_75 : decode cL_seen 75 = .ok (.i2l, 1) := by decide +kernel
theorem dL_seen_76 : decode cL_seen 76 = .ok (.ladd, 1) := by decide +kernel
theorem dL_seen_77 : decode cL_seen 77 = .ok (.lstore_n 1, 1) := by decide +kernel
theorem dL_seen_78 : decode cL_seen 78 = .ok (.ldc2_w 11, 3) := by decide +kernel
theorem dL_seen_81 : decode cL_seen 81 = .ok (.lload_n 1, 1) := by decide +kernel
theorem dL_seen_82 : decode cL_seen 82 = .ok (.lmul, 1) := by decide +kernel
theorem dL_seen_83 : decode cL_seen 83 = .ok (.iload 4, 2) := by decide +kernel
theorem dL_seen_85 : decode cL_seen 85 = .ok (.ifCond .ge 7, 3) := by decide +kernel
theorem dL_seen_88 : decode cL_seen 88 = .ok (.iconst 0, 1) := by decide +kernel
theorem dL_seen_89 : decode cL_seen 89 = .ok (.goto 30, 3) := by decide +kernel
theorem dL_seen_92 : decode cL_seen 92 = .ok (.ldc 28, 2) := by decide +kernel
theorem dL_seen_94 : decode cL_seen 94 = .ok (.aload_n 0, 1) := by decide +kernel
theorem dL_seen_95 : decode cL_seen 95 = .ok (.iload 4, 2) := by decide +kernel
theorem dL_seen_97 : decode cL_seen 97 = .ok (.invokevirtual 29, 3) := by decide +kernel
theorem dL_seen_100 : decode cL_seen 100 = .ok (.imul, 1) := by decide +kernel
theorem dL_seen_101 : decode cL_seen 101 = .ok (.sipush 1000, 3) := by decide +kernel
theorem dL_seen_104 : decode cL_seen 104 = .ok (.aload_n 0, 1) := by decide +kernel
theorem dL_seen_105 : decode cL_seen 105 = .ok (.iload 4, 2) := by decide +kernel
theorem dL_seen_107 : decode cL_seen 107 = .ok (.invokevirtual 32, 3) := by decide +kernel
theorem dL_seen_110 : decode cL_seen 110 = .ok (.imul, 1) := by decide +kernel
theorem dL_seen_111 : decode cL_seen 111 = .ok (.iadd, 1) := by decide +kernel
theorem dL_seen_112 : decode cL_seen 112 = .ok (.aload_n 0, 1) := by decide +kernel
theorem dL_seen_113 : decode cL_seen 113 = .ok (.iload 4, 2) := by decide +kernel
theorem dL_seen_115 : decode cL_seen 115 = .ok (.invokevirtual 35, 3) := by decide +kernel
theorem dL_seen_118 : decode cL_seen 118 = .ok (.iadd, 1) := by decide +kernel
theorem dL_seen_119 : decode cL_seen 119 = .ok (.i2l, 1) := by decide +kernel
theorem dL_seen_120 : decode cL_seen 120 = .ok (.ladd, 1) := by decide +kernel
theorem dL_seen_121 : decode cL_seen 121 = .ok (.lstore_n 1, 1) := by decide +kernel
theorem dL_seen_122 : decode cL_seen 122 = .ok (.iinc 3 1, 3) := by decide +kernel
theorem dL_seen_125 : decode cL_seen 125 = .ok (.goto (-92), 3) := by decide +kernel
theorem dL_seen_128 : decode cL_seen 128 = .ok (.lload_n 1, 1) := by decide +kernel
theorem dL_seen_129 : decode cL_seen 129 = .ok (.lreturn, 1) := by decide +kernel
theorem dL_isInOrder_0 : decode cL_isInOrder 0 = .ok (.iconst 0, 1) := by decide +kernel
theorem dL_isInOrder_1 : decode cL_isInOrder 1 = .ok (.istore_n 1, 1) := by decide +kernel
theorem dL_isInOrder_2 : decode cL_isInOrder 2 = .ok (.iconst (-1), 1) := by decide +kernel
theorem dL_isInOrder_3 : decode cL_isInOrder 3 = .ok (.istore_n 2, 1) := by decide +kernel
theorem dL_isInOrder_4 : decode cL_isInOrder 4 = .ok (.iconst 0, 1) := by decide +kernel
theorem dL_isInOrder_5 : decode cL_isInOrder 5 = .ok (.istore_n 3, 1) := by decide +kernel
theorem dL_isInOrder_6 : decode cL_isInOrder 6 = .ok (.iconst 0, 1) := by decide +kernel
theorem dL_isInOrder_7 : decode cL_isInOrder 7 = .ok (.istore 4, 2) := by decide +kernel
theorem dL_isInOrder_9 : decode cL_isInOrder 9 = .ok (.iconst 1, 1) := by decide +kernel
theorem dL_isInOrder_10 : decode cL_isInOrder 10 = .ok (.istore 5, 2) := by decide +kernel
theorem dL_isInOrder_12 : decode cL_isInOrder 12 = .ok (.iconst 0, 1) := by decide +kernel
theorem dL_isInOrder_13 : decode cL_isInOrder 13 = .ok (.istore 6, 2) := by decide +kernel
theorem dL_isInOrder_15 : decode cL_isInOrder 15 = .ok (.iload 6, 2) := by decide +kernel
theorem dL_isInOrder_17 : decode cL_isInOrder 17 = .ok (.bipush 32, 2) := by decide +kernel
theorem dL_isInOrder_19 : decode cL_isInOrder 19 = .ok (.if_icmp .ge 215, 3) := by decide +kernel
theorem dL_isInOrder_22 : decode cL_isInOrder 22 = .ok (.iload 5, 2) := by decide +kernel
theorem dL_isInOrder_24 : decode cL_isInOrder 24 = .ok (.ifCond .eq 210, 3) := by decide +kernel
theorem dL_isInOrder_27 : decode cL_isInOrder 27 = .ok (.aload_n 0, 1) := by decide +kernel
theorem dL_isInOrder_28 : decode cL_isInOrder 28 = .ok (.iload 6, 2) := by decide +kernel
theorem dL_isInOrder_30 : decode cL_isInOrder 30 = .ok (.invokevirtual 19, 3) := by decide +kernel
theorem dL_isInOrder_33 : decode cL_isInOrder 33 = .ok (.istore 7, 2) := by decide +kernel
theorem dL_isInOrder_35 : decode cL_isInOrder 35 = .ok (.iload 7, 2) := by decide +kernel
theorem dL_isInOrder_37 : decode cL_isInOrder 37 = .ok (.ifCond .lt 191, 3) := by decide +kernel
theorem dL_isInOrder_40 : decode cL_isInOrder 40 = .ok (.aload_n 0, 1) := by decide +kernel
theorem dL_isInOrder_41 : decode cL_isInOrder 41 = .ok (.iload 7, 2) := by decide +kernel
theorem dL_isInOrder_43 : decode cL_isInOrder 43 = .ok (.invokevirtual 32, 3) := by decide +kernel
theorem dL_isInOrder_46 : decode cL_isInOrder 46 = .ok (.istore 8, 2) := by decide +kernel
theorem dL_isInOrder_48 : decode cL_isInOrder 48 = .ok (.aload_n 0, 1) := by decide +kernel
theorem dL_isInOrder_49 : decode cL_isInOrder 49 = .ok (.iload 7, 2) := by decide +kernel
theorem dL_isInOrder_51 : decode cL_isInOrder 51 = .ok (.invokevirtual 38, 3) := by decide +kernel
theorem dL_isInOrder_54 : decode cL_isInOrder 54 = .ok (.istore 9, 2) := by decide +kernel
theorem dL_isInOrder_56 : decode cL_isInOrder 56 = .ok (.iload 8, 2) := by decide +kernel
theorem dL_isInOrder_58 : decode cL_isInOrder 58 = .ok (.iload_n 1, 1) := by decide +kernel
theorem dL_isInOrder_59 : decode cL_isInOrder 59 = .ok (.if_icmp .lt 73, 3) := by decide +kernel
theorem dL_isInOrder_62 : decode cL_isInOrder 62 = .ok (.iload 8, 2) := by decide +kernel
theorem dL_isInOrder_64 : decode cL_isInOrder 64 = .ok (.bipush 100, 2) := by decide +kernel
theorem dL_isInOrder_66 : decode cL_isInOrder 66 = .ok (.if_icmp .ge 66, 3) := by decide +kernel
theorem dL_isInOrder_69 : decode cL_isInOrder 69 = .ok (.iload 8, 2) := by decide +kernel
theorem dL_isInOrder_71 : decode cL_isInOrder 71 = .ok (.iload_n 1, 1) := by decide +kernel
theorem dL_isInOrder_72 : decode cL_isInOrder 72 = .ok (.if_icmp .gt 9, 3) := by decide +kernel
theorem dL_isInOrder_75 : decode cL_isInOrder 75 = .ok (.iload 7, 2) := by decide +kernel
theorem dL_isInOrder_77 : decode cL_isInOrder 77 = .ok (.iload_n 2, 1) := by decide +kernel
theorem dL_isInOrder_78 : decode cL_isInOrder 78 = .ok (.if_icmp .lt 54, 3) := by decide +kernel
theorem dL_isInOrder_81 : decode cL_isInOrder 81 = .ok (.iload 9, 2) := by decide +kernel
theorem dL_isInOrder_83 : decode cL_isInOrder 83 = .ok (.ifCond .le 49, 3) := by decide +kernel
theorem dL_isInOrder_86 : decode cL_isInOrder 86 = .ok (.aload_n 0, 1) := by decide +kernel
theorem dL_isInOrder_87 : decode cL_isInOrder 87 = .ok (.iload 7, 2) := by decide +kernel
theorem dL_isInOrder_89 : decode cL_isInOrder 89 = .ok (.invokevirtual 29, 3) := by decide +kernel
theorem dL_isInOrder_92 : decode cL_isInOrder 92 = .ok (.ifCond .lt 40, 3) := by decide +kernel
theorem dL_isInOrder_95 : decode cL_isInOrder 95 = .ok (.aload_n 0, 1) := by decide +kernel
theorem dL_isInOrder_96 : decode cL_isInOrder 96 = .ok (.iload 7, 2) := by decide +kernel
theorem dL_isInOrder_98 : decode cL_isInOrder 98 = .ok (.invokevirtual 29, 3) := by decide +kernel
theorem dL_isInOrder_101 : decode cL_isInOrder 101 = .ok (.bipush 10, 2) := by decide +kernel
theorem dL_isInOrder_103 : decode cL_isInOrder 103 = .ok (.if_icmp .ge 29, 3) := by decide +kernel
theorem dL_isInOrder_106 : decode cL_isInOrder 106 = .ok (.iload 7, 2) := by decide +kernel
theorem dL_isInOrder_108 : decode cL_isInOrder 108 = .ok (.aload_n 0, 1) := by decide +kernel
theorem dL_isInOrder_109 : decode cL_isInOrder 109 = .ok (.iconst 2, 1) := by decide +kernel
theorem dL_isInOrder_110 : decode cL_isInOrder 110 = .ok (.invokevirtual 13, 3) := by decide +kernel
theorem dL_isInOrder_113 : decode cL_isInOrder 113 = .ok (.if_icmp .ge 19, 3) := by decide +kernel
theorem dL_isInOrder_116 : decode cL_isInOrder 116 = .ok (.aload_n 0, 1) := by decide +kernel
theorem dL_isInOrder_117 : decode cL_isInOrder 117 = .ok (.iload 7, 2) := by decide +kernel
theorem dL_isInOrder_119 : decode cL_isInOrder 119 = .ok (.iload 9, 2) := by decide +kernel
theorem dL_isInOrder_121 : decode cL_isInOrder 121 = .ok (.invokevirtual 41, 3) := by decide +kernel
theorem dL_isInOrder_124 : decode cL_isInOrder 124 = .ok (.iconst (-1), 1) := by decide +kernel
theorem dL_isInOrder_125 : decode cL_isInOrder 125 = .ok (.if_icmp .ne 7, 3) := by decide +kernel
theorem dL_isInOrder_128 : decode cL_isInOrder 128 = .ok (.iconst 1, 1) := by decide +kernel
theorem dL_isInOrder_129 : decode cL_isInOrder 129 = .ok (.goto 4, 3) := by decide +kernel
theorem dL_isInOrder_132 : decode cL_isInOrder 132 = .ok (.iconst 0, 1) := by decide +kernel
theorem dL_isInOrder_133 : decode cL_isInOrder 133 = .ok (.istore 5, 2) := by decide +kernel
theorem dL_isInOrder_135 : decode cL_isInOrder 135 = .ok (.iload 5, 2) := by decide +kernel
theorem dL_isInOrder_137 : decode cL_isInOrder 137 = .ok (.ifCond .eq 82, 3) := by decide +kernel
theorem dL_isInOrder_140 : decode cL_isInOrder 140 = .ok (.aload_n 0, 1) := by decide +kernel
theorem dL_isInOrder_141 : decode cL_isInOrder 141 = .ok (.iload 7, 2) := by decide +kernel
theorem dL_isInOrder_143 : decode cL_isInOrder 143 = .ok (.iconst 0, 1) := by decide +kernel
theorem dL_isInOrder_144 : decode cL_isInOrder 144 = .ok (.invokevirtual 41, 3) := by decide +kernel
theorem dL_isInOrder_147 : decode cL_isInOrder 147 = .ok (.iload 6, 2) := by decide +kernel
theorem dL_isInOrder_149 : decode cL_isInOrder 149 = .ok (.if_icmp .ne 70, 3) := by decide +kernel
theorem dL_isInOrder_152 : decode cL_isInOrder 152 = .ok (.iinc 4 1, 3) := by decide +kernel
theorem dL_isInOrder_155 : decode cL_isInOrder 155 = .ok (.iconst 1, 1) := by decide +kernel
theorem dL_isInOrder_156 : decode cL_isInOrder 156 = .ok (.istore 10, 2) := by decide +kernel
theorem dL_isInOrder_158 : decode cL_isInOrder 158 = .ok (.iload 10, 2) := by decide +kernel
theorem dL_isInOrder_160 : decode cL_isInOrder 160 = .ok (.iload 9, 2) := by decide +kernel
theorem dL_isInOrder_162 : decode cL_isInOrder 162 = .ok (.if_icmp .ge 57, 3) := by decide +kernel
theorem dL_isInOrder_165 : decode cL_isInOrder 165 = .ok (.iload 5, 2) := by decide +kernel
theorem dL_isInOrder_167 : decode cL_isInOrder 167 = .ok (.ifCond .eq 52, 3) := by decide +kernel
theorem dL_isInOrder_170 : decode cL_isInOrder 170 = .ok (.aload_n 0, 1) := by decide +kernel
theorem dL_isInOrder_171 : decode cL_isInOrder 171 = .ok (.iload 7, 2) := by decide +kernel
theorem dL_isInOrder_173 : decode cL_isInOrder 173 = .ok (.iload 10, 2) := by decide +kernel
theorem dL_isInOrder_175 : decode cL_isInOrder 175 = .ok (.invokevirtual 41, 3) := by decide +kernel
theorem dL_isInOrder_178 : decode cL_isInOrder 178 = .ok (.istore 11, 2) := by decide +kernel
theorem dL_isInOrder_180 : decode cL_isInOrder 180 = .ok (.iload 11, 2) := by decide +kernel
theorem dL_isInOrder_182 : decode cL_isInOrder 182 = .ok (.aload_n 0, 1) := by decide +kernel
theorem dL_isInOrder_183 : decode cL_isInOrder 183 = .ok (.iload 7, 2) := by decide +kernel
theorem dL_isInOrder_185 : decode cL_isInOrder 185 = .ok (.iload 10, 2) := by decide +kernel
theorem dL_isInOrder_187 : decode cL_isInOrder 187 = .ok (.iconst 1, 1) := by decide +kernel
theorem dL_isInOrder_188 : decode cL_isInOrder 188 = .ok (.isub, 1) := by decide +kernel
theorem dL_isInOrder_189 : decode cL_isInOrder 189 = .ok (.invokevirtual 41, 3) := by decide +kernel
theorem dL_isInOrder_192 : decode cL_isInOrder 192 = .ok (.if_icmp .le 18, 3) := by decide +kernel
theorem dL_isInOrder_195 : decode cL_isInOrder 195 = .ok (.aload_n 0, 1) := by decide +kernel
theorem dL_isInOrder_196 : decode cL_isInOrder 196 = .ok (.iload 11, 2) := by decide +kernel
theorem dL_isInOrder_198 : decode cL_isInOrder 198 = .ok (.invokevirtual 19, 3) := by decide +kernel
theorem dL_isInOrder_201 : decode cL_isInOrder 201 = .ok (.iload 7, 2) := by decide +kernel
theorem dL_isInOrder_203 : decode cL_isInOrder 203 = .ok (.if_icmp .ne 7, 3) := by decide +kernel
theorem dL_isInOrder_206 : decode cL_isInOrder 206 = .ok (.iconst 1, 1) := by decide +kernel
theorem dL_isInOrder_207 : decode cL_isInOrder 207 = .ok (.goto 4, 3) := by decide +kernel
theorem dL_isInOrder_210 : decode cL_isInOrder 210 = .ok (.iconst 0, 1) := by decide +kernel
theorem dL_isInOrder_211 : decode cL_isInOrder 211 = .ok (.istore 5, 2) := by decide +kernel
theorem dL_isInOrder_213 : decode cL_isInOrder 213 = .ok (.iinc 10 1, 3) := by decide +kernel
theorem dL_isInOrder_216 : decode cL_isInOrder 216 = .ok (.goto (-58), 3) := by decide +kernel
theorem dL_isInOrder_219 : decode cL_isInOrder 219 = .ok (.iload 8, 2) := by decide +kernel
theorem dL_isInOrder_221 : decode cL_isInOrder 221 = .ok (.istore_n 1, 1) := by decide +kernel
theorem dL_isInOrder_222 : decode cL_isInOrder 222 = .ok (.iload 7, 2) := by decide +kernel
theorem dL_isInOrder_224 : decode cL_isInOrder 224 = .ok (.istore_n 2, 1) := by decide +kernel
theorem dL_isInOrder_225 : decode cL_isInOrder 225 = .ok (.iinc 3 1, 3) := by decide +kernel
theorem dL_isInOrder_228 : decode cL_isInOrder 228 = .ok (.iinc 6 1, 3) := by decide +kernel
theorem dL_isInOrder_231 : decode cL_isInOrder 231 = .ok (.goto (-216), 3) := by decide +kernel
theorem dL_isInOrder_234 : decode cL_isInOrder 234 = .ok (.iload 5, 2) := by decide +kernel
theorem dL_isInOrder_236 : decode cL_isInOrder 236 = .ok (.ifCond .eq 26, 3) := by decide +kernel
theorem dL_isInOrder_239 : decode cL_isInOrder 239 = .ok (.iload_n 3, 1) := by decide +kernel
theorem dL_isInOrder_240 : decode cL_isInOrder 240 = .ok (.aload_n 0, 1) := by decide +kernel
theorem dL_isInOrder_241 : decode cL_isInOrder 241 = .ok (.iconst 0, 1) := by decide +kernel
theorem dL_isInOrder_242 : decode cL_isInOrder 242 = .ok (.invokevirtual 13, 3) := by decide +kernel
theorem dL_isInOrder_245 : decode cL_isInOrder 245 = .ok (.if_icmp .ne 17, 3) := by decide +kernel
theorem dL_isInOrder_248 : decode cL_isInOrder 248 = .ok (.iload 4, 2) := by decide +kernel
theorem dL_isInOrder_250 : decode cL_isInOrder 250 = .ok (.aload_n 0, 1) := by decide +kernel
theorem dL_isInOrder_251 : decode cL_isInOrder 251 = .ok (.iconst 1, 1) := by decide +kernel
theorem dL_isInOrder_252 : decode cL_isInOrder 252 = .ok (.invokevirtual 13, 3) := by decide +kernel
theorem dL_isInOrder_255 : decode cL_isInOrder 255 = .ok (.if_icmp .ne 7, 3) := by decide +kernel
theorem dL_isInOrder_258 : decode cL_isInOrder 258 = .ok (.iconst 1, 1) := by decide +kernel
theorem dL_isInOrder_259 : decode cL_isInOrder 259 = .ok (.goto 4, 3) := by decide +kernel
theorem dL_isInOrder_262 : decode cL_isInOrder 262 = .ok (.iconst 0, 1) := by decide +kernel
theorem dL_isInOrder_263 : decode cL_isInOrder 263 = .ok (.ireturn, 1) := by decide +kernel
theorem dL_isCounted_0 : decode cL_isCounted 0 = .ok (.iconst 0, 1) := by decide +kernel
theorem dL_isCounted_1 : decode cL_isCounted 1 = .ok (.istore_n 2, 1) := by decide +kernel
theorem dL_isCounted_2 : decode cL_isCounted 2 = .ok (.iconst 0, 1) := by decide +kernel
theorem dL_isCounted_3 : decode cL_isCounted 3 = .ok (.istore_n 3, 1) := by decide +kernel
theorem dL_isCounted_4 : decode cL_isCounted 4 = .ok (.iconst 0, 1) := by decide +kernel
theorem dL_isCounted_5 : decode cL_isCounted 5 = .ok (.istore 4, 2) := by decide +kernel
theorem dL_isCounted_7 : decode cL_isCounted 7 = .ok (.iload 4, 2) := by decide +kernel
theorem dL_isCounted_9 : decode cL_isCounted 9 = .ok (.bipush 32, 2) := by decide +kernel
theorem dL_isCounted_11 : decode cL_isCounted 11 = .ok (.if_icmp .ge 44, 3) := by decide +kernel
theorem dL_isCounted_14 : decode cL_isCounted 14 = .ok (.aload_n 0, 1) := by decide +kernel
theorem dL_isCounted_15 : decode cL_isCounted 15 = .ok (.iload 4, 2) := by decide +kernel
theorem dL_isCounted_17 : decode cL_isCounted 17 = .ok (.invokevirtual 47, 3) := by decide +kernel
theorem dL_isCounted_20 : decode cL_isCounted 20 = .ok (.istore 5, 2) := by decide +kernel
theorem dL_isCounted_22 : decode cL_isCounted 22 = .ok (.iload_n 2, 1) := by decide +kernel
theorem dL_isCounted_23 : decode cL_isCounted 23 = .ok (.iload 5, 2) := by decide +kernel
theorem dL_isCounted_25 : decode cL_isCounted 25 = .ok (.iadd, 1) := by decide +kernel
theorem dL_isCounted_26 : decode cL_isCounted 26 = .ok (.istore_n 2, 1) := by decide +kernel
theorem dL_isCounted_27 : decode cL_isCounted 27 = .ok (.iload_n 3, 1) := by decide +kernel
theorem dL_isCounted_28 : decode cL_isCounted 28 = .ok (.aload_n 0, 1) := by decide +kernel
theorem dL_isCounted_29 : decode cL_isCounted 29 = .ok (.iload 4, 2) := by decide +kernel
theorem dL_isCounted_31 : decode cL_isCounted 31 = .ok (.invokevirtual 19, 3) := by decide +kernel
theorem dL_isCounted_34 : decode cL_isCounted 34 = .ok (.ifCond .lt 12, 3) := by decide +kernel
theorem dL_isCounted_37 : decode cL_isCounted 37 = .ok (.iload 5, 2) := by decide +kernel
theorem dL_isCounted_39 : decode cL_isCounted 39 = .ok (.ifCond .ne 7, 3) := by decide +kernel
theorem dL_isCounted_42 : decode cL_isCounted 42 = .ok (.iconst 1, 1) := by decide +kernel
theorem dL_isCounted_43 : decode cL_isCounted 43 = .ok (.goto 4, 3) := by decide +kernel
theorem dL_isCounted_46 : decode cL_isCounted 46 = .ok (.iconst 0, 1) := by decide +kernel
theorem dL_isCounted_47 : decode cL_isCounted 47 = .ok (.iadd, 1) := by decide +kernel
theorem dL_isCounted_48 : decode cL_isCounted 48 = .ok (.istore_n 3, 1) := by decide +kernel
theorem dL_isCounted_49 : decode cL_isCounted 49 = .ok (.iinc 4 1, 3) := by decide +kernel
theorem dL_isCounted_52 : decode cL_isCounted 52 = .ok (.goto (-45), 3) := by decide +kernel
theorem dL_isCounted_55 : decode cL_isCounted 55 = .ok (.iload_n 1, 1) := by decide +kernel
theorem dL_isCounted_56 : decode cL_isCounted 56 = .ok (.sipush 255, 3) := by decide +kernel
theorem dL_isCounted_59 : decode cL_isCounted 59 = .ok (.iand, 1) := by decide +kernel
theorem dL_isCounted_60 : decode cL_isCounted 60 = .ok (.istore 4, 2) := by decide +kernel
theorem dL_isCounted_62 : decode cL_isCounted 62 = .ok (.aload_n 0, 1) := by decide +kernel
theorem dL_isCounted_63 : decode cL_isCounted 63 = .ok (.iload 4, 2) := by decide +kernel
theorem dL_isCounted_65 : decode cL_isCounted 65 = .ok (.invokevirtual 50, 3) := by decide +kernel
theorem dL_isCounted_68 : decode cL_isCounted 68 = .ok (.istore 5, 2) := by decide +kernel
theorem dL_isCounted_70 : decode cL_isCounted 70 = .ok (.aload_n 0, 1) := by decide +kernel
theorem dL_isCounted_71 : decode cL_isCounted 71 = .ok (.iload 4, 2) := by decide +kernel
theorem dL_isCounted_73 : decode cL_isCounted 73 = .ok (.invokevirtual 53, 3) := by decide +kernel
theorem dL_isCounted_76 : decode cL_isCounted 76 = .ok (.istore 6, 2) := by decide +kernel
theorem dL_isCounted_78 : decode cL_isCounted 78 = .ok (.iload_n 2, 1) := by decide +kernel
theorem dL_isCounted_79 : decode cL_isCounted 79 = .ok (.aload_n 0, 1) := by decide +kernel
theorem dL_isCounted_80 : decode cL_isCounted 80 = .ok (.bipush 8, 2) := by decide +kernel
theorem dL_isCounted_82 : decode cL_isCounted 82 = .ok (.invokevirtual 13, 3) := by decide +kernel
theorem dL_isCounted_85 : decode cL_isCounted 85 = .ok (.iadd, 1) := by decide +kernel
theorem dL_isCounted_86 : decode cL_isCounted 86 = .ok (.sipush 256, 3) := by decide +kernel
theorem dL_isCounted_89 : decode cL_isCounted 89 = .ok (.if_icmp .ne 44, 3) := by decide +kernel
theorem dL_isCounted_92 : decode cL_isCounted 92 = .ok (.aload_n 0, 1) := by decide +kernel
theorem dL_isCounted_93 : decode cL_isCounted 93 = .ok (.bipush 7, 2) := by decide +kernel
theorem dL_isCounted_95 : decode cL_isCounted 95 = .ok (.invokevirtual 13, 3) := by decide +kernel
theorem dL_isCounted_98 : decode cL_isCounted 98 = .ok (.iload_n 3, 1) := by decide +kernel
theorem dL_isCounted_99 : decode cL_isCounted 99 = .ok (.if_icmp .ne 34, 3) := by decide +kernel
theorem dL_isCounted_102 : decode cL_isCounted 102 = .ok (.iload 5, 2) := by decide +kernel
theorem dL_isCounted_104 : decode cL_isCounted 104 = .ok (.bipush (-4), 2) := by decide +kernel
theorem dL_isCounted_106 : decode cL_isCounted 106 = .ok (.if_icmp .eq 13, 3) := by decide +kernel
theorem dL_isCounted_109 : decode cL_isCounted 109 = .ok (.iload 5, 2) := by decide +kernel
theorem dL_isCounted_111 : decode cL_isCounted 111 = .ok (.ifCond .lt 22, 3) := by decide +kernel
theorem dL_isCounted_114 : decode cL_isCounted 114 = .ok (.iload 6, 2) := by decide +kernel
theorem dL_isCounted_116 : decode cL_isCounted 116 = .ok (.ifCond .le 17, 3) := by decide +kernel
theorem dL_isCounted_119 : decode cL_isCounted 119 = .ok (.iload 6, 2) := by decide +kernel
theorem dL_isCounted_121 : decode cL_isCounted 121 = .ok (.aload_n 0, 1) := by decide +kernel
theorem dL_isCounted_122 : decode cL_isCounted 122 = .ok (.iconst 0, 1) := by decide +kernel
theorem dL_isCounted_123 : decode cL_isCounted 123 = .ok (.invokevirtual 13, 3) := by decide +kernel
theorem dL_isCounted_126 : decode cL_isCounted 126 = .ok (.if_icmp .gt 7, 3) := by decide +kernel
theorem dL_isCounted_129 : decode cL_isCounted 129 = .ok (.iconst 1, 1) := by decide +kernel
theorem dL_isCounted_130 : decode cL_isCounted 130 = .ok (.goto 4, 3) := by decide +kernel
theorem dL_isCounted_133 : decode cL_isCounted 133 = .ok (.iconst 0, 1) := by decide +kernel
theorem dL_isCounted_134 : decode cL_isCounted 134 = .ok (.ireturn, 1) := by decide +kernel
theorem dL_refusesAny_0 : decode cL_refusesAny 0 = .ok (.iload_n 1, 1) := by decide +kernel
theorem dL_refusesAny_1 : decode cL_refusesAny 1 = .ok (.iconst 2, 1) := by decide +kernel
theorem dL_refusesAny_2 : decode cL_refusesAny 2 = .ok (.irem, 1) := by decide +kernel
theorem dL_refusesAny_3 : decode cL_refusesAny 3 = .ok (.ifCond .ne 13, 3) := by decide +kernel
theorem dL_refusesAny_6 : decode cL_refusesAny 6 = .ok (.iconst (-1), 1) := by decide +kernel
theorem dL_refusesAny_7 : decode cL_refusesAny 7 = .ok (.iload_n 1, 1) := by decide +kernel
theorem dL_refusesAny_8 : decode cL_refusesAny 8 = .ok (.sipush 300, 3) := by decide +kernel
theorem dL_refusesAny_11 : decode cL_refusesAny 11 = .ok (.irem, 1) := by decide +kernel
theorem dL_refusesAny_12 : decode cL_refusesAny 12 = .ok (.isub, 1) := by decide +kernel
theorem dL_refusesAny_13 : decode cL_refusesAny 13 = .ok (.goto 12, 3) := by decide +kernel
theorem dL_refusesAny_16 : decode cL_refusesAny 16 = .ok (.sipush 256, 3) := by decide +kernel
theorem dL_refusesAny_19 : decode cL_refusesAny 19 = .ok (.iload_n 1, 1) := by decide +kernel
theorem dL_refusesAny_20 : decode cL_refusesAny 20 = .ok (.sipush 300, 3) := by decide +kernel
theorem dL_refusesAny_23 : decode cL_refusesAny 23 = .ok (.irem, 1) := by decide +kernel
theorem dL_refusesAny_24 : decode cL_refusesAny 24 = .ok (.iadd, 1) := by decide +kernel
theorem dL_refusesAny_25 : decode cL_refusesAny 25 = .ok (.istore_n 2, 1) := by decide +kernel
theorem dL_refusesAny_26 : decode cL_refusesAny 26 = .ok (.iload_n 1, 1) := by decide +kernel
theorem dL_refusesAny_27 : decode cL_refusesAny 27 = .ok (.iconst 2, 1) := by decide +kernel
theorem dL_refusesAny_28 : decode cL_refusesAny 28 = .ok (.irem, 1) := by decide +kernel
theorem dL_refusesAny_29 : decode cL_refusesAny 29 = .ok (.ifCond .ne 13, 3) := by decide +kernel
theorem dL_refusesAny_32 : decode cL_refusesAny 32 = .ok (.iconst (-1), 1) := by decide +kernel
theorem dL_refusesAny_33 : decode cL_refusesAny 33 = .ok (.iload_n 1, 1) := by decide +kernel
theorem dL_refusesAny_34 : decode cL_refusesAny 34 = .ok (.sipush 300, 3) := by decide +kernel
theorem dL_refusesAny_37 : decode cL_refusesAny 37 = .ok (.irem, 1) := by decide +kernel
theorem dL_refusesAny_38 : decode cL_refusesAny 38 = .ok (.isub, 1) := by decide +kernel
theorem dL_refusesAny_39 : decode cL_refusesAny 39 = .ok (.goto 11, 3) := by decide +kernel
theorem dL_refusesAny_42 : decode cL_refusesAny 42 = .ok (.bipush 100, 2) := by decide +kernel
theorem dL_refusesAny_44 : decode cL_refusesAny 44 = .ok (.iload_n 1, 1) := by decide +kernel
theorem dL_refusesAny_45 : decode cL_refusesAny 45 = .ok (.sipush 300, 3) := by decide +kernel
theorem dL_refusesAny_48 : decode cL_refusesAny 48 = .ok (.irem, 1) := by decide +kernel
theorem dL_refusesAny_49 : decode cL_refusesAny 49 = .ok (.iadd, 1) := by decide +kernel
theorem dL_refusesAny_50 : decode cL_refusesAny 50 = .ok (.istore_n 3, 1) := by decide +kernel
theorem dL_refusesAny_51 : decode cL_refusesAny 51 = .ok (.iload_n 1, 1) := by decide +kernel
theorem dL_refusesAny_52 : decode cL_refusesAny 52 = .ok (.iconst 2, 1) := by decide +kernel
theorem dL_refusesAny_53 : decode cL_refusesAny 53 = .ok (.irem, 1) := by decide +kernel
theorem dL_refusesAny_54 : decode cL_refusesAny 54 = .ok (.ifCond .ne 13, 3) := by decide +kernel
theorem dL_refusesAny_57 : decode cL_refusesAny 57 = .ok (.iconst (-1), 1) := by decide +kernel
theorem dL_refusesAny_58 : decode cL_refusesAny 58 = .ok (.iload_n 1, 1) := by decide +kernel
theorem dL_refusesAny_59 : decode cL_refusesAny 59 = .ok (.sipush 300, 3) := by decide +kernel
theorem dL_refusesAny_62 : decode cL_refusesAny 62 = .ok (.irem, 1) := by decide +kernel
theorem dL_refusesAny_63 : decode cL_refusesAny 63 = .ok (.isub, 1) := by decide +kernel
theorem dL_refusesAny_64 : decode cL_refusesAny 64 = .ok (.goto 11, 3) := by decide +kernel
theorem dL_refusesAny_67 : decode cL_refusesAny 67 = .ok (.bipush 10, 2) := by decide +kernel
theorem dL_refusesAny_69 : decode cL_refusesAny 69 = .ok (.iload_n 1, 1) := by decide +kernel
theorem dL_refusesAny_70 : decode cL_refusesAny 70 = .ok (.sipush 300, 3) := by decide +kernel
theorem dL_refusesAny_73 : decode cL_refusesAny 73 = .ok (.irem, 1) := by decide +kernel
theorem dL_refusesAny_74 : decode cL_refusesAny 74 = .ok (.iadd, 1) := by decide +kernel
theorem dL_refusesAny_75 : decode cL_refusesAny 75 = .ok (.istore 4, 2) := by decide +kernel
theorem dL_refusesAny_77 : decode cL_refusesAny 77 = .ok (.iload_n 1, 1) := by decide +kernel
theorem dL_refusesAny_78 : decode cL_refusesAny 78 = .ok (.iconst 2, 1) := by decide +kernel
theorem dL_refusesAny_79 : decode cL_refusesAny 79 = .ok (.irem, 1) := by decide +kernel
theorem dL_refusesAny_80 : decode cL_refusesAny 80 = .ok (.ifCond .ne 13, 3) := by decide +kernel
theorem dL_refusesAny_83 : decode cL_refusesAny 83 = .ok (.iconst (-1), 1) := by decide +kernel
theorem dL_refusesAny_84 : decode cL_refusesAny 84 = .ok (.iload_n 1, 1) := by decide +kernel
theorem dL_refusesAny_85 : decode cL_refusesAny 85 = .ok (.sipush 300, 3) := by decide +kernel
theorem dL_refusesAny_88 : decode cL_refusesAny 88 = .ok (.irem, 1) := by decide +kernel
theorem dL_refusesAny_89 : decode cL_refusesAny 89 = .ok (.isub, 1) := by decide +kernel
theorem dL_refusesAny_90 : decode cL_refusesAny 90 = .ok (.goto 14, 3) := by decide +kernel
theorem dL_refusesAny_93 : decode cL_refusesAny 93 = .ok (.aload_n 0, 1) := by decide +kernel
theorem dL_refusesAny_94 : decode cL_refusesAny 94 = .ok (.iconst 2, 1) := by decide +kernel
theorem dL_refusesAny_95 : decode cL_refusesAny 95 = .ok (.invokevirtual 13, 3) := by decide +kernel
theorem dL_refusesAny_98 : decode cL_refusesAny 98 = .ok (.iload_n 1, 1) := by decide +kernel
theorem dL_refusesAny_99 : decode cL_refusesAny 99 = .ok (.sipush 300, 3) := by decide +kernel
theorem dL_refusesAny_102 : decode cL_refusesAny 102 = .ok (.irem, 1) := by decide +kernel
theorem dL_refusesAny_103 : decode cL_refusesAny 103 = .ok (.iadd, 1) := by decide +kernel
theorem dL_refusesAny_104 : decode cL_refusesAny 104 = .ok (.istore 5, 2) := by decide +kernel
theorem dL_refusesAny_106 : decode cL_refusesAny 106 = .ok (.iload_n 1, 1) := by decide +kernel
theorem dL_refusesAny_107 : decode cL_refusesAny 107 = .ok (.iconst 2, 1) := by decide +kernel
theorem dL_refusesAny_108 : decode cL_refusesAny 108 = .ok (.irem, 1) := by decide +kernel
theorem dL_refusesAny_109 : decode cL_refusesAny 109 = .ok (.ifCond .ne 13, 3) := by decide +kernel
theorem dL_refusesAny_112 : decode cL_refusesAny 112 = .ok (.iconst (-1), 1) := by decide +kernel
theorem dL_refusesAny_113 : decode cL_refusesAny 113 = .ok (.iload_n 1, 1) := by decide +kernel
theorem dL_refusesAny_114 : decode cL_refusesAny 114 = .ok (.sipush 300, 3) := by decide +kernel
theorem dL_refusesAny_117 : decode cL_refusesAny 117 = .ok (.irem, 1) := by decide +kernel
theorem dL_refusesAny_118 : decode cL_refusesAny 118 = .ok (.isub, 1) := by decide +kernel
theorem dL_refusesAny_119 : decode cL_refusesAny 119 = .ok (.goto 11, 3) := by decide +kernel
theorem dL_refusesAny_122 : decode cL_refusesAny 122 = .ok (.bipush 32, 2) := by decide +kernel
theorem dL_refusesAny_124 : decode cL_refusesAny 124 = .ok (.iload_n 1, 1) := by decide +kernel
theorem dL_refusesAny_125 : decode cL_refusesAny 125 = .ok (.sipush 300, 3) := by decide +kernel
theorem dL_refusesAny_128 : decode cL_refusesAny 128 = .ok (.irem, 1) := by decide +kernel
theorem dL_refusesAny_129 : decode cL_refusesAny 129 = .ok (.iadd, 1) := by decide +kernel
theorem dL_refusesAny_130 : decode cL_refusesAny 130 = .ok (.istore 6, 2) := by decide +kernel
theorem dL_refusesAny_132 : decode cL_refusesAny 132 = .ok (.aload_n 0, 1) := by decide +kernel
theorem dL_refusesAny_133 : decode cL_refusesAny 133 = .ok (.iload_n 2, 1) := by decide +kernel
theorem dL_refusesAny_134 : decode cL_refusesAny 134 = .ok (.iconst 0, 1) := by decide +kernel
theorem dL_refusesAny_135 : decode cL_refusesAny 135 = .ok (.iconst 0, 1) := by decide +kernel
theorem dL_refusesAny_136 : decode cL_refusesAny 136 = .ok (.iconst 0, 1) := by decide +kernel
theorem dL_refusesAny_137 : decode cL_refusesAny 137 = .ok (.invokevirtual 56, 3) := by decide +kernel
theorem dL_refusesAny_140 : decode cL_refusesAny 140 = .ok (.bipush (-2), 2) := by decide +kernel
theorem dL_refusesAny_142 : decode cL_refusesAny 142 = .ok (.if_icmp .ne 117, 3) := by decide +kernel
theorem dL_refusesAny_145 : decode cL_refusesAny 145 = .ok (.aload_n 0, 1) := by decide +kernel
theorem dL_refusesAny_146 : decode cL_refusesAny 146 = .ok (.iconst 0, 1) := by decide +kernel
theorem dL_refusesAny_147 : decode cL_refusesAny 147 = .ok (.iload_n 2, 1) := by decide +kernel
theorem dL_refusesAny_148 : decode cL_refusesAny 148 = .ok (.iconst 0, 1) := by decide +kernel
theorem dL_refusesAny_149 : decode cL_refusesAny 149 = .ok (.iconst 0, 1) := by decide +kernel
theorem dL_refusesAny_150 : decode cL_refusesAny 150 = .ok (.invokevirtual 56, 3) := by decide +kernel
theorem dL_refusesAny_153 : decode cL_refusesAny 153 = .ok (.bipush (-2), 2) := by decide +kernel
theorem dL_refusesAny_155 : decode cL_refusesAny 155 = .ok (.if_icmp .ne 104, 3) := by decide +kernel
theorem dL_refusesAny_158 : decode cL_refusesAny 158 = .ok (.aload_n 0, 1) := by decide +kernel
theorem dL_refusesAny_159 : decode cL_refusesAny 159 = .ok (.iconst 0, 1) := by decide +kernel
theorem dL_refusesAny_160 : decode cL_refusesAny 160 = .ok (.iconst 0, 1) := by decide +kernel
theorem dL_refusesAny_161 : decode cL_refusesAny 161 = .ok (.iload_n 3, 1) := by decide +kernel
theorem dL_refusesAny_162 : decode cL_refusesAny 162 = .ok (.iconst 0, 1) := by decide +kernel
theorem dL_refusesAny_163 : decode cL_refusesAny 163 = .ok (.invokevirtual 56, 3) := by decide +kernel
theorem dL_refusesAny_166 : decode cL_refusesAny 166 = .ok (.bipush (-2), 2) := by decide +kernel
theorem dL_refusesAny_168 : decode cL_refusesAny 168 = .ok (.if_icmp .ne 91, 3) := by decide +kernel
theorem dL_refusesAny_171 : decode cL_refusesAny 171 = .ok (.aload_n 0, 1) := by decide +kernel
theorem dL_refusesAny_172 : decode cL_refusesAny 172 = .ok (.iconst 0, 1) := by decide +kernel
theorem dL_refusesAny_173 : decode cL_refusesAny 173 = .ok (.iconst 0, 1) := by decide +kernel
theorem dL_refusesAny_174 : decode cL_refusesAny 174 = .ok (.iconst 0, 1) := by decide +kernel
theorem dL_refusesAny_175 : decode cL_refusesAny 175 = .ok (.iload 4, 2) := by decide +kernel
theorem dL_refusesAny_177 : decode cL_refusesAny 177 = .ok (.invokevirtual 56, 3) := by decide +kernel
theorem dL_refusesAny_180 : decode cL_refusesAny 180 = .ok (.bipush (-2), 2) := by decide +kernel
theorem dL_refusesAny_182 : decode cL_refusesAny 182 = .ok (.if_icmp .ne 77, 3) := by decide +kernel
theorem dL_refusesAny_185 : decode cL_refusesAny 185 = .ok (.aload_n 0, 1) := by decide +kernel
theorem dL_refusesAny_186 : decode cL_refusesAny 186 = .ok (.iload_n 2, 1) := by decide +kernel
theorem dL_refusesAny_187 : decode cL_refusesAny 187 = .ok (.sipush 255, 3) := by decide +kernel
theorem dL_refusesAny_190 : decode cL_refusesAny 190 = .ok (.iconst 0, 1) := by decide +kernel
theorem dL_refusesAny_191 : decode cL_refusesAny 191 = .ok (.iconst 0, 1) := by decide +kernel
theorem dL_refusesAny_192 : decode cL_refusesAny 192 = .ok (.invokevirtual 60, 3) := by decide +kernel
theorem dL_refusesAny_195 : decode cL_refusesAny 195 = .ok (.bipush (-2), 2) := by decide +kernel
theorem dL_refusesAny_197 : decode cL_refusesAny 197 = .ok (.if_icmp .ne 62, 3) := by decide +kernel
theorem dL_refusesAny_200 : decode cL_refusesAny 200 = .ok (.aload_n 0, 1) := by decide +kernel
theorem dL_refusesAny_201 : decode cL_refusesAny 201 = .ok (.iconst 0, 1) := by decide +kernel
theorem dL_refusesAny_202 : decode cL_refusesAny 202 = .ok (.iload_n 2, 1) := by decide +kernel
theorem dL_refusesAny_203 : decode cL_refusesAny 203 = .ok (.iconst 0, 1) := by decide +kernel
theorem dL_refusesAny_204 : decode cL_refusesAny 204 = .ok (.iconst 0, 1) := by decide +kernel
theorem dL_refusesAny_205 : decode cL_refusesAny 205 = .ok (.invokevirtual 60, 3) := by decide +kernel
theorem dL_refusesAny_208 : decode cL_refusesAny 208 = .ok (.bipush (-2), 2) := by decide +kernel
theorem dL_refusesAny_210 : decode cL_refusesAny 210 = .ok (.if_icmp .ne 49, 3) := by decide +kernel
theorem dL_refusesAny_213 : decode cL_refusesAny 213 = .ok (.aload_n 0, 1) := by decide +kernel
theorem dL_refusesAny_214 : decode cL_refusesAny 214 = .ok (.bipush 9, 2) := by decide +kernel
theorem dL_refusesAny_216 : decode cL_refusesAny 216 = .ok (.bipush 8, 2) := by decide +kernel
theorem dL_refusesAny_218 : decode cL_refusesAny 218 = .ok (.iconst 0, 1) := by decide +kernel
theorem dL_refusesAny_219 : decode cL_refusesAny 219 = .ok (.iconst 0, 1) := by decide +kernel
theorem dL_refusesAny_220 : decode cL_refusesAny 220 = .ok (.invokevirtual 60, 3) := by decide +kernel
theorem dL_refusesAny_223 : decode cL_refusesAny 223 = .ok (.bipush (-2), 2) := by decide +kernel
theorem dL_refusesAny_225 : decode cL_refusesAny 225 = .ok (.if_icmp .ne 34, 3) := by decide +kernel
theorem dL_refusesAny_228 : decode cL_refusesAny 228 = .ok (.aload_n 0, 1) := by decide +kernel
theorem dL_refusesAny_229 : decode cL_refusesAny 229 = .ok (.iconst 0, 1) := by decide +kernel
theorem dL_refusesAny_230 : decode cL_refusesAny 230 = .ok (.iconst 1, 1) := by decide +kernel
theorem dL_refusesAny_231 : decode cL_refusesAny 231 = .ok (.iload_n 3, 1) := by decide +kernel
theorem dL_refusesAny_232 : decode cL_refusesAny 232 = .ok (.iconst 0, 1) := by decide +kernel
theorem dL_refusesAny_233 : decode cL_refusesAny 233 = .ok (.invokevirtual 60, 3) := by decide +kernel
theorem dL_refusesAny_236 : decode cL_refusesAny 236 = .ok (.bipush (-2), 2) := by decide +kernel
theorem dL_refusesAny_238 : decode cL_refusesAny 238 = .ok (.if_icmp .ne 21, 3) := by decide +kernel
theorem dL_refusesAny_241 : decode cL_refusesAny 241 = .ok (.aload_n 0, 1) := by decide +kernel
theorem dL_refusesAny_242 : decode cL_refusesAny 242 = .ok (.iconst 0, 1) := by decide +kernel
theorem dL_refusesAny_243 : decode cL_refusesAny 243 = .ok (.iconst 1, 1) := by decide +kernel
theorem dL_refusesAny_244 : decode cL_refusesAny 244 = .ok (.iconst 0, 1) := by decide +kernel
theorem dL_refusesAny_245 : decode cL_refusesAny 245 = .ok (.iload 4, 2) := by decide +kernel
theorem dL_refusesAny_247 : decode cL_refusesAny 247 = .ok (.invokevirtual 60, 3) := by decide +kernel
theorem dL_refusesAny_250 : decode cL_refusesAny 250 = .ok (.bipush (-2), 2) := by decide +kernel
theorem dL_refusesAny_252 : decode cL_refusesAny 252 = .ok (.if_icmp .ne 7, 3) := by decide +kernel
theorem dL_refusesAny_255 : decode cL_refusesAny 255 = .ok (.iconst 1, 1) := by decide +kernel
theorem dL_refusesAny_256 : decode cL_refusesAny 256 = .ok (.goto 4, 3) := by decide +kernel
theorem dL_refusesAny_259 : decode cL_refusesAny 259 = .ok (.iconst 0, 1) := by decide +kernel
theorem dL_refusesAny_260 : decode cL_refusesAny 260 = .ok (.istore 7, 2) := by decide +kernel
theorem dL_refusesAny_262 : decode cL_refusesAny 262 = .ok (.iload 7, 2) := by decide +kernel
theorem dL_refusesAny_264 : decode cL_refusesAny 264 = .ok (.ifCond .eq 148, 3) := by decide +kernel
theorem dL_refusesAny_267 : decode cL_refusesAny 267 = .ok (.aload_n 0, 1) := by decide +kernel
theorem dL_refusesAny_268 : decode cL_refusesAny 268 = .ok (.iload 5, 2) := by decide +kernel
theorem dL_refusesAny_270 : decode cL_refusesAny 270 = .ok (.invokevirtual 63, 3) := by decide +kernel
theorem dL_refusesAny_273 : decode cL_refusesAny 273 = .ok (.iconst (-1), 1) := by decide +kernel
theorem dL_refusesAny_274 : decode cL_refusesAny 274 = .ok (.if_icmp .ne 138, 3) := by decide +kernel
theorem dL_refusesAny_277 : decode cL_refusesAny 277 = .ok (.aload_n 0, 1) := by decide +kernel
theorem dL_refusesAny_278 : decode cL_refusesAny 278 = .ok (.iload_n 1, 1) := by decide +kernel
theorem dL_refusesAny_279 : decode cL_refusesAny 279 = .ok (.iconst 2, 1) := by decide +kernel
theorem dL_refusesAny_280 : decode cL_refusesAny 280 = .ok (.irem, 1) := by decide +kernel
theorem dL_refusesAny_281 : decode cL_refusesAny 281 = .ok (.ifCond .ne 7, 3) := by decide +kernel
theorem dL_refusesAny_284 : decode cL_refusesAny 284 = .ok (.iconst (-1), 1) := by decide +kernel
theorem dL_refusesAny_285 : decode cL_refusesAny 285 = .ok (.goto 4, 3) := by decide +kernel
theorem dL_refusesAny_288 : decode cL_refusesAny 288 = .ok (.iconst 3, 1) := by decide +kernel
theorem dL_refusesAny_289 : decode cL_refusesAny 289 = .ok (.invokevirtual 66, 3) := by decide +kernel
theorem dL_refusesAny_292 : decode cL_refusesAny 292 = .ok (.bipush (-2), 2) := by decide +kernel
theorem dL_refusesAny_294 : decode cL_refusesAny 294 = .ok (.if_icmp .ne 118, 3) := by decide +kernel
theorem dL_refusesAny_297 : decode cL_refusesAny 297 = .ok (.aload_n 0, 1) := by decide +kernel
theorem dL_refusesAny_298 : decode cL_refusesAny 298 = .ok (.aload_n 0, 1) := by decide +kernel
theorem dL_refusesAny_299 : decode cL_refusesAny 299 = .ok (.iconst 3, 1) := by decide +kernel
theorem dL_refusesAny_300 : decode cL_refusesAny 300 = .ok (.invokevirtual 13, 3) := by decide +kernel
theorem dL_refusesAny_303 : decode cL_refusesAny 303 = .ok (.invokevirtual 66, 3) := by decide +kernel
theorem dL_refusesAny_306 : decode cL_refusesAny 306 = .ok (.bipush (-4), 2) := by decide +kernel
theorem dL_refusesAny_308 : decode cL_refusesAny 308 = .ok (.if_icmp .ne 104, 3) := by decide +kernel
theorem dL_refusesAny_311 : decode cL_refusesAny 311 = .ok (.aload_n 0, 1) := by decide +kernel
theorem dL_refusesAny_312 : decode cL_refusesAny 312 = .ok (.iload_n 2, 1) := by decide +kernel
theorem dL_refusesAny_313 : decode cL_refusesAny 313 = .ok (.invokevirtual 69, 3) := by decide +kernel
theorem dL_refusesAny_316 : decode cL_refusesAny 316 = .ok (.bipush (-2), 2) := by decide +kernel
theorem dL_refusesAny_318 : decode cL_refusesAny 318 = .ok (.if_icmp .ne 94, 3) := by decide +kernel
theorem dL_refusesAny_321 : decode cL_refusesAny 321 = .ok (.aload_n 0, 1) := by decide +kernel
theorem dL_refusesAny_322 : decode cL_refusesAny 322 = .ok (.iload_n 2, 1) := by decide +kernel
theorem dL_refusesAny_323 : decode cL_refusesAny 323 = .ok (.invokevirtual 50, 3) := by decide +kernel
theorem dL_refusesAny_326 : decode cL_refusesAny 326 = .ok (.bipush (-2), 2) := by decide +kernel
theorem dL_refusesAny_328 : decode cL_refusesAny 328 = .ok (.if_icmp .ne 84, 3) := by decide +kernel
theorem dL_refusesAny_331 : decode cL_refusesAny 331 = .ok (.aload_n 0, 1) := by decide +kernel
theorem dL_refusesAny_332 : decode cL_refusesAny 332 = .ok (.iload_n 2, 1) := by decide +kernel
theorem dL_refusesAny_333 : decode cL_refusesAny 333 = .ok (.invokevirtual 53, 3) := by decide +kernel
theorem dL_refusesAny_336 : decode cL_refusesAny 336 = .ok (.bipush (-2), 2) := by decide +kernel
theorem dL_refusesAny_338 : decode cL_refusesAny 338 = .ok (.if_icmp .ne 74, 3) := by decide +kernel
theorem dL_refusesAny_341 : decode cL_refusesAny 341 = .ok (.aload_n 0, 1) := by decide +kernel
theorem dL_refusesAny_342 : decode cL_refusesAny 342 = .ok (.iload_n 3, 1) := by decide +kernel
theorem dL_refusesAny_343 : decode cL_refusesAny 343 = .ok (.invokevirtual 72, 3) := by decide +kernel
theorem dL_refusesAny_346 : decode cL_refusesAny 346 = .ok (.bipush (-2), 2) := by decide +kernel
theorem dL_refusesAny_348 : decode cL_refusesAny 348 = .ok (.if_icmp .ne 64, 3) := by decide +kernel
theorem dL_refusesAny_351 : decode cL_refusesAny 351 = .ok (.aload_n 0, 1) := by decide +kernel
theorem dL_refusesAny_352 : decode cL_refusesAny 352 = .ok (.iload_n 2, 1) := by decide +kernel
theorem dL_refusesAny_353 : decode cL_refusesAny 353 = .ok (.sipush 255, 3) := by decide +kernel
theorem dL_refusesAny_356 : decode cL_refusesAny 356 = .ok (.invokevirtual 75, 3) := by decide +kernel
theorem dL_refusesAny_359 : decode cL_refusesAny 359 = .ok (.bipush (-2), 2) := by decide +kernel
theorem dL_refusesAny_361 : decode cL_refusesAny 361 = .ok (.if_icmp .ne 51, 3) := by decide +kernel
theorem dL_refusesAny_364 : decode cL_refusesAny 364 = .ok (.aload_n 0, 1) := by decide +kernel
theorem dL_refusesAny_365 : decode cL_refusesAny 365 = .ok (.iconst 0, 1) := by decide +kernel
theorem dL_refusesAny_366 : decode cL_refusesAny 366 = .ok (.iload_n 2, 1) := by decide +kernel
theorem dL_refusesAny_367 : decode cL_refusesAny 367 = .ok (.invokevirtual 75, 3) := by decide +kernel
theorem dL_refusesAny_370 : decode cL_refusesAny 370 = .ok (.bipush (-2), 2) := by decide +kernel
theorem dL_refusesAny_372 : decode cL_refusesAny 372 = .ok (.if_icmp .ne 40, 3) := by decide +kernel
theorem dL_refusesAny_375 : decode cL_refusesAny 375 = .ok (.aload_n 0, 1) := by decide +kernel
theorem dL_refusesAny_376 : decode cL_refusesAny 376 = .ok (.iload_n 1, 1) := by decide +kernel
theorem dL_refusesAny_377 : decode cL_refusesAny 377 = .ok (.iconst 2, 1) := by decide +kernel
theorem dL_refusesAny_378 : decode cL_refusesAny 378 = .ok (.irem, 1) := by decide +kernel
theorem dL_refusesAny_379 : decode cL_refusesAny 379 = .ok (.ifCond .ne 13, 3) := by decide +kernel
theorem dL_refusesAny_382 : decode cL_refusesAny 382 = .ok (.iconst (-1), 1) := by decide +kernel
theorem dL_refusesAny_383 : decode cL_refusesAny 383 = .ok (.iload_n 1, 1) := by decide +kernel
theorem dL_refusesAny_384 : decode cL_refusesAny 384 = .ok (.sipush 300, 3) := by decide +kernel
theorem dL_refusesAny_387 : decode cL_refusesAny 387 = .ok (.irem, 1) := by decide +kernel
theorem dL_refusesAny_388 : decode cL_refusesAny 388 = .ok (.isub, 1) := by decide +kernel
theorem dL_refusesAny_389 : decode cL_refusesAny 389 = .ok (.goto 11, 3) := by decide +kernel
theorem dL_refusesAny_392 : decode cL_refusesAny 392 = .ok (.bipush 11, 2) := by decide +kernel
theorem dL_refusesAny_394 : decode cL_refusesAny 394 = .ok (.iload_n 1, 1) := by decide +kernel
theorem dL_refusesAny_395 : decode cL_refusesAny 395 = .ok (.sipush 300, 3) := by decide +kernel
theorem dL_refusesAny_398 : decode cL_refusesAny 398 = .ok (.irem, 1) := by decide +kernel
theorem dL_refusesAny_399 : decode cL_refusesAny 399 = .ok (.iadd, 1) := by decide +kernel
theorem dL_refusesAny_400 : decode cL_refusesAny 400 = .ok (.invokevirtual 13, 3) := by decide +kernel
theorem dL_refusesAny_403 : decode cL_refusesAny 403 = .ok (.bipush (-2), 2) := by decide +kernel
theorem dL_refusesAny_405 : decode cL_refusesAny 405 = .ok (.if_icmp .ne 7, 3) := by decide +kernel
theorem dL_refusesAny_408 : decode cL_refusesAny 408 = .ok (.iconst 1, 1) := by decide +kernel
theorem dL_refusesAny_409 : decode cL_refusesAny 409 = .ok (.goto 4, 3) := by decide +kernel
theorem dL_refusesAny_412 : decode cL_refusesAny 412 = .ok (.iconst 0, 1) := by decide +kernel
theorem dL_refusesAny_413 : decode cL_refusesAny 413 = .ok (.istore 7, 2) := by decide +kernel
theorem dL_refusesAny_415 : decode cL_refusesAny 415 = .ok (.iload 7, 2) := by decide +kernel
theorem dL_refusesAny_417 : decode cL_refusesAny 417 = .ok (.ifCond .eq 156, 3) := by decide +kernel
theorem dL_refusesAny_420 : decode cL_refusesAny 420 = .ok (.aload_n 0, 1) := by decide +kernel
theorem dL_refusesAny_421 : decode cL_refusesAny 421 = .ok (.iload 6, 2) := by decide +kernel
theorem dL_refusesAny_423 : decode cL_refusesAny 423 = .ok (.invokevirtual 19, 3) := by decide +kernel
theorem dL_refusesAny_426 : decode cL_refusesAny 426 = .ok (.iconst (-1), 1) := by decide +kernel
theorem dL_refusesAny_427 : decode cL_refusesAny 427 = .ok (.if_icmp .ne 146, 3) := by decide +kernel
theorem dL_refusesAny_430 : decode cL_refusesAny 430 = .ok (.aload_n 0, 1) := by decide +kernel
theorem dL_refusesAny_431 : decode cL_refusesAny 431 = .ok (.iload 6, 2) := by decide +kernel
theorem dL_refusesAny_433 : decode cL_refusesAny 433 = .ok (.invokevirtual 22, 3) := by decide +kernel
theorem dL_refusesAny_436 : decode cL_refusesAny 436 = .ok (.iconst (-1), 1) := by decide +kernel
theorem dL_refusesAny_437 : decode cL_refusesAny 437 = .ok (.if_icmp .ne 136, 3) := by decide +kernel
theorem dL_refusesAny_440 : decode cL_refusesAny 440 = .ok (.aload_n 0, 1) := by decide +kernel
theorem dL_refusesAny_441 : decode cL_refusesAny 441 = .ok (.iload 6, 2) := by decide +kernel
theorem dL_refusesAny_443 : decode cL_refusesAny 443 = .ok (.invokevirtual 25, 3) := by decide +kernel
theorem dL_refusesAny_446 : decode cL_refusesAny 446 = .ok (.iconst (-1), 1) := by decide +kernel
theorem dL_refusesAny_447 : decode cL_refusesAny 447 = .ok (.if_icmp .ne 126, 3) := by decide +kernel
theorem dL_refusesAny_450 : decode cL_refusesAny 450 = .ok (.aload_n 0, 1) := by decide +kernel
theorem dL_refusesAny_451 : decode cL_refusesAny 451 = .ok (.iload 6, 2) := by decide +kernel
theorem dL_refusesAny_453 : decode cL_refusesAny 453 = .ok (.invokevirtual 78, 3) := by decide +kernel
theorem dL_refusesAny_456 : decode cL_refusesAny 456 = .ok (.iconst (-1), 1) := by decide +kernel
theorem dL_refusesAny_457 : decode cL_refusesAny 457 = .ok (.if_icmp .ne 116, 3) := by decide +kernel
theorem dL_refusesAny_460 : decode cL_refusesAny 460 = .ok (.aload_n 0, 1) := by decide +kernel
theorem dL_refusesAny_461 : decode cL_refusesAny 461 = .ok (.iload 6, 2) := by decide +kernel
theorem dL_refusesAny_463 : decode cL_refusesAny 463 = .ok (.invokevirtual 81, 3) := by decide +kernel
theorem dL_refusesAny_466 : decode cL_refusesAny 466 = .ok (.iconst (-1), 1) := by decide +kernel
theorem dL_refusesAny_467 : decode cL_refusesAny 467 = .ok (.if_icmp .ne 106, 3) := by decide +kernel
theorem dL_refusesAny_470 : decode cL_refusesAny 470 = .ok (.aload_n 0, 1) := by decide +kernel
theorem dL_refusesAny_471 : decode cL_refusesAny 471 = .ok (.iload 6, 2) := by decide +kernel
theorem dL_refusesAny_473 : decode cL_refusesAny 473 = .ok (.invokevirtual 47, 3) := by decide +kernel
theorem dL_refusesAny_476 : decode cL_refusesAny 476 = .ok (.iconst (-1), 1) := by decide +kernel
theorem dL_refusesAny_477 : decode cL_refusesAny 477 = .ok (.if_icmp .ne 96, 3) := by decide +kernel
theorem dL_refusesAny_480 : decode cL_refusesAny 480 = .ok (.aload_n 0, 1) := by decide +kernel
theorem dL_refusesAny_481 : decode cL_refusesAny 481 = .ok (.iload 5, 2) := by decide +kernel
theorem dL_refusesAny_483 : decode cL_refusesAny 483 = .ok (.iconst 0, 1) := by decide +kernel
theorem dL_refusesAny_484 : decode cL_refusesAny 484 = .ok (.invokevirtual 41, 3) := by decide +kernel
theorem dL_refusesAny_487 : decode cL_refusesAny 487 = .ok (.iconst (-1), 1) := by decide +kernel
theorem dL_refusesAny_488 : decode cL_refusesAny 488 = .ok (.if_icmp .ne 85, 3) := by decide +kernel
theorem dL_refusesAny_491 : decode cL_refusesAny 491 = .ok (.aload_n 0, 1) := by decide +kernel
theorem dL_refusesAny_492 : decode cL_refusesAny 492 = .ok (.iload 5, 2) := by decide +kernel
theorem dL_refusesAny_494 : decode cL_refusesAny 494 = .ok (.invokevirtual 38, 3) := by decide +kernel
theorem dL_refusesAny_497 : decode cL_refusesAny 497 = .ok (.iconst (-1), 1) := by decide +kernel
theorem dL_refusesAny_498 : decode cL_refusesAny 498 = .ok (.if_icmp .ne 75, 3) := by decide +kernel
theorem dL_refusesAny_501 : decode cL_refusesAny 501 = .ok (.aload_n 0, 1) := by decide +kernel
theorem dL_refusesAny_502 : decode cL_refusesAny 502 = .ok (.iload 5, 2) := by decide +kernel
theorem dL_refusesAny_504 : decode cL_refusesAny 504 = .ok (.invokevirtual 32, 3) := by decide +kernel
theorem dL_refusesAny_507 : decode cL_refusesAny 507 = .ok (.iconst (-1), 1) := by decide +kernel
theorem dL_refusesAny_508 : decode cL_refusesAny 508 = .ok (.if_icmp .ne 65, 3) := by decide +kernel
theorem dL_refusesAny_511 : decode cL_refusesAny 511 = .ok (.aload_n 0, 1) := by decide +kernel
theorem dL_refusesAny_512 : decode cL_refusesAny 512 = .ok (.iload 5, 2) := by decide +kernel
theorem dL_refusesAny_514 : decode cL_refusesAny 514 = .ok (.invokevirtual 29, 3) := by decide +kernel
theorem dL_refusesAny_517 : decode cL_refusesAny 517 = .ok (.iconst (-1), 1) := by decide +kernel
theorem dL_refusesAny_518 : decode cL_refusesAny 518 = .ok (.if_icmp .ne 55, 3) := by decide +kernel
theorem dL_refusesAny_521 : decode cL_refusesAny 521 = .ok (.aload_n 0, 1) := by decide +kernel
theorem dL_refusesAny_522 : decode cL_refusesAny 522 = .ok (.iload 5, 2) := by decide +kernel
theorem dL_refusesAny_524 : decode cL_refusesAny 524 = .ok (.invokevirtual 35, 3) := by decide +kernel
theorem dL_refusesAny_527 : decode cL_refusesAny 527 = .ok (.iconst (-1), 1) := by decide +kernel
theorem dL_refusesAny_528 : decode cL_refusesAny 528 = .ok (.if_icmp .ne 45, 3) := by decide +kernel
theorem dL_refusesAny_531 : decode cL_refusesAny 531 = .ok (.aload_n 0, 1) := by decide +kernel
theorem dL_refusesAny_532 : decode cL_refusesAny 532 = .ok (.iload_n 1, 1) := by decide +kernel
theorem dL_refusesAny_533 : decode cL_refusesAny 533 = .ok (.iconst 2, 1) := by decide +kernel
theorem dL_refusesAny_534 : decode cL_refusesAny 534 = .ok (.irem, 1) := by decide +kernel
theorem dL_refusesAny_535 : decode cL_refusesAny 535 = .ok (.ifCond .ne 7, 3) := by decide +kernel
theorem dL_refusesAny_538 : decode cL_refusesAny 538 = .ok (.iconst (-1), 1) := by decide +kernel
theorem dL_refusesAny_539 : decode cL_refusesAny 539 = .ok (.goto 4, 3) := by decide +kernel
theorem dL_refusesAny_542 : decode cL_refusesAny 542 = .ok (.iconst 4, 1) := by decide +kernel
theorem dL_refusesAny_543 : decode cL_refusesAny 543 = .ok (.invokevirtual 84, 3) := by decide +kernel
theorem dL_refusesAny_546 : decode cL_refusesAny 546 = .ok (.iconst (-1), 1) := by decide +kernel
theorem dL_refusesAny_547 : decode cL_refusesAny 547 = .ok (.if_icmp .ne 26, 3) := by decide +kernel
theorem dL_refusesAny_550 : decode cL_refusesAny 550 = .ok (.aload_n 0, 1) := by decide +kernel
theorem dL_refusesAny_551 : decode cL_refusesAny 551 = .ok (.iload_n 1, 1) := by decide +kernel
theorem dL_refusesAny_552 : decode cL_refusesAny 552 = .ok (.iconst 2, 1) := by decide +kernel
theorem dL_refusesAny_553 : decode cL_refusesAny 553 = .ok (.irem, 1) := by decide +kernel
theorem dL_refusesAny_554 : decode cL_refusesAny 554 = .ok (.ifCond .ne 7, 3) := by decide +kernel
theorem dL_refusesAny_557 : decode cL_refusesAny 557 = .ok (.iconst (-1), 1) := by decide +kernel
theorem dL_refusesAny_558 : decode cL_refusesAny 558 = .ok (.goto 4, 3) := by decide +kernel
theorem dL_refusesAny_561 : decode cL_refusesAny 561 = .ok (.iconst 4, 1) := by decide +kernel
theorem dL_refusesAny_562 : decode cL_refusesAny 562 = .ok (.invokevirtual 87, 3) := by decide +kernel
theorem dL_refusesAny_565 : decode cL_refusesAny 565 = .ok (.iconst (-1), 1) := by decide +kernel
theorem dL_refusesAny_566 : decode cL_refusesAny 566 = .ok (.if_icmp .ne 7, 3) := by decide +kernel
theorem dL_refusesAny_569 : decode cL_refusesAny 569 = .ok (.iconst 1, 1) := by decide +kernel
theorem dL_refusesAny_570 : decode cL_refusesAny 570 = .ok (.goto 4, 3) := by decide +kernel
theorem dL_refusesAny_573 : decode cL_refusesAny 573 = .ok (.iconst 0, 1) := by decide +kernel
theorem dL_refusesAny_574 : decode cL_refusesAny 574 = .ok (.istore 7, 2) := by decide +kernel
theorem dL_refusesAny_576 : decode cL_refusesAny 576 = .ok (.iload 7, 2) := by decide +kernel
theorem dL_refusesAny_578 : decode cL_refusesAny 578 = .ok (.ifCond .eq 55, 3) := by decide +kernel
theorem dL_refusesAny_581 : decode cL_refusesAny 581 = .ok (.aload_n 0, 1) := by decide +kernel
theorem dL_refusesAny_582 : decode cL_refusesAny 582 = .ok (.iconst 0, 1) := by decide +kernel
theorem dL_refusesAny_583 : decode cL_refusesAny 583 = .ok (.invokevirtual 13, 3) := by decide +kernel
theorem dL_refusesAny_586 : decode cL_refusesAny 586 = .ok (.bipush 32, 2) := by decide +kernel
theorem dL_refusesAny_588 : decode cL_refusesAny 588 = .ok (.if_icmp .lt 41, 3) := by decide +kernel
theorem dL_refusesAny_591 : decode cL_refusesAny 591 = .ok (.aload_n 0, 1) := by decide +kernel
theorem dL_refusesAny_592 : decode cL_refusesAny 592 = .ok (.iconst 0, 1) := by decide +kernel
theorem dL_refusesAny_593 : decode cL_refusesAny 593 = .ok (.iconst 0, 1) := by decide +kernel
theorem dL_refusesAny_594 : decode cL_refusesAny 594 = .ok (.iconst 0, 1) := by decide +kernel
theorem dL_refusesAny_595 : decode cL_refusesAny 595 = .ok (.iconst 0, 1) := by decide +kernel
theorem dL_refusesAny_596 : decode cL_refusesAny 596 = .ok (.invokevirtual 56, 3) := by decide +kernel
theorem dL_refusesAny_599 : decode cL_refusesAny 599 = .ok (.bipush (-3), 2) := by decide +kernel
theorem dL_refusesAny_601 : decode cL_refusesAny 601 = .ok (.if_icmp .ne 32, 3) := by decide +kernel
theorem dL_refusesAny_604 : decode cL_refusesAny 604 = .ok (.aload_n 0, 1) := by decide +kernel
theorem dL_refusesAny_605 : decode cL_refusesAny 605 = .ok (.iconst 0, 1) := by decide +kernel
theorem dL_refusesAny_606 : decode cL_refusesAny 606 = .ok (.iconst 0, 1) := by decide +kernel
theorem dL_refusesAny_607 : decode cL_refusesAny 607 = .ok (.bipush 99, 2) := by decide +kernel
theorem dL_refusesAny_609 : decode cL_refusesAny 609 = .ok (.bipush 9, 2) := by decide +kernel
theorem dL_refusesAny_611 : decode cL_refusesAny 611 = .ok (.invokevirtual 60, 3) := by decide +kernel
theorem dL_refusesAny_614 : decode cL_refusesAny 614 = .ok (.bipush (-3), 2) := by decide +kernel
theorem dL_refusesAny_616 : decode cL_refusesAny 616 = .ok (.if_icmp .ne 17, 3) := by decide +kernel
theorem dL_refusesAny_619 : decode cL_refusesAny 619 = .ok (.aload_n 0, 1) := by decide +kernel
theorem dL_refusesAny_620 : decode cL_refusesAny 620 = .ok (.iconst 0, 1) := by decide +kernel
theorem dL_refusesAny_621 : decode cL_refusesAny 621 = .ok (.invokevirtual 72, 3) := by decide +kernel
theorem dL_refusesAny_624 : decode cL_refusesAny 624 = .ok (.bipush (-3), 2) := by decide +kernel
theorem dL_refusesAny_626 : decode cL_refusesAny 626 = .ok (.if_icmp .ne 7, 3) := by decide +kernel
theorem dL_refusesAny_629 : decode cL_refusesAny 629 = .ok (.iconst 1, 1) := by decide +kernel
theorem dL_refusesAny_630 : decode cL_refusesAny 630 = .ok (.goto 4, 3) := by decide +kernel
theorem dL_refusesAny_633 : decode cL_refusesAny 633 = .ok (.iconst 0, 1) := by decide +kernel
theorem dL_refusesAny_634 : decode cL_refusesAny 634 = .ok (.ireturn, 1) := by decide +kernel
