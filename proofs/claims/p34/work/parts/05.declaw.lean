theorem dL_refuses_0 : decode cL_refuses 0 = .ok (.aload_n 0, 1) := by decide +kernel
theorem dL_refuses_1 : decode cL_refuses 1 = .ok (.invokestatic 90, 3) := by decide +kernel
theorem dL_refuses_4 : decode cL_refuses 4 = .ok (.lstore_n 2, 1) := by decide +kernel
theorem dL_refuses_5 : decode cL_refuses 5 = .ok (.aload_n 0, 1) := by decide +kernel
theorem dL_refuses_6 : decode cL_refuses 6 = .ok (.bipush 9, 2) := by decide +kernel
theorem dL_refuses_8 : decode cL_refuses 8 = .ok (.invokevirtual 13, 3) := by decide +kernel
theorem dL_refuses_11 : decode cL_refuses 11 = .ok (.istore 4, 2) := by decide +kernel
theorem dL_refuses_13 : decode cL_refuses 13 = .ok (.aload_n 0, 1) := by decide +kernel
theorem dL_refuses_14 : decode cL_refuses 14 = .ok (.iload_n 1, 1) := by decide +kernel
theorem dL_refuses_15 : decode cL_refuses 15 = .ok (.invokestatic 94, 3) := by decide +kernel
theorem dL_refuses_18 : decode cL_refuses 18 = .ok (.ifCond .eq 27, 3) := by decide +kernel
theorem dL_refuses_21 : decode cL_refuses 21 = .ok (.aload_n 0, 1) := by decide +kernel
theorem dL_refuses_22 : decode cL_refuses 22 = .ok (.invokestatic 90, 3) := by decide +kernel
theorem dL_refuses_25 : decode cL_refuses 25 = .ok (.lload_n 2, 1) := by decide +kernel
theorem dL_refuses_26 : decode cL_refuses 26 = .ok (.lcmp, 1) := by decide +kernel
theorem dL_refuses_27 : decode cL_refuses 27 = .ok (.ifCond .ne 18, 3) := by decide +kernel
theorem dL_refuses_30 : decode cL_refuses 30 = .ok (.aload_n 0, 1) := by decide +kernel
theorem dL_refuses_31 : decode cL_refuses 31 = .ok (.bipush 9, 2) := by decide +kernel
theorem dL_refuses_33 : decode cL_refuses 33 = .ok (.invokevirtual 13, 3) := by decide +kernel
theorem dL_refuses_36 : decode cL_refuses 36 = .ok (.iload 4, 2) := by decide +kernel
theorem dL_refuses_38 : decode cL_refuses 38 = .ok (.if_icmp .ne 7, 3) := by decide +kernel
theorem dL_refuses_41 : decode cL_refuses 41 = .ok (.iconst 1, 1) := by decide +kernel
theorem dL_refuses_42 : decode cL_refuses 42 = .ok (.goto 4, 3) := by decide +kernel
theorem dL_refuses_45 : decode cL_refuses 45 = .ok (.iconst 0, 1) := by decide +kernel
theorem dL_refuses_46 : decode cL_refuses 46 = .ok (.ireturn, 1) := by decide +kernel
theorem dL_adds_0 : decode cL_adds 0 = .ok (.iload_n 1, 1) := by decide +kernel
theorem dL_adds_1 : decode cL_adds 1 = .ok (.iconst 5, 1) := by decide +kernel
theorem dL_adds_2 : decode cL_adds 2 = .ok (.irem, 1) := by decide +kernel
theorem dL_adds_3 : decode cL_adds 3 = .ok (.bipush 20, 2) := by decide +kernel
theorem dL_adds_5 : decode cL_adds 5 = .ok (.imul, 1) := by decide +kernel
theorem dL_adds_6 : decode cL_adds 6 = .ok (.istore_n 2, 1) := by decide +kernel
theorem dL_adds_7 : decode cL_adds 7 = .ok (.aload_n 0, 1) := by decide +kernel
theorem dL_adds_8 : decode cL_adds 8 = .ok (.iconst 0, 1) := by decide +kernel
theorem dL_adds_9 : decode cL_adds 9 = .ok (.invokevirtual 13, 3) := by decide +kernel
theorem dL_adds_12 : decode cL_adds 12 = .ok (.istore_n 3, 1) := by decide +kernel
theorem dL_adds_13 : decode cL_adds 13 = .ok (.aload_n 0, 1) := by decide +kernel
theorem dL_adds_14 : decode cL_adds 14 = .ok (.iconst 4, 1) := by decide +kernel
theorem dL_adds_15 : decode cL_adds 15 = .ok (.invokevirtual 13, 3) := by decide +kernel
theorem dL_adds_18 : decode cL_adds 18 = .ok (.istore 4, 2) := by decide +kernel
theorem dL_adds_20 : decode cL_adds 20 = .ok (.aload_n 0, 1) := by decide +kernel
theorem dL_adds_21 : decode cL_adds 21 = .ok (.iload_n 2, 1) := by decide +kernel
theorem dL_adds_22 : decode cL_adds 22 = .ok (.invokevirtual 72, 3) := by decide +kernel
theorem dL_adds_25 : decode cL_adds 25 = .ok (.istore 5, 2) := by decide +kernel
theorem dL_adds_27 : decode cL_adds 27 = .ok (.aload_n 0, 1) := by decide +kernel
theorem dL_adds_28 : decode cL_adds 28 = .ok (.iload_n 1, 1) := by decide +kernel
theorem dL_adds_29 : decode cL_adds 29 = .ok (.iconst 3, 1) := by decide +kernel
theorem dL_adds_30 : decode cL_adds 30 = .ok (.ishr, 1) := by decide +kernel
theorem dL_adds_31 : decode cL_adds 31 = .ok (.sipush 255, 3) := by decide +kernel
theorem dL_adds_34 : decode cL_adds 34 = .ok (.iand, 1) := by decide +kernel
theorem dL_adds_35 : decode cL_adds 35 = .ok (.sipush 255, 3) := by decide +kernel
theorem dL_adds_38 : decode cL_adds 38 = .ok (.iload_n 1, 1) := by decide +kernel
theorem dL_adds_39 : decode cL_adds 39 = .ok (.bipush 11, 2) := by decide +kernel
theorem dL_adds_41 : decode cL_adds 41 = .ok (.ishr, 1) := by decide +kernel
theorem dL_adds_42 : decode cL_adds 42 = .ok (.bipush 9, 2) := by decide +kernel
theorem dL_adds_44 : decode cL_adds 44 = .ok (.irem, 1) := by decide +kernel
theorem dL_adds_45 : decode cL_adds 45 = .ok (.ishl, 1) := by decide +kernel
theorem dL_adds_46 : decode cL_adds 46 = .ok (.sipush 255, 3) := by decide +kernel
theorem dL_adds_49 : decode cL_adds 49 = .ok (.iand, 1) := by decide +kernel
theorem dL_adds_50 : decode cL_adds 50 = .ok (.iload_n 2, 1) := by decide +kernel
theorem dL_adds_51 : decode cL_adds 51 = .ok (.iload_n 1, 1) := by decide +kernel
theorem dL_adds_52 : decode cL_adds 52 = .ok (.bipush 15, 2) := by decide +kernel
theorem dL_adds_54 : decode cL_adds 54 = .ok (.ishr, 1) := by decide +kernel
theorem dL_adds_55 : decode cL_adds 55 = .ok (.bipush 10, 2) := by decide +kernel
theorem dL_adds_57 : decode cL_adds 57 = .ok (.irem, 1) := by decide +kernel
theorem dL_adds_58 : decode cL_adds 58 = .ok (.invokevirtual 56, 3) := by decide +kernel
theorem dL_adds_61 : decode cL_adds 61 = .ok (.istore 6, 2) := by decide +kernel
theorem dL_adds_63 : decode cL_adds 63 = .ok (.iload_n 3, 1) := by decide +kernel
theorem dL_adds_64 : decode cL_adds 64 = .ok (.bipush 32, 2) := by decide +kernel
theorem dL_adds_66 : decode cL_adds 66 = .ok (.if_icmp .ne 25, 3) := by decide +kernel
theorem dL_adds_69 : decode cL_adds 69 = .ok (.iload 5, 2) := by decide +kernel
theorem dL_adds_71 : decode cL_adds 71 = .ok (.bipush (-3), 2) := by decide +kernel
theorem dL_adds_73 : decode cL_adds 73 = .ok (.if_icmp .ne 15, 3) := by decide +kernel
theorem dL_adds_76 : decode cL_adds 76 = .ok (.iload 6, 2) := by decide +kernel
theorem dL_adds_78 : decode cL_adds 78 = .ok (.bipush (-3), 2) := by decide +kernel
theorem dL_adds_80 : decode cL_adds 80 = .ok (.if_icmp .ne 8, 3) := by decide +kernel
theorem dL_adds_83 : decode cL_adds 83 = .ok (.bipush (-3), 2) := by decide +kernel
theorem dL_adds_85 : decode cL_adds 85 = .ok (.goto 5, 3) := by decide +kernel
theorem dL_adds_88 : decode cL_adds 88 = .ok (.bipush (-9), 2) := by decide +kernel
theorem dL_adds_90 : decode cL_adds 90 = .ok (.ireturn, 1) := by decide +kernel
theorem dL_adds_91 : decode cL_adds 91 = .ok (.iload 5, 2) := by decide +kernel
theorem dL_adds_93 : decode cL_adds 93 = .ok (.ifCond .lt 80, 3) := by decide +kernel
theorem dL_adds_96 : decode cL_adds 96 = .ok (.iload 5, 2) := by decide +kernel
theorem dL_adds_98 : decode cL_adds 98 = .ok (.bipush 32, 2) := by decide +kernel
theorem dL_adds_100 : decode cL_adds 100 = .ok (.if_icmp .ge 73, 3) := by decide +kernel
theorem dL_adds_103 : decode cL_adds 103 = .ok (.aload_n 0, 1) := by decide +kernel
theorem dL_adds_104 : decode cL_adds 104 = .ok (.iconst 4, 1) := by decide +kernel
theorem dL_adds_105 : decode cL_adds 105 = .ok (.invokevirtual 13, 3) := by decide +kernel
theorem dL_adds_108 : decode cL_adds 108 = .ok (.iload 4, 2) := by decide +kernel
theorem dL_adds_110 : decode cL_adds 110 = .ok (.iload 5, 2) := by decide +kernel
theorem dL_adds_112 : decode cL_adds 112 = .ok (.iadd, 1) := by decide +kernel
theorem dL_adds_113 : decode cL_adds 113 = .ok (.if_icmp .ne 60, 3) := by decide +kernel
theorem dL_adds_116 : decode cL_adds 116 = .ok (.aload_n 0, 1) := by decide +kernel
theorem dL_adds_117 : decode cL_adds 117 = .ok (.iconst 0, 1) := by decide +kernel
theorem dL_adds_118 : decode cL_adds 118 = .ok (.invokevirtual 13, 3) := by decide +kernel
theorem dL_adds_121 : decode cL_adds 121 = .ok (.iload_n 3, 1) := by decide +kernel
theorem dL_adds_122 : decode cL_adds 122 = .ok (.iconst 1, 1) := by decide +kernel
theorem dL_adds_123 : decode cL_adds 123 = .ok (.iadd, 1) := by decide +kernel
theorem dL_adds_124 : decode cL_adds 124 = .ok (.if_icmp .ne 49, 3) := by decide +kernel
theorem dL_adds_127 : decode cL_adds 127 = .ok (.iload 6, 2) := by decide +kernel
theorem dL_adds_129 : decode cL_adds 129 = .ok (.aload_n 0, 1) := by decide +kernel
theorem dL_adds_130 : decode cL_adds 130 = .ok (.iconst 2, 1) := by decide +kernel
theorem dL_adds_131 : decode cL_adds 131 = .ok (.invokevirtual 13, 3) := by decide +kernel
theorem dL_adds_134 : decode cL_adds 134 = .ok (.iconst 1, 1) := by decide +kernel
theorem dL_adds_135 : decode cL_adds 135 = .ok (.isub, 1) := by decide +kernel
theorem dL_adds_136 : decode cL_adds 136 = .ok (.if_icmp .ne 37, 3) := by decide +kernel
theorem dL_adds_139 : decode cL_adds 139 = .ok (.aload_n 0, 1) := by decide +kernel
theorem dL_adds_140 : decode cL_adds 140 = .ok (.iload 6, 2) := by decide +kernel
theorem dL_adds_142 : decode cL_adds 142 = .ok (.invokevirtual 38, 3) := by decide +kernel
theorem dL_adds_145 : decode cL_adds 145 = .ok (.iconst 1, 1) := by decide +kernel
theorem dL_adds_146 : decode cL_adds 146 = .ok (.if_icmp .ne 27, 3) := by decide +kernel
theorem dL_adds_149 : decode cL_adds 149 = .ok (.aload_n 0, 1) := by decide +kernel
theorem dL_adds_150 : decode cL_adds 150 = .ok (.iload 6, 2) := by decide +kernel
theorem dL_adds_152 : decode cL_adds 152 = .ok (.invokevirtual 32, 3) := by decide +kernel
theorem dL_adds_155 : decode cL_adds 155 = .ok (.iload_n 2, 1) := by decide +kernel
theorem dL_adds_156 : decode cL_adds 156 = .ok (.if_icmp .ne 17, 3) := by decide +kernel
theorem dL_adds_159 : decode cL_adds 159 = .ok (.aload_n 0, 1) := by decide +kernel
theorem dL_adds_160 : decode cL_adds 160 = .ok (.iload 6, 2) := by decide +kernel
theorem dL_adds_162 : decode cL_adds 162 = .ok (.invokevirtual 35, 3) := by decide +kernel
theorem dL_adds_165 : decode cL_adds 165 = .ok (.ifCond .ne 8, 3) := by decide +kernel
theorem dL_adds_168 : decode cL_adds 168 = .ok (.iload 6, 2) := by decide +kernel
theorem dL_adds_170 : decode cL_adds 170 = .ok (.goto 5, 3) := by decide +kernel
theorem dL_adds_173 : decode cL_adds 173 = .ok (.bipush (-9), 2) := by decide +kernel
theorem dL_adds_175 : decode cL_adds 175 = .ok (.ireturn, 1) := by decide +kernel
theorem dL_addsRange_0 : decode cL_addsRange 0 = .ok (.iload_n 1, 1) := by decide +kernel
theorem dL_addsRange_1 : decode cL_addsRange 1 = .ok (.sipush 255, 3) := by decide +kernel
theorem dL_addsRange_4 : decode cL_addsRange 4 = .ok (.iand, 1) := by decide +kernel
theorem dL_addsRange_5 : decode cL_addsRange 5 = .ok (.istore_n 2, 1) := by decide +kernel
theorem dL_addsRange_6 : decode cL_addsRange 6 = .ok (.iload_n 2, 1) := by decide +kernel
theorem dL_addsRange_7 : decode cL_addsRange 7 = .ok (.iload_n 1, 1) := by decide +kernel
theorem dL_addsRange_8 : decode cL_addsRange 8 = .ok (.bipush 8, 2) := by decide +kernel
theorem dL_addsRange_10 : decode cL_addsRange 10 = .ok (.ishr, 1) := by decide +kernel
theorem dL_addsRange_11 : decode cL_addsRange 11 = .ok (.bipush 40, 2) := by decide +kernel
theorem dL_addsRange_13 : decode cL_addsRange 13 = .ok (.irem, 1) := by decide +kernel
theorem dL_addsRange_14 : decode cL_addsRange 14 = .ok (.sipush 256, 3) := by decide +kernel
theorem dL_addsRange_17 : decode cL_addsRange 17 = .ok (.iload_n 2, 1) := by decide +kernel
theorem dL_addsRange_18 : decode cL_addsRange 18 = .ok (.isub, 1) := by decide +kernel
theorem dL_addsRange_19 : decode cL_addsRange 19 = .ok (.irem, 1) := by decide +kernel
theorem dL_addsRange_20 : decode cL_addsRange 20 = .ok (.iadd, 1) := by decide +kernel
theorem dL_addsRange_21 : decode cL_addsRange 21 = .ok (.istore_n 3, 1) := by decide +kernel
theorem dL_addsRange_22 : decode cL_addsRange 22 = .ok (.aload_n 0, 1) := by decide +kernel
theorem dL_addsRange_23 : decode cL_addsRange 23 = .ok (.iload_n 2, 1) := by decide +kernel
theorem dL_addsRange_24 : decode cL_addsRange 24 = .ok (.iload_n 3, 1) := by decide +kernel
theorem dL_addsRange_25 : decode cL_addsRange 25 = .ok (.invokevirtual 75, 3) := by decide +kernel
theorem dL_addsRange_28 : decode cL_addsRange 28 = .ok (.istore 4, 2) := by decide +kernel
theorem dL_addsRange_30 : decode cL_addsRange 30 = .ok (.aload_n 0, 1) := by decide +kernel
theorem dL_addsRange_31 : decode cL_addsRange 31 = .ok (.iconst 0, 1) := by decide +kernel
theorem dL_addsRange_32 : decode cL_addsRange 32 = .ok (.invokevirtual 13, 3) := by decide +kernel
theorem dL_addsRange_35 : decode cL_addsRange 35 = .ok (.istore 5, 2) := by decide +kernel
theorem dL_addsRange_37 : decode cL_addsRange 37 = .ok (.aload_n 0, 1) := by decide +kernel
theorem dL_addsRange_38 : decode cL_addsRange 38 = .ok (.iload_n 2, 1) := by decide +kernel
theorem dL_addsRange_39 : decode cL_addsRange 39 = .ok (.iload_n 3, 1) := by decide +kernel
theorem dL_addsRange_40 : decode cL_addsRange 40 = .ok (.iload_n 1, 1) := by decide +kernel
theorem dL_addsRange_41 : decode cL_addsRange 41 = .ok (.bipush 14, 2) := by decide +kernel
theorem dL_addsRange_43 : decode cL_addsRange 43 = .ok (.ishr, 1) := by decide +kernel
theorem dL_addsRange_44 : decode cL_addsRange 44 = .ok (.iconst 5, 1) := by decide +kernel
theorem dL_addsRange_45 : decode cL_addsRange 45 = .ok (.irem, 1) := by decide +kernel
theorem dL_addsRange_46 : decode cL_addsRange 46 = .ok (.bipush 20, 2) := by decide +kernel
theorem dL_addsRange_48 : decode cL_addsRange 48 = .ok (.imul, 1) := by decide +kernel
theorem dL_addsRange_49 : decode cL_addsRange 49 = .ok (.iload_n 1, 1) := by decide +kernel
theorem dL_addsRange_50 : decode cL_addsRange 50 = .ok (.bipush 17, 2) := by decide +kernel
theorem dL_addsRange_52 : decode cL_addsRange 52 = .ok (.ishr, 1) := by decide +kernel
theorem dL_addsRange_53 : decode cL_addsRange 53 = .ok (.bipush 10, 2) := by decide +kernel
theorem dL_addsRange_55 : decode cL_addsRange 55 = .ok (.irem, 1) := by decide +kernel
theorem dL_addsRange_56 : decode cL_addsRange 56 = .ok (.invokevirtual 60, 3) := by decide +kernel
theorem dL_addsRange_59 : decode cL_addsRange 59 = .ok (.istore 6, 2) := by decide +kernel
theorem dL_addsRange_61 : decode cL_addsRange 61 = .ok (.iload 5, 2) := by decide +kernel
theorem dL_addsRange_63 : decode cL_addsRange 63 = .ok (.iload 4, 2) := by decide +kernel
theorem dL_addsRange_65 : decode cL_addsRange 65 = .ok (.iadd, 1) := by decide +kernel
theorem dL_addsRange_66 : decode cL_addsRange 66 = .ok (.bipush 32, 2) := by decide +kernel
theorem dL_addsRange_68 : decode cL_addsRange 68 = .ok (.if_icmp .le 18, 3) := by decide +kernel
theorem dL_addsRange_71 : decode cL_addsRange 71 = .ok (.iload 6, 2) := by decide +kernel
theorem dL_addsRange_73 : decode cL_addsRange 73 = .ok (.bipush (-3), 2) := by decide +kernel
theorem dL_addsRange_75 : decode cL_addsRange 75 = .ok (.if_icmp .ne 8, 3) := by decide +kernel
theorem dL_addsRange_78 : decode cL_addsRange 78 = .ok (.bipush (-3), 2) := by decide +kernel
theorem dL_addsRange_80 : decode cL_addsRange 80 = .ok (.goto 5, 3) := by decide +kernel
theorem dL_addsRange_83 : decode cL_addsRange 83 = .ok (.bipush (-9), 2) := by decide +kernel
theorem dL_addsRange_85 : decode cL_addsRange 85 = .ok (.ireturn, 1) := by decide +kernel
theorem dL_addsRange_86 : decode cL_addsRange 86 = .ok (.aload_n 0, 1) := by decide +kernel
theorem dL_addsRange_87 : decode cL_addsRange 87 = .ok (.iconst 0, 1) := by decide +kernel
theorem dL_addsRange_88 : decode cL_addsRange 88 = .ok (.invokevirtual 13, 3) := by decide +kernel
theorem dL_addsRange_91 : decode cL_addsRange 91 = .ok (.iload 5, 2) := by decide +kernel
theorem dL_addsRange_93 : decode cL_addsRange 93 = .ok (.iload 4, 2) := by decide +kernel
theorem dL_addsRange_95 : decode cL_addsRange 95 = .ok (.iadd, 1) := by decide +kernel
theorem dL_addsRange_96 : decode cL_addsRange 96 = .ok (.if_icmp .ne 31, 3) := by decide +kernel
theorem dL_addsRange_99 : decode cL_addsRange 99 = .ok (.iload 6, 2) := by decide +kernel
theorem dL_addsRange_101 : decode cL_addsRange 101 = .ok (.aload_n 0, 1) := by decide +kernel
theorem dL_addsRange_102 : decode cL_addsRange 102 = .ok (.iconst 2, 1) := by decide +kernel
theorem dL_addsRange_103 : decode cL_addsRange 103 = .ok (.invokevirtual 13, 3) := by decide +kernel
theorem dL_addsRange_106 : decode cL_addsRange 106 = .ok (.iconst 1, 1) := by decide +kernel
theorem dL_addsRange_107 : decode cL_addsRange 107 = .ok (.isub, 1) := by decide +kernel
theorem dL_addsRange_108 : decode cL_addsRange 108 = .ok (.if_icmp .ne 19, 3) := by decide +kernel
theorem dL_addsRange_111 : decode cL_addsRange 111 = .ok (.aload_n 0, 1) := by decide +kernel
theorem dL_addsRange_112 : decode cL_addsRange 112 = .ok (.iload 6, 2) := by decide +kernel
theorem dL_addsRange_114 : decode cL_addsRange 114 = .ok (.invokevirtual 38, 3) := by decide +kernel
theorem dL_addsRange_117 : decode cL_addsRange 117 = .ok (.iload 4, 2) := by decide +kernel
theorem dL_addsRange_119 : decode cL_addsRange 119 = .ok (.if_icmp .ne 8, 3) := by decide +kernel
theorem dL_addsRange_122 : decode cL_addsRange 122 = .ok (.iload 6, 2) := by decide +kernel
theorem dL_addsRange_124 : decode cL_addsRange 124 = .ok (.goto 5, 3) := by decide +kernel
theorem dL_addsRange_127 : decode cL_addsRange 127 = .ok (.bipush (-9), 2) := by decide +kernel
theorem dL_addsRange_129 : decode cL_addsRange 129 = .ok (.ireturn, 1) := by decide +kernel
theorem dL_rearranges_0 : decode cL_rearranges 0 = .ok (.aload_n 0, 1) := by decide +kernel
theorem dL_rearranges_1 : decode cL_rearranges 1 = .ok (.iconst 0, 1) := by decide +kernel
theorem dL_rearranges_2 : decode cL_rearranges 2 = .ok (.invokevirtual 13, 3) := by decide +kernel
theorem dL_rearranges_5 : decode cL_rearranges 5 = .ok (.istore_n 2, 1) := by decide +kernel
theorem dL_rearranges_6 : decode cL_rearranges 6 = .ok (.aload_n 0, 1) := by decide +kernel
theorem dL_rearranges_7 : decode cL_rearranges 7 = .ok (.iconst 4, 1) := by decide +kernel
theorem dL_rearranges_8 : decode cL_rearranges 8 = .ok (.invokevirtual 13, 3) := by decide +kernel
theorem dL_rearranges_11 : decode cL_rearranges 11 = .ok (.istore_n 3, 1) := by decide +kernel
theorem dL_rearranges_12 : decode cL_rearranges 12 = .ok (.iload_n 1, 1) := by decide +kernel
theorem dL_rearranges_13 : decode cL_rearranges 13 = .ok (.ifCond .eq 10, 3) := by decide +kernel
theorem dL_rearranges_16 : decode cL_rearranges 16 = .ok (.aload_n 0, 1) := by decide +kernel
theorem dL_rearranges_17 : decode cL_rearranges 17 = .ok (.invokevirtual 98, 3) := by decide +kernel
theorem dL_rearranges_20 : decode cL_rearranges 20 = .ok (.goto 7, 3) := by decide +kernel
theorem dL_rearranges_23 : decode cL_rearranges 23 = .ok (.aload_n 0, 1) := by decide +kernel
theorem dL_rearranges_24 : decode cL_rearranges 24 = .ok (.invokevirtual 102, 3) := by decide +kernel
theorem dL_rearranges_27 : decode cL_rearranges 27 = .ok (.istore 4, 2) := by decide +kernel
theorem dL_rearranges_29 : decode cL_rearranges 29 = .ok (.iload 4, 2) := by decide +kernel
theorem dL_rearranges_31 : decode cL_rearranges 31 = .ok (.bipush (-4), 2) := by decide +kernel
theorem dL_rearranges_33 : decode cL_rearranges 33 = .ok (.if_icmp .eq 14, 3) := by decide +kernel
theorem dL_rearranges_36 : decode cL_rearranges 36 = .ok (.iload 4, 2) := by decide +kernel
theorem dL_rearranges_38 : decode cL_rearranges 38 = .ok (.ifCond .le 13, 3) := by decide +kernel
theorem dL_rearranges_41 : decode cL_rearranges 41 = .ok (.iload 4, 2) := by decide +kernel
theorem dL_rearranges_43 : decode cL_rearranges 43 = .ok (.iload_n 2, 1) := by decide +kernel
theorem dL_rearranges_44 : decode cL_rearranges 44 = .ok (.if_icmp .gt 7, 3) := by decide +kernel
theorem dL_rearranges_47 : decode cL_rearranges 47 = .ok (.iconst 1, 1) := by decide +kernel
theorem dL_rearranges_48 : decode cL_rearranges 48 = .ok (.goto 4, 3) := by decide +kernel
theorem dL_rearranges_51 : decode cL_rearranges 51 = .ok (.iconst 0, 1) := by decide +kernel
theorem dL_rearranges_52 : decode cL_rearranges 52 = .ok (.istore 5, 2) := by decide +kernel
theorem dL_rearranges_54 : decode cL_rearranges 54 = .ok (.iconst 0, 1) := by decide +kernel
theorem dL_rearranges_55 : decode cL_rearranges 55 = .ok (.istore 6, 2) := by decide +kernel
theorem dL_rearranges_57 : decode cL_rearranges 57 = .ok (.iload 6, 2) := by decide +kernel
theorem dL_rearranges_59 : decode cL_rearranges 59 = .ok (.iload_n 2, 1) := by decide +kernel
theorem dL_rearranges_60 : decode cL_rearranges 60 = .ok (.if_icmp .ge 44, 3) := by decide +kernel
theorem dL_rearranges_63 : decode cL_rearranges 63 = .ok (.iload 5, 2) := by decide +kernel
theorem dL_rearranges_65 : decode cL_rearranges 65 = .ok (.ifCond .eq 39, 3) := by decide +kernel
theorem dL_rearranges_68 : decode cL_rearranges 68 = .ok (.aload_n 0, 1) := by decide +kernel
theorem dL_rearranges_69 : decode cL_rearranges 69 = .ok (.iload_n 1, 1) := by decide +kernel
theorem dL_rearranges_70 : decode cL_rearranges 70 = .ok (.ifCond .eq 13, 3) := by decide +kernel
theorem dL_rearranges_73 : decode cL_rearranges 73 = .ok (.bipush 32, 2) := by decide +kernel
theorem dL_rearranges_75 : decode cL_rearranges 75 = .ok (.iload 6, 2) := by decide +kernel
theorem dL_rearranges_77 : decode cL_rearranges 77 = .ok (.imul, 1) := by decide +kernel
theorem dL_rearranges_78 : decode cL_rearranges 78 = .ok (.iload_n 2, 1) := by decide +kernel
theorem dL_rearranges_79 : decode cL_rearranges 79 = .ok (.idiv, 1) := by decide +kernel
theorem dL_rearranges_80 : decode cL_rearranges 80 = .ok (.goto 5, 3) := by decide +kernel
theorem dL_rearranges_83 : decode cL_rearranges 83 = .ok (.iload 6, 2) := by decide +kernel
theorem dL_rearranges_85 : decode cL_rearranges 85 = .ok (.invokevirtual 19, 3) := by decide +kernel
theorem dL_rearranges_88 : decode cL_rearranges 88 = .ok (.ifCond .lt 7, 3) := by decide +kernel
theorem dL_rearranges_91 : decode cL_rearranges 91 = .ok (.iconst 1, 1) := by decide +kernel
theorem dL_rearranges_92 : decode cL_rearranges 92 = .ok (.goto 4, 3) := by decide +kernel
theorem dL_rearranges_95 : decode cL_rearranges 95 = .ok (.iconst 0, 1) := by decide +kernel
theorem dL_rearranges_96 : decode cL_rearranges 96 = .ok (.istore 5, 2) := by decide +kernel
theorem dL_rearranges_98 : decode cL_rearranges 98 = .ok (.iinc 6 1, 3) := by decide +kernel
theorem dL_rearranges_101 : decode cL_rearranges 101 = .ok (.goto (-44), 3) := by decide +kernel
theorem dL_rearranges_104 : decode cL_rearranges 104 = .ok (.iload 5, 2) := by decide +kernel
theorem dL_rearranges_106 : decode cL_rearranges 106 = .ok (.ifCond .eq 58, 3) := by decide +kernel
theorem dL_rearranges_109 : decode cL_rearranges 109 = .ok (.aload_n 0, 1) := by decide +kernel
theorem dL_rearranges_110 : decode cL_rearranges 110 = .ok (.iconst 0, 1) := by decide +kernel
theorem dL_rearranges_111 : decode cL_rearranges 111 = .ok (.invokevirtual 13, 3) := by decide +kernel
theorem dL_rearranges_114 : decode cL_rearranges 114 = .ok (.iload_n 2, 1) := by decide +kernel
theorem dL_rearranges_115 : decode cL_rearranges 115 = .ok (.if_icmp .ne 49, 3) := by decide +kernel
theorem dL_rearranges_118 : decode cL_rearranges 118 = .ok (.aload_n 0, 1) := by decide +kernel
theorem dL_rearranges_119 : decode cL_rearranges 119 = .ok (.iconst 4, 1) := by decide +kernel
theorem dL_rearranges_120 : decode cL_rearranges 120 = .ok (.invokevirtual 13, 3) := by decide +kernel
theorem dL_rearranges_123 : decode cL_rearranges 123 = .ok (.iload_n 3, 1) := by decide +kernel
theorem dL_rearranges_124 : decode cL_rearranges 124 = .ok (.iload 4, 2) := by decide +kernel
theorem dL_rearranges_126 : decode cL_rearranges 126 = .ok (.ifCond .le 8, 3) := by decide +kernel
theorem dL_rearranges_129 : decode cL_rearranges 129 = .ok (.iload 4, 2) := by decide +kernel
theorem dL_rearranges_131 : decode cL_rearranges 131 = .ok (.goto 4, 3) := by decide +kernel
theorem dL_rearranges_134 : decode cL_rearranges 134 = .ok (.iconst 0, 1) := by decide +kernel
theorem dL_rearranges_135 : decode cL_rearranges 135 = .ok (.iadd, 1) := by decide +kernel
theorem dL_rearranges_136 : decode cL_rearranges 136 = .ok (.if_icmp .ne 28, 3) := by decide +kernel
theorem dL_rearranges_139 : decode cL_rearranges 139 = .ok (.iload_n 1, 1) := by decide +kernel
theorem dL_rearranges_140 : decode cL_rearranges 140 = .ok (.ifCond .eq 10, 3) := by decide +kernel
theorem dL_rearranges_143 : decode cL_rearranges 143 = .ok (.aload_n 0, 1) := by decide +kernel
theorem dL_rearranges_144 : decode cL_rearranges 144 = .ok (.invokevirtual 98, 3) := by decide +kernel
theorem dL_rearranges_147 : decode cL_rearranges 147 = .ok (.goto 7, 3) := by decide +kernel
theorem dL_rearranges_150 : decode cL_rearranges 150 = .ok (.aload_n 0, 1) := by decide +kernel
theorem dL_rearranges_151 : decode cL_rearranges 151 = .ok (.invokevirtual 102, 3) := by decide +kernel
theorem dL_rearranges_154 : decode cL_rearranges 154 = .ok (.bipush (-4), 2) := by decide +kernel
theorem dL_rearranges_156 : decode cL_rearranges 156 = .ok (.if_icmp .ne 8, 3) := by decide +kernel
theorem dL_rearranges_159 : decode cL_rearranges 159 = .ok (.iload 4, 2) := by decide +kernel
theorem dL_rearranges_161 : decode cL_rearranges 161 = .ok (.goto 5, 3) := by decide +kernel
theorem dL_rearranges_164 : decode cL_rearranges 164 = .ok (.bipush (-9), 2) := by decide +kernel
theorem dL_rearranges_166 : decode cL_rearranges 166 = .ok (.ireturn, 1) := by decide +kernel
theorem dL_searches_0 : decode cL_searches 0 = .ok (.aload_n 0, 1) := by decide +kernel
theorem dL_searches_1 : decode cL_searches 1 = .ok (.iload_n 1, 1) := by decide +kernel
theorem dL_searches_2 : decode cL_searches 2 = .ok (.invokevirtual 50, 3) := by decide +kernel
theorem dL_searches_5 : decode cL_searches 5 = .ok (.istore_n 2, 1) := by decide +kernel
theorem dL_searches_6 : decode cL_searches 6 = .ok (.aload_n 0, 1) := by decide +kernel
theorem dL_searches_7 : decode cL_searches 7 = .ok (.iload_n 1, 1) := by decide +kernel
theorem dL_searches_8 : decode cL_searches 8 = .ok (.invokevirtual 53, 3) := by decide +kernel
theorem dL_searches_11 : decode cL_searches 11 = .ok (.istore_n 3, 1) := by decide +kernel
theorem dL_searches_12 : decode cL_searches 12 = .ok (.aload_n 0, 1) := by decide +kernel
theorem dL_searches_13 : decode cL_searches 13 = .ok (.iconst 5, 1) := by decide +kernel
theorem dL_searches_14 : decode cL_searches 14 = .ok (.invokevirtual 13, 3) := by decide +kernel
theorem dL_searches_17 : decode cL_searches 17 = .ok (.istore 4, 2) := by decide +kernel
theorem dL_searches_19 : decode cL_searches 19 = .ok (.aload_n 0, 1) := by decide +kernel
theorem dL_searches_20 : decode cL_searches 20 = .ok (.bipush 6, 2) := by decide +kernel
theorem dL_searches_22 : decode cL_searches 22 = .ok (.invokevirtual 13, 3) := by decide +kernel
theorem dL_searches_25 : decode cL_searches 25 = .ok (.istore 5, 2) := by decide +kernel
theorem dL_searches_27 : decode cL_searches 27 = .ok (.iload_n 2, 1) := by decide +kernel
theorem dL_searches_28 : decode cL_searches 28 = .ok (.ifCond .ge 7, 3) := by decide +kernel
theorem dL_searches_31 : decode cL_searches 31 = .ok (.iconst 0, 1) := by decide +kernel
theorem dL_searches_32 : decode cL_searches 32 = .ok (.goto 8, 3) := by decide +kernel
theorem dL_searches_35 : decode cL_searches 35 = .ok (.aload_n 0, 1) := by decide +kernel
theorem dL_searches_36 : decode cL_searches 36 = .ok (.iload_n 2, 1) := by decide +kernel
theorem dL_searches_37 : decode cL_searches 37 = .ok (.invokevirtual 35, 3) := by decide +kernel
theorem dL_searches_40 : decode cL_searches 40 = .ok (.istore 6, 2) := by decide +kernel
theorem dL_searches_42 : decode cL_searches 42 = .ok (.aload_n 0, 1) := by decide +kernel
theorem dL_searches_43 : decode cL_searches 43 = .ok (.iload_n 1, 1) := by decide +kernel
theorem dL_searches_44 : decode cL_searches 44 = .ok (.invokevirtual 69, 3) := by decide +kernel
theorem dL_searches_47 : decode cL_searches 47 = .ok (.istore 7, 2) := by decide +kernel
theorem dL_searches_49 : decode cL_searches 49 = .ok (.iload_n 2, 1) := by decide +kernel
theorem dL_searches_50 : decode cL_searches 50 = .ok (.ifCond .ge 28, 3) := by decide +kernel
theorem dL_searches_53 : decode cL_searches 53 = .ok (.iload 7, 2) := by decide +kernel
theorem dL_searches_55 : decode cL_searches 55 = .ok (.bipush (-4), 2) := by decide +kernel
theorem dL_searches_57 : decode cL_searches 57 = .ok (.if_icmp .ne 18, 3) := by decide +kernel
theorem dL_searches_60 : decode cL_searches 60 = .ok (.aload_n 0, 1) := by decide +kernel
theorem dL_searches_61 : decode cL_searches 61 = .ok (.iconst 5, 1) := by decide +kernel
theorem dL_searches_62 : decode cL_searches 62 = .ok (.invokevirtual 13, 3) := by decide +kernel
theorem dL_searches_65 : decode cL_searches 65 = .ok (.iload 4, 2) := by decide +kernel
theorem dL_searches_67 : decode cL_searches 67 = .ok (.if_icmp .ne 8, 3) := by decide +kernel
theorem dL_searches_70 : decode cL_searches 70 = .ok (.bipush (-4), 2) := by decide +kernel
theorem dL_searches_72 : decode cL_searches 72 = .ok (.goto 5, 3) := by decide +kernel
theorem dL_searches_75 : decode cL_searches 75 = .ok (.bipush (-9), 2) := by decide +kernel
theorem dL_searches_77 : decode cL_searches 77 = .ok (.ireturn, 1) := by decide +kernel
theorem dL_searches_78 : decode cL_searches 78 = .ok (.iload 7, 2) := by decide +kernel
theorem dL_searches_80 : decode cL_searches 80 = .ok (.aload_n 0, 1) := by decide +kernel
theorem dL_searches_81 : decode cL_searches 81 = .ok (.iload_n 2, 1) := by decide +kernel
theorem dL_searches_82 : decode cL_searches 82 = .ok (.invokevirtual 29, 3) := by decide +kernel
theorem dL_searches_85 : decode cL_searches 85 = .ok (.if_icmp .ne 45, 3) := by decide +kernel
theorem dL_searches_88 : decode cL_searches 88 = .ok (.aload_n 0, 1) := by decide +kernel
theorem dL_searches_89 : decode cL_searches 89 = .ok (.iload_n 2, 1) := by decide +kernel
theorem dL_searches_90 : decode cL_searches 90 = .ok (.invokevirtual 35, 3) := by decide +kernel
theorem dL_searches_93 : decode cL_searches 93 = .ok (.iload 6, 2) := by decide +kernel
theorem dL_searches_95 : decode cL_searches 95 = .ok (.iconst 1, 1) := by decide +kernel
theorem dL_searches_96 : decode cL_searches 96 = .ok (.iadd, 1) := by decide +kernel
theorem dL_searches_97 : decode cL_searches 97 = .ok (.if_icmp .ne 33, 3) := by decide +kernel
theorem dL_searches_100 : decode cL_searches 100 = .ok (.aload_n 0, 1) := by decide +kernel
theorem dL_searches_101 : decode cL_searches 101 = .ok (.iconst 5, 1) := by decide +kernel
theorem dL_searches_102 : decode cL_searches 102 = .ok (.invokevirtual 13, 3) := by decide +kernel
theorem dL_searches_105 : decode cL_searches 105 = .ok (.iload 4, 2) := by decide +kernel
theorem dL_searches_107 : decode cL_searches 107 = .ok (.iconst 1, 1) := by decide +kernel
theorem dL_searches_108 : decode cL_searches 108 = .ok (.iadd, 1) := by decide +kernel
theorem dL_searches_109 : decode cL_searches 109 = .ok (.if_icmp .ne 21, 3) := by decide +kernel
theorem dL_searches_112 : decode cL_searches 112 = .ok (.aload_n 0, 1) := by decide +kernel
theorem dL_searches_113 : decode cL_searches 113 = .ok (.bipush 6, 2) := by decide +kernel
theorem dL_searches_115 : decode cL_searches 115 = .ok (.invokevirtual 13, 3) := by decide +kernel
theorem dL_searches_118 : decode cL_searches 118 = .ok (.iload 5, 2) := by decide +kernel
theorem dL_searches_120 : decode cL_searches 120 = .ok (.iload_n 3, 1) := by decide +kernel
theorem dL_searches_121 : decode cL_searches 121 = .ok (.iadd, 1) := by decide +kernel
theorem dL_searches_122 : decode cL_searches 122 = .ok (.if_icmp .ne 8, 3) := by decide +kernel
theorem dL_searches_125 : decode cL_searches 125 = .ok (.iload 7, 2) := by decide +kernel
theorem dL_searches_127 : decode cL_searches 127 = .ok (.goto 5, 3) := by decide +kernel
theorem dL_searches_130 : decode cL_searches 130 = .ok (.bipush (-9), 2) := by decide +kernel
theorem dL_searches_132 : decode cL_searches 132 = .ok (.ireturn, 1) := by decide +kernel
theorem dL_act_0 : decode cL_act 0 = .ok (.iload_n 1, 1) := by decide +kernel
theorem dL_act_1 : decode cL_act 1 = .ok (.bipush 16, 2) := by decide +kernel
theorem dL_act_3 : decode cL_act 3 = .ok (.idiv, 1) := by decide +kernel
theorem dL_act_4 : decode cL_act 4 = .ok (.istore_n 2, 1) := by decide +kernel
theorem dL_act_5 : decode cL_act 5 = .ok (.iload_n 1, 1) := by decide +kernel
theorem dL_act_6 : decode cL_act 6 = .ok (.bipush 16, 2) := by decide +kernel
theorem dL_act_8 : decode cL_act 8 = .ok (.irem, 1) := by decide +kernel
theorem dL_act_9 : decode cL_act 9 = .ok (.istore_n 3, 1) := by decide +kernel
theorem dL_act_10 : decode cL_act 10 = .ok (.iload_n 3, 1) := by decide +kernel
theorem dL_act_11 : decode cL_act 11 = .ok (.iconst 5, 1) := by decide +kernel
theorem dL_act_12 : decode cL_act 12 = .ok (.if_icmp .ge 9, 3) := by decide +kernel
theorem dL_act_15 : decode cL_act 15 = .ok (.aload_n 0, 1) := by decide +kernel
theorem dL_act_16 : decode cL_act 16 = .ok (.iload_n 2, 1) := by decide +kernel
theorem dL_act_17 : decode cL_act 17 = .ok (.invokestatic 105, 3) := by decide +kernel
theorem dL_act_20 : decode cL_act 20 = .ok (.ireturn, 1) := by decide +kernel
theorem dL_act_21 : decode cL_act 21 = .ok (.iload_n 3, 1) := by decide +kernel
theorem dL_act_22 : decode cL_act 22 = .ok (.bipush 8, 2) := by decide +kernel
theorem dL_act_24 : decode cL_act 24 = .ok (.if_icmp .ge 9, 3) := by decide +kernel
theorem dL_act_27 : decode cL_act 27 = .ok (.aload_n 0, 1) := by decide +kernel
theorem dL_act_28 : decode cL_act 28 = .ok (.iload_n 2, 1) := by decide +kernel
theorem dL_act_29 : decode cL_act 29 = .ok (.invokestatic 109, 3) := by decide +kernel
theorem dL_act_32 : decode cL_act 32 = .ok (.ireturn, 1) := by decide +kernel
theorem dL_act_33 : decode cL_act 33 = .ok (.iload_n 3, 1) := by decide +kernel
theorem dL_act_34 : decode cL_act 34 = .ok (.bipush 10, 2) := by decide +kernel
theorem dL_act_36 : decode cL_act 36 = .ok (.if_icmp .ge 55, 3) := by decide +kernel
theorem dL_act_39 : decode cL_act 39 = .ok (.iload_n 2, 1) := by decide +kernel
theorem dL_act_40 : decode cL_act 40 = .ok (.aload_n 0, 1) := by decide +kernel
theorem dL_act_41 : decode cL_act 41 = .ok (.iconst 2, 1) := by decide +kernel
theorem dL_act_42 : decode cL_act 42 = .ok (.invokevirtual 13, 3) := by decide +kernel
theorem dL_act_45 : decode cL_act 45 = .ok (.iconst 1, 1) := by decide +kernel
theorem dL_act_46 : decode cL_act 46 = .ok (.iadd, 1) := by decide +kernel
theorem dL_act_47 : decode cL_act 47 = .ok (.irem, 1) := by decide +kernel
theorem dL_act_48 : decode cL_act 48 = .ok (.istore 4, 2) := by decide +kernel
theorem dL_act_50 : decode cL_act 50 = .ok (.aload_n 0, 1) := by decide +kernel
theorem dL_act_51 : decode cL_act 51 = .ok (.iload 4, 2) := by decide +kernel
theorem dL_act_53 : decode cL_act 53 = .ok (.invokevirtual 38, 3) := by decide +kernel
theorem dL_act_56 : decode cL_act 56 = .ok (.istore 5, 2) := by decide +kernel
theorem dL_act_58 : decode cL_act 58 = .ok (.aload_n 0, 1) := by decide +kernel
theorem dL_act_59 : decode cL_act 59 = .ok (.iload 4, 2) := by decide +kernel
theorem dL_act_61 : decode cL_act 61 = .ok (.invokevirtual 63, 3) := by decide +kernel
theorem dL_act_64 : decode cL_act 64 = .ok (.istore 6, 2) := by decide +kernel
theorem dL_act_66 : decode cL_act 66 = .ok (.iload 6, 2) := by decide +kernel
theorem dL_act_68 : decode cL_act 68 = .ok (.iload 5, 2) := by decide +kernel
theorem dL_act_70 : decode cL_act 70 = .ok (.if_icmp .ne 18, 3) := by decide +kernel
theorem dL_act_73 : decode cL_act 73 = .ok (.aload_n 0, 1) := by decide +kernel
theorem dL_act_74 : decode cL_act 74 = .ok (.iload 4, 2) := by decide +kernel
theorem dL_act_76 : decode cL_act 76 = .ok (.invokevirtual 38, 3) := by decide +kernel
theorem dL_act_79 : decode cL_act 79 = .ok (.iconst (-1), 1) := by decide +kernel
theorem dL_act_80 : decode cL_act 80 = .ok (.if_icmp .ne 8, 3) := by decide +kernel
theorem dL_act_83 : decode cL_act 83 = .ok (.iload 6, 2) := by decide +kernel
theorem dL_act_85 : decode cL_act 85 = .ok (.goto 5, 3) := by decide +kernel
theorem dL_act_88 : decode cL_act 88 = .ok (.bipush (-9), 2) := by decide +kernel
theorem dL_act_90 : decode cL_act 90 = .ok (.ireturn, 1) := by decide +kernel
theorem dL_act_91 : decode cL_act 91 = .ok (.iload_n 3, 1) := by decide +kernel
theorem dL_act_92 : decode cL_act 92 = .ok (.bipush 10, 2) := by decide +kernel
theorem dL_act_94 : decode cL_act 94 = .ok (.if_icmp .ne 11, 3) := by decide +kernel
theorem dL_act_97 : decode cL_act 97 = .ok (.aload_n 0, 1) := by decide +kernel
theorem dL_act_98 : decode cL_act 98 = .ok (.iload_n 2, 1) := by decide +kernel
theorem dL_act_99 : decode cL_act 99 = .ok (.iconst 3, 1) := by decide +kernel
theorem dL_act_100 : decode cL_act 100 = .ok (.irem, 1) := by decide +kernel
theorem dL_act_101 : decode cL_act 101 = .ok (.invokevirtual 66, 3) := by decide +kernel
theorem dL_act_104 : decode cL_act 104 = .ok (.ireturn, 1) := by decide +kernel
theorem dL_act_105 : decode cL_act 105 = .ok (.iload_n 3, 1) := by decide +kernel
theorem dL_act_106 : decode cL_act 106 = .ok (.bipush 13, 2) := by decide +kernel
theorem dL_act_108 : decode cL_act 108 = .ok (.if_icmp .ge 21, 3) := by decide +kernel
theorem dL_act_111 : decode cL_act 111 = .ok (.aload_n 0, 1) := by decide +kernel
theorem dL_act_112 : decode cL_act 112 = .ok (.iload_n 3, 1) := by decide +kernel
theorem dL_act_113 : decode cL_act 113 = .ok (.bipush 12, 2) := by decide +kernel
theorem dL_act_115 : decode cL_act 115 = .ok (.if_icmp .ne 7, 3) := by decide +kernel
theorem dL_act_118 : decode cL_act 118 = .ok (.iconst 1, 1) := by decide +kernel
theorem dL_act_119 : decode cL_act 119 = .ok (.goto 4, 3) := by decide +kernel
theorem dL_act_122 : decode cL_act 122 = .ok (.iconst 0, 1) := by decide +kernel
theorem dL_act_123 : decode cL_act 123 = .ok (.invokestatic 112, 3) := by decide +kernel
theorem dL_act_126 : decode cL_act 126 = .ok (.goto 12, 3) := by decide +kernel
theorem dL_act_129 : decode cL_act 129 = .ok (.aload_n 0, 1) := by decide +kernel
theorem dL_act_130 : decode cL_act 130 = .ok (.iload_n 2, 1) := by decide +kernel
theorem dL_act_131 : decode cL_act 131 = .ok (.sipush 255, 3) := by decide +kernel
theorem dL_act_134 : decode cL_act 134 = .ok (.iand, 1) := by decide +kernel
theorem dL_act_135 : decode cL_act 135 = .ok (.invokestatic 116, 3) := by decide +kernel
theorem dL_act_138 : decode cL_act 138 = .ok (.ireturn, 1) := by decide +kernel
theorem dL_law_0 : decode cL_law 0 = .ok (.new 14, 3) := by decide +kernel
theorem dL_law_3 : decode cL_law 3 = .ok (.dup, 1) := by decide +kernel
theorem dL_law_4 : decode cL_law 4 = .ok (.invokespecial 119, 3) := by decide +kernel
theorem dL_law_7 : decode cL_law 7 = .ok (.astore_n 1, 1) := by decide +kernel
theorem dL_law_8 : decode cL_law 8 = .ok (.aload_n 1, 1) := by decide +kernel
theorem dL_law_9 : decode cL_law 9 = .ok (.invokevirtual 120, 3) := by decide +kernel
theorem dL_law_12 : decode cL_law 12 = .ok (.bipush (-4), 2) := by decide +kernel
theorem dL_law_14 : decode cL_law 14 = .ok (.if_icmp .ne 96, 3) := by decide +kernel
theorem dL_law_17 : decode cL_law 17 = .ok (.aload_n 1, 1) := by decide +kernel
theorem dL_law_18 : decode cL_law 18 = .ok (.invokevirtual 123, 3) := by decide +kernel
theorem dL_law_21 : decode cL_law 21 = .ok (.bipush (-4), 2) := by decide +kernel
theorem dL_law_23 : decode cL_law 23 = .ok (.if_icmp .ne 87, 3) := by decide +kernel
theorem dL_law_26 : decode cL_law 26 = .ok (.aload_n 1, 1) := by decide +kernel
theorem dL_law_27 : decode cL_law 27 = .ok (.iconst 0, 1) := by decide +kernel
theorem dL_law_28 : decode cL_law 28 = .ok (.invokevirtual 13, 3) := by decide +kernel
theorem dL_law_31 : decode cL_law 31 = .ok (.ifCond .ne 79, 3) := by decide +kernel
theorem dL_law_34 : decode cL_law 34 = .ok (.aload_n 1, 1) := by decide +kernel
theorem dL_law_35 : decode cL_law 35 = .ok (.bipush 8, 2) := by decide +kernel
theorem dL_law_37 : decode cL_law 37 = .ok (.invokevirtual 13, 3) := by decide +kernel
theorem dL_law_40 : decode cL_law 40 = .ok (.sipush 256, 3) := by decide +kernel
theorem dL_law_43 : decode cL_law 43 = .ok (.if_icmp .ne 67, 3) := by decide +kernel
theorem dL_law_46 : decode cL_law 46 = .ok (.aload_n 1, 1) := by decide +kernel
theorem dL_law_47 : decode cL_law 47 = .ok (.invokevirtual 102, 3) := by decide +kernel
theorem dL_law_50 : decode cL_law 50 = .ok (.bipush (-4), 2) := by decide +kernel
theorem dL_law_52 : decode cL_law 52 = .ok (.if_icmp .ne 58, 3) := by decide +kernel
theorem dL_law_55 : decode cL_law 55 = .ok (.aload_n 1, 1) := by decide +kernel
theorem dL_law_56 : decode cL_law 56 = .ok (.invokevirtual 98, 3) := by decide +kernel
theorem dL_law_59 : decode cL_law 59 = .ok (.bipush (-4), 2) := by decide +kernel
theorem dL_law_61 : decode cL_law 61 = .ok (.if_icmp .ne 49, 3) := by decide +kernel
theorem dL_law_64 : decode cL_law 64 = .ok (.aload_n 1, 1) := by decide +kernel
theorem dL_law_65 : decode cL_law 65 = .ok (.invokevirtual 126, 3) := by decide +kernel
theorem dL_law_68 : decode cL_law 68 = .ok (.bipush (-100), 2) := by decide +kernel
theorem dL_law_70 : decode cL_law 70 = .ok (.if_icmp .ne 40, 3) := by decide +kernel
theorem dL_law_73 : decode cL_law 73 = .ok (.aload_n 1, 1) := by decide +kernel
theorem dL_law_74 : decode cL_law 74 = .ok (.iconst 0, 1) := by decide +kernel
theorem dL_law_75 : decode cL_law 75 = .ok (.invokevirtual 69, 3) := by decide +kernel
theorem dL_law_78 : decode cL_law 78 = .ok (.bipush (-4), 2) := by decide +kernel
theorem dL_law_80 : decode cL_law 80 = .ok (.if_icmp .ne 30, 3) := by decide +kernel
theorem dL_law_83 : decode cL_law 83 = .ok (.aload_n 1, 1) := by decide +kernel
theorem dL_law_84 : decode cL_law 84 = .ok (.iconst 0, 1) := by decide +kernel
theorem dL_law_85 : decode cL_law 85 = .ok (.invokestatic 129, 3) := by decide +kernel
theorem dL_law_88 : decode cL_law 88 = .ok (.ifCond .eq 22, 3) := by decide +kernel
theorem dL_law_91 : decode cL_law 91 = .ok (.aload_n 1, 1) := by decide +kernel
theorem dL_law_92 : decode cL_law 92 = .ok (.iconst 1, 1) := by decide +kernel
theorem dL_law_93 : decode cL_law 93 = .ok (.invokestatic 129, 3) := by decide +kernel
theorem dL_law_96 : decode cL_law 96 = .ok (.ifCond .eq 14, 3) := by decide +kernel
theorem dL_law_99 : decode cL_law 99 = .ok (.aload_n 1, 1) := by decide +kernel
theorem dL_law_100 : decode cL_law 100 = .ok (.invokevirtual 132, 3) := by decide +kernel
theorem dL_law_103 : decode cL_law 103 = .ok (.ifCond .ne 7, 3) := by decide +kernel
theorem dL_law_106 : decode cL_law 106 = .ok (.iconst 1, 1) := by decide +kernel
theorem dL_law_107 : decode cL_law 107 = .ok (.goto 4, 3) := by decide +kernel
theorem dL_law_110 : decode cL_law 110 = .ok (.iconst 0, 1) := by decide +kernel
theorem dL_law_111 : decode cL_law 111 = .ok (.istore_n 2, 1) := by decide +kernel
theorem dL_law_112 : decode cL_law 112 = .ok (.aload_n 1, 1) := by decide +kernel
theorem dL_law_113 : decode cL_law 113 = .ok (.invokestatic 90, 3) := by decide +kernel
theorem dL_law_116 : decode cL_law 116 = .ok (.lstore_n 3, 1) := by decide +kernel
theorem dL_law_117 : decode cL_law 117 = .ok (.iconst 0, 1) := by decide +kernel
theorem dL_law_118 : decode cL_law 118 = .ok (.istore 5, 2) := by decide +kernel
theorem dL_law_120 : decode cL_law 120 = .ok (.iload 5, 2) := by decide +kernel
theorem dL_law_122 : decode cL_law 122 = .ok (.bipush 48, 2) := by decide +kernel
theorem dL_law_124 : decode cL_law 124 = .ok (.if_icmp .ge 301, 3) := by decide +kernel
theorem dL_law_127 : decode cL_law 127 = .ok (.iload_n 2, 1) := by decide +kernel
theorem dL_law_128 : decode cL_law 128 = .ok (.ifCond .eq 297, 3) := by decide +kernel
theorem dL_law_131 : decode cL_law 131 = .ok (.aload_n 0, 1) := by decide +kernel
theorem dL_law_132 : decode cL_law 132 = .ok (.iload 5, 2) := by decide +kernel
theorem dL_law_134 : decode cL_law 134 = .ok (.invokestatic 135, 3) := by decide +kernel
theorem dL_law_137 : decode cL_law 137 = .ok (.istore 6, 2) := by decide +kernel
theorem dL_law_139 : decode cL_law 139 = .ok (.aload_n 1, 1) := by decide +kernel
theorem dL_law_140 : decode cL_law 140 = .ok (.invokestatic 90, 3) := by decide +kernel
theorem dL_law_143 : decode cL_law 143 = .ok (.lstore 7, 2) := by decide +kernel
theorem dL_law_145 : decode cL_law 145 = .ok (.aload_n 1, 1) := by decide +kernel
theorem dL_law_146 : decode cL_law 146 = .ok (.bipush 9, 2) := by decide +kernel
theorem dL_law_148 : decode cL_law 148 = .ok (.invokevirtual 13, 3) := by decide +kernel
theorem dL_law_151 : decode cL_law 151 = .ok (.istore 9, 2) := by decide +kernel
theorem dL_law_153 : decode cL_law 153 = .ok (.aload_n 1, 1) := by decide +kernel
theorem dL_law_154 : decode cL_law 154 = .ok (.iload 6, 2) := by decide +kernel
theorem dL_law_156 : decode cL_law 156 = .ok (.invokestatic 139, 3) := by decide +kernel
theorem dL_law_159 : decode cL_law 159 = .ok (.istore 10, 2) := by decide +kernel
theorem dL_law_161 : decode cL_law 161 = .ok (.aload_n 1, 1) := by decide +kernel
theorem dL_law_162 : decode cL_law 162 = .ok (.bipush 9, 2) := by decide +kernel
theorem dL_law_164 : decode cL_law 164 = .ok (.invokevirtual 13, 3) := by decide +kernel
theorem dL_law_167 : decode cL_law 167 = .ok (.istore 11, 2) := by decide +kernel
theorem dL_law_169 : decode cL_law 169 = .ok (.iload 10, 2) := by decide +kernel
theorem dL_law_171 : decode cL_law 171 = .ok (.bipush (-9), 2) := by decide +kernel
theorem dL_law_173 : decode cL_law 173 = .ok (.if_icmp .le 51, 3) := by decide +kernel
theorem dL_law_176 : decode cL_law 176 = .ok (.iload 10, 2) := by decide +kernel
theorem dL_law_178 : decode cL_law 178 = .ok (.ifCond .ge 23, 3) := by decide +kernel
theorem dL_law_181 : decode cL_law 181 = .ok (.iload 11, 2) := by decide +kernel
theorem dL_law_183 : decode cL_law 183 = .ok (.iload 9, 2) := by decide +kernel
theorem dL_law_185 : decode cL_law 185 = .ok (.if_icmp .ne 39, 3) := by decide +kernel
theorem dL_law_188 : decode cL_law 188 = .ok (.aload_n 1, 1) := by decide +kernel
theorem dL_law_189 : decode cL_law 189 = .ok (.invokestatic 90, 3) := by decide +kernel
theorem dL_law_192 : decode cL_law 192 = .ok (.lload 7, 2) := by decide +kernel
theorem dL_law_194 : decode cL_law 194 = .ok (.lcmp, 1) := by decide +kernel
theorem dL_law_195 : decode cL_law 195 = .ok (.ifCond .ne 29, 3) := by decide +kernel
theorem dL_law_198 : decode cL_law 198 = .ok (.goto 22, 3) := by decide +kernel
theorem dL_law_201 : decode cL_law 201 = .ok (.iload 11, 2) := by decide +kernel
theorem dL_law_203 : decode cL_law 203 = .ok (.iload 9, 2) := by decide +kernel
theorem dL_law_205 : decode cL_law 205 = .ok (.iconst 4, 1) := by decide +kernel
theorem dL_law_206 : decode cL_law 206 = .ok (.if_icmp .ge 10, 3) := by decide +kernel
theorem dL_law_209 : decode cL_law 209 = .ok (.iload 9, 2) := by decide +kernel
theorem dL_law_211 : decode cL_law 211 = .ok (.iconst 1, 1) := by decide +kernel
theorem dL_law_212 : decode cL_law 212 = .ok (.iadd, 1) := by decide +kernel
theorem dL_law_213 : decode cL_law 213 = .ok (.goto 4, 3) := by decide +kernel
theorem dL_law_216 : decode cL_law 216 = .ok (.iconst 4, 1) := by decide +kernel
theorem dL_law_217 : decode cL_law 217 = .ok (.if_icmp .ne 7, 3) := by decide +kernel
theorem dL_law_220 : decode cL_law 220 = .ok (.iconst 1, 1) := by decide +kernel
theorem dL_law_221 : decode cL_law 221 = .ok (.goto 4, 3) := by decide +kernel
theorem dL_law_224 : decode cL_law 224 = .ok (.iconst 0, 1) := by decide +kernel
theorem dL_law_225 : decode cL_law 225 = .ok (.istore_n 2, 1) := by decide +kernel
theorem dL_law_226 : decode cL_law 226 = .ok (.iload_n 2, 1) := by decide +kernel
theorem dL_law_227 : decode cL_law 227 = .ok (.ifCond .eq 53, 3) := by decide +kernel
theorem dL_law_230 : decode cL_law 230 = .ok (.aload_n 1, 1) := by decide +kernel
theorem dL_law_231 : decode cL_law 231 = .ok (.invokestatic 142, 3) := by decide +kernel
theorem dL_law_234 : decode cL_law 234 = .ok (.ifCond .eq 46, 3) := by decide +kernel
theorem dL_law_237 : decode cL_law 237 = .ok (.iload 5, 2) := by decide +kernel
theorem dL_law_239 : decode cL_law 239 = .ok (.bipush 6, 2) := by decide +kernel
theorem dL_law_241 : decode cL_law 241 = .ok (.irem, 1) := by decide +kernel
theorem dL_law_242 : decode cL_law 242 = .ok (.iconst 5, 1) := by decide +kernel
theorem dL_law_243 : decode cL_law 243 = .ok (.if_icmp .ne 14, 3) := by decide +kernel
theorem dL_law_246 : decode cL_law 246 = .ok (.aload_n 1, 1) := by decide +kernel
theorem dL_law_247 : decode cL_law 247 = .ok (.iload 6, 2) := by decide +kernel
theorem dL_law_249 : decode cL_law 249 = .ok (.iconst 3, 1) := by decide +kernel
theorem dL_law_250 : decode cL_law 250 = .ok (.idiv, 1) := by decide +kernel
theorem dL_law_251 : decode cL_law 251 = .ok (.invokestatic 146, 3) := by decide +kernel
theorem dL_law_254 : decode cL_law 254 = .ok (.ifCond .eq 26, 3) := by decide +kernel
theorem dL_law_257 : decode cL_law 257 = .ok (.iload 5, 2) := by decide +kernel
theorem dL_law_259 : decode cL_law 259 = .ok (.iconst 5, 1) := by decide +kernel
theorem dL_law_260 : decode cL_law 260 = .ok (.irem, 1) := by decide +kernel
theorem dL_law_261 : decode cL_law 261 = .ok (.iconst 4, 1) := by decide +kernel
theorem dL_law_262 : decode cL_law 262 = .ok (.if_icmp .ne 14, 3) := by decide +kernel
theorem dL_law_265 : decode cL_law 265 = .ok (.aload_n 1, 1) := by decide +kernel
theorem dL_law_266 : decode cL_law 266 = .ok (.iload 6, 2) := by decide +kernel
theorem dL_law_268 : decode cL_law 268 = .ok (.iconst 5, 1) := by decide +kernel
theorem dL_law_269 : decode cL_law 269 = .ok (.idiv, 1) := by decide +kernel
theorem dL_law_270 : decode cL_law 270 = .ok (.invokestatic 129, 3) := by decide +kernel
theorem dL_law_273 : decode cL_law 273 = .ok (.ifCond .eq 7, 3) := by decide +kernel
theorem dL_law_276 : decode cL_law 276 = .ok (.iconst 1, 1) := by decide +kernel
theorem dL_law_277 : decode cL_law 277 = .ok (.goto 4, 3) := by decide +kernel
theorem dL_law_280 : decode cL_law 280 = .ok (.iconst 0, 1) := by decide +kernel
theorem dL_law_281 : decode cL_law 281 = .ok (.istore_n 2, 1) := by decide +kernel
theorem dL_law_282 : decode cL_law 282 = .ok (.iload_n 2, 1) := by decide +kernel
theorem dL_law_283 : decode cL_law 283 = .ok (.ifCond .eq 53, 3) := by decide +kernel
theorem dL_law_286 : decode cL_law 286 = .ok (.iload 10, 2) := by decide +kernel
theorem dL_law_288 : decode cL_law 288 = .ok (.ifCond .lt 48, 3) := by decide +kernel
theorem dL_law_291 : decode cL_law 291 = .ok (.iload 6, 2) := by decide +kernel
theorem dL_law_293 : decode cL_law 293 = .ok (.bipush 11, 2) := by decide +kernel
theorem dL_law_295 : decode cL_law 295 = .ok (.idiv, 1) := by decide +kernel
theorem dL_law_296 : decode cL_law 296 = .ok (.iconst 3, 1) := by decide +kernel
theorem dL_law_297 : decode cL_law 297 = .ok (.irem, 1) := by decide +kernel
theorem dL_law_298 : decode cL_law 298 = .ok (.ifCond .ne 38, 3) := by decide +kernel
theorem dL_law_301 : decode cL_law 301 = .ok (.aload_n 1, 1) := by decide +kernel
theorem dL_law_302 : decode cL_law 302 = .ok (.invokevirtual 120, 3) := by decide +kernel
theorem dL_law_305 : decode cL_law 305 = .ok (.iload 9, 2) := by decide +kernel
theorem dL_law_307 : decode cL_law 307 = .ok (.iconst 4, 1) := by decide +kernel
theorem dL_law_308 : decode cL_law 308 = .ok (.if_icmp .ge 8, 3) := by decide +kernel
theorem dL_law_311 : decode cL_law 311 = .ok (.iload 9, 2) := by decide +kernel
theorem dL_law_313 : decode cL_law 313 = .ok (.goto 4, 3) := by decide +kernel
theorem dL_law_316 : decode cL_law 316 = .ok (.iconst 3, 1) := by decide +kernel
theorem dL_law_317 : decode cL_law 317 = .ok (.if_icmp .ne 17, 3) := by decide +kernel
theorem dL_law_320 : decode cL_law 320 = .ok (.aload_n 1, 1) := by decide +kernel
theorem dL_law_321 : decode cL_law 321 = .ok (.invokestatic 90, 3) := by decide +kernel
theorem dL_law_324 : decode cL_law 324 = .ok (.lload 7, 2) := by decide +kernel
theorem dL_law_326 : decode cL_law 326 = .ok (.lcmp, 1) := by decide +kernel
theorem dL_law_327 : decode cL_law 327 = .ok (.ifCond .ne 7, 3) := by decide +kernel
theorem dL_law_330 : decode cL_law 330 = .ok (.iconst 1, 1) := by decide +kernel
theorem dL_law_331 : decode cL_law 331 = .ok (.goto 4, 3) := by decide +kernel
theorem dL_law_334 : decode cL_law 334 = .ok (.iconst 0, 1) := by decide +kernel
theorem dL_law_335 : decode cL_law 335 = .ok (.istore_n 2, 1) := by decide +kernel
theorem dL_law_336 : decode cL_law 336 = .ok (.iload_n 2, 1) := by decide +kernel
theorem dL_law_337 : decode cL_law 337 = .ok (.ifCond .eq 82, 3) := by decide +kernel
theorem dL_law_340 : decode cL_law 340 = .ok (.iload 5, 2) := by decide +kernel
theorem dL_law_342 : decode cL_law 342 = .ok (.bipush 12, 2) := by decide +kernel
theorem dL_law_344 : decode cL_law 344 = .ok (.irem, 1) := by decide +kernel
theorem dL_law_345 : decode cL_law 345 = .ok (.bipush 11, 2) := by decide +kernel
theorem dL_law_347 : decode cL_law 347 = .ok (.if_icmp .ne 72, 3) := by decide +kernel
theorem dL_law_350 : decode cL_law 350 = .ok (.aload_n 1, 1) := by decide +kernel
theorem dL_law_351 : decode cL_law 351 = .ok (.iconst 0, 1) := by decide +kernel
theorem dL_law_352 : decode cL_law 352 = .ok (.invokevirtual 13, 3) := by decide +kernel
theorem dL_law_355 : decode cL_law 355 = .ok (.istore 12, 2) := by decide +kernel
theorem dL_law_357 : decode cL_law 357 = .ok (.aload_n 1, 1) := by decide +kernel
theorem dL_law_358 : decode cL_law 358 = .ok (.invokestatic 90, 3) := by decide +kernel
theorem dL_law_361 : decode cL_law 361 = .ok (.lstore 13, 2) := by decide +kernel
theorem dL_law_363 : decode cL_law 363 = .ok (.aload_n 1, 1) := by decide +kernel
theorem dL_law_364 : decode cL_law 364 = .ok (.invokevirtual 123, 3) := by decide +kernel
theorem dL_law_367 : decode cL_law 367 = .ok (.aload_n 1, 1) := by decide +kernel
theorem dL_law_368 : decode cL_law 368 = .ok (.iconst 0, 1) := by decide +kernel
theorem dL_law_369 : decode cL_law 369 = .ok (.invokevirtual 13, 3) := by decide +kernel
theorem dL_law_372 : decode cL_law 372 = .ok (.if_icmp .ne 42, 3) := by decide +kernel
theorem dL_law_375 : decode cL_law 375 = .ok (.aload_n 1, 1) := by decide +kernel
theorem dL_law_376 : decode cL_law 376 = .ok (.invokestatic 90, 3) := by decide +kernel
theorem dL_law_379 : decode cL_law 379 = .ok (.lload_n 3, 1) := by decide +kernel
theorem dL_law_380 : decode cL_law 380 = .ok (.lcmp, 1) := by decide +kernel
theorem dL_law_381 : decode cL_law 381 = .ok (.ifCond .ne 33, 3) := by decide +kernel
theorem dL_law_384 : decode cL_law 384 = .ok (.aload_n 1, 1) := by decide +kernel
theorem dL_law_385 : decode cL_law 385 = .ok (.invokevirtual 120, 3) := by decide +kernel
theorem dL_law_388 : decode cL_law 388 = .ok (.ifCond .lt 26, 3) := by decide +kernel
theorem dL_law_391 : decode cL_law 391 = .ok (.aload_n 1, 1) := by decide +kernel
theorem dL_law_392 : decode cL_law 392 = .ok (.invokestatic 90, 3) := by decide +kernel
theorem dL_law_395 : decode cL_law 395 = .ok (.lload 13, 2) := by decide +kernel
theorem dL_law_397 : decode cL_law 397 = .ok (.lcmp, 1) := by decide +kernel
theorem dL_law_398 : decode cL_law 398 = .ok (.ifCond .ne 16, 3) := by decide +kernel
theorem dL_law_401 : decode cL_law 401 = .ok (.aload_n 1, 1) := by decide +kernel
theorem dL_law_402 : decode cL_law 402 = .ok (.invokevirtual 132, 3) := by decide +kernel
theorem dL_law_405 : decode cL_law 405 = .ok (.iload 12, 2) := by decide +kernel
theorem dL_law_407 : decode cL_law 407 = .ok (.if_icmp .ne 7, 3) := by decide +kernel
theorem dL_law_410 : decode cL_law 410 = .ok (.iconst 1, 1) := by decide +kernel
theorem dL_law_411 : decode cL_law 411 = .ok (.goto 4, 3) := by decide +kernel
theorem dL_law_414 : decode cL_law 414 = .ok (.iconst 0, 1) := by decide +kernel
theorem dL_law_415 : decode cL_law 415 = .ok (.istore_n 2, 1) := by decide +kernel
theorem dL_law_416 : decode cL_law 416 = .ok (.lload 13, 2) := by decide +kernel
theorem dL_law_418 : decode cL_law 418 = .ok (.lstore_n 3, 1) := by decide +kernel
theorem dL_law_419 : decode cL_law 419 = .ok (.iinc 5 1, 3) := by decide +kernel
theorem dL_law_422 : decode cL_law 422 = .ok (.goto (-302), 3) := by decide +kernel
theorem dL_law_425 : decode cL_law 425 = .ok (.iload_n 2, 1) := by decide +kernel
theorem dL_law_426 : decode cL_law 426 = .ok (.ireturn, 1) := by decide +kernel
