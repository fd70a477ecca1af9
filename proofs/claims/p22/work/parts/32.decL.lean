theorem dL_cell_0 : decode cL_cell 0 = .ok (.iload_n 1, 1) := by decide +kernel
theorem dL_cell_1 : decode cL_cell 1 = .ok (.aload_n 0, 1) := by decide +kernel
theorem dL_cell_2 : decode cL_cell 2 = .ok (.arraylength, 1) := by decide +kernel
theorem dL_cell_3 : decode cL_cell 3 = .ok (.if_icmp .ge 9, 3) := by decide +kernel
theorem dL_cell_6 : decode cL_cell 6 = .ok (.aload_n 0, 1) := by decide +kernel
theorem dL_cell_7 : decode cL_cell 7 = .ok (.iload_n 1, 1) := by decide +kernel
theorem dL_cell_8 : decode cL_cell 8 = .ok (.iaload, 1) := by decide +kernel
theorem dL_cell_9 : decode cL_cell 9 = .ok (.goto 13, 3) := by decide +kernel
theorem dL_cell_12 : decode cL_cell 12 = .ok (.ldc 7, 2) := by decide +kernel
theorem dL_cell_14 : decode cL_cell 14 = .ok (.iload_n 1, 1) := by decide +kernel
theorem dL_cell_15 : decode cL_cell 15 = .ok (.bipush 33, 2) := by decide +kernel
theorem dL_cell_17 : decode cL_cell 17 = .ok (.iadd, 1) := by decide +kernel
theorem dL_cell_18 : decode cL_cell 18 = .ok (.imul, 1) := by decide +kernel
theorem dL_cell_19 : decode cL_cell 19 = .ok (.ldc 8, 2) := by decide +kernel
theorem dL_cell_21 : decode cL_cell 21 = .ok (.iadd, 1) := by decide +kernel
theorem dL_cell_22 : decode cL_cell 22 = .ok (.ireturn, 1) := by decide +kernel
theorem dL_low_0 : decode cL_low 0 = .ok (.iload_n 0, 1) := by decide +kernel
theorem dL_low_1 : decode cL_low 1 = .ok (.ldc 9, 2) := by decide +kernel
theorem dL_low_3 : decode cL_low 3 = .ok (.iand, 1) := by decide +kernel
theorem dL_low_4 : decode cL_low 4 = .ok (.iload_n 1, 1) := by decide +kernel
theorem dL_low_5 : decode cL_low 5 = .ok (.irem, 1) := by decide +kernel
theorem dL_low_6 : decode cL_low 6 = .ok (.ireturn, 1) := by decide +kernel
theorem dL_calls_0 : decode cL_calls 0 = .ok (.iload_n 1, 1) := by decide +kernel
theorem dL_calls_1 : decode cL_calls 1 = .ok (.ifCond .ne 16, 3) := by decide +kernel
theorem dL_calls_4 : decode cL_calls 4 = .ok (.aload_n 0, 1) := by decide +kernel
theorem dL_calls_5 : decode cL_calls 5 = .ok (.iload_n 2, 1) := by decide +kernel
theorem dL_calls_6 : decode cL_calls 6 = .ok (.iload_n 3, 1) := by decide +kernel
theorem dL_calls_7 : decode cL_calls 7 = .ok (.iload 4, 2) := by decide +kernel
theorem dL_calls_9 : decode cL_calls 9 = .ok (.iload 5, 2) := by decide +kernel
theorem dL_calls_11 : decode cL_calls 11 = .ok (.invokevirtual 10, 3) := by decide +kernel
theorem dL_calls_14 : decode cL_calls 14 = .ok (.goto 30, 3) := by decide +kernel
theorem dL_calls_17 : decode cL_calls 17 = .ok (.iload_n 1, 1) := by decide +kernel
theorem dL_calls_18 : decode cL_calls 18 = .ok (.iconst 1, 1) := by decide +kernel
theorem dL_calls_19 : decode cL_calls 19 = .ok (.if_icmp .ne 12, 3) := by decide +kernel
theorem dL_calls_22 : decode cL_calls 22 = .ok (.aload_n 0, 1) := by decide +kernel
theorem dL_calls_23 : decode cL_calls 23 = .ok (.iload_n 2, 1) := by decide +kernel
theorem dL_calls_24 : decode cL_calls 24 = .ok (.iload_n 3, 1) := by decide +kernel
theorem dL_calls_25 : decode cL_calls 25 = .ok (.invokevirtual 16, 3) := by decide +kernel
theorem dL_calls_28 : decode cL_calls 28 = .ok (.goto 16, 3) := by decide +kernel
theorem dL_calls_31 : decode cL_calls 31 = .ok (.aload_n 0, 1) := by decide +kernel
theorem dL_calls_32 : decode cL_calls 32 = .ok (.iload_n 2, 1) := by decide +kernel
theorem dL_calls_33 : decode cL_calls 33 = .ok (.invokevirtual 20, 3) := by decide +kernel
theorem dL_calls_36 : decode cL_calls 36 = .ok (.ifCond .eq 7, 3) := by decide +kernel
theorem dL_calls_39 : decode cL_calls 39 = .ok (.iconst 1, 1) := by decide +kernel
theorem dL_calls_40 : decode cL_calls 40 = .ok (.goto 4, 3) := by decide +kernel
theorem dL_calls_43 : decode cL_calls 43 = .ok (.iconst 0, 1) := by decide +kernel
theorem dL_calls_44 : decode cL_calls 44 = .ok (.ireturn, 1) := by decide +kernel
theorem dL_calls_45 : decode cL_calls 45 = .ok (.astore 6, 2) := by decide +kernel
theorem dL_calls_47 : decode cL_calls 47 = .ok (.bipush (-3), 2) := by decide +kernel
theorem dL_calls_49 : decode cL_calls 49 = .ok (.ireturn, 1) := by decide +kernel
theorem dL_frame_0 : decode cL_frame 0 = .ok (.aload 7, 2) := by decide +kernel
theorem dL_frame_2 : decode cL_frame 2 = .ok (.iconst 4, 1) := by decide +kernel
theorem dL_frame_3 : decode cL_frame 3 = .ok (.iload_n 0, 1) := by decide +kernel
theorem dL_frame_4 : decode cL_frame 4 = .ok (.imul, 1) := by decide +kernel
theorem dL_frame_5 : decode cL_frame 5 = .ok (.iload_n 1, 1) := by decide +kernel
theorem dL_frame_6 : decode cL_frame 6 = .ok (.iadd, 1) := by decide +kernel
theorem dL_frame_7 : decode cL_frame 7 = .ok (.iaload, 1) := by decide +kernel
theorem dL_frame_8 : decode cL_frame 8 = .ok (.istore 8, 2) := by decide +kernel
theorem dL_frame_10 : decode cL_frame 10 = .ok (.bipush 6, 2) := by decide +kernel
theorem dL_frame_12 : decode cL_frame 12 = .ok (.aload 6, 2) := by decide +kernel
theorem dL_frame_14 : decode cL_frame 14 = .ok (.iload_n 0, 1) := by decide +kernel
theorem dL_frame_15 : decode cL_frame 15 = .ok (.iaload, 1) := by decide +kernel
theorem dL_frame_16 : decode cL_frame 16 = .ok (.imul, 1) := by decide +kernel
theorem dL_frame_17 : decode cL_frame 17 = .ok (.istore 9, 2) := by decide +kernel
theorem dL_frame_19 : decode cL_frame 19 = .ok (.iload 9, 2) := by decide +kernel
theorem dL_frame_21 : decode cL_frame 21 = .ok (.bipush 6, 2) := by decide +kernel
theorem dL_frame_23 : decode cL_frame 23 = .ok (.aload 6, 2) := by decide +kernel
theorem dL_frame_25 : decode cL_frame 25 = .ok (.iload_n 0, 1) := by decide +kernel
theorem dL_frame_26 : decode cL_frame 26 = .ok (.iaload, 1) := by decide +kernel
theorem dL_frame_27 : decode cL_frame 27 = .ok (.imul, 1) := by decide +kernel
theorem dL_frame_28 : decode cL_frame 28 = .ok (.aload_n 2, 1) := by decide +kernel
theorem dL_frame_29 : decode cL_frame 29 = .ok (.aload 6, 2) := by decide +kernel
theorem dL_frame_31 : decode cL_frame 31 = .ok (.iload_n 0, 1) := by decide +kernel
theorem dL_frame_32 : decode cL_frame 32 = .ok (.iaload, 1) := by decide +kernel
theorem dL_frame_33 : decode cL_frame 33 = .ok (.iaload, 1) := by decide +kernel
theorem dL_frame_34 : decode cL_frame 34 = .ok (.iadd, 1) := by decide +kernel
theorem dL_frame_35 : decode cL_frame 35 = .ok (.if_icmp .ge 34, 3) := by decide +kernel
theorem dL_frame_38 : decode cL_frame 38 = .ok (.iload 8, 2) := by decide +kernel
theorem dL_frame_40 : decode cL_frame 40 = .ok (.aload_n 3, 1) := by decide +kernel
theorem dL_frame_41 : decode cL_frame 41 = .ok (.iload 9, 2) := by decide +kernel
theorem dL_frame_43 : decode cL_frame 43 = .ok (.iaload, 1) := by decide +kernel
theorem dL_frame_44 : decode cL_frame 44 = .ok (.if_icmp .lt 19, 3) := by decide +kernel
theorem dL_frame_47 : decode cL_frame 47 = .ok (.iload 8, 2) := by decide +kernel
theorem dL_frame_49 : decode cL_frame 49 = .ok (.aload 4, 2) := by decide +kernel
theorem dL_frame_51 : decode cL_frame 51 = .ok (.iload 9, 2) := by decide +kernel
theorem dL_frame_53 : decode cL_frame 53 = .ok (.iaload, 1) := by decide +kernel
theorem dL_frame_54 : decode cL_frame 54 = .ok (.if_icmp .gt 9, 3) := by decide +kernel
theorem dL_frame_57 : decode cL_frame 57 = .ok (.aload 5, 2) := by decide +kernel
theorem dL_frame_59 : decode cL_frame 59 = .ok (.iload 9, 2) := by decide +kernel
theorem dL_frame_61 : decode cL_frame 61 = .ok (.iaload, 1) := by decide +kernel
theorem dL_frame_62 : decode cL_frame 62 = .ok (.ireturn, 1) := by decide +kernel
theorem dL_frame_63 : decode cL_frame 63 = .ok (.iinc 9 1, 3) := by decide +kernel
theorem dL_frame_66 : decode cL_frame 66 = .ok (.goto (-47), 3) := by decide +kernel
theorem dL_frame_69 : decode cL_frame 69 = .ok (.iconst (-1), 1) := by decide +kernel
theorem dL_frame_70 : decode cL_frame 70 = .ok (.ireturn, 1) := by decide +kernel
theorem dL_ends_0 : decode cL_ends 0 = .ok (.iload_n 0, 1) := by decide +kernel
theorem dL_ends_1 : decode cL_ends 1 = .ok (.istore_n 2, 1) := by decide +kernel
theorem dL_ends_2 : decode cL_ends 2 = .ok (.iconst 0, 1) := by decide +kernel
theorem dL_ends_3 : decode cL_ends 3 = .ok (.istore_n 3, 1) := by decide +kernel
theorem dL_ends_4 : decode cL_ends 4 = .ok (.iload_n 3, 1) := by decide +kernel
theorem dL_ends_5 : decode cL_ends 5 = .ok (.bipush 6, 2) := by decide +kernel
theorem dL_ends_7 : decode cL_ends 7 = .ok (.if_icmp .ge 16, 3) := by decide +kernel
theorem dL_ends_10 : decode cL_ends 10 = .ok (.aload_n 1, 1) := by decide +kernel
theorem dL_ends_11 : decode cL_ends 11 = .ok (.bipush 14, 2) := by decide +kernel
theorem dL_ends_13 : decode cL_ends 13 = .ok (.iload_n 2, 1) := by decide +kernel
theorem dL_ends_14 : decode cL_ends 14 = .ok (.iadd, 1) := by decide +kernel
theorem dL_ends_15 : decode cL_ends 15 = .ok (.iaload, 1) := by decide +kernel
theorem dL_ends_16 : decode cL_ends 16 = .ok (.istore_n 2, 1) := by decide +kernel
theorem dL_ends_17 : decode cL_ends 17 = .ok (.iinc 3 1, 3) := by decide +kernel
theorem dL_ends_20 : decode cL_ends 20 = .ok (.goto (-16), 3) := by decide +kernel
theorem dL_ends_23 : decode cL_ends 23 = .ok (.iload_n 2, 1) := by decide +kernel
theorem dL_ends_24 : decode cL_ends 24 = .ok (.ireturn, 1) := by decide +kernel
theorem dL_number_0 : decode cL_number 0 = .ok (.iconst 0, 1) := by decide +kernel
theorem dL_number_1 : decode cL_number 1 = .ok (.istore 8, 2) := by decide +kernel
theorem dL_number_3 : decode cL_number 3 = .ok (.iconst 0, 1) := by decide +kernel
theorem dL_number_4 : decode cL_number 4 = .ok (.istore 9, 2) := by decide +kernel
theorem dL_number_6 : decode cL_number 6 = .ok (.iconst 3, 1) := by decide +kernel
theorem dL_number_7 : decode cL_number 7 = .ok (.istore 10, 2) := by decide +kernel
theorem dL_number_9 : decode cL_number 9 = .ok (.iload 10, 2) := by decide +kernel
theorem dL_number_11 : decode cL_number 11 = .ok (.ifCond .lt 52, 3) := by decide +kernel
theorem dL_number_14 : decode cL_number 14 = .ok (.iload_n 0, 1) := by decide +kernel
theorem dL_number_15 : decode cL_number 15 = .ok (.iload 10, 2) := by decide +kernel
theorem dL_number_17 : decode cL_number 17 = .ok (.aload_n 2, 1) := by decide +kernel
theorem dL_number_18 : decode cL_number 18 = .ok (.aload_n 3, 1) := by decide +kernel
theorem dL_number_19 : decode cL_number 19 = .ok (.aload 4, 2) := by decide +kernel
theorem dL_number_21 : decode cL_number 21 = .ok (.aload 5, 2) := by decide +kernel
theorem dL_number_23 : decode cL_number 23 = .ok (.aload 6, 2) := by decide +kernel
theorem dL_number_25 : decode cL_number 25 = .ok (.aload 7, 2) := by decide +kernel
theorem dL_number_27 : decode cL_number 27 = .ok (.invokestatic 26, 3) := by decide +kernel
theorem dL_number_30 : decode cL_number 30 = .ok (.istore 11, 2) := by decide +kernel
theorem dL_number_32 : decode cL_number 32 = .ok (.iload 9, 2) := by decide +kernel
theorem dL_number_34 : decode cL_number 34 = .ok (.iload 11, 2) := by decide +kernel
theorem dL_number_36 : decode cL_number 36 = .ok (.ifCond .lt 17, 3) := by decide +kernel
theorem dL_number_39 : decode cL_number 39 = .ok (.aload_n 2, 1) := by decide +kernel
theorem dL_number_40 : decode cL_number 40 = .ok (.bipush 8, 2) := by decide +kernel
theorem dL_number_42 : decode cL_number 42 = .ok (.iload 11, 2) := by decide +kernel
theorem dL_number_44 : decode cL_number 44 = .ok (.iadd, 1) := by decide +kernel
theorem dL_number_45 : decode cL_number 45 = .ok (.iaload, 1) := by decide +kernel
theorem dL_number_46 : decode cL_number 46 = .ok (.ifCond .ne 7, 3) := by decide +kernel
theorem dL_number_49 : decode cL_number 49 = .ok (.iconst 1, 1) := by decide +kernel
theorem dL_number_50 : decode cL_number 50 = .ok (.goto 4, 3) := by decide +kernel
theorem dL_number_53 : decode cL_number 53 = .ok (.iconst 0, 1) := by decide +kernel
theorem dL_number_54 : decode cL_number 54 = .ok (.iadd, 1) := by decide +kernel
theorem dL_number_55 : decode cL_number 55 = .ok (.istore 9, 2) := by decide +kernel
theorem dL_number_57 : decode cL_number 57 = .ok (.iinc 10 (-1), 3) := by decide +kernel
theorem dL_number_60 : decode cL_number 60 = .ok (.goto (-51), 3) := by decide +kernel
theorem dL_number_63 : decode cL_number 63 = .ok (.iload 9, 2) := by decide +kernel
theorem dL_number_65 : decode cL_number 65 = .ok (.aload_n 1, 1) := by decide +kernel
theorem dL_number_66 : decode cL_number 66 = .ok (.iconst 1, 1) := by decide +kernel
theorem dL_number_67 : decode cL_number 67 = .ok (.iaload, 1) := by decide +kernel
theorem dL_number_68 : decode cL_number 68 = .ok (.if_icmp .le 12, 3) := by decide +kernel
theorem dL_number_71 : decode cL_number 71 = .ok (.iload 9, 2) := by decide +kernel
theorem dL_number_73 : decode cL_number 73 = .ok (.aload_n 1, 1) := by decide +kernel
theorem dL_number_74 : decode cL_number 74 = .ok (.iconst 1, 1) := by decide +kernel
theorem dL_number_75 : decode cL_number 75 = .ok (.iaload, 1) := by decide +kernel
theorem dL_number_76 : decode cL_number 76 = .ok (.isub, 1) := by decide +kernel
theorem dL_number_77 : decode cL_number 77 = .ok (.goto 4, 3) := by decide +kernel
theorem dL_number_80 : decode cL_number 80 = .ok (.iconst 0, 1) := by decide +kernel
theorem dL_number_81 : decode cL_number 81 = .ok (.istore 10, 2) := by decide +kernel
theorem dL_number_83 : decode cL_number 83 = .ok (.iconst 3, 1) := by decide +kernel
theorem dL_number_84 : decode cL_number 84 = .ok (.istore 11, 2) := by decide +kernel
theorem dL_number_86 : decode cL_number 86 = .ok (.iload 11, 2) := by decide +kernel
theorem dL_number_88 : decode cL_number 88 = .ok (.ifCond .lt 70, 3) := by decide +kernel
theorem dL_number_91 : decode cL_number 91 = .ok (.iload_n 0, 1) := by decide +kernel
theorem dL_number_92 : decode cL_number 92 = .ok (.iload 11, 2) := by decide +kernel
theorem dL_number_94 : decode cL_number 94 = .ok (.aload_n 2, 1) := by decide +kernel
theorem dL_number_95 : decode cL_number 95 = .ok (.aload_n 3, 1) := by decide +kernel
theorem dL_number_96 : decode cL_number 96 = .ok (.aload 4, 2) := by decide +kernel
theorem dL_number_98 : decode cL_number 98 = .ok (.aload 5, 2) := by decide +kernel
theorem dL_number_100 : decode cL_number 100 = .ok (.aload 6, 2) := by decide +kernel
theorem dL_number_102 : decode cL_number 102 = .ok (.aload 7, 2) := by decide +kernel
theorem dL_number_104 : decode cL_number 104 = .ok (.invokestatic 26, 3) := by decide +kernel
theorem dL_number_107 : decode cL_number 107 = .ok (.istore 12, 2) := by decide +kernel
theorem dL_number_109 : decode cL_number 109 = .ok (.iload 12, 2) := by decide +kernel
theorem dL_number_111 : decode cL_number 111 = .ok (.ifCond .lt 41, 3) := by decide +kernel
theorem dL_number_114 : decode cL_number 114 = .ok (.aload_n 2, 1) := by decide +kernel
theorem dL_number_115 : decode cL_number 115 = .ok (.bipush 8, 2) := by decide +kernel
theorem dL_number_117 : decode cL_number 117 = .ok (.iload 12, 2) := by decide +kernel
theorem dL_number_119 : decode cL_number 119 = .ok (.iadd, 1) := by decide +kernel
theorem dL_number_120 : decode cL_number 120 = .ok (.iaload, 1) := by decide +kernel
theorem dL_number_121 : decode cL_number 121 = .ok (.ifCond .ne 31, 3) := by decide +kernel
theorem dL_number_124 : decode cL_number 124 = .ok (.iload 10, 2) := by decide +kernel
theorem dL_number_126 : decode cL_number 126 = .ok (.ifCond .le 7, 3) := by decide +kernel
theorem dL_number_129 : decode cL_number 129 = .ok (.iconst 0, 1) := by decide +kernel
theorem dL_number_130 : decode cL_number 130 = .ok (.goto 17, 3) := by decide +kernel
theorem dL_number_133 : decode cL_number 133 = .ok (.bipush 7, 2) := by decide +kernel
theorem dL_number_135 : decode cL_number 135 = .ok (.iload 8, 2) := by decide +kernel
theorem dL_number_137 : decode cL_number 137 = .ok (.imul, 1) := by decide +kernel
theorem dL_number_138 : decode cL_number 138 = .ok (.iconst 1, 1) := by decide +kernel
theorem dL_number_139 : decode cL_number 139 = .ok (.iadd, 1) := by decide +kernel
theorem dL_number_140 : decode cL_number 140 = .ok (.iload 12, 2) := by decide +kernel
theorem dL_number_142 : decode cL_number 142 = .ok (.aload_n 2, 1) := by decide +kernel
theorem dL_number_143 : decode cL_number 143 = .ok (.invokestatic 32, 3) := by decide +kernel
theorem dL_number_146 : decode cL_number 146 = .ok (.iadd, 1) := by decide +kernel
theorem dL_number_147 : decode cL_number 147 = .ok (.istore 8, 2) := by decide +kernel
theorem dL_number_149 : decode cL_number 149 = .ok (.iinc 10 (-1), 3) := by decide +kernel
theorem dL_number_152 : decode cL_number 152 = .ok (.iinc 11 (-1), 3) := by decide +kernel
theorem dL_number_155 : decode cL_number 155 = .ok (.goto (-69), 3) := by decide +kernel
theorem dL_number_158 : decode cL_number 158 = .ok (.iload 9, 2) := by decide +kernel
theorem dL_number_160 : decode cL_number 160 = .ok (.ifCond .le 8, 3) := by decide +kernel
theorem dL_number_163 : decode cL_number 163 = .ok (.iload 8, 2) := by decide +kernel
theorem dL_number_165 : decode cL_number 165 = .ok (.goto 18, 3) := by decide +kernel
theorem dL_number_168 : decode cL_number 168 = .ok (.iconst (-1), 1) := by decide +kernel
theorem dL_number_169 : decode cL_number 169 = .ok (.iconst 4, 1) := by decide +kernel
theorem dL_number_170 : decode cL_number 170 = .ok (.aload 7, 2) := by decide +kernel
theorem dL_number_172 : decode cL_number 172 = .ok (.iconst 4, 1) := by decide +kernel
theorem dL_number_173 : decode cL_number 173 = .ok (.iload_n 0, 1) := by decide +kernel
theorem dL_number_174 : decode cL_number 174 = .ok (.imul, 1) := by decide +kernel
theorem dL_number_175 : decode cL_number 175 = .ok (.iaload, 1) := by decide +kernel
theorem dL_number_176 : decode cL_number 176 = .ok (.imul, 1) := by decide +kernel
theorem dL_number_177 : decode cL_number 177 = .ok (.isub, 1) := by decide +kernel
theorem dL_number_178 : decode cL_number 178 = .ok (.aload 6, 2) := by decide +kernel
theorem dL_number_180 : decode cL_number 180 = .ok (.iload_n 0, 1) := by decide +kernel
theorem dL_number_181 : decode cL_number 181 = .ok (.iaload, 1) := by decide +kernel
theorem dL_number_182 : decode cL_number 182 = .ok (.isub, 1) := by decide +kernel
theorem dL_number_183 : decode cL_number 183 = .ok (.ireturn, 1) := by decide +kernel
theorem dL_names_0 : decode cL_names 0 = .ok (.iconst 0, 1) := by decide +kernel
theorem dL_names_1 : decode cL_names 1 = .ok (.istore 8, 2) := by decide +kernel
theorem dL_names_3 : decode cL_names 3 = .ok (.iload 8, 2) := by decide +kernel
theorem dL_names_5 : decode cL_names 5 = .ok (.aload_n 0, 1) := by decide +kernel
theorem dL_names_6 : decode cL_names 6 = .ok (.iconst 0, 1) := by decide +kernel
theorem dL_names_7 : decode cL_names 7 = .ok (.iaload, 1) := by decide +kernel
theorem dL_names_8 : decode cL_names 8 = .ok (.if_icmp .ge 61, 3) := by decide +kernel
theorem dL_names_11 : decode cL_names 11 = .ok (.aload 7, 2) := by decide +kernel
theorem dL_names_13 : decode cL_names 13 = .ok (.iload 8, 2) := by decide +kernel
theorem dL_names_15 : decode cL_names 15 = .ok (.iload 8, 2) := by decide +kernel
theorem dL_names_17 : decode cL_names 17 = .ok (.aload_n 0, 1) := by decide +kernel
theorem dL_names_18 : decode cL_names 18 = .ok (.aload_n 1, 1) := by decide +kernel
theorem dL_names_19 : decode cL_names 19 = .ok (.aload_n 2, 1) := by decide +kernel
theorem dL_names_20 : decode cL_names 20 = .ok (.aload_n 3, 1) := by decide +kernel
theorem dL_names_21 : decode cL_names 21 = .ok (.aload 4, 2) := by decide +kernel
theorem dL_names_23 : decode cL_names 23 = .ok (.aload 5, 2) := by decide +kernel
theorem dL_names_25 : decode cL_names 25 = .ok (.aload 6, 2) := by decide +kernel
theorem dL_names_27 : decode cL_names 27 = .ok (.invokestatic 36, 3) := by decide +kernel
theorem dL_names_30 : decode cL_names 30 = .ok (.iastore, 1) := by decide +kernel
theorem dL_names_31 : decode cL_names 31 = .ok (.iconst 0, 1) := by decide +kernel
theorem dL_names_32 : decode cL_names 32 = .ok (.istore 9, 2) := by decide +kernel
theorem dL_names_34 : decode cL_names 34 = .ok (.aload 7, 2) := by decide +kernel
theorem dL_names_36 : decode cL_names 36 = .ok (.iload 9, 2) := by decide +kernel
theorem dL_names_38 : decode cL_names 38 = .ok (.iaload, 1) := by decide +kernel
theorem dL_names_39 : decode cL_names 39 = .ok (.aload 7, 2) := by decide +kernel
theorem dL_names_41 : decode cL_names 41 = .ok (.iload 8, 2) := by decide +kernel
theorem dL_names_43 : decode cL_names 43 = .ok (.iaload, 1) := by decide +kernel
theorem dL_names_44 : decode cL_names 44 = .ok (.if_icmp .eq 9, 3) := by decide +kernel
theorem dL_names_47 : decode cL_names 47 = .ok (.iinc 9 1, 3) := by decide +kernel
theorem dL_names_50 : decode cL_names 50 = .ok (.goto (-16), 3) := by decide +kernel
theorem dL_names_53 : decode cL_names 53 = .ok (.aload 7, 2) := by decide +kernel
theorem dL_names_55 : decode cL_names 55 = .ok (.bipush 12, 2) := by decide +kernel
theorem dL_names_57 : decode cL_names 57 = .ok (.iload 8, 2) := by decide +kernel
theorem dL_names_59 : decode cL_names 59 = .ok (.iadd, 1) := by decide +kernel
theorem dL_names_60 : decode cL_names 60 = .ok (.iload 9, 2) := by decide +kernel
theorem dL_names_62 : decode cL_names 62 = .ok (.iastore, 1) := by decide +kernel
theorem dL_names_63 : decode cL_names 63 = .ok (.iinc 8 1, 3) := by decide +kernel
theorem dL_names_66 : decode cL_names 66 = .ok (.goto (-63), 3) := by decide +kernel
theorem dL_names_69 : decode cL_names 69 = .ok (.return_, 1) := by decide +kernel
theorem dL_rate_0 : decode cL_rate 0 = .ok (.iconst 0, 1) := by decide +kernel
theorem dL_rate_1 : decode cL_rate 1 = .ok (.istore 6, 2) := by decide +kernel
theorem dL_rate_3 : decode cL_rate 3 = .ok (.iload_n 0, 1) := by decide +kernel
theorem dL_rate_4 : decode cL_rate 4 = .ok (.istore 7, 2) := by decide +kernel
theorem dL_rate_6 : decode cL_rate 6 = .ok (.iload 7, 2) := by decide +kernel
theorem dL_rate_8 : decode cL_rate 8 = .ok (.aload_n 2, 1) := by decide +kernel
theorem dL_rate_9 : decode cL_rate 9 = .ok (.iconst 0, 1) := by decide +kernel
theorem dL_rate_10 : decode cL_rate 10 = .ok (.iaload, 1) := by decide +kernel
theorem dL_rate_11 : decode cL_rate 11 = .ok (.if_icmp .ge 40, 3) := by decide +kernel
theorem dL_rate_14 : decode cL_rate 14 = .ok (.iload 6, 2) := by decide +kernel
theorem dL_rate_16 : decode cL_rate 16 = .ok (.aload 5, 2) := by decide +kernel
theorem dL_rate_18 : decode cL_rate 18 = .ok (.bipush 12, 2) := by decide +kernel
theorem dL_rate_20 : decode cL_rate 20 = .ok (.iload 7, 2) := by decide +kernel
theorem dL_rate_22 : decode cL_rate 22 = .ok (.iadd, 1) := by decide +kernel
theorem dL_rate_23 : decode cL_rate 23 = .ok (.iaload, 1) := by decide +kernel
theorem dL_rate_24 : decode cL_rate 24 = .ok (.iload_n 0, 1) := by decide +kernel
theorem dL_rate_25 : decode cL_rate 25 = .ok (.if_icmp .ne 16, 3) := by decide +kernel
theorem dL_rate_28 : decode cL_rate 28 = .ok (.aload 4, 2) := by decide +kernel
theorem dL_rate_30 : decode cL_rate 30 = .ok (.iload 7, 2) := by decide +kernel
theorem dL_rate_32 : decode cL_rate 32 = .ok (.iaload, 1) := by decide +kernel
theorem dL_rate_33 : decode cL_rate 33 = .ok (.iload_n 1, 1) := by decide +kernel
theorem dL_rate_34 : decode cL_rate 34 = .ok (.if_icmp .ne 7, 3) := by decide +kernel
theorem dL_rate_37 : decode cL_rate 37 = .ok (.iconst 1, 1) := by decide +kernel
theorem dL_rate_38 : decode cL_rate 38 = .ok (.goto 4, 3) := by decide +kernel
theorem dL_rate_41 : decode cL_rate 41 = .ok (.iconst 0, 1) := by decide +kernel
theorem dL_rate_42 : decode cL_rate 42 = .ok (.iadd, 1) := by decide +kernel
theorem dL_rate_43 : decode cL_rate 43 = .ok (.istore 6, 2) := by decide +kernel
theorem dL_rate_45 : decode cL_rate 45 = .ok (.iinc 7 1, 3) := by decide +kernel
theorem dL_rate_48 : decode cL_rate 48 = .ok (.goto (-42), 3) := by decide +kernel
theorem dL_rate_51 : decode cL_rate 51 = .ok (.aload_n 3, 1) := by decide +kernel
theorem dL_rate_52 : decode cL_rate 52 = .ok (.iconst 4, 1) := by decide +kernel
theorem dL_rate_53 : decode cL_rate 53 = .ok (.iload_n 1, 1) := by decide +kernel
theorem dL_rate_54 : decode cL_rate 54 = .ok (.iadd, 1) := by decide +kernel
theorem dL_rate_55 : decode cL_rate 55 = .ok (.iaload, 1) := by decide +kernel
theorem dL_rate_56 : decode cL_rate 56 = .ok (.ifCond .le 18, 3) := by decide +kernel
theorem dL_rate_59 : decode cL_rate 59 = .ok (.iload 6, 2) := by decide +kernel
theorem dL_rate_61 : decode cL_rate 61 = .ok (.sipush 10000, 3) := by decide +kernel
theorem dL_rate_64 : decode cL_rate 64 = .ok (.imul, 1) := by decide +kernel
theorem dL_rate_65 : decode cL_rate 65 = .ok (.aload_n 3, 1) := by decide +kernel
theorem dL_rate_66 : decode cL_rate 66 = .ok (.iconst 4, 1) := by decide +kernel
theorem dL_rate_67 : decode cL_rate 67 = .ok (.iload_n 1, 1) := by decide +kernel
theorem dL_rate_68 : decode cL_rate 68 = .ok (.iadd, 1) := by decide +kernel
theorem dL_rate_69 : decode cL_rate 69 = .ok (.iaload, 1) := by decide +kernel
theorem dL_rate_70 : decode cL_rate 70 = .ok (.idiv, 1) := by decide +kernel
theorem dL_rate_71 : decode cL_rate 71 = .ok (.goto 4, 3) := by decide +kernel
theorem dL_rate_74 : decode cL_rate 74 = .ok (.iconst 0, 1) := by decide +kernel
theorem dL_rate_75 : decode cL_rate 75 = .ok (.ireturn, 1) := by decide +kernel
theorem dL_users_0 : decode cL_users 0 = .ok (.iconst 0, 1) := by decide +kernel
theorem dL_users_1 : decode cL_users 1 = .ok (.istore 6, 2) := by decide +kernel
theorem dL_users_3 : decode cL_users 3 = .ok (.iconst 0, 1) := by decide +kernel
theorem dL_users_4 : decode cL_users 4 = .ok (.istore 7, 2) := by decide +kernel
theorem dL_users_6 : decode cL_users 6 = .ok (.iconst 0, 1) := by decide +kernel
theorem dL_users_7 : decode cL_users 7 = .ok (.istore 8, 2) := by decide +kernel
theorem dL_users_9 : decode cL_users 9 = .ok (.iload 8, 2) := by decide +kernel
theorem dL_users_11 : decode cL_users 11 = .ok (.aload_n 2, 1) := by decide +kernel
theorem dL_users_12 : decode cL_users 12 = .ok (.iconst 0, 1) := by decide +kernel
theorem dL_users_13 : decode cL_users 13 = .ok (.iaload, 1) := by decide +kernel
theorem dL_users_14 : decode cL_users 14 = .ok (.if_icmp .ge 45, 3) := by decide +kernel
theorem dL_users_17 : decode cL_users 17 = .ok (.iload 6, 2) := by decide +kernel
theorem dL_users_19 : decode cL_users 19 = .ok (.aload 5, 2) := by decide +kernel
theorem dL_users_21 : decode cL_users 21 = .ok (.bipush 12, 2) := by decide +kernel
theorem dL_users_23 : decode cL_users 23 = .ok (.iload 8, 2) := by decide +kernel
theorem dL_users_25 : decode cL_users 25 = .ok (.iadd, 1) := by decide +kernel
theorem dL_users_26 : decode cL_users 26 = .ok (.iaload, 1) := by decide +kernel
theorem dL_users_27 : decode cL_users 27 = .ok (.iload_n 0, 1) := by decide +kernel
theorem dL_users_28 : decode cL_users 28 = .ok (.if_icmp .ne 21, 3) := by decide +kernel
theorem dL_users_31 : decode cL_users 31 = .ok (.aload_n 3, 1) := by decide +kernel
theorem dL_users_32 : decode cL_users 32 = .ok (.iload 8, 2) := by decide +kernel
theorem dL_users_34 : decode cL_users 34 = .ok (.iaload, 1) := by decide +kernel
theorem dL_users_35 : decode cL_users 35 = .ok (.iload_n 1, 1) := by decide +kernel
theorem dL_users_36 : decode cL_users 36 = .ok (.if_icmp .ne 13, 3) := by decide +kernel
theorem dL_users_39 : decode cL_users 39 = .ok (.iconst 1, 1) := by decide +kernel
theorem dL_users_40 : decode cL_users 40 = .ok (.aload 4, 2) := by decide +kernel
theorem dL_users_42 : decode cL_users 42 = .ok (.iload 8, 2) := by decide +kernel
theorem dL_users_44 : decode cL_users 44 = .ok (.iaload, 1) := by decide +kernel
theorem dL_users_45 : decode cL_users 45 = .ok (.ishl, 1) := by decide +kernel
theorem dL_users_46 : decode cL_users 46 = .ok (.goto 4, 3) := by decide +kernel
theorem dL_users_49 : decode cL_users 49 = .ok (.iconst 0, 1) := by decide +kernel
theorem dL_users_50 : decode cL_users 50 = .ok (.ior, 1) := by decide +kernel
theorem dL_users_51 : decode cL_users 51 = .ok (.istore 6, 2) := by decide +kernel
theorem dL_users_53 : decode cL_users 53 = .ok (.iinc 8 1, 3) := by decide +kernel
theorem dL_users_56 : decode cL_users 56 = .ok (.goto (-47), 3) := by decide +kernel
theorem dL_users_59 : decode cL_users 59 = .ok (.iconst 0, 1) := by decide +kernel
theorem dL_users_60 : decode cL_users 60 = .ok (.istore 8, 2) := by decide +kernel
theorem dL_users_62 : decode cL_users 62 = .ok (.iload 8, 2) := by decide +kernel
theorem dL_users_64 : decode cL_users 64 = .ok (.bipush 20, 2) := by decide +kernel
theorem dL_users_66 : decode cL_users 66 = .ok (.if_icmp .ge 21, 3) := by decide +kernel
theorem dL_users_69 : decode cL_users 69 = .ok (.iload 7, 2) := by decide +kernel
theorem dL_users_71 : decode cL_users 71 = .ok (.iload 6, 2) := by decide +kernel
theorem dL_users_73 : decode cL_users 73 = .ok (.iload 8, 2) := by decide +kernel
theorem dL_users_75 : decode cL_users 75 = .ok (.ishr, 1) := by decide +kernel
theorem dL_users_76 : decode cL_users 76 = .ok (.iconst 1, 1) := by decide +kernel
theorem dL_users_77 : decode cL_users 77 = .ok (.iand, 1) := by decide +kernel
theorem dL_users_78 : decode cL_users 78 = .ok (.iadd, 1) := by decide +kernel
theorem dL_users_79 : decode cL_users 79 = .ok (.istore 7, 2) := by decide +kernel
theorem dL_users_81 : decode cL_users 81 = .ok (.iinc 8 1, 3) := by decide +kernel
theorem dL_users_84 : decode cL_users 84 = .ok (.goto (-22), 3) := by decide +kernel
theorem dL_users_87 : decode cL_users 87 = .ok (.iload 7, 2) := by decide +kernel
theorem dL_users_89 : decode cL_users 89 = .ok (.ireturn, 1) := by decide +kernel
theorem dL_version_0 : decode cL_version 0 = .ok (.aload_n 3, 1) := by decide +kernel
theorem dL_version_1 : decode cL_version 1 = .ok (.iconst 4, 1) := by decide +kernel
theorem dL_version_2 : decode cL_version 2 = .ok (.iload_n 1, 1) := by decide +kernel
theorem dL_version_3 : decode cL_version 3 = .ok (.iadd, 1) := by decide +kernel
theorem dL_version_4 : decode cL_version 4 = .ok (.iaload, 1) := by decide +kernel
theorem dL_version_5 : decode cL_version 5 = .ok (.bipush 50, 2) := by decide +kernel
theorem dL_version_7 : decode cL_version 7 = .ok (.if_icmp .ge 7, 3) := by decide +kernel
theorem dL_version_10 : decode cL_version 10 = .ok (.iconst 1, 1) := by decide +kernel
theorem dL_version_11 : decode cL_version 11 = .ok (.goto 4, 3) := by decide +kernel
theorem dL_version_14 : decode cL_version 14 = .ok (.iconst 0, 1) := by decide +kernel
theorem dL_version_15 : decode cL_version 15 = .ok (.istore 7, 2) := by decide +kernel
theorem dL_version_17 : decode cL_version 17 = .ok (.iconst (-1), 1) := by decide +kernel
theorem dL_version_18 : decode cL_version 18 = .ok (.istore 8, 2) := by decide +kernel
theorem dL_version_20 : decode cL_version 20 = .ok (.iconst 0, 1) := by decide +kernel
theorem dL_version_21 : decode cL_version 21 = .ok (.istore 9, 2) := by decide +kernel
theorem dL_version_23 : decode cL_version 23 = .ok (.iconst 0, 1) := by decide +kernel
theorem dL_version_24 : decode cL_version 24 = .ok (.istore 10, 2) := by decide +kernel
theorem dL_version_26 : decode cL_version 26 = .ok (.iload 10, 2) := by decide +kernel
theorem dL_version_28 : decode cL_version 28 = .ok (.aload_n 2, 1) := by decide +kernel
theorem dL_version_29 : decode cL_version 29 = .ok (.iconst 0, 1) := by decide +kernel
theorem dL_version_30 : decode cL_version 30 = .ok (.iaload, 1) := by decide +kernel
theorem dL_version_31 : decode cL_version 31 = .ok (.if_icmp .ge 152, 3) := by decide +kernel
theorem dL_version_34 : decode cL_version 34 = .ok (.aload 6, 2) := by decide +kernel
theorem dL_version_36 : decode cL_version 36 = .ok (.bipush 12, 2) := by decide +kernel
theorem dL_version_38 : decode cL_version 38 = .ok (.iload 10, 2) := by decide +kernel
theorem dL_version_40 : decode cL_version 40 = .ok (.iadd, 1) := by decide +kernel
theorem dL_version_41 : decode cL_version 41 = .ok (.iaload, 1) := by decide +kernel
theorem dL_version_42 : decode cL_version 42 = .ok (.iload 10, 2) := by decide +kernel
theorem dL_version_44 : decode cL_version 44 = .ok (.if_icmp .ne 18, 3) := by decide +kernel
theorem dL_version_47 : decode cL_version 47 = .ok (.iload 10, 2) := by decide +kernel
theorem dL_version_49 : decode cL_version 49 = .ok (.iload_n 1, 1) := by decide +kernel
theorem dL_version_50 : decode cL_version 50 = .ok (.aload_n 2, 1) := by decide +kernel
theorem dL_version_51 : decode cL_version 51 = .ok (.aload_n 3, 1) := by decide +kernel
theorem dL_version_52 : decode cL_version 52 = .ok (.aload 4, 2) := by decide +kernel
theorem dL_version_54 : decode cL_version 54 = .ok (.aload 6, 2) := by decide +kernel
theorem dL_version_56 : decode cL_version 56 = .ok (.invokestatic 40, 3) := by decide +kernel
theorem dL_version_59 : decode cL_version 59 = .ok (.goto 4, 3) := by decide +kernel
theorem dL_version_62 : decode cL_version 62 = .ok (.iconst 0, 1) := by decide +kernel
theorem dL_version_63 : decode cL_version 63 = .ok (.istore 11, 2) := by decide +kernel
theorem dL_version_65 : decode cL_version 65 = .ok (.iload 7, 2) := by decide +kernel
theorem dL_version_67 : decode cL_version 67 = .ok (.ifCond .ne 18, 3) := by decide +kernel
theorem dL_version_70 : decode cL_version 70 = .ok (.iload 11, 2) := by decide +kernel
theorem dL_version_72 : decode cL_version 72 = .ok (.iload 11, 2) := by decide +kernel
theorem dL_version_74 : decode cL_version 74 = .ok (.iadd, 1) := by decide +kernel
theorem dL_version_75 : decode cL_version 75 = .ok (.aload_n 2, 1) := by decide +kernel
theorem dL_version_76 : decode cL_version 76 = .ok (.iconst 2, 1) := by decide +kernel
theorem dL_version_77 : decode cL_version 77 = .ok (.iaload, 1) := by decide +kernel
theorem dL_version_78 : decode cL_version 78 = .ok (.if_icmp .lt 7, 3) := by decide +kernel
theorem dL_version_81 : decode cL_version 81 = .ok (.iconst 1, 1) := by decide +kernel
theorem dL_version_82 : decode cL_version 82 = .ok (.goto 5, 3) := by decide +kernel
theorem dL_version_85 : decode cL_version 85 = .ok (.iload 7, 2) := by decide +kernel
theorem dL_version_87 : decode cL_version 87 = .ok (.istore 7, 2) := by decide +kernel
theorem dL_version_89 : decode cL_version 89 = .ok (.aload 6, 2) := by decide +kernel
theorem dL_version_91 : decode cL_version 91 = .ok (.bipush 12, 2) := by decide +kernel
theorem dL_version_93 : decode cL_version 93 = .ok (.iload 10, 2) := by decide +kernel
theorem dL_version_95 : decode cL_version 95 = .ok (.iadd, 1) := by decide +kernel
theorem dL_version_96 : decode cL_version 96 = .ok (.iaload, 1) := by decide +kernel
theorem dL_version_97 : decode cL_version 97 = .ok (.iload 10, 2) := by decide +kernel
theorem dL_version_99 : decode cL_version 99 = .ok (.if_icmp .ne 42, 3) := by decide +kernel
theorem dL_version_102 : decode cL_version 102 = .ok (.iload 11, 2) := by decide +kernel
theorem dL_version_104 : decode cL_version 104 = .ok (.aload_n 2, 1) := by decide +kernel
theorem dL_version_105 : decode cL_version 105 = .ok (.iconst 2, 1) := by decide +kernel
theorem dL_version_106 : decode cL_version 106 = .ok (.iaload, 1) := by decide +kernel
theorem dL_version_107 : decode cL_version 107 = .ok (.if_icmp .lt 34, 3) := by decide +kernel
theorem dL_version_110 : decode cL_version 110 = .ok (.aload_n 3, 1) := by decide +kernel
theorem dL_version_111 : decode cL_version 111 = .ok (.iconst 4, 1) := by decide +kernel
theorem dL_version_112 : decode cL_version 112 = .ok (.iload_n 1, 1) := by decide +kernel
theorem dL_version_113 : decode cL_version 113 = .ok (.iadd, 1) := by decide +kernel
theorem dL_version_114 : decode cL_version 114 = .ok (.iaload, 1) := by decide +kernel
theorem dL_version_115 : decode cL_version 115 = .ok (.bipush 49, 2) := by decide +kernel
theorem dL_version_117 : decode cL_version 117 = .ok (.if_icmp .le 24, 3) := by decide +kernel
theorem dL_version_120 : decode cL_version 120 = .ok (.iload 10, 2) := by decide +kernel
theorem dL_version_122 : decode cL_version 122 = .ok (.iload_n 1, 1) := by decide +kernel
theorem dL_version_123 : decode cL_version 123 = .ok (.aload_n 2, 1) := by decide +kernel
theorem dL_version_124 : decode cL_version 124 = .ok (.aload 4, 2) := by decide +kernel
theorem dL_version_126 : decode cL_version 126 = .ok (.aload 5, 2) := by decide +kernel
theorem dL_version_128 : decode cL_version 128 = .ok (.aload 6, 2) := by decide +kernel
theorem dL_version_130 : decode cL_version 130 = .ok (.invokestatic 44, 3) := by decide +kernel
theorem dL_version_133 : decode cL_version 133 = .ok (.iconst 1, 1) := by decide +kernel
theorem dL_version_134 : decode cL_version 134 = .ok (.if_icmp .le 7, 3) := by decide +kernel
theorem dL_version_137 : decode cL_version 137 = .ok (.iconst 2, 1) := by decide +kernel
theorem dL_version_138 : decode cL_version 138 = .ok (.goto 5, 3) := by decide +kernel
theorem dL_version_141 : decode cL_version 141 = .ok (.iload 7, 2) := by decide +kernel
theorem dL_version_143 : decode cL_version 143 = .ok (.istore 7, 2) := by decide +kernel
theorem dL_version_145 : decode cL_version 145 = .ok (.iload 11, 2) := by decide +kernel
theorem dL_version_147 : decode cL_version 147 = .ok (.iload 9, 2) := by decide +kernel
theorem dL_version_149 : decode cL_version 149 = .ok (.if_icmp .le 8, 3) := by decide +kernel
theorem dL_version_152 : decode cL_version 152 = .ok (.iload 10, 2) := by decide +kernel
theorem dL_version_154 : decode cL_version 154 = .ok (.goto 5, 3) := by decide +kernel
theorem dL_version_157 : decode cL_version 157 = .ok (.iload 8, 2) := by decide +kernel
theorem dL_version_159 : decode cL_version 159 = .ok (.istore 8, 2) := by decide +kernel
theorem dL_version_161 : decode cL_version 161 = .ok (.iload 11, 2) := by decide +kernel
theorem dL_version_163 : decode cL_version 163 = .ok (.iload 9, 2) := by decide +kernel
theorem dL_version_165 : decode cL_version 165 = .ok (.if_icmp .le 8, 3) := by decide +kernel
theorem dL_version_168 : decode cL_version 168 = .ok (.iload 11, 2) := by decide +kernel
theorem dL_version_170 : decode cL_version 170 = .ok (.goto 5, 3) := by decide +kernel
theorem dL_version_173 : decode cL_version 173 = .ok (.iload 9, 2) := by decide +kernel
theorem dL_version_175 : decode cL_version 175 = .ok (.istore 9, 2) := by decide +kernel
theorem dL_version_177 : decode cL_version 177 = .ok (.iinc 10 1, 3) := by decide +kernel
theorem dL_version_180 : decode cL_version 180 = .ok (.goto (-154), 3) := by decide +kernel
theorem dL_version_183 : decode cL_version 183 = .ok (.aload_n 0, 1) := by decide +kernel
theorem dL_version_184 : decode cL_version 184 = .ok (.iload_n 1, 1) := by decide +kernel
theorem dL_version_185 : decode cL_version 185 = .ok (.invokevirtual 47, 3) := by decide +kernel
theorem dL_version_188 : decode cL_version 188 = .ok (.iload 7, 2) := by decide +kernel
theorem dL_version_190 : decode cL_version 190 = .ok (.if_icmp .ne 17, 3) := by decide +kernel
theorem dL_version_193 : decode cL_version 193 = .ok (.aload_n 0, 1) := by decide +kernel
theorem dL_version_194 : decode cL_version 194 = .ok (.iload_n 1, 1) := by decide +kernel
theorem dL_version_195 : decode cL_version 195 = .ok (.invokevirtual 51, 3) := by decide +kernel
theorem dL_version_198 : decode cL_version 198 = .ok (.iload 8, 2) := by decide +kernel
theorem dL_version_200 : decode cL_version 200 = .ok (.if_icmp .ne 7, 3) := by decide +kernel
theorem dL_version_203 : decode cL_version 203 = .ok (.iconst 1, 1) := by decide +kernel
theorem dL_version_204 : decode cL_version 204 = .ok (.goto 4, 3) := by decide +kernel
theorem dL_version_207 : decode cL_version 207 = .ok (.iconst 0, 1) := by decide +kernel
theorem dL_version_208 : decode cL_version 208 = .ok (.ireturn, 1) := by decide +kernel
theorem dL_holds_0 : decode cL_holds 0 = .ok (.aload 4, 2) := by decide +kernel
theorem dL_holds_2 : decode cL_holds 2 = .ok (.iload_n 0, 1) := by decide +kernel
theorem dL_holds_3 : decode cL_holds 3 = .ok (.iaload, 1) := by decide +kernel
theorem dL_holds_4 : decode cL_holds 4 = .ok (.ifCond .ge 6, 3) := by decide +kernel
theorem dL_holds_7 : decode cL_holds 7 = .ok (.bipush (-3), 2) := by decide +kernel
theorem dL_holds_9 : decode cL_holds 9 = .ok (.ireturn, 1) := by decide +kernel
theorem dL_holds_10 : decode cL_holds 10 = .ok (.iconst 0, 1) := by decide +kernel
theorem dL_holds_11 : decode cL_holds 11 = .ok (.istore 6, 2) := by decide +kernel
theorem dL_holds_13 : decode cL_holds 13 = .ok (.iconst 0, 1) := by decide +kernel
theorem dL_holds_14 : decode cL_holds 14 = .ok (.istore 7, 2) := by decide +kernel
theorem dL_holds_16 : decode cL_holds 16 = .ok (.iload 7, 2) := by decide +kernel
theorem dL_holds_18 : decode cL_holds 18 = .ok (.aload 4, 2) := by decide +kernel
theorem dL_holds_20 : decode cL_holds 20 = .ok (.iload_n 0, 1) := by decide +kernel
theorem dL_holds_21 : decode cL_holds 21 = .ok (.iaload, 1) := by decide +kernel
theorem dL_holds_22 : decode cL_holds 22 = .ok (.if_icmp .ge 44, 3) := by decide +kernel
theorem dL_holds_25 : decode cL_holds 25 = .ok (.aload 5, 2) := by decide +kernel
theorem dL_holds_27 : decode cL_holds 27 = .ok (.bipush 12, 2) := by decide +kernel
theorem dL_holds_29 : decode cL_holds 29 = .ok (.iload_n 0, 1) := by decide +kernel
theorem dL_holds_30 : decode cL_holds 30 = .ok (.iadd, 1) := by decide +kernel
theorem dL_holds_31 : decode cL_holds 31 = .ok (.iaload, 1) := by decide +kernel
theorem dL_holds_32 : decode cL_holds 32 = .ok (.iload 7, 2) := by decide +kernel
theorem dL_holds_34 : decode cL_holds 34 = .ok (.aload_n 1, 1) := by decide +kernel
theorem dL_holds_35 : decode cL_holds 35 = .ok (.aload_n 2, 1) := by decide +kernel
theorem dL_holds_36 : decode cL_holds 36 = .ok (.aload_n 3, 1) := by decide +kernel
theorem dL_holds_37 : decode cL_holds 37 = .ok (.aload 5, 2) := by decide +kernel
theorem dL_holds_39 : decode cL_holds 39 = .ok (.invokestatic 40, 3) := by decide +kernel
theorem dL_holds_42 : decode cL_holds 42 = .ok (.istore 8, 2) := by decide +kernel
theorem dL_holds_44 : decode cL_holds 44 = .ok (.iload 8, 2) := by decide +kernel
theorem dL_holds_46 : decode cL_holds 46 = .ok (.iload 6, 2) := by decide +kernel
theorem dL_holds_48 : decode cL_holds 48 = .ok (.if_icmp .le 8, 3) := by decide +kernel
theorem dL_holds_51 : decode cL_holds 51 = .ok (.iload 8, 2) := by decide +kernel
theorem dL_holds_53 : decode cL_holds 53 = .ok (.goto 5, 3) := by decide +kernel
theorem dL_holds_56 : decode cL_holds 56 = .ok (.iload 6, 2) := by decide +kernel
theorem dL_holds_58 : decode cL_holds 58 = .ok (.istore 6, 2) := by decide +kernel
theorem dL_holds_60 : decode cL_holds 60 = .ok (.iinc 7 1, 3) := by decide +kernel
theorem dL_holds_63 : decode cL_holds 63 = .ok (.goto (-47), 3) := by decide +kernel
theorem dL_holds_66 : decode cL_holds 66 = .ok (.aload 4, 2) := by decide +kernel
theorem dL_holds_68 : decode cL_holds 68 = .ok (.iload_n 0, 1) := by decide +kernel
theorem dL_holds_69 : decode cL_holds 69 = .ok (.iaload, 1) := by decide +kernel
theorem dL_holds_70 : decode cL_holds 70 = .ok (.istore 7, 2) := by decide +kernel
theorem dL_holds_72 : decode cL_holds 72 = .ok (.iload 7, 2) := by decide +kernel
theorem dL_holds_74 : decode cL_holds 74 = .ok (.iconst 4, 1) := by decide +kernel
theorem dL_holds_75 : decode cL_holds 75 = .ok (.if_icmp .ge 44, 3) := by decide +kernel
theorem dL_holds_78 : decode cL_holds 78 = .ok (.aload_n 2, 1) := by decide +kernel
theorem dL_holds_79 : decode cL_holds 79 = .ok (.iconst 4, 1) := by decide +kernel
theorem dL_holds_80 : decode cL_holds 80 = .ok (.iload 7, 2) := by decide +kernel
theorem dL_holds_82 : decode cL_holds 82 = .ok (.iadd, 1) := by decide +kernel
theorem dL_holds_83 : decode cL_holds 83 = .ok (.iaload, 1) := by decide +kernel
theorem dL_holds_84 : decode cL_holds 84 = .ok (.ifCond .le 29, 3) := by decide +kernel
theorem dL_holds_87 : decode cL_holds 87 = .ok (.aload 5, 2) := by decide +kernel
theorem dL_holds_89 : decode cL_holds 89 = .ok (.bipush 12, 2) := by decide +kernel
theorem dL_holds_91 : decode cL_holds 91 = .ok (.iload_n 0, 1) := by decide +kernel
theorem dL_holds_92 : decode cL_holds 92 = .ok (.iadd, 1) := by decide +kernel
theorem dL_holds_93 : decode cL_holds 93 = .ok (.iaload, 1) := by decide +kernel
theorem dL_holds_94 : decode cL_holds 94 = .ok (.iload 7, 2) := by decide +kernel
theorem dL_holds_96 : decode cL_holds 96 = .ok (.aload_n 1, 1) := by decide +kernel
theorem dL_holds_97 : decode cL_holds 97 = .ok (.aload_n 2, 1) := by decide +kernel
theorem dL_holds_98 : decode cL_holds 98 = .ok (.aload_n 3, 1) := by decide +kernel
theorem dL_holds_99 : decode cL_holds 99 = .ok (.aload 5, 2) := by decide +kernel
theorem dL_holds_101 : decode cL_holds 101 = .ok (.invokestatic 40, 3) := by decide +kernel
theorem dL_holds_104 : decode cL_holds 104 = .ok (.iconst 2, 1) := by decide +kernel
theorem dL_holds_105 : decode cL_holds 105 = .ok (.imul, 1) := by decide +kernel
theorem dL_holds_106 : decode cL_holds 106 = .ok (.iload 6, 2) := by decide +kernel
theorem dL_holds_108 : decode cL_holds 108 = .ok (.if_icmp .le 5, 3) := by decide +kernel
theorem dL_holds_111 : decode cL_holds 111 = .ok (.iconst 0, 1) := by decide +kernel
theorem dL_holds_112 : decode cL_holds 112 = .ok (.ireturn, 1) := by decide +kernel
theorem dL_holds_113 : decode cL_holds 113 = .ok (.iinc 7 1, 3) := by decide +kernel
theorem dL_holds_116 : decode cL_holds 116 = .ok (.goto (-44), 3) := by decide +kernel
theorem dL_holds_119 : decode cL_holds 119 = .ok (.iconst 1, 1) := by decide +kernel
theorem dL_holds_120 : decode cL_holds 120 = .ok (.ireturn, 1) := by decide +kernel
theorem dL_isSo_0 : decode cL_isSo 0 = .ok (.aload_n 1, 1) := by decide +kernel
theorem dL_isSo_1 : decode cL_isSo 1 = .ok (.aload_n 2, 1) := by decide +kernel
theorem dL_isSo_2 : decode cL_isSo 2 = .ok (.aload_n 3, 1) := by decide +kernel
theorem dL_isSo_3 : decode cL_isSo 3 = .ok (.aload 4, 2) := by decide +kernel
theorem dL_isSo_5 : decode cL_isSo 5 = .ok (.aload 5, 2) := by decide +kernel
theorem dL_isSo_7 : decode cL_isSo 7 = .ok (.aload 6, 2) := by decide +kernel
theorem dL_isSo_9 : decode cL_isSo 9 = .ok (.aload 8, 2) := by decide +kernel
theorem dL_isSo_11 : decode cL_isSo 11 = .ok (.aload 10, 2) := by decide +kernel
theorem dL_isSo_13 : decode cL_isSo 13 = .ok (.invokestatic 54, 3) := by decide +kernel
theorem dL_isSo_16 : decode cL_isSo 16 = .ok (.iconst 0, 1) := by decide +kernel
theorem dL_isSo_17 : decode cL_isSo 17 = .ok (.istore 11, 2) := by decide +kernel
theorem dL_isSo_19 : decode cL_isSo 19 = .ok (.aload_n 0, 1) := by decide +kernel
theorem dL_isSo_20 : decode cL_isSo 20 = .ok (.invokevirtual 58, 3) := by decide +kernel
theorem dL_isSo_23 : decode cL_isSo 23 = .ok (.aload_n 1, 1) := by decide +kernel
theorem dL_isSo_24 : decode cL_isSo 24 = .ok (.iconst 0, 1) := by decide +kernel
theorem dL_isSo_25 : decode cL_isSo 25 = .ok (.iaload, 1) := by decide +kernel
theorem dL_isSo_26 : decode cL_isSo 26 = .ok (.if_icmp .ne 7, 3) := by decide +kernel
theorem dL_isSo_29 : decode cL_isSo 29 = .ok (.iconst 1, 1) := by decide +kernel
theorem dL_isSo_30 : decode cL_isSo 30 = .ok (.goto 4, 3) := by decide +kernel
theorem dL_isSo_33 : decode cL_isSo 33 = .ok (.iconst 0, 1) := by decide +kernel
theorem dL_isSo_34 : decode cL_isSo 34 = .ok (.istore 12, 2) := by decide +kernel
theorem dL_isSo_36 : decode cL_isSo 36 = .ok (.iconst 0, 1) := by decide +kernel
theorem dL_isSo_37 : decode cL_isSo 37 = .ok (.istore 13, 2) := by decide +kernel
theorem dL_isSo_39 : decode cL_isSo 39 = .ok (.iload 13, 2) := by decide +kernel
theorem dL_isSo_41 : decode cL_isSo 41 = .ok (.aload_n 1, 1) := by decide +kernel
theorem dL_isSo_42 : decode cL_isSo 42 = .ok (.iconst 0, 1) := by decide +kernel
theorem dL_isSo_43 : decode cL_isSo 43 = .ok (.iaload, 1) := by decide +kernel
theorem dL_isSo_44 : decode cL_isSo 44 = .ok (.if_icmp .ge 345, 3) := by decide +kernel
theorem dL_isSo_47 : decode cL_isSo 47 = .ok (.iload 12, 2) := by decide +kernel
theorem dL_isSo_49 : decode cL_isSo 49 = .ok (.ifCond .eq 340, 3) := by decide +kernel
theorem dL_isSo_52 : decode cL_isSo 52 = .ok (.iconst 0, 1) := by decide +kernel
theorem dL_isSo_53 : decode cL_isSo 53 = .ok (.istore 14, 2) := by decide +kernel
theorem dL_isSo_55 : decode cL_isSo 55 = .ok (.aload 10, 2) := by decide +kernel
theorem dL_isSo_57 : decode cL_isSo 57 = .ok (.iload 13, 2) := by decide +kernel
theorem dL_isSo_59 : decode cL_isSo 59 = .ok (.iaload, 1) := by decide +kernel
theorem dL_isSo_60 : decode cL_isSo 60 = .ok (.istore 15, 2) := by decide +kernel
theorem dL_isSo_62 : decode cL_isSo 62 = .ok (.iconst 0, 1) := by decide +kernel
theorem dL_isSo_63 : decode cL_isSo 63 = .ok (.istore 16, 2) := by decide +kernel
theorem dL_isSo_65 : decode cL_isSo 65 = .ok (.iload 16, 2) := by decide +kernel
theorem dL_isSo_67 : decode cL_isSo 67 = .ok (.aload_n 1, 1) := by decide +kernel
theorem dL_isSo_68 : decode cL_isSo 68 = .ok (.iconst 0, 1) := by decide +kernel
theorem dL_isSo_69 : decode cL_isSo 69 = .ok (.iaload, 1) := by decide +kernel
theorem dL_isSo_70 : decode cL_isSo 70 = .ok (.if_icmp .ge 38, 3) := by decide +kernel
theorem dL_isSo_73 : decode cL_isSo 73 = .ok (.iload 14, 2) := by decide +kernel
theorem dL_isSo_75 : decode cL_isSo 75 = .ok (.aload 10, 2) := by decide +kernel
theorem dL_isSo_77 : decode cL_isSo 77 = .ok (.bipush 12, 2) := by decide +kernel
theorem dL_isSo_79 : decode cL_isSo 79 = .ok (.iload 16, 2) := by decide +kernel
theorem dL_isSo_81 : decode cL_isSo 81 = .ok (.iadd, 1) := by decide +kernel
theorem dL_isSo_82 : decode cL_isSo 82 = .ok (.iaload, 1) := by decide +kernel
theorem dL_isSo_83 : decode cL_isSo 83 = .ok (.aload 10, 2) := by decide +kernel
theorem dL_isSo_85 : decode cL_isSo 85 = .ok (.bipush 12, 2) := by decide +kernel
theorem dL_isSo_87 : decode cL_isSo 87 = .ok (.iload 13, 2) := by decide +kernel
theorem dL_isSo_89 : decode cL_isSo 89 = .ok (.iadd, 1) := by decide +kernel
theorem dL_isSo_90 : decode cL_isSo 90 = .ok (.iaload, 1) := by decide +kernel
theorem dL_isSo_91 : decode cL_isSo 91 = .ok (.if_icmp .ne 7, 3) := by decide +kernel
theorem dL_isSo_94 : decode cL_isSo 94 = .ok (.iconst 1, 1) := by decide +kernel
theorem dL_isSo_95 : decode cL_isSo 95 = .ok (.goto 4, 3) := by decide +kernel
theorem dL_isSo_98 : decode cL_isSo 98 = .ok (.iconst 0, 1) := by decide +kernel
theorem dL_isSo_99 : decode cL_isSo 99 = .ok (.iadd, 1) := by decide +kernel
theorem dL_isSo_100 : decode cL_isSo 100 = .ok (.istore 14, 2) := by decide +kernel
theorem dL_isSo_102 : decode cL_isSo 102 = .ok (.iinc 16 1, 3) := by decide +kernel
theorem dL_isSo_105 : decode cL_isSo 105 = .ok (.goto (-40), 3) := by decide +kernel
theorem dL_isSo_108 : decode cL_isSo 108 = .ok (.iconst 0, 1) := by decide +kernel
theorem dL_isSo_109 : decode cL_isSo 109 = .ok (.istore 16, 2) := by decide +kernel
theorem dL_isSo_111 : decode cL_isSo 111 = .ok (.iload 16, 2) := by decide +kernel
theorem dL_isSo_113 : decode cL_isSo 113 = .ok (.iconst 4, 1) := by decide +kernel
theorem dL_isSo_114 : decode cL_isSo 114 = .ok (.if_icmp .ge 92, 3) := by decide +kernel
theorem dL_isSo_117 : decode cL_isSo 117 = .ok (.iload 12, 2) := by decide +kernel
theorem dL_isSo_119 : decode cL_isSo 119 = .ok (.ifCond .eq 87, 3) := by decide +kernel
theorem dL_isSo_122 : decode cL_isSo 122 = .ok (.aload_n 0, 1) := by decide +kernel
theorem dL_isSo_123 : decode cL_isSo 123 = .ok (.iload 13, 2) := by decide +kernel
theorem dL_isSo_125 : decode cL_isSo 125 = .ok (.iload 16, 2) := by decide +kernel
theorem dL_isSo_127 : decode cL_isSo 127 = .ok (.invokevirtual 62, 3) := by decide +kernel
theorem dL_isSo_130 : decode cL_isSo 130 = .ok (.iload 13, 2) := by decide +kernel
theorem dL_isSo_132 : decode cL_isSo 132 = .ok (.iload 16, 2) := by decide +kernel
theorem dL_isSo_134 : decode cL_isSo 134 = .ok (.aload_n 2, 1) := by decide +kernel
theorem dL_isSo_135 : decode cL_isSo 135 = .ok (.aload_n 3, 1) := by decide +kernel
theorem dL_isSo_136 : decode cL_isSo 136 = .ok (.aload 4, 2) := by decide +kernel
theorem dL_isSo_138 : decode cL_isSo 138 = .ok (.aload 5, 2) := by decide +kernel
theorem dL_isSo_140 : decode cL_isSo 140 = .ok (.aload 6, 2) := by decide +kernel
theorem dL_isSo_142 : decode cL_isSo 142 = .ok (.aload 8, 2) := by decide +kernel
theorem dL_isSo_144 : decode cL_isSo 144 = .ok (.invokestatic 26, 3) := by decide +kernel
theorem dL_isSo_147 : decode cL_isSo 147 = .ok (.if_icmp .ne 34, 3) := by decide +kernel
theorem dL_isSo_150 : decode cL_isSo 150 = .ok (.aload_n 0, 1) := by decide +kernel
theorem dL_isSo_151 : decode cL_isSo 151 = .ok (.iload 13, 2) := by decide +kernel
theorem dL_isSo_153 : decode cL_isSo 153 = .ok (.iload 16, 2) := by decide +kernel
theorem dL_isSo_155 : decode cL_isSo 155 = .ok (.invokevirtual 64, 3) := by decide +kernel
theorem dL_isSo_158 : decode cL_isSo 158 = .ok (.iload 15, 2) := by decide +kernel
theorem dL_isSo_160 : decode cL_isSo 160 = .ok (.ifCond .le 13, 3) := by decide +kernel
theorem dL_isSo_163 : decode cL_isSo 163 = .ok (.iload 15, 2) := by decide +kernel
theorem dL_isSo_165 : decode cL_isSo 165 = .ok (.bipush 7, 2) := by decide +kernel
theorem dL_isSo_167 : decode cL_isSo 167 = .ok (.irem, 1) := by decide +kernel
theorem dL_isSo_168 : decode cL_isSo 168 = .ok (.iconst 1, 1) := by decide +kernel
theorem dL_isSo_169 : decode cL_isSo 169 = .ok (.isub, 1) := by decide +kernel
theorem dL_isSo_170 : decode cL_isSo 170 = .ok (.goto 4, 3) := by decide +kernel
theorem dL_isSo_173 : decode cL_isSo 173 = .ok (.iconst (-1), 1) := by decide +kernel
theorem dL_isSo_174 : decode cL_isSo 174 = .ok (.if_icmp .ne 7, 3) := by decide +kernel
theorem dL_isSo_177 : decode cL_isSo 177 = .ok (.iconst 1, 1) := by decide +kernel
theorem dL_isSo_178 : decode cL_isSo 178 = .ok (.goto 4, 3) := by decide +kernel
theorem dL_isSo_181 : decode cL_isSo 181 = .ok (.iconst 0, 1) := by decide +kernel
theorem dL_isSo_182 : decode cL_isSo 182 = .ok (.istore 12, 2) := by decide +kernel
theorem dL_isSo_184 : decode cL_isSo 184 = .ok (.iload 15, 2) := by decide +kernel
theorem dL_isSo_186 : decode cL_isSo 186 = .ok (.ifCond .le 11, 3) := by decide +kernel
theorem dL_isSo_189 : decode cL_isSo 189 = .ok (.iload 15, 2) := by decide +kernel
theorem dL_isSo_191 : decode cL_isSo 191 = .ok (.bipush 7, 2) := by decide +kernel
theorem dL_isSo_193 : decode cL_isSo 193 = .ok (.idiv, 1) := by decide +kernel
theorem dL_isSo_194 : decode cL_isSo 194 = .ok (.goto 4, 3) := by decide +kernel
theorem dL_isSo_197 : decode cL_isSo 197 = .ok (.iconst 0, 1) := by decide +kernel
theorem dL_isSo_198 : decode cL_isSo 198 = .ok (.istore 15, 2) := by decide +kernel
theorem dL_isSo_200 : decode cL_isSo 200 = .ok (.iinc 16 1, 3) := by decide +kernel
theorem dL_isSo_203 : decode cL_isSo 203 = .ok (.goto (-92), 3) := by decide +kernel
theorem dL_isSo_206 : decode cL_isSo 206 = .ok (.iload 11, 2) := by decide +kernel
theorem dL_isSo_208 : decode cL_isSo 208 = .ok (.aload 10, 2) := by decide +kernel
theorem dL_isSo_210 : decode cL_isSo 210 = .ok (.bipush 12, 2) := by decide +kernel
theorem dL_isSo_212 : decode cL_isSo 212 = .ok (.iload 13, 2) := by decide +kernel
theorem dL_isSo_214 : decode cL_isSo 214 = .ok (.iadd, 1) := by decide +kernel
theorem dL_isSo_215 : decode cL_isSo 215 = .ok (.iaload, 1) := by decide +kernel
theorem dL_isSo_216 : decode cL_isSo 216 = .ok (.iload 13, 2) := by decide +kernel
theorem dL_isSo_218 : decode cL_isSo 218 = .ok (.if_icmp .ne 7, 3) := by decide +kernel
theorem dL_isSo_221 : decode cL_isSo 221 = .ok (.iconst 1, 1) := by decide +kernel
theorem dL_isSo_222 : decode cL_isSo 222 = .ok (.goto 4, 3) := by decide +kernel
theorem dL_isSo_225 : decode cL_isSo 225 = .ok (.iconst 0, 1) := by decide +kernel
theorem dL_isSo_226 : decode cL_isSo 226 = .ok (.iadd, 1) := by decide +kernel
theorem dL_isSo_227 : decode cL_isSo 227 = .ok (.istore 11, 2) := by decide +kernel
theorem dL_isSo_229 : decode cL_isSo 229 = .ok (.iload 12, 2) := by decide +kernel
theorem dL_isSo_231 : decode cL_isSo 231 = .ok (.ifCond .eq 61, 3) := by decide +kernel
theorem dL_isSo_234 : decode cL_isSo 234 = .ok (.aload_n 0, 1) := by decide +kernel
theorem dL_isSo_235 : decode cL_isSo 235 = .ok (.iload 13, 2) := by decide +kernel
theorem dL_isSo_237 : decode cL_isSo 237 = .ok (.invokevirtual 67, 3) := by decide +kernel
theorem dL_isSo_240 : decode cL_isSo 240 = .ok (.aload 10, 2) := by decide +kernel
theorem dL_isSo_242 : decode cL_isSo 242 = .ok (.bipush 12, 2) := by decide +kernel
theorem dL_isSo_244 : decode cL_isSo 244 = .ok (.iload 13, 2) := by decide +kernel
theorem dL_isSo_246 : decode cL_isSo 246 = .ok (.iadd, 1) := by decide +kernel
theorem dL_isSo_247 : decode cL_isSo 247 = .ok (.iaload, 1) := by decide +kernel
theorem dL_isSo_248 : decode cL_isSo 248 = .ok (.if_icmp .ne 44, 3) := by decide +kernel
theorem dL_isSo_251 : decode cL_isSo 251 = .ok (.aload_n 0, 1) := by decide +kernel
theorem dL_isSo_252 : decode cL_isSo 252 = .ok (.iload 13, 2) := by decide +kernel
theorem dL_isSo_254 : decode cL_isSo 254 = .ok (.invokevirtual 70, 3) := by decide +kernel
theorem dL_isSo_257 : decode cL_isSo 257 = .ok (.iload 14, 2) := by decide +kernel
theorem dL_isSo_259 : decode cL_isSo 259 = .ok (.if_icmp .ne 33, 3) := by decide +kernel
theorem dL_isSo_262 : decode cL_isSo 262 = .ok (.aload_n 0, 1) := by decide +kernel
theorem dL_isSo_263 : decode cL_isSo 263 = .ok (.iconst 2, 1) := by decide +kernel
theorem dL_isSo_264 : decode cL_isSo 264 = .ok (.iload 13, 2) := by decide +kernel
theorem dL_isSo_266 : decode cL_isSo 266 = .ok (.iconst 0, 1) := by decide +kernel
theorem dL_isSo_267 : decode cL_isSo 267 = .ok (.iconst 0, 1) := by decide +kernel
theorem dL_isSo_268 : decode cL_isSo 268 = .ok (.iconst 0, 1) := by decide +kernel
theorem dL_isSo_269 : decode cL_isSo 269 = .ok (.invokestatic 73, 3) := by decide +kernel
theorem dL_isSo_272 : decode cL_isSo 272 = .ok (.iload 13, 2) := by decide +kernel
theorem dL_isSo_274 : decode cL_isSo 274 = .ok (.aload_n 1, 1) := by decide +kernel
theorem dL_isSo_275 : decode cL_isSo 275 = .ok (.aload_n 2, 1) := by decide +kernel
theorem dL_isSo_276 : decode cL_isSo 276 = .ok (.aload 6, 2) := by decide +kernel
theorem dL_isSo_278 : decode cL_isSo 278 = .ok (.aload 9, 2) := by decide +kernel
theorem dL_isSo_280 : decode cL_isSo 280 = .ok (.aload 10, 2) := by decide +kernel
theorem dL_isSo_282 : decode cL_isSo 282 = .ok (.invokestatic 77, 3) := by decide +kernel
theorem dL_isSo_285 : decode cL_isSo 285 = .ok (.if_icmp .ne 7, 3) := by decide +kernel
theorem dL_isSo_288 : decode cL_isSo 288 = .ok (.iconst 1, 1) := by decide +kernel
theorem dL_isSo_289 : decode cL_isSo 289 = .ok (.goto 4, 3) := by decide +kernel
theorem dL_isSo_292 : decode cL_isSo 292 = .ok (.iconst 0, 1) := by decide +kernel
theorem dL_isSo_293 : decode cL_isSo 293 = .ok (.istore 12, 2) := by decide +kernel
theorem dL_isSo_295 : decode cL_isSo 295 = .ok (.iconst 0, 1) := by decide +kernel
theorem dL_isSo_296 : decode cL_isSo 296 = .ok (.istore 16, 2) := by decide +kernel
theorem dL_isSo_298 : decode cL_isSo 298 = .ok (.iload 16, 2) := by decide +kernel
theorem dL_isSo_300 : decode cL_isSo 300 = .ok (.iconst 4, 1) := by decide +kernel
theorem dL_isSo_301 : decode cL_isSo 301 = .ok (.if_icmp .ge 82, 3) := by decide +kernel
theorem dL_isSo_304 : decode cL_isSo 304 = .ok (.iload 12, 2) := by decide +kernel
theorem dL_isSo_306 : decode cL_isSo 306 = .ok (.ifCond .eq 77, 3) := by decide +kernel
theorem dL_isSo_309 : decode cL_isSo 309 = .ok (.aload_n 0, 1) := by decide +kernel
theorem dL_isSo_310 : decode cL_isSo 310 = .ok (.iload 13, 2) := by decide +kernel
theorem dL_isSo_312 : decode cL_isSo 312 = .ok (.iload 16, 2) := by decide +kernel
theorem dL_isSo_314 : decode cL_isSo 314 = .ok (.invokevirtual 80, 3) := by decide +kernel
theorem dL_isSo_317 : decode cL_isSo 317 = .ok (.aload 10, 2) := by decide +kernel
