theorem dL_isSo_319 : decode cL_isSo 319 = .ok (.bipush 12, 2) := by decide +kernel
theorem dL_isSo_321 : decode cL_isSo 321 = .ok (.iload 13, 2) := by decide +kernel
theorem dL_isSo_323 : decode cL_isSo 323 = .ok (.iadd, 1) := by decide +kernel
theorem dL_isSo_324 : decode cL_isSo 324 = .ok (.iaload, 1) := by decide +kernel
theorem dL_isSo_325 : decode cL_isSo 325 = .ok (.iload 16, 2) := by decide +kernel
theorem dL_isSo_327 : decode cL_isSo 327 = .ok (.aload_n 1, 1) := by decide +kernel
theorem dL_isSo_328 : decode cL_isSo 328 = .ok (.aload_n 2, 1) := by decide +kernel
theorem dL_isSo_329 : decode cL_isSo 329 = .ok (.aload 6, 2) := by decide +kernel
theorem dL_isSo_331 : decode cL_isSo 331 = .ok (.aload 10, 2) := by decide +kernel
theorem dL_isSo_333 : decode cL_isSo 333 = .ok (.invokestatic 40, 3) := by decide +kernel
theorem dL_isSo_336 : decode cL_isSo 336 = .ok (.if_icmp .ne 38, 3) := by decide +kernel
theorem dL_isSo_339 : decode cL_isSo 339 = .ok (.aload_n 0, 1) := by decide +kernel
theorem dL_isSo_340 : decode cL_isSo 340 = .ok (.iload 13, 2) := by decide +kernel
theorem dL_isSo_342 : decode cL_isSo 342 = .ok (.iload 16, 2) := by decide +kernel
theorem dL_isSo_344 : decode cL_isSo 344 = .ok (.invokevirtual 82, 3) := by decide +kernel
theorem dL_isSo_347 : decode cL_isSo 347 = .ok (.aload 10, 2) := by decide +kernel
theorem dL_isSo_349 : decode cL_isSo 349 = .ok (.bipush 12, 2) := by decide +kernel
theorem dL_isSo_351 : decode cL_isSo 351 = .ok (.iload 13, 2) := by decide +kernel
theorem dL_isSo_353 : decode cL_isSo 353 = .ok (.iadd, 1) := by decide +kernel
theorem dL_isSo_354 : decode cL_isSo 354 = .ok (.iaload, 1) := by decide +kernel
theorem dL_isSo_355 : decode cL_isSo 355 = .ok (.iload 16, 2) := by decide +kernel
theorem dL_isSo_357 : decode cL_isSo 357 = .ok (.aload_n 1, 1) := by decide +kernel
theorem dL_isSo_358 : decode cL_isSo 358 = .ok (.aload 6, 2) := by decide +kernel
theorem dL_isSo_360 : decode cL_isSo 360 = .ok (.aload 7, 2) := by decide +kernel
theorem dL_isSo_362 : decode cL_isSo 362 = .ok (.aload 10, 2) := by decide +kernel
theorem dL_isSo_364 : decode cL_isSo 364 = .ok (.invokestatic 44, 3) := by decide +kernel
theorem dL_isSo_367 : decode cL_isSo 367 = .ok (.if_icmp .ne 7, 3) := by decide +kernel
theorem dL_isSo_370 : decode cL_isSo 370 = .ok (.iconst 1, 1) := by decide +kernel
theorem dL_isSo_371 : decode cL_isSo 371 = .ok (.goto 4, 3) := by decide +kernel
theorem dL_isSo_374 : decode cL_isSo 374 = .ok (.iconst 0, 1) := by decide +kernel
theorem dL_isSo_375 : decode cL_isSo 375 = .ok (.istore 12, 2) := by decide +kernel
theorem dL_isSo_377 : decode cL_isSo 377 = .ok (.iinc 16 1, 3) := by decide +kernel
theorem dL_isSo_380 : decode cL_isSo 380 = .ok (.goto (-82), 3) := by decide +kernel
theorem dL_isSo_383 : decode cL_isSo 383 = .ok (.iinc 13 1, 3) := by decide +kernel
theorem dL_isSo_386 : decode cL_isSo 386 = .ok (.goto (-347), 3) := by decide +kernel
theorem dL_isSo_389 : decode cL_isSo 389 = .ok (.iconst 0, 1) := by decide +kernel
theorem dL_isSo_390 : decode cL_isSo 390 = .ok (.istore 13, 2) := by decide +kernel
theorem dL_isSo_392 : decode cL_isSo 392 = .ok (.iload 13, 2) := by decide +kernel
theorem dL_isSo_394 : decode cL_isSo 394 = .ok (.iconst 4, 1) := by decide +kernel
theorem dL_isSo_395 : decode cL_isSo 395 = .ok (.if_icmp .ge 30, 3) := by decide +kernel
theorem dL_isSo_398 : decode cL_isSo 398 = .ok (.iload 12, 2) := by decide +kernel
theorem dL_isSo_400 : decode cL_isSo 400 = .ok (.ifCond .eq 25, 3) := by decide +kernel
theorem dL_isSo_403 : decode cL_isSo 403 = .ok (.aload_n 0, 1) := by decide +kernel
theorem dL_isSo_404 : decode cL_isSo 404 = .ok (.iload 13, 2) := by decide +kernel
theorem dL_isSo_406 : decode cL_isSo 406 = .ok (.aload_n 1, 1) := by decide +kernel
theorem dL_isSo_407 : decode cL_isSo 407 = .ok (.aload_n 2, 1) := by decide +kernel
theorem dL_isSo_408 : decode cL_isSo 408 = .ok (.aload 6, 2) := by decide +kernel
theorem dL_isSo_410 : decode cL_isSo 410 = .ok (.aload 7, 2) := by decide +kernel
theorem dL_isSo_412 : decode cL_isSo 412 = .ok (.aload 10, 2) := by decide +kernel
theorem dL_isSo_414 : decode cL_isSo 414 = .ok (.invokestatic 84, 3) := by decide +kernel
theorem dL_isSo_417 : decode cL_isSo 417 = .ok (.istore 12, 2) := by decide +kernel
theorem dL_isSo_419 : decode cL_isSo 419 = .ok (.iinc 13 1, 3) := by decide +kernel
theorem dL_isSo_422 : decode cL_isSo 422 = .ok (.goto (-30), 3) := by decide +kernel
theorem dL_isSo_425 : decode cL_isSo 425 = .ok (.iload 12, 2) := by decide +kernel
theorem dL_isSo_427 : decode cL_isSo 427 = .ok (.ifCond .eq 16, 3) := by decide +kernel
theorem dL_isSo_430 : decode cL_isSo 430 = .ok (.aload_n 0, 1) := by decide +kernel
theorem dL_isSo_431 : decode cL_isSo 431 = .ok (.invokevirtual 88, 3) := by decide +kernel
theorem dL_isSo_434 : decode cL_isSo 434 = .ok (.iload 11, 2) := by decide +kernel
theorem dL_isSo_436 : decode cL_isSo 436 = .ok (.if_icmp .ne 7, 3) := by decide +kernel
theorem dL_isSo_439 : decode cL_isSo 439 = .ok (.iconst 1, 1) := by decide +kernel
theorem dL_isSo_440 : decode cL_isSo 440 = .ok (.goto 4, 3) := by decide +kernel
theorem dL_isSo_443 : decode cL_isSo 443 = .ok (.iconst 0, 1) := by decide +kernel
theorem dL_isSo_444 : decode cL_isSo 444 = .ok (.ireturn, 1) := by decide +kernel
theorem dL_ranges_0 : decode cL_ranges 0 = .ok (.iload_n 1, 1) := by decide +kernel
theorem dL_ranges_1 : decode cL_ranges 1 = .ok (.iconst 4, 1) := by decide +kernel
theorem dL_ranges_2 : decode cL_ranges 2 = .ok (.invokestatic 91, 3) := by decide +kernel
theorem dL_ranges_5 : decode cL_ranges 5 = .ok (.istore 6, 2) := by decide +kernel
theorem dL_ranges_7 : decode cL_ranges 7 = .ok (.iload_n 1, 1) := by decide +kernel
theorem dL_ranges_8 : decode cL_ranges 8 = .ok (.iconst 2, 1) := by decide +kernel
theorem dL_ranges_9 : decode cL_ranges 9 = .ok (.ishr, 1) := by decide +kernel
theorem dL_ranges_10 : decode cL_ranges 10 = .ok (.bipush 12, 2) := by decide +kernel
theorem dL_ranges_12 : decode cL_ranges 12 = .ok (.invokestatic 91, 3) := by decide +kernel
theorem dL_ranges_15 : decode cL_ranges 15 = .ok (.bipush 10, 2) := by decide +kernel
theorem dL_ranges_17 : decode cL_ranges 17 = .ok (.imul, 1) := by decide +kernel
theorem dL_ranges_18 : decode cL_ranges 18 = .ok (.istore 7, 2) := by decide +kernel
theorem dL_ranges_20 : decode cL_ranges 20 = .ok (.iload 7, 2) := by decide +kernel
theorem dL_ranges_22 : decode cL_ranges 22 = .ok (.iload_n 1, 1) := by decide +kernel
theorem dL_ranges_23 : decode cL_ranges 23 = .ok (.bipush 6, 2) := by decide +kernel
theorem dL_ranges_25 : decode cL_ranges 25 = .ok (.ishr, 1) := by decide +kernel
theorem dL_ranges_26 : decode cL_ranges 26 = .ok (.iload_n 1, 1) := by decide +kernel
theorem dL_ranges_27 : decode cL_ranges 27 = .ok (.bipush 13, 2) := by decide +kernel
theorem dL_ranges_29 : decode cL_ranges 29 = .ok (.ishr, 1) := by decide +kernel
theorem dL_ranges_30 : decode cL_ranges 30 = .ok (.iconst 3, 1) := by decide +kernel
theorem dL_ranges_31 : decode cL_ranges 31 = .ok (.invokestatic 91, 3) := by decide +kernel
theorem dL_ranges_34 : decode cL_ranges 34 = .ok (.ifCond .ne 8, 3) := by decide +kernel
theorem dL_ranges_37 : decode cL_ranges 37 = .ok (.bipush 40, 2) := by decide +kernel
theorem dL_ranges_39 : decode cL_ranges 39 = .ok (.goto 5, 3) := by decide +kernel
theorem dL_ranges_42 : decode cL_ranges 42 = .ok (.bipush 10, 2) := by decide +kernel
theorem dL_ranges_44 : decode cL_ranges 44 = .ok (.invokestatic 91, 3) := by decide +kernel
theorem dL_ranges_47 : decode cL_ranges 47 = .ok (.iadd, 1) := by decide +kernel
theorem dL_ranges_48 : decode cL_ranges 48 = .ok (.istore 8, 2) := by decide +kernel
theorem dL_ranges_50 : decode cL_ranges 50 = .ok (.iload_n 1, 1) := by decide +kernel
theorem dL_ranges_51 : decode cL_ranges 51 = .ok (.bipush 9, 2) := by decide +kernel
theorem dL_ranges_53 : decode cL_ranges 53 = .ok (.ishr, 1) := by decide +kernel
theorem dL_ranges_54 : decode cL_ranges 54 = .ok (.bipush 6, 2) := by decide +kernel
theorem dL_ranges_56 : decode cL_ranges 56 = .ok (.invokestatic 91, 3) := by decide +kernel
theorem dL_ranges_59 : decode cL_ranges 59 = .ok (.istore 9, 2) := by decide +kernel
theorem dL_ranges_61 : decode cL_ranges 61 = .ok (.iconst 1, 1) := by decide +kernel
theorem dL_ranges_62 : decode cL_ranges 62 = .ok (.istore 10, 2) := by decide +kernel
theorem dL_ranges_64 : decode cL_ranges 64 = .ok (.bipush 6, 2) := by decide +kernel
theorem dL_ranges_66 : decode cL_ranges 66 = .ok (.iload 6, 2) := by decide +kernel
theorem dL_ranges_68 : decode cL_ranges 68 = .ok (.imul, 1) := by decide +kernel
theorem dL_ranges_69 : decode cL_ranges 69 = .ok (.istore 11, 2) := by decide +kernel
theorem dL_ranges_71 : decode cL_ranges 71 = .ok (.iload 11, 2) := by decide +kernel
theorem dL_ranges_73 : decode cL_ranges 73 = .ok (.bipush 6, 2) := by decide +kernel
theorem dL_ranges_75 : decode cL_ranges 75 = .ok (.iload 6, 2) := by decide +kernel
theorem dL_ranges_77 : decode cL_ranges 77 = .ok (.imul, 1) := by decide +kernel
theorem dL_ranges_78 : decode cL_ranges 78 = .ok (.aload_n 2, 1) := by decide +kernel
theorem dL_ranges_79 : decode cL_ranges 79 = .ok (.iload 6, 2) := by decide +kernel
theorem dL_ranges_81 : decode cL_ranges 81 = .ok (.iaload, 1) := by decide +kernel
theorem dL_ranges_82 : decode cL_ranges 82 = .ok (.iadd, 1) := by decide +kernel
theorem dL_ranges_83 : decode cL_ranges 83 = .ok (.if_icmp .ge 40, 3) := by decide +kernel
theorem dL_ranges_86 : decode cL_ranges 86 = .ok (.iload 10, 2) := by decide +kernel
theorem dL_ranges_88 : decode cL_ranges 88 = .ok (.ifCond .eq 26, 3) := by decide +kernel
theorem dL_ranges_91 : decode cL_ranges 91 = .ok (.iload 8, 2) := by decide +kernel
theorem dL_ranges_93 : decode cL_ranges 93 = .ok (.aload_n 3, 1) := by decide +kernel
theorem dL_ranges_94 : decode cL_ranges 94 = .ok (.iload 11, 2) := by decide +kernel
theorem dL_ranges_96 : decode cL_ranges 96 = .ok (.iaload, 1) := by decide +kernel
theorem dL_ranges_97 : decode cL_ranges 97 = .ok (.if_icmp .lt 13, 3) := by decide +kernel
theorem dL_ranges_100 : decode cL_ranges 100 = .ok (.iload 7, 2) := by decide +kernel
theorem dL_ranges_102 : decode cL_ranges 102 = .ok (.aload 4, 2) := by decide +kernel
theorem dL_ranges_104 : decode cL_ranges 104 = .ok (.iload 11, 2) := by decide +kernel
theorem dL_ranges_106 : decode cL_ranges 106 = .ok (.iaload, 1) := by decide +kernel
theorem dL_ranges_107 : decode cL_ranges 107 = .ok (.if_icmp .le 7, 3) := by decide +kernel
theorem dL_ranges_110 : decode cL_ranges 110 = .ok (.iconst 1, 1) := by decide +kernel
theorem dL_ranges_111 : decode cL_ranges 111 = .ok (.goto 4, 3) := by decide +kernel
theorem dL_ranges_114 : decode cL_ranges 114 = .ok (.iconst 0, 1) := by decide +kernel
theorem dL_ranges_115 : decode cL_ranges 115 = .ok (.istore 10, 2) := by decide +kernel
theorem dL_ranges_117 : decode cL_ranges 117 = .ok (.iinc 11 1, 3) := by decide +kernel
theorem dL_ranges_120 : decode cL_ranges 120 = .ok (.goto (-49), 3) := by decide +kernel
theorem dL_ranges_123 : decode cL_ranges 123 = .ok (.iload 10, 2) := by decide +kernel
theorem dL_ranges_125 : decode cL_ranges 125 = .ok (.ifCond .eq 14, 3) := by decide +kernel
theorem dL_ranges_128 : decode cL_ranges 128 = .ok (.aload_n 2, 1) := by decide +kernel
theorem dL_ranges_129 : decode cL_ranges 129 = .ok (.iload 6, 2) := by decide +kernel
theorem dL_ranges_131 : decode cL_ranges 131 = .ok (.iaload, 1) := by decide +kernel
theorem dL_ranges_132 : decode cL_ranges 132 = .ok (.bipush 6, 2) := by decide +kernel
theorem dL_ranges_134 : decode cL_ranges 134 = .ok (.if_icmp .ne 5, 3) := by decide +kernel
theorem dL_ranges_137 : decode cL_ranges 137 = .ok (.iconst 1, 1) := by decide +kernel
theorem dL_ranges_138 : decode cL_ranges 138 = .ok (.ireturn, 1) := by decide +kernel
theorem dL_ranges_139 : decode cL_ranges 139 = .ok (.iload 10, 2) := by decide +kernel
theorem dL_ranges_141 : decode cL_ranges 141 = .ok (.ifCond .eq 43, 3) := by decide +kernel
theorem dL_ranges_144 : decode cL_ranges 144 = .ok (.bipush 6, 2) := by decide +kernel
theorem dL_ranges_146 : decode cL_ranges 146 = .ok (.iload 6, 2) := by decide +kernel
theorem dL_ranges_148 : decode cL_ranges 148 = .ok (.imul, 1) := by decide +kernel
theorem dL_ranges_149 : decode cL_ranges 149 = .ok (.aload_n 2, 1) := by decide +kernel
theorem dL_ranges_150 : decode cL_ranges 150 = .ok (.iload 6, 2) := by decide +kernel
theorem dL_ranges_152 : decode cL_ranges 152 = .ok (.iaload, 1) := by decide +kernel
theorem dL_ranges_153 : decode cL_ranges 153 = .ok (.iadd, 1) := by decide +kernel
theorem dL_ranges_154 : decode cL_ranges 154 = .ok (.istore 11, 2) := by decide +kernel
theorem dL_ranges_156 : decode cL_ranges 156 = .ok (.aload_n 3, 1) := by decide +kernel
theorem dL_ranges_157 : decode cL_ranges 157 = .ok (.iload 11, 2) := by decide +kernel
theorem dL_ranges_159 : decode cL_ranges 159 = .ok (.iload 7, 2) := by decide +kernel
theorem dL_ranges_161 : decode cL_ranges 161 = .ok (.iastore, 1) := by decide +kernel
theorem dL_ranges_162 : decode cL_ranges 162 = .ok (.aload 4, 2) := by decide +kernel
theorem dL_ranges_164 : decode cL_ranges 164 = .ok (.iload 11, 2) := by decide +kernel
theorem dL_ranges_166 : decode cL_ranges 166 = .ok (.iload 8, 2) := by decide +kernel
theorem dL_ranges_168 : decode cL_ranges 168 = .ok (.iastore, 1) := by decide +kernel
theorem dL_ranges_169 : decode cL_ranges 169 = .ok (.aload 5, 2) := by decide +kernel
theorem dL_ranges_171 : decode cL_ranges 171 = .ok (.iload 11, 2) := by decide +kernel
theorem dL_ranges_173 : decode cL_ranges 173 = .ok (.iload 9, 2) := by decide +kernel
theorem dL_ranges_175 : decode cL_ranges 175 = .ok (.iastore, 1) := by decide +kernel
theorem dL_ranges_176 : decode cL_ranges 176 = .ok (.aload_n 2, 1) := by decide +kernel
theorem dL_ranges_177 : decode cL_ranges 177 = .ok (.iload 6, 2) := by decide +kernel
theorem dL_ranges_179 : decode cL_ranges 179 = .ok (.dup2, 1) := by decide +kernel
theorem dL_ranges_180 : decode cL_ranges 180 = .ok (.iaload, 1) := by decide +kernel
theorem dL_ranges_181 : decode cL_ranges 181 = .ok (.iconst 1, 1) := by decide +kernel
theorem dL_ranges_182 : decode cL_ranges 182 = .ok (.iadd, 1) := by decide +kernel
theorem dL_ranges_183 : decode cL_ranges 183 = .ok (.iastore, 1) := by decide +kernel
theorem dL_ranges_184 : decode cL_ranges 184 = .ok (.aload_n 0, 1) := by decide +kernel
theorem dL_ranges_185 : decode cL_ranges 185 = .ok (.iconst 0, 1) := by decide +kernel
theorem dL_ranges_186 : decode cL_ranges 186 = .ok (.iload 6, 2) := by decide +kernel
theorem dL_ranges_188 : decode cL_ranges 188 = .ok (.iload 7, 2) := by decide +kernel
theorem dL_ranges_190 : decode cL_ranges 190 = .ok (.iload 8, 2) := by decide +kernel
theorem dL_ranges_192 : decode cL_ranges 192 = .ok (.iload 9, 2) := by decide +kernel
theorem dL_ranges_194 : decode cL_ranges 194 = .ok (.invokestatic 73, 3) := by decide +kernel
theorem dL_ranges_197 : decode cL_ranges 197 = .ok (.iload 10, 2) := by decide +kernel
theorem dL_ranges_199 : decode cL_ranges 199 = .ok (.ifCond .eq 10, 3) := by decide +kernel
theorem dL_ranges_202 : decode cL_ranges 202 = .ok (.aload_n 2, 1) := by decide +kernel
theorem dL_ranges_203 : decode cL_ranges 203 = .ok (.iload 6, 2) := by decide +kernel
theorem dL_ranges_205 : decode cL_ranges 205 = .ok (.iaload, 1) := by decide +kernel
theorem dL_ranges_206 : decode cL_ranges 206 = .ok (.goto 5, 3) := by decide +kernel
theorem dL_ranges_209 : decode cL_ranges 209 = .ok (.bipush (-3), 2) := by decide +kernel
theorem dL_ranges_211 : decode cL_ranges 211 = .ok (.if_icmp .ne 7, 3) := by decide +kernel
theorem dL_ranges_214 : decode cL_ranges 214 = .ok (.iconst 1, 1) := by decide +kernel
theorem dL_ranges_215 : decode cL_ranges 215 = .ok (.goto 4, 3) := by decide +kernel
theorem dL_ranges_218 : decode cL_ranges 218 = .ok (.iconst 0, 1) := by decide +kernel
theorem dL_ranges_219 : decode cL_ranges 219 = .ok (.ireturn, 1) := by decide +kernel
theorem dL_rules_0 : decode cL_rules 0 = .ok (.iload_n 1, 1) := by decide +kernel
theorem dL_rules_1 : decode cL_rules 1 = .ok (.iconst 4, 1) := by decide +kernel
theorem dL_rules_2 : decode cL_rules 2 = .ok (.invokestatic 91, 3) := by decide +kernel
theorem dL_rules_5 : decode cL_rules 5 = .ok (.istore 4, 2) := by decide +kernel
theorem dL_rules_7 : decode cL_rules 7 = .ok (.iload_n 1, 1) := by decide +kernel
theorem dL_rules_8 : decode cL_rules 8 = .ok (.iconst 2, 1) := by decide +kernel
theorem dL_rules_9 : decode cL_rules 9 = .ok (.ishr, 1) := by decide +kernel
theorem dL_rules_10 : decode cL_rules 10 = .ok (.bipush 6, 2) := by decide +kernel
theorem dL_rules_12 : decode cL_rules 12 = .ok (.invokestatic 91, 3) := by decide +kernel
theorem dL_rules_15 : decode cL_rules 15 = .ok (.istore 5, 2) := by decide +kernel
theorem dL_rules_17 : decode cL_rules 17 = .ok (.iload 4, 2) := by decide +kernel
theorem dL_rules_19 : decode cL_rules 19 = .ok (.ifCond .ne 76, 3) := by decide +kernel
theorem dL_rules_22 : decode cL_rules 22 = .ok (.aload_n 3, 1) := by decide +kernel
theorem dL_rules_23 : decode cL_rules 23 = .ok (.bipush 8, 2) := by decide +kernel
theorem dL_rules_25 : decode cL_rules 25 = .ok (.iload 5, 2) := by decide +kernel
theorem dL_rules_27 : decode cL_rules 27 = .ok (.iadd, 1) := by decide +kernel
theorem dL_rules_28 : decode cL_rules 28 = .ok (.iaload, 1) := by decide +kernel
theorem dL_rules_29 : decode cL_rules 29 = .ok (.iconst 1, 1) := by decide +kernel
theorem dL_rules_30 : decode cL_rules 30 = .ok (.if_icmp .ne 7, 3) := by decide +kernel
theorem dL_rules_33 : decode cL_rules 33 = .ok (.iconst 1, 1) := by decide +kernel
theorem dL_rules_34 : decode cL_rules 34 = .ok (.goto 4, 3) := by decide +kernel
theorem dL_rules_37 : decode cL_rules 37 = .ok (.iconst 0, 1) := by decide +kernel
theorem dL_rules_38 : decode cL_rules 38 = .ok (.istore 6, 2) := by decide +kernel
theorem dL_rules_40 : decode cL_rules 40 = .ok (.aload_n 3, 1) := by decide +kernel
theorem dL_rules_41 : decode cL_rules 41 = .ok (.bipush 8, 2) := by decide +kernel
theorem dL_rules_43 : decode cL_rules 43 = .ok (.iload 5, 2) := by decide +kernel
theorem dL_rules_45 : decode cL_rules 45 = .ok (.iadd, 1) := by decide +kernel
theorem dL_rules_46 : decode cL_rules 46 = .ok (.iload_n 1, 1) := by decide +kernel
theorem dL_rules_47 : decode cL_rules 47 = .ok (.iconst 5, 1) := by decide +kernel
theorem dL_rules_48 : decode cL_rules 48 = .ok (.ishr, 1) := by decide +kernel
theorem dL_rules_49 : decode cL_rules 49 = .ok (.iconst 3, 1) := by decide +kernel
theorem dL_rules_50 : decode cL_rules 50 = .ok (.invokestatic 91, 3) := by decide +kernel
theorem dL_rules_53 : decode cL_rules 53 = .ok (.ifCond .ne 7, 3) := by decide +kernel
theorem dL_rules_56 : decode cL_rules 56 = .ok (.iconst 1, 1) := by decide +kernel
theorem dL_rules_57 : decode cL_rules 57 = .ok (.goto 4, 3) := by decide +kernel
theorem dL_rules_60 : decode cL_rules 60 = .ok (.iconst 0, 1) := by decide +kernel
theorem dL_rules_61 : decode cL_rules 61 = .ok (.iastore, 1) := by decide +kernel
theorem dL_rules_62 : decode cL_rules 62 = .ok (.aload_n 0, 1) := by decide +kernel
theorem dL_rules_63 : decode cL_rules 63 = .ok (.iload 5, 2) := by decide +kernel
theorem dL_rules_65 : decode cL_rules 65 = .ok (.aload_n 3, 1) := by decide +kernel
theorem dL_rules_66 : decode cL_rules 66 = .ok (.bipush 8, 2) := by decide +kernel
theorem dL_rules_68 : decode cL_rules 68 = .ok (.iload 5, 2) := by decide +kernel
theorem dL_rules_70 : decode cL_rules 70 = .ok (.iadd, 1) := by decide +kernel
theorem dL_rules_71 : decode cL_rules 71 = .ok (.iaload, 1) := by decide +kernel
theorem dL_rules_72 : decode cL_rules 72 = .ok (.iconst 1, 1) := by decide +kernel
theorem dL_rules_73 : decode cL_rules 73 = .ok (.if_icmp .ne 7, 3) := by decide +kernel
theorem dL_rules_76 : decode cL_rules 76 = .ok (.iconst 1, 1) := by decide +kernel
theorem dL_rules_77 : decode cL_rules 77 = .ok (.goto 4, 3) := by decide +kernel
theorem dL_rules_80 : decode cL_rules 80 = .ok (.iconst 0, 1) := by decide +kernel
theorem dL_rules_81 : decode cL_rules 81 = .ok (.invokevirtual 94, 3) := by decide +kernel
theorem dL_rules_84 : decode cL_rules 84 = .ok (.iload 6, 2) := by decide +kernel
theorem dL_rules_86 : decode cL_rules 86 = .ok (.if_icmp .ne 7, 3) := by decide +kernel
theorem dL_rules_89 : decode cL_rules 89 = .ok (.iconst 1, 1) := by decide +kernel
theorem dL_rules_90 : decode cL_rules 90 = .ok (.goto 4, 3) := by decide +kernel
theorem dL_rules_93 : decode cL_rules 93 = .ok (.iconst 0, 1) := by decide +kernel
theorem dL_rules_94 : decode cL_rules 94 = .ok (.ireturn, 1) := by decide +kernel
theorem dL_rules_95 : decode cL_rules 95 = .ok (.iload 4, 2) := by decide +kernel
theorem dL_rules_97 : decode cL_rules 97 = .ok (.iconst 1, 1) := by decide +kernel
theorem dL_rules_98 : decode cL_rules 98 = .ok (.if_icmp .ne 149, 3) := by decide +kernel
theorem dL_rules_101 : decode cL_rules 101 = .ok (.iload_n 1, 1) := by decide +kernel
theorem dL_rules_102 : decode cL_rules 102 = .ok (.iconst 5, 1) := by decide +kernel
theorem dL_rules_103 : decode cL_rules 103 = .ok (.ishr, 1) := by decide +kernel
theorem dL_rules_104 : decode cL_rules 104 = .ok (.bipush 6, 2) := by decide +kernel
theorem dL_rules_106 : decode cL_rules 106 = .ok (.invokestatic 91, 3) := by decide +kernel
theorem dL_rules_109 : decode cL_rules 109 = .ok (.istore 6, 2) := by decide +kernel
theorem dL_rules_111 : decode cL_rules 111 = .ok (.iload 6, 2) := by decide +kernel
theorem dL_rules_113 : decode cL_rules 113 = .ok (.istore 7, 2) := by decide +kernel
theorem dL_rules_115 : decode cL_rules 115 = .ok (.iload 6, 2) := by decide +kernel
theorem dL_rules_117 : decode cL_rules 117 = .ok (.iload 5, 2) := by decide +kernel
theorem dL_rules_119 : decode cL_rules 119 = .ok (.if_icmp .eq 14, 3) := by decide +kernel
theorem dL_rules_122 : decode cL_rules 122 = .ok (.iload 7, 2) := by decide +kernel
theorem dL_rules_124 : decode cL_rules 124 = .ok (.iload 5, 2) := by decide +kernel
theorem dL_rules_126 : decode cL_rules 126 = .ok (.if_icmp .ne 7, 3) := by decide +kernel
theorem dL_rules_129 : decode cL_rules 129 = .ok (.iconst 1, 1) := by decide +kernel
theorem dL_rules_130 : decode cL_rules 130 = .ok (.goto 4, 3) := by decide +kernel
theorem dL_rules_133 : decode cL_rules 133 = .ok (.iconst 0, 1) := by decide +kernel
theorem dL_rules_134 : decode cL_rules 134 = .ok (.istore 8, 2) := by decide +kernel
theorem dL_rules_136 : decode cL_rules 136 = .ok (.iconst 0, 1) := by decide +kernel
theorem dL_rules_137 : decode cL_rules 137 = .ok (.istore 9, 2) := by decide +kernel
theorem dL_rules_139 : decode cL_rules 139 = .ok (.iload 9, 2) := by decide +kernel
theorem dL_rules_141 : decode cL_rules 141 = .ok (.bipush 6, 2) := by decide +kernel
theorem dL_rules_143 : decode cL_rules 143 = .ok (.if_icmp .ge 44, 3) := by decide +kernel
theorem dL_rules_146 : decode cL_rules 146 = .ok (.aload_n 3, 1) := by decide +kernel
theorem dL_rules_147 : decode cL_rules 147 = .ok (.bipush 14, 2) := by decide +kernel
theorem dL_rules_149 : decode cL_rules 149 = .ok (.iload 7, 2) := by decide +kernel
theorem dL_rules_151 : decode cL_rules 151 = .ok (.iadd, 1) := by decide +kernel
theorem dL_rules_152 : decode cL_rules 152 = .ok (.iaload, 1) := by decide +kernel
theorem dL_rules_153 : decode cL_rules 153 = .ok (.istore 7, 2) := by decide +kernel
theorem dL_rules_155 : decode cL_rules 155 = .ok (.iload 8, 2) := by decide +kernel
theorem dL_rules_157 : decode cL_rules 157 = .ok (.ifCond .ne 17, 3) := by decide +kernel
theorem dL_rules_160 : decode cL_rules 160 = .ok (.iload 6, 2) := by decide +kernel
theorem dL_rules_162 : decode cL_rules 162 = .ok (.iload 5, 2) := by decide +kernel
theorem dL_rules_164 : decode cL_rules 164 = .ok (.if_icmp .eq 14, 3) := by decide +kernel
theorem dL_rules_167 : decode cL_rules 167 = .ok (.iload 7, 2) := by decide +kernel
theorem dL_rules_169 : decode cL_rules 169 = .ok (.iload 5, 2) := by decide +kernel
theorem dL_rules_171 : decode cL_rules 171 = .ok (.if_icmp .ne 7, 3) := by decide +kernel
theorem dL_rules_174 : decode cL_rules 174 = .ok (.iconst 1, 1) := by decide +kernel
theorem dL_rules_175 : decode cL_rules 175 = .ok (.goto 4, 3) := by decide +kernel
theorem dL_rules_178 : decode cL_rules 178 = .ok (.iconst 0, 1) := by decide +kernel
theorem dL_rules_179 : decode cL_rules 179 = .ok (.istore 8, 2) := by decide +kernel
theorem dL_rules_181 : decode cL_rules 181 = .ok (.iinc 9 1, 3) := by decide +kernel
theorem dL_rules_184 : decode cL_rules 184 = .ok (.goto (-45), 3) := by decide +kernel
theorem dL_rules_187 : decode cL_rules 187 = .ok (.aload_n 3, 1) := by decide +kernel
theorem dL_rules_188 : decode cL_rules 188 = .ok (.bipush 14, 2) := by decide +kernel
theorem dL_rules_190 : decode cL_rules 190 = .ok (.iload 5, 2) := by decide +kernel
theorem dL_rules_192 : decode cL_rules 192 = .ok (.iadd, 1) := by decide +kernel
theorem dL_rules_193 : decode cL_rules 193 = .ok (.iaload, 1) := by decide +kernel
theorem dL_rules_194 : decode cL_rules 194 = .ok (.istore 9, 2) := by decide +kernel
theorem dL_rules_196 : decode cL_rules 196 = .ok (.aload_n 3, 1) := by decide +kernel
theorem dL_rules_197 : decode cL_rules 197 = .ok (.bipush 14, 2) := by decide +kernel
theorem dL_rules_199 : decode cL_rules 199 = .ok (.iload 5, 2) := by decide +kernel
theorem dL_rules_201 : decode cL_rules 201 = .ok (.iadd, 1) := by decide +kernel
theorem dL_rules_202 : decode cL_rules 202 = .ok (.iload 8, 2) := by decide +kernel
theorem dL_rules_204 : decode cL_rules 204 = .ok (.ifCond .eq 8, 3) := by decide +kernel
theorem dL_rules_207 : decode cL_rules 207 = .ok (.iload 9, 2) := by decide +kernel
theorem dL_rules_209 : decode cL_rules 209 = .ok (.goto 5, 3) := by decide +kernel
theorem dL_rules_212 : decode cL_rules 212 = .ok (.iload 6, 2) := by decide +kernel
theorem dL_rules_214 : decode cL_rules 214 = .ok (.iastore, 1) := by decide +kernel
theorem dL_rules_215 : decode cL_rules 215 = .ok (.aload_n 0, 1) := by decide +kernel
theorem dL_rules_216 : decode cL_rules 216 = .ok (.iconst 1, 1) := by decide +kernel
theorem dL_rules_217 : decode cL_rules 217 = .ok (.iload 5, 2) := by decide +kernel
theorem dL_rules_219 : decode cL_rules 219 = .ok (.iload 6, 2) := by decide +kernel
theorem dL_rules_221 : decode cL_rules 221 = .ok (.iconst 0, 1) := by decide +kernel
theorem dL_rules_222 : decode cL_rules 222 = .ok (.iconst 0, 1) := by decide +kernel
theorem dL_rules_223 : decode cL_rules 223 = .ok (.invokestatic 73, 3) := by decide +kernel
theorem dL_rules_226 : decode cL_rules 226 = .ok (.iload 8, 2) := by decide +kernel
theorem dL_rules_228 : decode cL_rules 228 = .ok (.ifCond .eq 8, 3) := by decide +kernel
theorem dL_rules_231 : decode cL_rules 231 = .ok (.bipush (-3), 2) := by decide +kernel
theorem dL_rules_233 : decode cL_rules 233 = .ok (.goto 5, 3) := by decide +kernel
theorem dL_rules_236 : decode cL_rules 236 = .ok (.iload 9, 2) := by decide +kernel
theorem dL_rules_238 : decode cL_rules 238 = .ok (.if_icmp .ne 7, 3) := by decide +kernel
theorem dL_rules_241 : decode cL_rules 241 = .ok (.iconst 1, 1) := by decide +kernel
theorem dL_rules_242 : decode cL_rules 242 = .ok (.goto 4, 3) := by decide +kernel
theorem dL_rules_245 : decode cL_rules 245 = .ok (.iconst 0, 1) := by decide +kernel
theorem dL_rules_246 : decode cL_rules 246 = .ok (.ireturn, 1) := by decide +kernel
theorem dL_rules_247 : decode cL_rules 247 = .ok (.iload 4, 2) := by decide +kernel
theorem dL_rules_249 : decode cL_rules 249 = .ok (.iconst 2, 1) := by decide +kernel
theorem dL_rules_250 : decode cL_rules 250 = .ok (.if_icmp .ne 38, 3) := by decide +kernel
theorem dL_rules_253 : decode cL_rules 253 = .ok (.aload_n 2, 1) := by decide +kernel
theorem dL_rules_254 : decode cL_rules 254 = .ok (.iconst 1, 1) := by decide +kernel
theorem dL_rules_255 : decode cL_rules 255 = .ok (.iaload, 1) := by decide +kernel
theorem dL_rules_256 : decode cL_rules 256 = .ok (.istore 6, 2) := by decide +kernel
theorem dL_rules_258 : decode cL_rules 258 = .ok (.aload_n 2, 1) := by decide +kernel
theorem dL_rules_259 : decode cL_rules 259 = .ok (.iconst 1, 1) := by decide +kernel
theorem dL_rules_260 : decode cL_rules 260 = .ok (.iconst 1, 1) := by decide +kernel
theorem dL_rules_261 : decode cL_rules 261 = .ok (.iload_n 1, 1) := by decide +kernel
theorem dL_rules_262 : decode cL_rules 262 = .ok (.iconst 5, 1) := by decide +kernel
theorem dL_rules_263 : decode cL_rules 263 = .ok (.ishr, 1) := by decide +kernel
theorem dL_rules_264 : decode cL_rules 264 = .ok (.iconst 4, 1) := by decide +kernel
theorem dL_rules_265 : decode cL_rules 265 = .ok (.invokestatic 91, 3) := by decide +kernel
theorem dL_rules_268 : decode cL_rules 268 = .ok (.iadd, 1) := by decide +kernel
theorem dL_rules_269 : decode cL_rules 269 = .ok (.iastore, 1) := by decide +kernel
theorem dL_rules_270 : decode cL_rules 270 = .ok (.aload_n 0, 1) := by decide +kernel
theorem dL_rules_271 : decode cL_rules 271 = .ok (.aload_n 2, 1) := by decide +kernel
theorem dL_rules_272 : decode cL_rules 272 = .ok (.iconst 1, 1) := by decide +kernel
theorem dL_rules_273 : decode cL_rules 273 = .ok (.iaload, 1) := by decide +kernel
theorem dL_rules_274 : decode cL_rules 274 = .ok (.invokevirtual 98, 3) := by decide +kernel
theorem dL_rules_277 : decode cL_rules 277 = .ok (.iload 6, 2) := by decide +kernel
theorem dL_rules_279 : decode cL_rules 279 = .ok (.if_icmp .ne 7, 3) := by decide +kernel
theorem dL_rules_282 : decode cL_rules 282 = .ok (.iconst 1, 1) := by decide +kernel
theorem dL_rules_283 : decode cL_rules 283 = .ok (.goto 4, 3) := by decide +kernel
theorem dL_rules_286 : decode cL_rules 286 = .ok (.iconst 0, 1) := by decide +kernel
theorem dL_rules_287 : decode cL_rules 287 = .ok (.ireturn, 1) := by decide +kernel
theorem dL_rules_288 : decode cL_rules 288 = .ok (.aload_n 2, 1) := by decide +kernel
theorem dL_rules_289 : decode cL_rules 289 = .ok (.iconst 2, 1) := by decide +kernel
theorem dL_rules_290 : decode cL_rules 290 = .ok (.iaload, 1) := by decide +kernel
theorem dL_rules_291 : decode cL_rules 291 = .ok (.istore 6, 2) := by decide +kernel
theorem dL_rules_293 : decode cL_rules 293 = .ok (.aload_n 2, 1) := by decide +kernel
theorem dL_rules_294 : decode cL_rules 294 = .ok (.iconst 2, 1) := by decide +kernel
theorem dL_rules_295 : decode cL_rules 295 = .ok (.iconst 1, 1) := by decide +kernel
theorem dL_rules_296 : decode cL_rules 296 = .ok (.iload_n 1, 1) := by decide +kernel
theorem dL_rules_297 : decode cL_rules 297 = .ok (.iconst 5, 1) := by decide +kernel
theorem dL_rules_298 : decode cL_rules 298 = .ok (.ishr, 1) := by decide +kernel
theorem dL_rules_299 : decode cL_rules 299 = .ok (.sipush 900, 3) := by decide +kernel
theorem dL_rules_302 : decode cL_rules 302 = .ok (.invokestatic 91, 3) := by decide +kernel
theorem dL_rules_305 : decode cL_rules 305 = .ok (.iadd, 1) := by decide +kernel
theorem dL_rules_306 : decode cL_rules 306 = .ok (.iastore, 1) := by decide +kernel
theorem dL_rules_307 : decode cL_rules 307 = .ok (.aload_n 0, 1) := by decide +kernel
theorem dL_rules_308 : decode cL_rules 308 = .ok (.aload_n 2, 1) := by decide +kernel
theorem dL_rules_309 : decode cL_rules 309 = .ok (.iconst 2, 1) := by decide +kernel
theorem dL_rules_310 : decode cL_rules 310 = .ok (.iaload, 1) := by decide +kernel
theorem dL_rules_311 : decode cL_rules 311 = .ok (.invokevirtual 101, 3) := by decide +kernel
theorem dL_rules_314 : decode cL_rules 314 = .ok (.iload 6, 2) := by decide +kernel
theorem dL_rules_316 : decode cL_rules 316 = .ok (.if_icmp .ne 7, 3) := by decide +kernel
theorem dL_rules_319 : decode cL_rules 319 = .ok (.iconst 1, 1) := by decide +kernel
theorem dL_rules_320 : decode cL_rules 320 = .ok (.goto 4, 3) := by decide +kernel
theorem dL_rules_323 : decode cL_rules 323 = .ok (.iconst 0, 1) := by decide +kernel
theorem dL_rules_324 : decode cL_rules 324 = .ok (.ireturn, 1) := by decide +kernel
theorem dL_report_0 : decode cL_report 0 = .ok (.aload_n 2, 1) := by decide +kernel
theorem dL_report_1 : decode cL_report 1 = .ok (.iconst 0, 1) := by decide +kernel
theorem dL_report_2 : decode cL_report 2 = .ok (.iaload, 1) := by decide +kernel
theorem dL_report_3 : decode cL_report 3 = .ok (.istore 7, 2) := by decide +kernel
theorem dL_report_5 : decode cL_report 5 = .ok (.iconst 1, 1) := by decide +kernel
theorem dL_report_6 : decode cL_report 6 = .ok (.iload_n 1, 1) := by decide +kernel
theorem dL_report_7 : decode cL_report 7 = .ok (.iconst 4, 1) := by decide +kernel
theorem dL_report_8 : decode cL_report 8 = .ok (.invokestatic 91, 3) := by decide +kernel
theorem dL_report_11 : decode cL_report 11 = .ok (.iadd, 1) := by decide +kernel
theorem dL_report_12 : decode cL_report 12 = .ok (.istore 8, 2) := by decide +kernel
theorem dL_report_14 : decode cL_report 14 = .ok (.aload_n 3, 1) := by decide +kernel
theorem dL_report_15 : decode cL_report 15 = .ok (.iload 7, 2) := by decide +kernel
theorem dL_report_17 : decode cL_report 17 = .ok (.iload_n 1, 1) := by decide +kernel
theorem dL_report_18 : decode cL_report 18 = .ok (.iconst 2, 1) := by decide +kernel
theorem dL_report_19 : decode cL_report 19 = .ok (.ishr, 1) := by decide +kernel
theorem dL_report_20 : decode cL_report 20 = .ok (.iconst 4, 1) := by decide +kernel
theorem dL_report_21 : decode cL_report 21 = .ok (.invokestatic 91, 3) := by decide +kernel
theorem dL_report_24 : decode cL_report 24 = .ok (.iastore, 1) := by decide +kernel
theorem dL_report_25 : decode cL_report 25 = .ok (.aload 4, 2) := by decide +kernel
theorem dL_report_27 : decode cL_report 27 = .ok (.iload 7, 2) := by decide +kernel
theorem dL_report_29 : decode cL_report 29 = .ok (.iload_n 1, 1) := by decide +kernel
theorem dL_report_30 : decode cL_report 30 = .ok (.iconst 4, 1) := by decide +kernel
theorem dL_report_31 : decode cL_report 31 = .ok (.ishr, 1) := by decide +kernel
theorem dL_report_32 : decode cL_report 32 = .ok (.bipush 20, 2) := by decide +kernel
theorem dL_report_34 : decode cL_report 34 = .ok (.invokestatic 91, 3) := by decide +kernel
theorem dL_report_37 : decode cL_report 37 = .ok (.iastore, 1) := by decide +kernel
theorem dL_report_38 : decode cL_report 38 = .ok (.iconst 0, 1) := by decide +kernel
theorem dL_report_39 : decode cL_report 39 = .ok (.istore 9, 2) := by decide +kernel
theorem dL_report_41 : decode cL_report 41 = .ok (.iload 9, 2) := by decide +kernel
theorem dL_report_43 : decode cL_report 43 = .ok (.iconst 4, 1) := by decide +kernel
theorem dL_report_44 : decode cL_report 44 = .ok (.if_icmp .ge 59, 3) := by decide +kernel
theorem dL_report_47 : decode cL_report 47 = .ok (.aload 5, 2) := by decide +kernel
theorem dL_report_49 : decode cL_report 49 = .ok (.iconst 4, 1) := by decide +kernel
theorem dL_report_50 : decode cL_report 50 = .ok (.iload 7, 2) := by decide +kernel
theorem dL_report_52 : decode cL_report 52 = .ok (.imul, 1) := by decide +kernel
theorem dL_report_53 : decode cL_report 53 = .ok (.iload 9, 2) := by decide +kernel
theorem dL_report_55 : decode cL_report 55 = .ok (.iadd, 1) := by decide +kernel
theorem dL_report_56 : decode cL_report 56 = .ok (.iload 9, 2) := by decide +kernel
theorem dL_report_58 : decode cL_report 58 = .ok (.iload 8, 2) := by decide +kernel
theorem dL_report_60 : decode cL_report 60 = .ok (.if_icmp .ge 35, 3) := by decide +kernel
theorem dL_report_63 : decode cL_report 63 = .ok (.iload_n 1, 1) := by decide +kernel
theorem dL_report_64 : decode cL_report 64 = .ok (.iconst 5, 1) := by decide +kernel
theorem dL_report_65 : decode cL_report 65 = .ok (.iload 9, 2) := by decide +kernel
theorem dL_report_67 : decode cL_report 67 = .ok (.iadd, 1) := by decide +kernel
theorem dL_report_68 : decode cL_report 68 = .ok (.ishr, 1) := by decide +kernel
theorem dL_report_69 : decode cL_report 69 = .ok (.iload_n 1, 1) := by decide +kernel
theorem dL_report_70 : decode cL_report 70 = .ok (.bipush 14, 2) := by decide +kernel
theorem dL_report_72 : decode cL_report 72 = .ok (.ishr, 1) := by decide +kernel
theorem dL_report_73 : decode cL_report 73 = .ok (.iconst 5, 1) := by decide +kernel
theorem dL_report_74 : decode cL_report 74 = .ok (.invokestatic 91, 3) := by decide +kernel
theorem dL_report_77 : decode cL_report 77 = .ok (.ifCond .ne 9, 3) := by decide +kernel
theorem dL_report_80 : decode cL_report 80 = .ok (.sipush 10000, 3) := by decide +kernel
theorem dL_report_83 : decode cL_report 83 = .ok (.goto 6, 3) := by decide +kernel
theorem dL_report_86 : decode cL_report 86 = .ok (.sipush 130, 3) := by decide +kernel
theorem dL_report_89 : decode cL_report 89 = .ok (.invokestatic 91, 3) := by decide +kernel
theorem dL_report_92 : decode cL_report 92 = .ok (.goto 4, 3) := by decide +kernel
theorem dL_report_95 : decode cL_report 95 = .ok (.iconst (-1), 1) := by decide +kernel
theorem dL_report_96 : decode cL_report 96 = .ok (.iastore, 1) := by decide +kernel
theorem dL_report_97 : decode cL_report 97 = .ok (.iinc 9 1, 3) := by decide +kernel
theorem dL_report_100 : decode cL_report 100 = .ok (.goto (-59), 3) := by decide +kernel
theorem dL_report_103 : decode cL_report 103 = .ok (.aload 6, 2) := by decide +kernel
theorem dL_report_105 : decode cL_report 105 = .ok (.iload 7, 2) := by decide +kernel
theorem dL_report_107 : decode cL_report 107 = .ok (.iconst (-1), 1) := by decide +kernel
theorem dL_report_108 : decode cL_report 108 = .ok (.iastore, 1) := by decide +kernel
theorem dL_report_109 : decode cL_report 109 = .ok (.aload_n 2, 1) := by decide +kernel
theorem dL_report_110 : decode cL_report 110 = .ok (.iconst 0, 1) := by decide +kernel
theorem dL_report_111 : decode cL_report 111 = .ok (.dup2, 1) := by decide +kernel
theorem dL_report_112 : decode cL_report 112 = .ok (.iaload, 1) := by decide +kernel
theorem dL_report_113 : decode cL_report 113 = .ok (.iconst 1, 1) := by decide +kernel
theorem dL_report_114 : decode cL_report 114 = .ok (.iadd, 1) := by decide +kernel
theorem dL_report_115 : decode cL_report 115 = .ok (.iastore, 1) := by decide +kernel
theorem dL_report_116 : decode cL_report 116 = .ok (.aload_n 0, 1) := by decide +kernel
theorem dL_report_117 : decode cL_report 117 = .ok (.aload_n 3, 1) := by decide +kernel
theorem dL_report_118 : decode cL_report 118 = .ok (.iload 7, 2) := by decide +kernel
theorem dL_report_120 : decode cL_report 120 = .ok (.iaload, 1) := by decide +kernel
theorem dL_report_121 : decode cL_report 121 = .ok (.aload 4, 2) := by decide +kernel
theorem dL_report_123 : decode cL_report 123 = .ok (.iload 7, 2) := by decide +kernel
theorem dL_report_125 : decode cL_report 125 = .ok (.iaload, 1) := by decide +kernel
theorem dL_report_126 : decode cL_report 126 = .ok (.aload 5, 2) := by decide +kernel
theorem dL_report_128 : decode cL_report 128 = .ok (.iconst 4, 1) := by decide +kernel
theorem dL_report_129 : decode cL_report 129 = .ok (.iload 7, 2) := by decide +kernel
theorem dL_report_131 : decode cL_report 131 = .ok (.imul, 1) := by decide +kernel
theorem dL_report_132 : decode cL_report 132 = .ok (.iaload, 1) := by decide +kernel
theorem dL_report_133 : decode cL_report 133 = .ok (.aload 5, 2) := by decide +kernel
theorem dL_report_135 : decode cL_report 135 = .ok (.iconst 4, 1) := by decide +kernel
theorem dL_report_136 : decode cL_report 136 = .ok (.iload 7, 2) := by decide +kernel
theorem dL_report_138 : decode cL_report 138 = .ok (.imul, 1) := by decide +kernel
theorem dL_report_139 : decode cL_report 139 = .ok (.iconst 1, 1) := by decide +kernel
theorem dL_report_140 : decode cL_report 140 = .ok (.iadd, 1) := by decide +kernel
theorem dL_report_141 : decode cL_report 141 = .ok (.iaload, 1) := by decide +kernel
theorem dL_report_142 : decode cL_report 142 = .ok (.aload 5, 2) := by decide +kernel
theorem dL_report_144 : decode cL_report 144 = .ok (.iconst 4, 1) := by decide +kernel
theorem dL_report_145 : decode cL_report 145 = .ok (.iload 7, 2) := by decide +kernel
theorem dL_report_147 : decode cL_report 147 = .ok (.imul, 1) := by decide +kernel
theorem dL_report_148 : decode cL_report 148 = .ok (.iconst 2, 1) := by decide +kernel
theorem dL_report_149 : decode cL_report 149 = .ok (.iadd, 1) := by decide +kernel
theorem dL_report_150 : decode cL_report 150 = .ok (.iaload, 1) := by decide +kernel
theorem dL_report_151 : decode cL_report 151 = .ok (.aload 5, 2) := by decide +kernel
theorem dL_report_153 : decode cL_report 153 = .ok (.iconst 4, 1) := by decide +kernel
theorem dL_report_154 : decode cL_report 154 = .ok (.iload 7, 2) := by decide +kernel
theorem dL_report_156 : decode cL_report 156 = .ok (.imul, 1) := by decide +kernel
theorem dL_report_157 : decode cL_report 157 = .ok (.iconst 3, 1) := by decide +kernel
theorem dL_report_158 : decode cL_report 158 = .ok (.iadd, 1) := by decide +kernel
theorem dL_report_159 : decode cL_report 159 = .ok (.iaload, 1) := by decide +kernel
theorem dL_report_160 : decode cL_report 160 = .ok (.invokevirtual 104, 3) := by decide +kernel
theorem dL_report_163 : decode cL_report 163 = .ok (.iload 7, 2) := by decide +kernel
theorem dL_report_165 : decode cL_report 165 = .ok (.if_icmp .ne 7, 3) := by decide +kernel
theorem dL_report_168 : decode cL_report 168 = .ok (.iconst 1, 1) := by decide +kernel
theorem dL_report_169 : decode cL_report 169 = .ok (.goto 4, 3) := by decide +kernel
theorem dL_report_172 : decode cL_report 172 = .ok (.iconst 0, 1) := by decide +kernel
theorem dL_report_173 : decode cL_report 173 = .ok (.ireturn, 1) := by decide +kernel
theorem dL_law_0 : decode cL_law 0 = .ok (.new 11, 3) := by decide +kernel
theorem dL_law_3 : decode cL_law 3 = .ok (.dup, 1) := by decide +kernel
theorem dL_law_4 : decode cL_law 4 = .ok (.invokespecial 108, 3) := by decide +kernel
theorem dL_law_7 : decode cL_law 7 = .ok (.astore_n 1, 1) := by decide +kernel
theorem dL_law_8 : decode cL_law 8 = .ok (.iconst 3, 1) := by decide +kernel
theorem dL_law_9 : decode cL_law 9 = .ok (.newarray .int, 2) := by decide +kernel
theorem dL_law_11 : decode cL_law 11 = .ok (.astore_n 2, 1) := by decide +kernel
theorem dL_law_12 : decode cL_law 12 = .ok (.bipush 20, 2) := by decide +kernel
theorem dL_law_14 : decode cL_law 14 = .ok (.newarray .int, 2) := by decide +kernel
theorem dL_law_16 : decode cL_law 16 = .ok (.astore_n 3, 1) := by decide +kernel
theorem dL_law_17 : decode cL_law 17 = .ok (.bipush 24, 2) := by decide +kernel
theorem dL_law_19 : decode cL_law 19 = .ok (.newarray .int, 2) := by decide +kernel
theorem dL_law_21 : decode cL_law 21 = .ok (.astore 4, 2) := by decide +kernel
theorem dL_law_23 : decode cL_law 23 = .ok (.bipush 24, 2) := by decide +kernel
theorem dL_law_25 : decode cL_law 25 = .ok (.newarray .int, 2) := by decide +kernel
theorem dL_law_27 : decode cL_law 27 = .ok (.astore 5, 2) := by decide +kernel
theorem dL_law_29 : decode cL_law 29 = .ok (.bipush 24, 2) := by decide +kernel
theorem dL_law_31 : decode cL_law 31 = .ok (.newarray .int, 2) := by decide +kernel
theorem dL_law_33 : decode cL_law 33 = .ok (.astore 6, 2) := by decide +kernel
theorem dL_law_35 : decode cL_law 35 = .ok (.bipush 12, 2) := by decide +kernel
theorem dL_law_37 : decode cL_law 37 = .ok (.newarray .int, 2) := by decide +kernel
theorem dL_law_39 : decode cL_law 39 = .ok (.astore 7, 2) := by decide +kernel
theorem dL_law_41 : decode cL_law 41 = .ok (.bipush 12, 2) := by decide +kernel
theorem dL_law_43 : decode cL_law 43 = .ok (.newarray .int, 2) := by decide +kernel
theorem dL_law_45 : decode cL_law 45 = .ok (.astore 8, 2) := by decide +kernel
theorem dL_law_47 : decode cL_law 47 = .ok (.bipush 48, 2) := by decide +kernel
theorem dL_law_49 : decode cL_law 49 = .ok (.newarray .int, 2) := by decide +kernel
theorem dL_law_51 : decode cL_law 51 = .ok (.astore 9, 2) := by decide +kernel
theorem dL_law_53 : decode cL_law 53 = .ok (.bipush 12, 2) := by decide +kernel
theorem dL_law_55 : decode cL_law 55 = .ok (.newarray .int, 2) := by decide +kernel
theorem dL_law_57 : decode cL_law 57 = .ok (.astore 10, 2) := by decide +kernel
theorem dL_law_59 : decode cL_law 59 = .ok (.bipush 24, 2) := by decide +kernel
theorem dL_law_61 : decode cL_law 61 = .ok (.newarray .int, 2) := by decide +kernel
theorem dL_law_63 : decode cL_law 63 = .ok (.astore 11, 2) := by decide +kernel
theorem dL_law_65 : decode cL_law 65 = .ok (.aload_n 2, 1) := by decide +kernel
theorem dL_law_66 : decode cL_law 66 = .ok (.iconst 1, 1) := by decide +kernel
theorem dL_law_67 : decode cL_law 67 = .ok (.iconst 2, 1) := by decide +kernel
theorem dL_law_68 : decode cL_law 68 = .ok (.iastore, 1) := by decide +kernel
theorem dL_law_69 : decode cL_law 69 = .ok (.aload_n 2, 1) := by decide +kernel
theorem dL_law_70 : decode cL_law 70 = .ok (.iconst 2, 1) := by decide +kernel
theorem dL_law_71 : decode cL_law 71 = .ok (.bipush 100, 2) := by decide +kernel
theorem dL_law_73 : decode cL_law 73 = .ok (.iastore, 1) := by decide +kernel
theorem dL_law_74 : decode cL_law 74 = .ok (.iconst 0, 1) := by decide +kernel
theorem dL_law_75 : decode cL_law 75 = .ok (.istore 12, 2) := by decide +kernel
theorem dL_law_77 : decode cL_law 77 = .ok (.iload 12, 2) := by decide +kernel
theorem dL_law_79 : decode cL_law 79 = .ok (.bipush 6, 2) := by decide +kernel
theorem dL_law_81 : decode cL_law 81 = .ok (.if_icmp .ge 18, 3) := by decide +kernel
theorem dL_law_84 : decode cL_law 84 = .ok (.aload_n 3, 1) := by decide +kernel
theorem dL_law_85 : decode cL_law 85 = .ok (.bipush 14, 2) := by decide +kernel
theorem dL_law_87 : decode cL_law 87 = .ok (.iload 12, 2) := by decide +kernel
theorem dL_law_89 : decode cL_law 89 = .ok (.iadd, 1) := by decide +kernel
theorem dL_law_90 : decode cL_law 90 = .ok (.iload 12, 2) := by decide +kernel
theorem dL_law_92 : decode cL_law 92 = .ok (.iastore, 1) := by decide +kernel
theorem dL_law_93 : decode cL_law 93 = .ok (.iinc 12 1, 3) := by decide +kernel
theorem dL_law_96 : decode cL_law 96 = .ok (.goto (-19), 3) := by decide +kernel
theorem dL_law_99 : decode cL_law 99 = .ok (.iconst 0, 1) := by decide +kernel
theorem dL_law_100 : decode cL_law 100 = .ok (.istore 12, 2) := by decide +kernel
theorem dL_law_102 : decode cL_law 102 = .ok (.iload 12, 2) := by decide +kernel
theorem dL_law_104 : decode cL_law 104 = .ok (.bipush 70, 2) := by decide +kernel
theorem dL_law_106 : decode cL_law 106 = .ok (.if_icmp .ge 296, 3) := by decide +kernel
theorem dL_law_109 : decode cL_law 109 = .ok (.aload_n 0, 1) := by decide +kernel
theorem dL_law_110 : decode cL_law 110 = .ok (.iload 12, 2) := by decide +kernel
theorem dL_law_112 : decode cL_law 112 = .ok (.invokestatic 109, 3) := by decide +kernel
theorem dL_law_115 : decode cL_law 115 = .ok (.istore 13, 2) := by decide +kernel
theorem dL_law_117 : decode cL_law 117 = .ok (.iload 13, 2) := by decide +kernel
theorem dL_law_119 : decode cL_law 119 = .ok (.bipush 14, 2) := by decide +kernel
theorem dL_law_121 : decode cL_law 121 = .ok (.invokestatic 91, 3) := by decide +kernel
theorem dL_law_124 : decode cL_law 124 = .ok (.istore 14, 2) := by decide +kernel
theorem dL_law_126 : decode cL_law 126 = .ok (.iconst 1, 1) := by decide +kernel
theorem dL_law_127 : decode cL_law 127 = .ok (.istore 15, 2) := by decide +kernel
theorem dL_law_129 : decode cL_law 129 = .ok (.iload 14, 2) := by decide +kernel
theorem dL_law_131 : decode cL_law 131 = .ok (.iconst 4, 1) := by decide +kernel
theorem dL_law_132 : decode cL_law 132 = .ok (.if_icmp .ge 33, 3) := by decide +kernel
theorem dL_law_135 : decode cL_law 135 = .ok (.aload_n 2, 1) := by decide +kernel
theorem dL_law_136 : decode cL_law 136 = .ok (.iconst 0, 1) := by decide +kernel
theorem dL_law_137 : decode cL_law 137 = .ok (.iaload, 1) := by decide +kernel
theorem dL_law_138 : decode cL_law 138 = .ok (.bipush 12, 2) := by decide +kernel
theorem dL_law_140 : decode cL_law 140 = .ok (.if_icmp .ge 25, 3) := by decide +kernel
theorem dL_law_143 : decode cL_law 143 = .ok (.aload_n 1, 1) := by decide +kernel
theorem dL_law_144 : decode cL_law 144 = .ok (.iload 13, 2) := by decide +kernel
theorem dL_law_146 : decode cL_law 146 = .ok (.iconst 4, 1) := by decide +kernel
theorem dL_law_147 : decode cL_law 147 = .ok (.ishr, 1) := by decide +kernel
theorem dL_law_148 : decode cL_law 148 = .ok (.aload_n 2, 1) := by decide +kernel
theorem dL_law_149 : decode cL_law 149 = .ok (.aload 7, 2) := by decide +kernel
theorem dL_law_151 : decode cL_law 151 = .ok (.aload 8, 2) := by decide +kernel
theorem dL_law_153 : decode cL_law 153 = .ok (.aload 9, 2) := by decide +kernel
theorem dL_law_155 : decode cL_law 155 = .ok (.aload 10, 2) := by decide +kernel
theorem dL_law_157 : decode cL_law 157 = .ok (.invokestatic 113, 3) := by decide +kernel
theorem dL_law_160 : decode cL_law 160 = .ok (.istore 15, 2) := by decide +kernel
theorem dL_law_162 : decode cL_law 162 = .ok (.goto 202, 3) := by decide +kernel
theorem dL_law_165 : decode cL_law 165 = .ok (.iload 14, 2) := by decide +kernel
theorem dL_law_167 : decode cL_law 167 = .ok (.bipush 7, 2) := by decide +kernel
theorem dL_law_169 : decode cL_law 169 = .ok (.if_icmp .ge 23, 3) := by decide +kernel
theorem dL_law_172 : decode cL_law 172 = .ok (.aload_n 1, 1) := by decide +kernel
theorem dL_law_173 : decode cL_law 173 = .ok (.iload 13, 2) := by decide +kernel
theorem dL_law_175 : decode cL_law 175 = .ok (.iconst 4, 1) := by decide +kernel
theorem dL_law_176 : decode cL_law 176 = .ok (.ishr, 1) := by decide +kernel
theorem dL_law_177 : decode cL_law 177 = .ok (.aload_n 3, 1) := by decide +kernel
theorem dL_law_178 : decode cL_law 178 = .ok (.aload 4, 2) := by decide +kernel
theorem dL_law_180 : decode cL_law 180 = .ok (.aload 5, 2) := by decide +kernel
theorem dL_law_182 : decode cL_law 182 = .ok (.aload 6, 2) := by decide +kernel
theorem dL_law_184 : decode cL_law 184 = .ok (.invokestatic 115, 3) := by decide +kernel
theorem dL_law_187 : decode cL_law 187 = .ok (.istore 15, 2) := by decide +kernel
theorem dL_law_189 : decode cL_law 189 = .ok (.goto 175, 3) := by decide +kernel
theorem dL_law_192 : decode cL_law 192 = .ok (.iload 14, 2) := by decide +kernel
theorem dL_law_194 : decode cL_law 194 = .ok (.bipush 10, 2) := by decide +kernel
theorem dL_law_196 : decode cL_law 196 = .ok (.if_icmp .ge 18, 3) := by decide +kernel
theorem dL_law_199 : decode cL_law 199 = .ok (.aload_n 1, 1) := by decide +kernel
theorem dL_law_200 : decode cL_law 200 = .ok (.iload 13, 2) := by decide +kernel
theorem dL_law_202 : decode cL_law 202 = .ok (.iconst 4, 1) := by decide +kernel
theorem dL_law_203 : decode cL_law 203 = .ok (.ishr, 1) := by decide +kernel
theorem dL_law_204 : decode cL_law 204 = .ok (.aload_n 2, 1) := by decide +kernel
theorem dL_law_205 : decode cL_law 205 = .ok (.aload_n 3, 1) := by decide +kernel
theorem dL_law_206 : decode cL_law 206 = .ok (.invokestatic 119, 3) := by decide +kernel
theorem dL_law_209 : decode cL_law 209 = .ok (.istore 15, 2) := by decide +kernel
theorem dL_law_211 : decode cL_law 211 = .ok (.goto 153, 3) := by decide +kernel
theorem dL_law_214 : decode cL_law 214 = .ok (.iload 14, 2) := by decide +kernel
theorem dL_law_216 : decode cL_law 216 = .ok (.bipush 12, 2) := by decide +kernel
theorem dL_law_218 : decode cL_law 218 = .ok (.if_icmp .lt 9, 3) := by decide +kernel
theorem dL_law_221 : decode cL_law 221 = .ok (.aload_n 2, 1) := by decide +kernel
theorem dL_law_222 : decode cL_law 222 = .ok (.iconst 0, 1) := by decide +kernel
theorem dL_law_223 : decode cL_law 223 = .ok (.iaload, 1) := by decide +kernel
theorem dL_law_224 : decode cL_law 224 = .ok (.ifCond .ne 82, 3) := by decide +kernel
theorem dL_law_227 : decode cL_law 227 = .ok (.iload 13, 2) := by decide +kernel
theorem dL_law_229 : decode cL_law 229 = .ok (.iconst 4, 1) := by decide +kernel
theorem dL_law_230 : decode cL_law 230 = .ok (.ishr, 1) := by decide +kernel
theorem dL_law_231 : decode cL_law 231 = .ok (.iconst 4, 1) := by decide +kernel
theorem dL_law_232 : decode cL_law 232 = .ok (.invokestatic 91, 3) := by decide +kernel
theorem dL_law_235 : decode cL_law 235 = .ok (.istore 16, 2) := by decide +kernel
theorem dL_law_237 : decode cL_law 237 = .ok (.aload_n 3, 1) := by decide +kernel
theorem dL_law_238 : decode cL_law 238 = .ok (.iconst 4, 1) := by decide +kernel
theorem dL_law_239 : decode cL_law 239 = .ok (.iload 16, 2) := by decide +kernel
theorem dL_law_241 : decode cL_law 241 = .ok (.iadd, 1) := by decide +kernel
theorem dL_law_242 : decode cL_law 242 = .ok (.iaload, 1) := by decide +kernel
theorem dL_law_243 : decode cL_law 243 = .ok (.istore 17, 2) := by decide +kernel
theorem dL_law_245 : decode cL_law 245 = .ok (.aload_n 3, 1) := by decide +kernel
theorem dL_law_246 : decode cL_law 246 = .ok (.iconst 4, 1) := by decide +kernel
theorem dL_law_247 : decode cL_law 247 = .ok (.iload 16, 2) := by decide +kernel
theorem dL_law_249 : decode cL_law 249 = .ok (.iadd, 1) := by decide +kernel
theorem dL_law_250 : decode cL_law 250 = .ok (.iload 13, 2) := by decide +kernel
theorem dL_law_252 : decode cL_law 252 = .ok (.bipush 6, 2) := by decide +kernel
theorem dL_law_254 : decode cL_law 254 = .ok (.ishr, 1) := by decide +kernel
theorem dL_law_255 : decode cL_law 255 = .ok (.iload 13, 2) := by decide +kernel
theorem dL_law_257 : decode cL_law 257 = .ok (.bipush 13, 2) := by decide +kernel
theorem dL_law_259 : decode cL_law 259 = .ok (.ishr, 1) := by decide +kernel
theorem dL_law_260 : decode cL_law 260 = .ok (.iconst 4, 1) := by decide +kernel
theorem dL_law_261 : decode cL_law 261 = .ok (.invokestatic 91, 3) := by decide +kernel
theorem dL_law_264 : decode cL_law 264 = .ok (.ifCond .ne 8, 3) := by decide +kernel
theorem dL_law_267 : decode cL_law 267 = .ok (.ldc 123, 2) := by decide +kernel
theorem dL_law_269 : decode cL_law 269 = .ok (.goto 6, 3) := by decide +kernel
theorem dL_law_272 : decode cL_law 272 = .ok (.sipush 200, 3) := by decide +kernel
theorem dL_law_275 : decode cL_law 275 = .ok (.invokestatic 91, 3) := by decide +kernel
theorem dL_law_278 : decode cL_law 278 = .ok (.iastore, 1) := by decide +kernel
theorem dL_law_279 : decode cL_law 279 = .ok (.aload_n 1, 1) := by decide +kernel
theorem dL_law_280 : decode cL_law 280 = .ok (.iload 16, 2) := by decide +kernel
theorem dL_law_282 : decode cL_law 282 = .ok (.aload_n 3, 1) := by decide +kernel
theorem dL_law_283 : decode cL_law 283 = .ok (.iconst 4, 1) := by decide +kernel
theorem dL_law_284 : decode cL_law 284 = .ok (.iload 16, 2) := by decide +kernel
theorem dL_law_286 : decode cL_law 286 = .ok (.iadd, 1) := by decide +kernel
theorem dL_law_287 : decode cL_law 287 = .ok (.iaload, 1) := by decide +kernel
theorem dL_law_288 : decode cL_law 288 = .ok (.invokevirtual 124, 3) := by decide +kernel
theorem dL_law_291 : decode cL_law 291 = .ok (.iload 17, 2) := by decide +kernel
theorem dL_law_293 : decode cL_law 293 = .ok (.if_icmp .ne 7, 3) := by decide +kernel
theorem dL_law_296 : decode cL_law 296 = .ok (.iconst 1, 1) := by decide +kernel
theorem dL_law_297 : decode cL_law 297 = .ok (.goto 4, 3) := by decide +kernel
theorem dL_law_300 : decode cL_law 300 = .ok (.iconst 0, 1) := by decide +kernel
theorem dL_law_301 : decode cL_law 301 = .ok (.istore 15, 2) := by decide +kernel
theorem dL_law_303 : decode cL_law 303 = .ok (.goto 61, 3) := by decide +kernel
theorem dL_law_306 : decode cL_law 306 = .ok (.iload 13, 2) := by decide +kernel
theorem dL_law_308 : decode cL_law 308 = .ok (.iconst 4, 1) := by decide +kernel
theorem dL_law_309 : decode cL_law 309 = .ok (.ishr, 1) := by decide +kernel
theorem dL_law_310 : decode cL_law 310 = .ok (.aload_n 2, 1) := by decide +kernel
theorem dL_law_311 : decode cL_law 311 = .ok (.iconst 0, 1) := by decide +kernel
theorem dL_law_312 : decode cL_law 312 = .ok (.iaload, 1) := by decide +kernel
theorem dL_law_313 : decode cL_law 313 = .ok (.invokestatic 91, 3) := by decide +kernel
theorem dL_law_316 : decode cL_law 316 = .ok (.istore 16, 2) := by decide +kernel
theorem dL_law_318 : decode cL_law 318 = .ok (.aload 10, 2) := by decide +kernel
theorem dL_law_320 : decode cL_law 320 = .ok (.iload 16, 2) := by decide +kernel
theorem dL_law_322 : decode cL_law 322 = .ok (.iaload, 1) := by decide +kernel
theorem dL_law_323 : decode cL_law 323 = .ok (.istore 17, 2) := by decide +kernel
theorem dL_law_325 : decode cL_law 325 = .ok (.aload 10, 2) := by decide +kernel
theorem dL_law_327 : decode cL_law 327 = .ok (.iload 16, 2) := by decide +kernel
theorem dL_law_329 : decode cL_law 329 = .ok (.iconst 1, 1) := by decide +kernel
theorem dL_law_330 : decode cL_law 330 = .ok (.iload 13, 2) := by decide +kernel
theorem dL_law_332 : decode cL_law 332 = .ok (.bipush 9, 2) := by decide +kernel
theorem dL_law_334 : decode cL_law 334 = .ok (.ishr, 1) := by decide +kernel
theorem dL_law_335 : decode cL_law 335 = .ok (.iconst 3, 1) := by decide +kernel
theorem dL_law_336 : decode cL_law 336 = .ok (.invokestatic 91, 3) := by decide +kernel
theorem dL_law_339 : decode cL_law 339 = .ok (.iadd, 1) := by decide +kernel
theorem dL_law_340 : decode cL_law 340 = .ok (.iastore, 1) := by decide +kernel
theorem dL_law_341 : decode cL_law 341 = .ok (.aload_n 1, 1) := by decide +kernel
theorem dL_law_342 : decode cL_law 342 = .ok (.iload 16, 2) := by decide +kernel
theorem dL_law_344 : decode cL_law 344 = .ok (.aload 10, 2) := by decide +kernel
theorem dL_law_346 : decode cL_law 346 = .ok (.iload 16, 2) := by decide +kernel
theorem dL_law_348 : decode cL_law 348 = .ok (.iaload, 1) := by decide +kernel
theorem dL_law_349 : decode cL_law 349 = .ok (.invokevirtual 127, 3) := by decide +kernel
theorem dL_law_352 : decode cL_law 352 = .ok (.iload 17, 2) := by decide +kernel
theorem dL_law_354 : decode cL_law 354 = .ok (.if_icmp .ne 7, 3) := by decide +kernel
theorem dL_law_357 : decode cL_law 357 = .ok (.iconst 1, 1) := by decide +kernel
theorem dL_law_358 : decode cL_law 358 = .ok (.goto 4, 3) := by decide +kernel
theorem dL_law_361 : decode cL_law 361 = .ok (.iconst 0, 1) := by decide +kernel
theorem dL_law_362 : decode cL_law 362 = .ok (.istore 15, 2) := by decide +kernel
theorem dL_law_364 : decode cL_law 364 = .ok (.iload 15, 2) := by decide +kernel
theorem dL_law_366 : decode cL_law 366 = .ok (.ifCond .eq 28, 3) := by decide +kernel
theorem dL_law_369 : decode cL_law 369 = .ok (.aload_n 1, 1) := by decide +kernel
theorem dL_law_370 : decode cL_law 370 = .ok (.aload_n 2, 1) := by decide +kernel
theorem dL_law_371 : decode cL_law 371 = .ok (.aload_n 3, 1) := by decide +kernel
theorem dL_law_372 : decode cL_law 372 = .ok (.aload 4, 2) := by decide +kernel
theorem dL_law_374 : decode cL_law 374 = .ok (.aload 5, 2) := by decide +kernel
theorem dL_law_376 : decode cL_law 376 = .ok (.aload 6, 2) := by decide +kernel
theorem dL_law_378 : decode cL_law 378 = .ok (.aload 7, 2) := by decide +kernel
theorem dL_law_380 : decode cL_law 380 = .ok (.aload 8, 2) := by decide +kernel
theorem dL_law_382 : decode cL_law 382 = .ok (.aload 9, 2) := by decide +kernel
theorem dL_law_384 : decode cL_law 384 = .ok (.aload 10, 2) := by decide +kernel
theorem dL_law_386 : decode cL_law 386 = .ok (.aload 11, 2) := by decide +kernel
theorem dL_law_388 : decode cL_law 388 = .ok (.invokestatic 130, 3) := by decide +kernel
theorem dL_law_391 : decode cL_law 391 = .ok (.ifCond .ne 5, 3) := by decide +kernel
theorem dL_law_394 : decode cL_law 394 = .ok (.iconst 0, 1) := by decide +kernel
theorem dL_law_395 : decode cL_law 395 = .ok (.ireturn, 1) := by decide +kernel
theorem dL_law_396 : decode cL_law 396 = .ok (.iinc 12 1, 3) := by decide +kernel
theorem dL_law_399 : decode cL_law 399 = .ok (.goto (-297), 3) := by decide +kernel
theorem dL_law_402 : decode cL_law 402 = .ok (.iconst 1, 1) := by decide +kernel
theorem dL_law_403 : decode cL_law 403 = .ok (.ireturn, 1) := by decide +kernel
