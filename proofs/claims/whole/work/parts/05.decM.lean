theorem dX5_init_0 : decode cX5_init 0 = .ok (.aload_n 0, 1) := by decide +kernel
theorem dX5_init_1 : decode cX5_init 1 = .ok (.invokespecial 1, 3) := by decide +kernel
theorem dX5_init_4 : decode cX5_init 4 = .ok (.aload_n 0, 1) := by decide +kernel
theorem dX5_init_5 : decode cX5_init 5 = .ok (.iconst 4, 1) := by decide +kernel
theorem dX5_init_6 : decode cX5_init 6 = .ok (.newarray .int, 2) := by decide +kernel
theorem dX5_init_8 : decode cX5_init 8 = .ok (.putfield 7, 3) := by decide +kernel
theorem dX5_init_11 : decode cX5_init 11 = .ok (.aload_n 0, 1) := by decide +kernel
theorem dX5_init_12 : decode cX5_init 12 = .ok (.bipush 120, 2) := by decide +kernel
theorem dX5_init_14 : decode cX5_init 14 = .ok (.newarray .int, 2) := by decide +kernel
theorem dX5_init_16 : decode cX5_init 16 = .ok (.putfield 13, 3) := by decide +kernel
theorem dX5_init_19 : decode cX5_init 19 = .ok (.aload_n 0, 1) := by decide +kernel
theorem dX5_init_20 : decode cX5_init 20 = .ok (.bipush 120, 2) := by decide +kernel
theorem dX5_init_22 : decode cX5_init 22 = .ok (.newarray .int, 2) := by decide +kernel
theorem dX5_init_24 : decode cX5_init 24 = .ok (.putfield 16, 3) := by decide +kernel
theorem dX5_init_27 : decode cX5_init 27 = .ok (.aload_n 0, 1) := by decide +kernel
theorem dX5_init_28 : decode cX5_init 28 = .ok (.bipush 120, 2) := by decide +kernel
theorem dX5_init_30 : decode cX5_init 30 = .ok (.newarray .int, 2) := by decide +kernel
theorem dX5_init_32 : decode cX5_init 32 = .ok (.putfield 19, 3) := by decide +kernel
theorem dX5_init_35 : decode cX5_init 35 = .ok (.aload_n 0, 1) := by decide +kernel
theorem dX5_init_36 : decode cX5_init 36 = .ok (.bipush 30, 2) := by decide +kernel
theorem dX5_init_38 : decode cX5_init 38 = .ok (.newarray .boolean, 2) := by decide +kernel
theorem dX5_init_40 : decode cX5_init 40 = .ok (.putfield 22, 3) := by decide +kernel
theorem dX5_init_43 : decode cX5_init 43 = .ok (.aload_n 0, 1) := by decide +kernel
theorem dX5_init_44 : decode cX5_init 44 = .ok (.bipush 30, 2) := by decide +kernel
theorem dX5_init_46 : decode cX5_init 46 = .ok (.newarray .int, 2) := by decide +kernel
theorem dX5_init_48 : decode cX5_init 48 = .ok (.putfield 26, 3) := by decide +kernel
theorem dX5_init_51 : decode cX5_init 51 = .ok (.aload_n 0, 1) := by decide +kernel
theorem dX5_init_52 : decode cX5_init 52 = .ok (.iconst 2, 1) := by decide +kernel
theorem dX5_init_53 : decode cX5_init 53 = .ok (.putfield 29, 3) := by decide +kernel
theorem dX5_init_56 : decode cX5_init 56 = .ok (.aload_n 0, 1) := by decide +kernel
theorem dX5_init_57 : decode cX5_init 57 = .ok (.bipush 60, 2) := by decide +kernel
theorem dX5_init_59 : decode cX5_init 59 = .ok (.newarray .int, 2) := by decide +kernel
theorem dX5_init_61 : decode cX5_init 61 = .ok (.putfield 33, 3) := by decide +kernel
theorem dX5_init_64 : decode cX5_init 64 = .ok (.aload_n 0, 1) := by decide +kernel
theorem dX5_init_65 : decode cX5_init 65 = .ok (.bipush 60, 2) := by decide +kernel
theorem dX5_init_67 : decode cX5_init 67 = .ok (.newarray .int, 2) := by decide +kernel
theorem dX5_init_69 : decode cX5_init 69 = .ok (.putfield 36, 3) := by decide +kernel
theorem dX5_init_72 : decode cX5_init 72 = .ok (.aload_n 0, 1) := by decide +kernel
theorem dX5_init_73 : decode cX5_init 73 = .ok (.sipush 240, 3) := by decide +kernel
theorem dX5_init_76 : decode cX5_init 76 = .ok (.newarray .int, 2) := by decide +kernel
theorem dX5_init_78 : decode cX5_init 78 = .ok (.putfield 39, 3) := by decide +kernel
theorem dX5_init_81 : decode cX5_init 81 = .ok (.aload_n 0, 1) := by decide +kernel
theorem dX5_init_82 : decode cX5_init 82 = .ok (.bipush 60, 2) := by decide +kernel
theorem dX5_init_84 : decode cX5_init 84 = .ok (.newarray .int, 2) := by decide +kernel
theorem dX5_init_86 : decode cX5_init 86 = .ok (.putfield 42, 3) := by decide +kernel
theorem dX5_init_89 : decode cX5_init 89 = .ok (.aload_n 0, 1) := by decide +kernel
theorem dX5_init_90 : decode cX5_init 90 = .ok (.iconst 4, 1) := by decide +kernel
theorem dX5_init_91 : decode cX5_init 91 = .ok (.newarray .int, 2) := by decide +kernel
theorem dX5_init_93 : decode cX5_init 93 = .ok (.putfield 45, 3) := by decide +kernel
theorem dX5_init_96 : decode cX5_init 96 = .ok (.aload_n 0, 1) := by decide +kernel
theorem dX5_init_97 : decode cX5_init 97 = .ok (.bipush 100, 2) := by decide +kernel
theorem dX5_init_99 : decode cX5_init 99 = .ok (.putfield 48, 3) := by decide +kernel
theorem dX5_init_102 : decode cX5_init 102 = .ok (.aload_n 0, 1) := by decide +kernel
theorem dX5_init_103 : decode cX5_init 103 = .ok (.bipush 60, 2) := by decide +kernel
theorem dX5_init_105 : decode cX5_init 105 = .ok (.newarray .int, 2) := by decide +kernel
theorem dX5_init_107 : decode cX5_init 107 = .ok (.putfield 51, 3) := by decide +kernel
theorem dX5_init_110 : decode cX5_init 110 = .ok (.aload_n 0, 1) := by decide +kernel
theorem dX5_init_111 : decode cX5_init 111 = .ok (.sipush 240, 3) := by decide +kernel
theorem dX5_init_114 : decode cX5_init 114 = .ok (.newarray .int, 2) := by decide +kernel
theorem dX5_init_116 : decode cX5_init 116 = .ok (.putfield 54, 3) := by decide +kernel
theorem dX5_init_119 : decode cX5_init 119 = .ok (.aload_n 0, 1) := by decide +kernel
theorem dX5_init_120 : decode cX5_init 120 = .ok (.bipush 20, 2) := by decide +kernel
theorem dX5_init_122 : decode cX5_init 122 = .ok (.newarray .boolean, 2) := by decide +kernel
theorem dX5_init_124 : decode cX5_init 124 = .ok (.putfield 57, 3) := by decide +kernel
theorem dX5_init_127 : decode cX5_init 127 = .ok (.iconst 0, 1) := by decide +kernel
theorem dX5_init_128 : decode cX5_init 128 = .ok (.istore_n 1, 1) := by decide +kernel
theorem dX5_init_129 : decode cX5_init 129 = .ok (.iload_n 1, 1) := by decide +kernel
theorem dX5_init_130 : decode cX5_init 130 = .ok (.bipush 30, 2) := by decide +kernel
theorem dX5_init_132 : decode cX5_init 132 = .ok (.if_icmp .ge 16, 3) := by decide +kernel
theorem dX5_init_135 : decode cX5_init 135 = .ok (.aload_n 0, 1) := by decide +kernel
theorem dX5_init_136 : decode cX5_init 136 = .ok (.getfield 26, 3) := by decide +kernel
theorem dX5_init_139 : decode cX5_init 139 = .ok (.iload_n 1, 1) := by decide +kernel
theorem dX5_init_140 : decode cX5_init 140 = .ok (.iload_n 1, 1) := by decide +kernel
theorem dX5_init_141 : decode cX5_init 141 = .ok (.iastore, 1) := by decide +kernel
theorem dX5_init_142 : decode cX5_init 142 = .ok (.iinc 1 1, 3) := by decide +kernel
theorem dX5_init_145 : decode cX5_init 145 = .ok (.goto (-16), 3) := by decide +kernel
theorem dX5_init_148 : decode cX5_init 148 = .ok (.return_, 1) := by decide +kernel
theorem dX5_thrown_0 : decode cX5_thrown 0 = .ok (.aload_n 0, 1) := by decide +kernel
theorem dX5_thrown_1 : decode cX5_thrown 1 = .ok (.getfield 60, 3) := by decide +kernel
theorem dX5_thrown_4 : decode cX5_thrown 4 = .ok (.ireturn, 1) := by decide +kernel
theorem dX5_fails_0 : decode cX5_fails 0 = .ok (.aload_n 0, 1) := by decide +kernel
theorem dX5_fails_1 : decode cX5_fails 1 = .ok (.iload_n 1, 1) := by decide +kernel
theorem dX5_fails_2 : decode cX5_fails 2 = .ok (.putfield 60, 3) := by decide +kernel
theorem dX5_fails_5 : decode cX5_fails 5 = .ok (.iconst 0, 1) := by decide +kernel
theorem dX5_fails_6 : decode cX5_fails 6 = .ok (.ireturn, 1) := by decide +kernel
theorem dX5_in_0 : decode cX5_in 0 = .ok (.iload_n 0, 1) := by decide +kernel
theorem dX5_in_1 : decode cX5_in 1 = .ok (.iload_n 1, 1) := by decide +kernel
theorem dX5_in_2 : decode cX5_in 2 = .ok (.if_icmp .lt 12, 3) := by decide +kernel
theorem dX5_in_5 : decode cX5_in 5 = .ok (.iload_n 0, 1) := by decide +kernel
theorem dX5_in_6 : decode cX5_in 6 = .ok (.iload_n 2, 1) := by decide +kernel
theorem dX5_in_7 : decode cX5_in 7 = .ok (.if_icmp .gt 7, 3) := by decide +kernel
theorem dX5_in_10 : decode cX5_in 10 = .ok (.iconst 1, 1) := by decide +kernel
theorem dX5_in_11 : decode cX5_in 11 = .ok (.goto 4, 3) := by decide +kernel
theorem dX5_in_14 : decode cX5_in 14 = .ok (.iconst 0, 1) := by decide +kernel
theorem dX5_in_15 : decode cX5_in 15 = .ok (.ireturn, 1) := by decide +kernel
set_option maxRecDepth 20000 in
theorem ggX5_isVersion_X5_in : GoodIn wsX5_isVersion wsX5_in := goodIn_r _ [4] (by decide +kernel) (by decide +kernel)
set_option maxRecDepth 20000 in
theorem gX5_isVersion_X5_in : GoodIn wsX5_isVersion (va_wsS RX5 63 yX5_in wsX5_in) := goodIn_app (goodIn_of _ (by decide +kernel)) ggX5_isVersion_X5_in
theorem dX5_isVersion_0 : decode cX5_isVersion 0 = .ok (.iload_n 0, 1) := by decide +kernel
theorem dX5_isVersion_1 : decode cX5_isVersion 1 = .ok (.iconst 0, 1) := by decide +kernel
theorem dX5_isVersion_2 : decode cX5_isVersion 2 = .ok (.iconst 3, 1) := by decide +kernel
theorem dX5_isVersion_3 : decode cX5_isVersion 3 = .ok (.invokestatic 63, 3) := by decide +kernel
theorem dX5_isVersion_6 : decode cX5_isVersion 6 = .ok (.ireturn, 1) := by decide +kernel
set_option maxRecDepth 20000 in
theorem ggX5_isFunction_X5_in : GoodIn wsX5_isFunction wsX5_in := goodIn_r _ [4] (by decide +kernel) (by decide +kernel)
set_option maxRecDepth 20000 in
theorem gX5_isFunction_X5_in : GoodIn wsX5_isFunction (va_wsS RX5 63 yX5_in wsX5_in) := goodIn_app (goodIn_of _ (by decide +kernel)) ggX5_isFunction_X5_in
theorem dX5_isFunction_0 : decode cX5_isFunction 0 = .ok (.iload_n 0, 1) := by decide +kernel
theorem dX5_isFunction_1 : decode cX5_isFunction 1 = .ok (.iconst 0, 1) := by decide +kernel
theorem dX5_isFunction_2 : decode cX5_isFunction 2 = .ok (.bipush 29, 2) := by decide +kernel
theorem dX5_isFunction_4 : decode cX5_isFunction 4 = .ok (.invokestatic 63, 3) := by decide +kernel
theorem dX5_isFunction_7 : decode cX5_isFunction 7 = .ok (.ireturn, 1) := by decide +kernel
set_option maxRecDepth 20000 in
theorem ggX5_isAddress_X5_in : GoodIn wsX5_isAddress wsX5_in := goodIn_r _ [4] (by decide +kernel) (by decide +kernel)
set_option maxRecDepth 20000 in
theorem gX5_isAddress_X5_in : GoodIn wsX5_isAddress (va_wsS RX5 63 yX5_in wsX5_in) := goodIn_app (goodIn_of _ (by decide +kernel)) ggX5_isAddress_X5_in
theorem dX5_isAddress_0 : decode cX5_isAddress 0 = .ok (.iload_n 0, 1) := by decide +kernel
theorem dX5_isAddress_1 : decode cX5_isAddress 1 = .ok (.iconst 0, 1) := by decide +kernel
theorem dX5_isAddress_2 : decode cX5_isAddress 2 = .ok (.sipush 9999, 3) := by decide +kernel
theorem dX5_isAddress_5 : decode cX5_isAddress 5 = .ok (.invokestatic 63, 3) := by decide +kernel
theorem dX5_isAddress_8 : decode cX5_isAddress 8 = .ok (.ireturn, 1) := by decide +kernel
set_option maxRecDepth 20000 in
theorem ggX5_isReport_X5_in : GoodIn wsX5_isReport wsX5_in := goodIn_r _ [5] (by decide +kernel) (by decide +kernel)
set_option maxRecDepth 20000 in
theorem gX5_isReport_X5_in : GoodIn wsX5_isReport (va_wsS RX5 63 yX5_in wsX5_in) := goodIn_app (goodIn_of _ (by decide +kernel)) ggX5_isReport_X5_in
theorem dX5_isReport_0 : decode cX5_isReport 0 = .ok (.iload_n 1, 1) := by decide +kernel
theorem dX5_isReport_1 : decode cX5_isReport 1 = .ok (.iconst 0, 1) := by decide +kernel
theorem dX5_isReport_2 : decode cX5_isReport 2 = .ok (.aload_n 0, 1) := by decide +kernel
theorem dX5_isReport_3 : decode cX5_isReport 3 = .ok (.getfield 67, 3) := by decide +kernel
theorem dX5_isReport_6 : decode cX5_isReport 6 = .ok (.iconst 1, 1) := by decide +kernel
theorem dX5_isReport_7 : decode cX5_isReport 7 = .ok (.isub, 1) := by decide +kernel
theorem dX5_isReport_8 : decode cX5_isReport 8 = .ok (.invokestatic 63, 3) := by decide +kernel
theorem dX5_isReport_11 : decode cX5_isReport 11 = .ok (.ireturn, 1) := by decide +kernel
set_option maxRecDepth 20000 in
theorem ggX5_addRange_X5_isVersion : GoodIn wsX5_addRange wsX5_isVersion := goodIn_r _ [9, 10, 11, 8, 12] (by decide +kernel) (by decide +kernel)
set_option maxRecDepth 20000 in
theorem gX5_addRange_X5_isVersion : GoodIn wsX5_addRange (va_wsS RX5 70 yX5_isVersion wsX5_isVersion) := goodIn_app (goodIn_of _ (by decide +kernel)) ggX5_addRange_X5_isVersion
set_option maxRecDepth 20000 in
theorem ggX5_addRange_X5_isAddress : GoodIn wsX5_addRange wsX5_isAddress := goodIn_r _ [15, 10, 11, 8, 12] (by decide +kernel) (by decide +kernel)
set_option maxRecDepth 20000 in
theorem gX5_addRange_X5_isAddress : GoodIn wsX5_addRange (va_wsS RX5 74 yX5_isAddress wsX5_isAddress) := goodIn_app (goodIn_of _ (by decide +kernel)) ggX5_addRange_X5_isAddress
set_option maxRecDepth 20000 in
theorem ggX5_addRange_X5_in : GoodIn wsX5_addRange wsX5_in := goodIn_r _ [12] (by decide +kernel) (by decide +kernel)
set_option maxRecDepth 20000 in
theorem gX5_addRange_X5_in : GoodIn wsX5_addRange (va_wsS RX5 63 yX5_in wsX5_in) := goodIn_app (goodIn_of _ (by decide +kernel)) ggX5_addRange_X5_in
set_option maxRecDepth 20000 in
theorem ggX5_addRange_X5_isFunction : GoodIn wsX5_addRange wsX5_isFunction := goodIn_r _ [18, 10, 11, 8, 12] (by decide +kernel) (by decide +kernel)
set_option maxRecDepth 20000 in
theorem gX5_addRange_X5_isFunction : GoodIn wsX5_addRange (va_wsS RX5 77 yX5_isFunction wsX5_isFunction) := goodIn_app (goodIn_of _ (by decide +kernel)) ggX5_addRange_X5_isFunction
set_option maxRecDepth 20000 in
theorem ggX5_addRange_X5_fails : GoodIn wsX5_addRange wsX5_fails := goodIn_r _ [22, 1, 23, 24, 25, 26, 27, 28, 29, 30, 31, 32, 33, 34, 35, 36, 37, 38, 39, 40] (by decide +kernel) (by decide +kernel)
set_option maxRecDepth 20000 in
theorem gX5_addRange_X5_fails : GoodIn wsX5_addRange (wsV RX5 80 RX5 yX5_fails wsX5_fails) := goodIn_app (goodIn_of _ (by decide +kernel)) ggX5_addRange_X5_fails
theorem dX5_addRange_0 : decode cX5_addRange 0 = .ok (.aload_n 0, 1) := by decide +kernel
theorem dX5_addRange_1 : decode cX5_addRange 1 = .ok (.iconst 0, 1) := by decide +kernel
theorem dX5_addRange_2 : decode cX5_addRange 2 = .ok (.putfield 60, 3) := by decide +kernel
theorem dX5_addRange_5 : decode cX5_addRange 5 = .ok (.iload_n 1, 1) := by decide +kernel
theorem dX5_addRange_6 : decode cX5_addRange 6 = .ok (.invokestatic 70, 3) := by decide +kernel
theorem dX5_addRange_9 : decode cX5_addRange 9 = .ok (.ifCond .eq 29, 3) := by decide +kernel
theorem dX5_addRange_12 : decode cX5_addRange 12 = .ok (.iload_n 2, 1) := by decide +kernel
theorem dX5_addRange_13 : decode cX5_addRange 13 = .ok (.invokestatic 74, 3) := by decide +kernel
theorem dX5_addRange_16 : decode cX5_addRange 16 = .ok (.ifCond .eq 22, 3) := by decide +kernel
theorem dX5_addRange_19 : decode cX5_addRange 19 = .ok (.iload_n 3, 1) := by decide +kernel
theorem dX5_addRange_20 : decode cX5_addRange 20 = .ok (.iload_n 2, 1) := by decide +kernel
theorem dX5_addRange_21 : decode cX5_addRange 21 = .ok (.sipush 9999, 3) := by decide +kernel
theorem dX5_addRange_24 : decode cX5_addRange 24 = .ok (.invokestatic 63, 3) := by decide +kernel
theorem dX5_addRange_27 : decode cX5_addRange 27 = .ok (.ifCond .eq 11, 3) := by decide +kernel
theorem dX5_addRange_30 : decode cX5_addRange 30 = .ok (.iload 4, 2) := by decide +kernel
theorem dX5_addRange_32 : decode cX5_addRange 32 = .ok (.invokestatic 77, 3) := by decide +kernel
theorem dX5_addRange_35 : decode cX5_addRange 35 = .ok (.ifCond .ne 9, 3) := by decide +kernel
theorem dX5_addRange_38 : decode cX5_addRange 38 = .ok (.aload_n 0, 1) := by decide +kernel
theorem dX5_addRange_39 : decode cX5_addRange 39 = .ok (.iconst 1, 1) := by decide +kernel
theorem dX5_addRange_40 : decode cX5_addRange 40 = .ok (.invokevirtual 80, 3) := by decide +kernel
theorem dX5_addRange_43 : decode cX5_addRange 43 = .ok (.ireturn, 1) := by decide +kernel
theorem dX5_addRange_44 : decode cX5_addRange 44 = .ok (.aload_n 0, 1) := by decide +kernel
theorem dX5_addRange_45 : decode cX5_addRange 45 = .ok (.getfield 7, 3) := by decide +kernel
theorem dX5_addRange_48 : decode cX5_addRange 48 = .ok (.iload_n 1, 1) := by decide +kernel
theorem dX5_addRange_49 : decode cX5_addRange 49 = .ok (.iaload, 1) := by decide +kernel
theorem dX5_addRange_50 : decode cX5_addRange 50 = .ok (.bipush 30, 2) := by decide +kernel
theorem dX5_addRange_52 : decode cX5_addRange 52 = .ok (.if_icmp .ne 7, 3) := by decide +kernel
theorem dX5_addRange_55 : decode cX5_addRange 55 = .ok (.iconst 1, 1) := by decide +kernel
theorem dX5_addRange_56 : decode cX5_addRange 56 = .ok (.goto 4, 3) := by decide +kernel
theorem dX5_addRange_59 : decode cX5_addRange 59 = .ok (.iconst 0, 1) := by decide +kernel
theorem dX5_addRange_60 : decode cX5_addRange 60 = .ok (.istore 5, 2) := by decide +kernel
theorem dX5_addRange_62 : decode cX5_addRange 62 = .ok (.bipush 30, 2) := by decide +kernel
theorem dX5_addRange_64 : decode cX5_addRange 64 = .ok (.iload_n 1, 1) := by decide +kernel
theorem dX5_addRange_65 : decode cX5_addRange 65 = .ok (.imul, 1) := by decide +kernel
theorem dX5_addRange_66 : decode cX5_addRange 66 = .ok (.istore 6, 2) := by decide +kernel
theorem dX5_addRange_68 : decode cX5_addRange 68 = .ok (.iload 6, 2) := by decide +kernel
theorem dX5_addRange_70 : decode cX5_addRange 70 = .ok (.bipush 30, 2) := by decide +kernel
theorem dX5_addRange_72 : decode cX5_addRange 72 = .ok (.iload_n 1, 1) := by decide +kernel
theorem dX5_addRange_73 : decode cX5_addRange 73 = .ok (.imul, 1) := by decide +kernel
theorem dX5_addRange_74 : decode cX5_addRange 74 = .ok (.aload_n 0, 1) := by decide +kernel
theorem dX5_addRange_75 : decode cX5_addRange 75 = .ok (.getfield 7, 3) := by decide +kernel
theorem dX5_addRange_78 : decode cX5_addRange 78 = .ok (.iload_n 1, 1) := by decide +kernel
theorem dX5_addRange_79 : decode cX5_addRange 79 = .ok (.iaload, 1) := by decide +kernel
theorem dX5_addRange_80 : decode cX5_addRange 80 = .ok (.iadd, 1) := by decide +kernel
theorem dX5_addRange_81 : decode cX5_addRange 81 = .ok (.if_icmp .ge 43, 3) := by decide +kernel
theorem dX5_addRange_84 : decode cX5_addRange 84 = .ok (.iload 5, 2) := by decide +kernel
theorem dX5_addRange_86 : decode cX5_addRange 86 = .ok (.ifCond .ne 25, 3) := by decide +kernel
theorem dX5_addRange_89 : decode cX5_addRange 89 = .ok (.iload_n 2, 1) := by decide +kernel
theorem dX5_addRange_90 : decode cX5_addRange 90 = .ok (.aload_n 0, 1) := by decide +kernel
theorem dX5_addRange_91 : decode cX5_addRange 91 = .ok (.getfield 16, 3) := by decide +kernel
theorem dX5_addRange_94 : decode cX5_addRange 94 = .ok (.iload 6, 2) := by decide +kernel
theorem dX5_addRange_96 : decode cX5_addRange 96 = .ok (.iaload, 1) := by decide +kernel
theorem dX5_addRange_97 : decode cX5_addRange 97 = .ok (.if_icmp .gt 18, 3) := by decide +kernel
theorem dX5_addRange_100 : decode cX5_addRange 100 = .ok (.aload_n 0, 1) := by decide +kernel
theorem dX5_addRange_101 : decode cX5_addRange 101 = .ok (.getfield 13, 3) := by decide +kernel
theorem dX5_addRange_104 : decode cX5_addRange 104 = .ok (.iload 6, 2) := by decide +kernel
theorem dX5_addRange_106 : decode cX5_addRange 106 = .ok (.iaload, 1) := by decide +kernel
theorem dX5_addRange_107 : decode cX5_addRange 107 = .ok (.iload_n 3, 1) := by decide +kernel
theorem dX5_addRange_108 : decode cX5_addRange 108 = .ok (.if_icmp .gt 7, 3) := by decide +kernel
theorem dX5_addRange_111 : decode cX5_addRange 111 = .ok (.iconst 1, 1) := by decide +kernel
theorem dX5_addRange_112 : decode cX5_addRange 112 = .ok (.goto 4, 3) := by decide +kernel
theorem dX5_addRange_115 : decode cX5_addRange 115 = .ok (.iconst 0, 1) := by decide +kernel
theorem dX5_addRange_116 : decode cX5_addRange 116 = .ok (.istore 5, 2) := by decide +kernel
theorem dX5_addRange_118 : decode cX5_addRange 118 = .ok (.iinc 6 1, 3) := by decide +kernel
theorem dX5_addRange_121 : decode cX5_addRange 121 = .ok (.goto (-53), 3) := by decide +kernel
theorem dX5_addRange_124 : decode cX5_addRange 124 = .ok (.iload 5, 2) := by decide +kernel
theorem dX5_addRange_126 : decode cX5_addRange 126 = .ok (.ifCond .eq 9, 3) := by decide +kernel
theorem dX5_addRange_129 : decode cX5_addRange 129 = .ok (.aload_n 0, 1) := by decide +kernel
theorem dX5_addRange_130 : decode cX5_addRange 130 = .ok (.iconst 2, 1) := by decide +kernel
theorem dX5_addRange_131 : decode cX5_addRange 131 = .ok (.invokevirtual 80, 3) := by decide +kernel
theorem dX5_addRange_134 : decode cX5_addRange 134 = .ok (.ireturn, 1) := by decide +kernel
theorem dX5_addRange_135 : decode cX5_addRange 135 = .ok (.bipush 30, 2) := by decide +kernel
theorem dX5_addRange_137 : decode cX5_addRange 137 = .ok (.iload_n 1, 1) := by decide +kernel
theorem dX5_addRange_138 : decode cX5_addRange 138 = .ok (.imul, 1) := by decide +kernel
theorem dX5_addRange_139 : decode cX5_addRange 139 = .ok (.aload_n 0, 1) := by decide +kernel
theorem dX5_addRange_140 : decode cX5_addRange 140 = .ok (.getfield 7, 3) := by decide +kernel
theorem dX5_addRange_143 : decode cX5_addRange 143 = .ok (.iload_n 1, 1) := by decide +kernel
theorem dX5_addRange_144 : decode cX5_addRange 144 = .ok (.iaload, 1) := by decide +kernel
theorem dX5_addRange_145 : decode cX5_addRange 145 = .ok (.iadd, 1) := by decide +kernel
theorem dX5_addRange_146 : decode cX5_addRange 146 = .ok (.istore 6, 2) := by decide +kernel
theorem dX5_addRange_148 : decode cX5_addRange 148 = .ok (.aload_n 0, 1) := by decide +kernel
theorem dX5_addRange_149 : decode cX5_addRange 149 = .ok (.getfield 13, 3) := by decide +kernel
theorem dX5_addRange_152 : decode cX5_addRange 152 = .ok (.iload 6, 2) := by decide +kernel
theorem dX5_addRange_154 : decode cX5_addRange 154 = .ok (.iload_n 2, 1) := by decide +kernel
theorem dX5_addRange_155 : decode cX5_addRange 155 = .ok (.iastore, 1) := by decide +kernel
theorem dX5_addRange_156 : decode cX5_addRange 156 = .ok (.aload_n 0, 1) := by decide +kernel
theorem dX5_addRange_157 : decode cX5_addRange 157 = .ok (.getfield 16, 3) := by decide +kernel
theorem dX5_addRange_160 : decode cX5_addRange 160 = .ok (.iload 6, 2) := by decide +kernel
theorem dX5_addRange_162 : decode cX5_addRange 162 = .ok (.iload_n 3, 1) := by decide +kernel
theorem dX5_addRange_163 : decode cX5_addRange 163 = .ok (.iastore, 1) := by decide +kernel
theorem dX5_addRange_164 : decode cX5_addRange 164 = .ok (.aload_n 0, 1) := by decide +kernel
theorem dX5_addRange_165 : decode cX5_addRange 165 = .ok (.getfield 19, 3) := by decide +kernel
theorem dX5_addRange_168 : decode cX5_addRange 168 = .ok (.iload 6, 2) := by decide +kernel
theorem dX5_addRange_170 : decode cX5_addRange 170 = .ok (.iload 4, 2) := by decide +kernel
theorem dX5_addRange_172 : decode cX5_addRange 172 = .ok (.iastore, 1) := by decide +kernel
theorem dX5_addRange_173 : decode cX5_addRange 173 = .ok (.aload_n 0, 1) := by decide +kernel
theorem dX5_addRange_174 : decode cX5_addRange 174 = .ok (.getfield 7, 3) := by decide +kernel
theorem dX5_addRange_177 : decode cX5_addRange 177 = .ok (.iload_n 1, 1) := by decide +kernel
theorem dX5_addRange_178 : decode cX5_addRange 178 = .ok (.dup2, 1) := by decide +kernel
theorem dX5_addRange_179 : decode cX5_addRange 179 = .ok (.iaload, 1) := by decide +kernel
theorem dX5_addRange_180 : decode cX5_addRange 180 = .ok (.iconst 1, 1) := by decide +kernel
theorem dX5_addRange_181 : decode cX5_addRange 181 = .ok (.iadd, 1) := by decide +kernel
theorem dX5_addRange_182 : decode cX5_addRange 182 = .ok (.iastore, 1) := by decide +kernel
theorem dX5_addRange_183 : decode cX5_addRange 183 = .ok (.aload_n 0, 1) := by decide +kernel
theorem dX5_addRange_184 : decode cX5_addRange 184 = .ok (.getfield 7, 3) := by decide +kernel
theorem dX5_addRange_187 : decode cX5_addRange 187 = .ok (.iload_n 1, 1) := by decide +kernel
theorem dX5_addRange_188 : decode cX5_addRange 188 = .ok (.iaload, 1) := by decide +kernel
theorem dX5_addRange_189 : decode cX5_addRange 189 = .ok (.ireturn, 1) := by decide +kernel
set_option maxRecDepth 20000 in
theorem ggX5_ignore_X5_isFunction : GoodIn wsX5_ignore wsX5_isFunction := goodIn_r _ [6, 7, 8, 5, 9] (by decide +kernel) (by decide +kernel)
set_option maxRecDepth 20000 in
theorem gX5_ignore_X5_isFunction : GoodIn wsX5_ignore (va_wsS RX5 77 yX5_isFunction wsX5_isFunction) := goodIn_app (goodIn_of _ (by decide +kernel)) ggX5_ignore_X5_isFunction
theorem dX5_ignore_0 : decode cX5_ignore 0 = .ok (.aload_n 0, 1) := by decide +kernel
theorem dX5_ignore_1 : decode cX5_ignore 1 = .ok (.iload_n 1, 1) := by decide +kernel
theorem dX5_ignore_2 : decode cX5_ignore 2 = .ok (.invokestatic 77, 3) := by decide +kernel
theorem dX5_ignore_5 : decode cX5_ignore 5 = .ok (.ifCond .eq 7, 3) := by decide +kernel
theorem dX5_ignore_8 : decode cX5_ignore 8 = .ok (.iconst 0, 1) := by decide +kernel
theorem dX5_ignore_9 : decode cX5_ignore 9 = .ok (.goto 4, 3) := by decide +kernel
theorem dX5_ignore_12 : decode cX5_ignore 12 = .ok (.iconst 1, 1) := by decide +kernel
theorem dX5_ignore_13 : decode cX5_ignore 13 = .ok (.putfield 60, 3) := by decide +kernel
theorem dX5_ignore_16 : decode cX5_ignore 16 = .ok (.aload_n 0, 1) := by decide +kernel
theorem dX5_ignore_17 : decode cX5_ignore 17 = .ok (.getfield 60, 3) := by decide +kernel
theorem dX5_ignore_20 : decode cX5_ignore 20 = .ok (.ifCond .le 5, 3) := by decide +kernel
theorem dX5_ignore_23 : decode cX5_ignore 23 = .ok (.iconst 0, 1) := by decide +kernel
theorem dX5_ignore_24 : decode cX5_ignore 24 = .ok (.ireturn, 1) := by decide +kernel
theorem dX5_ignore_25 : decode cX5_ignore 25 = .ok (.aload_n 0, 1) := by decide +kernel
theorem dX5_ignore_26 : decode cX5_ignore 26 = .ok (.getfield 22, 3) := by decide +kernel
theorem dX5_ignore_29 : decode cX5_ignore 29 = .ok (.iload_n 1, 1) := by decide +kernel
theorem dX5_ignore_30 : decode cX5_ignore 30 = .ok (.baload, 1) := by decide +kernel
theorem dX5_ignore_31 : decode cX5_ignore 31 = .ok (.istore_n 3, 1) := by decide +kernel
theorem dX5_ignore_32 : decode cX5_ignore 32 = .ok (.aload_n 0, 1) := by decide +kernel
theorem dX5_ignore_33 : decode cX5_ignore 33 = .ok (.getfield 22, 3) := by decide +kernel
theorem dX5_ignore_36 : decode cX5_ignore 36 = .ok (.iload_n 1, 1) := by decide +kernel
theorem dX5_ignore_37 : decode cX5_ignore 37 = .ok (.iload_n 2, 1) := by decide +kernel
theorem dX5_ignore_38 : decode cX5_ignore 38 = .ok (.bastore, 1) := by decide +kernel
theorem dX5_ignore_39 : decode cX5_ignore 39 = .ok (.iload_n 3, 1) := by decide +kernel
theorem dX5_ignore_40 : decode cX5_ignore 40 = .ok (.ireturn, 1) := by decide +kernel
theorem dX5_leads_0 : decode cX5_leads 0 = .ok (.iload_n 1, 1) := by decide +kernel
theorem dX5_leads_1 : decode cX5_leads 1 = .ok (.istore_n 3, 1) := by decide +kernel
theorem dX5_leads_2 : decode cX5_leads 2 = .ok (.iload_n 3, 1) := by decide +kernel
theorem dX5_leads_3 : decode cX5_leads 3 = .ok (.iload_n 2, 1) := by decide +kernel
theorem dX5_leads_4 : decode cX5_leads 4 = .ok (.if_icmp .ne 7, 3) := by decide +kernel
theorem dX5_leads_7 : decode cX5_leads 7 = .ok (.iconst 1, 1) := by decide +kernel
theorem dX5_leads_8 : decode cX5_leads 8 = .ok (.goto 4, 3) := by decide +kernel
theorem dX5_leads_11 : decode cX5_leads 11 = .ok (.iconst 0, 1) := by decide +kernel
theorem dX5_leads_12 : decode cX5_leads 12 = .ok (.istore 4, 2) := by decide +kernel
theorem dX5_leads_14 : decode cX5_leads 14 = .ok (.iconst 0, 1) := by decide +kernel
theorem dX5_leads_15 : decode cX5_leads 15 = .ok (.istore 5, 2) := by decide +kernel
theorem dX5_leads_17 : decode cX5_leads 17 = .ok (.iload 5, 2) := by decide +kernel
theorem dX5_leads_19 : decode cX5_leads 19 = .ok (.bipush 30, 2) := by decide +kernel
theorem dX5_leads_21 : decode cX5_leads 21 = .ok (.if_icmp .ge 33, 3) := by decide +kernel
theorem dX5_leads_24 : decode cX5_leads 24 = .ok (.iload 4, 2) := by decide +kernel
theorem dX5_leads_26 : decode cX5_leads 26 = .ok (.ifCond .ne 28, 3) := by decide +kernel
theorem dX5_leads_29 : decode cX5_leads 29 = .ok (.aload_n 0, 1) := by decide +kernel
theorem dX5_leads_30 : decode cX5_leads 30 = .ok (.getfield 26, 3) := by decide +kernel
theorem dX5_leads_33 : decode cX5_leads 33 = .ok (.iload_n 3, 1) := by decide +kernel
theorem dX5_leads_34 : decode cX5_leads 34 = .ok (.iaload, 1) := by decide +kernel
theorem dX5_leads_35 : decode cX5_leads 35 = .ok (.istore_n 3, 1) := by decide +kernel
theorem dX5_leads_36 : decode cX5_leads 36 = .ok (.iload_n 3, 1) := by decide +kernel
theorem dX5_leads_37 : decode cX5_leads 37 = .ok (.iload_n 2, 1) := by decide +kernel
theorem dX5_leads_38 : decode cX5_leads 38 = .ok (.if_icmp .ne 7, 3) := by decide +kernel
theorem dX5_leads_41 : decode cX5_leads 41 = .ok (.iconst 1, 1) := by decide +kernel
theorem dX5_leads_42 : decode cX5_leads 42 = .ok (.goto 4, 3) := by decide +kernel
theorem dX5_leads_45 : decode cX5_leads 45 = .ok (.iconst 0, 1) := by decide +kernel
theorem dX5_leads_46 : decode cX5_leads 46 = .ok (.istore 4, 2) := by decide +kernel
theorem dX5_leads_48 : decode cX5_leads 48 = .ok (.iinc 5 1, 3) := by decide +kernel
theorem dX5_leads_51 : decode cX5_leads 51 = .ok (.goto (-34), 3) := by decide +kernel
theorem dX5_leads_54 : decode cX5_leads 54 = .ok (.iload 4, 2) := by decide +kernel
theorem dX5_leads_56 : decode cX5_leads 56 = .ok (.ireturn, 1) := by decide +kernel
theorem dX5_root_0 : decode cX5_root 0 = .ok (.iload_n 1, 1) := by decide +kernel
theorem dX5_root_1 : decode cX5_root 1 = .ok (.istore_n 2, 1) := by decide +kernel
theorem dX5_root_2 : decode cX5_root 2 = .ok (.aload_n 0, 1) := by decide +kernel
theorem dX5_root_3 : decode cX5_root 3 = .ok (.getfield 26, 3) := by decide +kernel
theorem dX5_root_6 : decode cX5_root 6 = .ok (.iload_n 2, 1) := by decide +kernel
theorem dX5_root_7 : decode cX5_root 7 = .ok (.iaload, 1) := by decide +kernel
theorem dX5_root_8 : decode cX5_root 8 = .ok (.iload_n 2, 1) := by decide +kernel
theorem dX5_root_9 : decode cX5_root 9 = .ok (.if_icmp .eq 13, 3) := by decide +kernel
theorem dX5_root_12 : decode cX5_root 12 = .ok (.aload_n 0, 1) := by decide +kernel
theorem dX5_root_13 : decode cX5_root 13 = .ok (.getfield 26, 3) := by decide +kernel
theorem dX5_root_16 : decode cX5_root 16 = .ok (.iload_n 2, 1) := by decide +kernel
theorem dX5_root_17 : decode cX5_root 17 = .ok (.iaload, 1) := by decide +kernel
theorem dX5_root_18 : decode cX5_root 18 = .ok (.istore_n 2, 1) := by decide +kernel
theorem dX5_root_19 : decode cX5_root 19 = .ok (.goto (-17), 3) := by decide +kernel
theorem dX5_root_22 : decode cX5_root 22 = .ok (.iload_n 2, 1) := by decide +kernel
theorem dX5_root_23 : decode cX5_root 23 = .ok (.ireturn, 1) := by decide +kernel
set_option maxRecDepth 20000 in
theorem ggX5_standFor_X5_isFunction : GoodIn wsX5_standFor wsX5_isFunction := goodIn_r _ [6, 7, 8, 5, 9] (by decide +kernel) (by decide +kernel)
set_option maxRecDepth 20000 in
theorem gX5_standFor_X5_isFunction : GoodIn wsX5_standFor (va_wsS RX5 77 yX5_isFunction wsX5_isFunction) := goodIn_app (goodIn_of _ (by decide +kernel)) ggX5_standFor_X5_isFunction
set_option maxRecDepth 20000 in
theorem ggX5_standFor_X5_fails : GoodIn wsX5_standFor wsX5_fails := goodIn_r _ [13, 1, 18, 19, 20, 21, 22, 23, 24, 25, 26, 27, 28, 29, 30, 31, 32, 33, 34, 35] (by decide +kernel) (by decide +kernel)
set_option maxRecDepth 20000 in
theorem gX5_standFor_X5_fails : GoodIn wsX5_standFor (wsV RX5 80 RX5 yX5_fails wsX5_fails) := goodIn_app (goodIn_of _ (by decide +kernel)) ggX5_standFor_X5_fails
set_option maxRecDepth 20000 in
theorem ggX5_standFor_X5_leads : GoodIn wsX5_standFor wsX5_leads := goodIn_r _ [17, 2, 18, 19, 20, 21, 22, 23, 24, 25, 26, 27, 28, 29, 30, 31, 32, 33, 34, 35] (by decide +kernel) (by decide +kernel)
set_option maxRecDepth 20000 in
theorem gX5_standFor_X5_leads : GoodIn wsX5_standFor (wsV RX5 84 RX5 yX5_leads wsX5_leads) := goodIn_app (goodIn_of _ (by decide +kernel)) ggX5_standFor_X5_leads
theorem dX5_standFor_0 : decode cX5_standFor 0 = .ok (.aload_n 0, 1) := by decide +kernel
theorem dX5_standFor_1 : decode cX5_standFor 1 = .ok (.iconst 0, 1) := by decide +kernel
theorem dX5_standFor_2 : decode cX5_standFor 2 = .ok (.putfield 60, 3) := by decide +kernel
theorem dX5_standFor_5 : decode cX5_standFor 5 = .ok (.iload_n 1, 1) := by decide +kernel
theorem dX5_standFor_6 : decode cX5_standFor 6 = .ok (.invokestatic 77, 3) := by decide +kernel
theorem dX5_standFor_9 : decode cX5_standFor 9 = .ok (.ifCond .eq 10, 3) := by decide +kernel
theorem dX5_standFor_12 : decode cX5_standFor 12 = .ok (.iload_n 2, 1) := by decide +kernel
theorem dX5_standFor_13 : decode cX5_standFor 13 = .ok (.invokestatic 77, 3) := by decide +kernel
theorem dX5_standFor_16 : decode cX5_standFor 16 = .ok (.ifCond .ne 9, 3) := by decide +kernel
theorem dX5_standFor_19 : decode cX5_standFor 19 = .ok (.aload_n 0, 1) := by decide +kernel
theorem dX5_standFor_20 : decode cX5_standFor 20 = .ok (.iconst 1, 1) := by decide +kernel
theorem dX5_standFor_21 : decode cX5_standFor 21 = .ok (.invokevirtual 80, 3) := by decide +kernel
theorem dX5_standFor_24 : decode cX5_standFor 24 = .ok (.ireturn, 1) := by decide +kernel
theorem dX5_standFor_25 : decode cX5_standFor 25 = .ok (.iload_n 1, 1) := by decide +kernel
theorem dX5_standFor_26 : decode cX5_standFor 26 = .ok (.iload_n 2, 1) := by decide +kernel
theorem dX5_standFor_27 : decode cX5_standFor 27 = .ok (.if_icmp .eq 18, 3) := by decide +kernel
theorem dX5_standFor_30 : decode cX5_standFor 30 = .ok (.aload_n 0, 1) := by decide +kernel
theorem dX5_standFor_31 : decode cX5_standFor 31 = .ok (.iload_n 2, 1) := by decide +kernel
theorem dX5_standFor_32 : decode cX5_standFor 32 = .ok (.iload_n 1, 1) := by decide +kernel
theorem dX5_standFor_33 : decode cX5_standFor 33 = .ok (.invokevirtual 84, 3) := by decide +kernel
theorem dX5_standFor_36 : decode cX5_standFor 36 = .ok (.ifCond .eq 9, 3) := by decide +kernel
theorem dX5_standFor_39 : decode cX5_standFor 39 = .ok (.aload_n 0, 1) := by decide +kernel
theorem dX5_standFor_40 : decode cX5_standFor 40 = .ok (.iconst 2, 1) := by decide +kernel
theorem dX5_standFor_41 : decode cX5_standFor 41 = .ok (.invokevirtual 80, 3) := by decide +kernel
theorem dX5_standFor_44 : decode cX5_standFor 44 = .ok (.ireturn, 1) := by decide +kernel
theorem dX5_standFor_45 : decode cX5_standFor 45 = .ok (.aload_n 0, 1) := by decide +kernel
theorem dX5_standFor_46 : decode cX5_standFor 46 = .ok (.getfield 26, 3) := by decide +kernel
theorem dX5_standFor_49 : decode cX5_standFor 49 = .ok (.iload_n 1, 1) := by decide +kernel
theorem dX5_standFor_50 : decode cX5_standFor 50 = .ok (.iaload, 1) := by decide +kernel
theorem dX5_standFor_51 : decode cX5_standFor 51 = .ok (.istore_n 3, 1) := by decide +kernel
theorem dX5_standFor_52 : decode cX5_standFor 52 = .ok (.aload_n 0, 1) := by decide +kernel
theorem dX5_standFor_53 : decode cX5_standFor 53 = .ok (.getfield 26, 3) := by decide +kernel
theorem dX5_standFor_56 : decode cX5_standFor 56 = .ok (.iload_n 1, 1) := by decide +kernel
theorem dX5_standFor_57 : decode cX5_standFor 57 = .ok (.iload_n 2, 1) := by decide +kernel
theorem dX5_standFor_58 : decode cX5_standFor 58 = .ok (.iastore, 1) := by decide +kernel
theorem dX5_standFor_59 : decode cX5_standFor 59 = .ok (.iload_n 3, 1) := by decide +kernel
theorem dX5_standFor_60 : decode cX5_standFor 60 = .ok (.ireturn, 1) := by decide +kernel
set_option maxRecDepth 20000 in
theorem ggX5_setDepth_X5_in : GoodIn wsX5_setDepth wsX5_in := goodIn_r _ [6] (by decide +kernel) (by decide +kernel)
set_option maxRecDepth 20000 in
theorem gX5_setDepth_X5_in : GoodIn wsX5_setDepth (va_wsS RX5 63 yX5_in wsX5_in) := goodIn_app (goodIn_of _ (by decide +kernel)) ggX5_setDepth_X5_in
set_option maxRecDepth 20000 in
theorem ggX5_setDepth_X5_fails : GoodIn wsX5_setDepth wsX5_fails := goodIn_r _ [10, 1, 11, 12, 13, 14, 15, 16, 17, 18, 19, 20, 21, 22, 23, 24, 25, 26, 27, 28] (by decide +kernel) (by decide +kernel)
set_option maxRecDepth 20000 in
theorem gX5_setDepth_X5_fails : GoodIn wsX5_setDepth (wsV RX5 80 RX5 yX5_fails wsX5_fails) := goodIn_app (goodIn_of _ (by decide +kernel)) ggX5_setDepth_X5_fails
theorem dX5_setDepth_0 : decode cX5_setDepth 0 = .ok (.aload_n 0, 1) := by decide +kernel
theorem dX5_setDepth_1 : decode cX5_setDepth 1 = .ok (.iconst 0, 1) := by decide +kernel
theorem dX5_setDepth_2 : decode cX5_setDepth 2 = .ok (.putfield 60, 3) := by decide +kernel
theorem dX5_setDepth_5 : decode cX5_setDepth 5 = .ok (.iload_n 1, 1) := by decide +kernel
theorem dX5_setDepth_6 : decode cX5_setDepth 6 = .ok (.iconst 1, 1) := by decide +kernel
theorem dX5_setDepth_7 : decode cX5_setDepth 7 = .ok (.iconst 4, 1) := by decide +kernel
theorem dX5_setDepth_8 : decode cX5_setDepth 8 = .ok (.invokestatic 63, 3) := by decide +kernel
theorem dX5_setDepth_11 : decode cX5_setDepth 11 = .ok (.ifCond .ne 9, 3) := by decide +kernel
theorem dX5_setDepth_14 : decode cX5_setDepth 14 = .ok (.aload_n 0, 1) := by decide +kernel
theorem dX5_setDepth_15 : decode cX5_setDepth 15 = .ok (.iconst 1, 1) := by decide +kernel
theorem dX5_setDepth_16 : decode cX5_setDepth 16 = .ok (.invokevirtual 80, 3) := by decide +kernel
theorem dX5_setDepth_19 : decode cX5_setDepth 19 = .ok (.ireturn, 1) := by decide +kernel
theorem dX5_setDepth_20 : decode cX5_setDepth 20 = .ok (.aload_n 0, 1) := by decide +kernel
theorem dX5_setDepth_21 : decode cX5_setDepth 21 = .ok (.getfield 29, 3) := by decide +kernel
theorem dX5_setDepth_24 : decode cX5_setDepth 24 = .ok (.istore_n 2, 1) := by decide +kernel
theorem dX5_setDepth_25 : decode cX5_setDepth 25 = .ok (.aload_n 0, 1) := by decide +kernel
theorem dX5_setDepth_26 : decode cX5_setDepth 26 = .ok (.iload_n 1, 1) := by decide +kernel
theorem dX5_setDepth_27 : decode cX5_setDepth 27 = .ok (.putfield 29, 3) := by decide +kernel
theorem dX5_setDepth_30 : decode cX5_setDepth 30 = .ok (.iload_n 2, 1) := by decide +kernel
theorem dX5_setDepth_31 : decode cX5_setDepth 31 = .ok (.ireturn, 1) := by decide +kernel
set_option maxRecDepth 20000 in
theorem ggX5_isNext_X5_isAddress : GoodIn wsX5_isNext wsX5_isAddress := goodIn_r _ [4, 5, 6, 3, 7] (by decide +kernel) (by decide +kernel)
set_option maxRecDepth 20000 in
theorem gX5_isNext_X5_isAddress : GoodIn wsX5_isNext (va_wsS RX5 74 yX5_isAddress wsX5_isAddress) := goodIn_app (goodIn_of _ (by decide +kernel)) ggX5_isNext_X5_isAddress
theorem dX5_isNext_0 : decode cX5_isNext 0 = .ok (.iload_n 0, 1) := by decide +kernel
theorem dX5_isNext_1 : decode cX5_isNext 1 = .ok (.iconst (-1), 1) := by decide +kernel
theorem dX5_isNext_2 : decode cX5_isNext 2 = .ok (.if_icmp .eq 15, 3) := by decide +kernel
theorem dX5_isNext_5 : decode cX5_isNext 5 = .ok (.iload_n 0, 1) := by decide +kernel
theorem dX5_isNext_6 : decode cX5_isNext 6 = .ok (.invokestatic 74, 3) := by decide +kernel
theorem dX5_isNext_9 : decode cX5_isNext 9 = .ok (.ifCond .eq 12, 3) := by decide +kernel
theorem dX5_isNext_12 : decode cX5_isNext 12 = .ok (.iload_n 1, 1) := by decide +kernel
theorem dX5_isNext_13 : decode cX5_isNext 13 = .ok (.iconst (-1), 1) := by decide +kernel
theorem dX5_isNext_14 : decode cX5_isNext 14 = .ok (.if_icmp .eq 7, 3) := by decide +kernel
theorem dX5_isNext_17 : decode cX5_isNext 17 = .ok (.iconst 1, 1) := by decide +kernel
theorem dX5_isNext_18 : decode cX5_isNext 18 = .ok (.goto 4, 3) := by decide +kernel
theorem dX5_isNext_21 : decode cX5_isNext 21 = .ok (.iconst 0, 1) := by decide +kernel
theorem dX5_isNext_22 : decode cX5_isNext 22 = .ok (.ireturn, 1) := by decide +kernel
set_option maxRecDepth 20000 in
theorem ggX5_report_X5_isVersion : GoodIn wsX5_report wsX5_isVersion := goodIn_r _ [10, 11, 12, 9, 13] (by decide +kernel) (by decide +kernel)
set_option maxRecDepth 20000 in
theorem gX5_report_X5_isVersion : GoodIn wsX5_report (va_wsS RX5 70 yX5_isVersion wsX5_isVersion) := goodIn_app (goodIn_of _ (by decide +kernel)) ggX5_report_X5_isVersion
set_option maxRecDepth 20000 in
theorem ggX5_report_X5_in : GoodIn wsX5_report wsX5_in := goodIn_r _ [13] (by decide +kernel) (by decide +kernel)
set_option maxRecDepth 20000 in
theorem gX5_report_X5_in : GoodIn wsX5_report (va_wsS RX5 63 yX5_in wsX5_in) := goodIn_app (goodIn_of _ (by decide +kernel)) ggX5_report_X5_in
set_option maxRecDepth 20000 in
theorem ggX5_report_X5_isAddress : GoodIn wsX5_report wsX5_isAddress := goodIn_r _ [16, 11, 12, 9, 13] (by decide +kernel) (by decide +kernel)
set_option maxRecDepth 20000 in
theorem gX5_report_X5_isAddress : GoodIn wsX5_report (va_wsS RX5 74 yX5_isAddress wsX5_isAddress) := goodIn_app (goodIn_of _ (by decide +kernel)) ggX5_report_X5_isAddress
set_option maxRecDepth 20000 in
theorem ggX5_report_X5_isNext : GoodIn wsX5_report wsX5_isNext := goodIn_r _ [19, 14, 15, 9, 16, 11, 12, 13] (by decide +kernel) (by decide +kernel)
set_option maxRecDepth 20000 in
theorem gX5_report_X5_isNext : GoodIn wsX5_report (va_wsS RX5 88 yX5_isNext wsX5_isNext) := goodIn_app (goodIn_of _ (by decide +kernel)) ggX5_report_X5_isNext
set_option maxRecDepth 20000 in
theorem ggX5_report_X5_fails : GoodIn wsX5_report wsX5_fails := goodIn_r _ [23, 1, 24, 25, 26, 27, 28, 29, 30, 31, 32, 33, 34, 35, 36, 37, 38, 39, 40, 41] (by decide +kernel) (by decide +kernel)
set_option maxRecDepth 20000 in
theorem gX5_report_X5_fails : GoodIn wsX5_report (wsV RX5 80 RX5 yX5_fails wsX5_fails) := goodIn_app (goodIn_of _ (by decide +kernel)) ggX5_report_X5_fails
theorem dX5_report_0 : decode cX5_report 0 = .ok (.aload_n 0, 1) := by decide +kernel
theorem dX5_report_1 : decode cX5_report 1 = .ok (.iconst 0, 1) := by decide +kernel
theorem dX5_report_2 : decode cX5_report 2 = .ok (.putfield 60, 3) := by decide +kernel
theorem dX5_report_5 : decode cX5_report 5 = .ok (.iload_n 1, 1) := by decide +kernel
theorem dX5_report_6 : decode cX5_report 6 = .ok (.invokestatic 70, 3) := by decide +kernel
theorem dX5_report_9 : decode cX5_report 9 = .ok (.ifCond .eq 49, 3) := by decide +kernel
theorem dX5_report_12 : decode cX5_report 12 = .ok (.iload_n 2, 1) := by decide +kernel
theorem dX5_report_13 : decode cX5_report 13 = .ok (.iconst 0, 1) := by decide +kernel
theorem dX5_report_14 : decode cX5_report 14 = .ok (.bipush 19, 2) := by decide +kernel
theorem dX5_report_16 : decode cX5_report 16 = .ok (.invokestatic 63, 3) := by decide +kernel
theorem dX5_report_19 : decode cX5_report 19 = .ok (.ifCond .eq 39, 3) := by decide +kernel
theorem dX5_report_22 : decode cX5_report 22 = .ok (.iload_n 3, 1) := by decide +kernel
theorem dX5_report_23 : decode cX5_report 23 = .ok (.invokestatic 74, 3) := by decide +kernel
theorem dX5_report_26 : decode cX5_report 26 = .ok (.ifCond .eq 32, 3) := by decide +kernel
theorem dX5_report_29 : decode cX5_report 29 = .ok (.iload 4, 2) := by decide +kernel
theorem dX5_report_31 : decode cX5_report 31 = .ok (.iload_n 3, 1) := by decide +kernel
theorem dX5_report_32 : decode cX5_report 32 = .ok (.invokestatic 88, 3) := by decide +kernel
theorem dX5_report_35 : decode cX5_report 35 = .ok (.ifCond .eq 23, 3) := by decide +kernel
theorem dX5_report_38 : decode cX5_report 38 = .ok (.iload 5, 2) := by decide +kernel
theorem dX5_report_40 : decode cX5_report 40 = .ok (.iload 4, 2) := by decide +kernel
theorem dX5_report_42 : decode cX5_report 42 = .ok (.invokestatic 88, 3) := by decide +kernel
theorem dX5_report_45 : decode cX5_report 45 = .ok (.ifCond .eq 13, 3) := by decide +kernel
theorem dX5_report_48 : decode cX5_report 48 = .ok (.iload 6, 2) := by decide +kernel
theorem dX5_report_50 : decode cX5_report 50 = .ok (.iload 5, 2) := by decide +kernel
theorem dX5_report_52 : decode cX5_report 52 = .ok (.invokestatic 88, 3) := by decide +kernel
theorem dX5_report_55 : decode cX5_report 55 = .ok (.ifCond .ne 9, 3) := by decide +kernel
theorem dX5_report_58 : decode cX5_report 58 = .ok (.aload_n 0, 1) := by decide +kernel
theorem dX5_report_59 : decode cX5_report 59 = .ok (.iconst 1, 1) := by decide +kernel
theorem dX5_report_60 : decode cX5_report 60 = .ok (.invokevirtual 80, 3) := by decide +kernel
theorem dX5_report_63 : decode cX5_report 63 = .ok (.ireturn, 1) := by decide +kernel
theorem dX5_report_64 : decode cX5_report 64 = .ok (.aload_n 0, 1) := by decide +kernel
theorem dX5_report_65 : decode cX5_report 65 = .ok (.getfield 67, 3) := by decide +kernel
theorem dX5_report_68 : decode cX5_report 68 = .ok (.bipush 60, 2) := by decide +kernel
theorem dX5_report_70 : decode cX5_report 70 = .ok (.if_icmp .ne 9, 3) := by decide +kernel
theorem dX5_report_73 : decode cX5_report 73 = .ok (.aload_n 0, 1) := by decide +kernel
theorem dX5_report_74 : decode cX5_report 74 = .ok (.iconst 2, 1) := by decide +kernel
theorem dX5_report_75 : decode cX5_report 75 = .ok (.invokevirtual 80, 3) := by decide +kernel
theorem dX5_report_78 : decode cX5_report 78 = .ok (.ireturn, 1) := by decide +kernel
theorem dX5_report_79 : decode cX5_report 79 = .ok (.aload_n 0, 1) := by decide +kernel
theorem dX5_report_80 : decode cX5_report 80 = .ok (.getfield 33, 3) := by decide +kernel
theorem dX5_report_83 : decode cX5_report 83 = .ok (.aload_n 0, 1) := by decide +kernel
theorem dX5_report_84 : decode cX5_report 84 = .ok (.getfield 67, 3) := by decide +kernel
theorem dX5_report_87 : decode cX5_report 87 = .ok (.iload_n 1, 1) := by decide +kernel
theorem dX5_report_88 : decode cX5_report 88 = .ok (.iastore, 1) := by decide +kernel
theorem dX5_report_89 : decode cX5_report 89 = .ok (.aload_n 0, 1) := by decide +kernel
theorem dX5_report_90 : decode cX5_report 90 = .ok (.getfield 36, 3) := by decide +kernel
theorem dX5_report_93 : decode cX5_report 93 = .ok (.aload_n 0, 1) := by decide +kernel
theorem dX5_report_94 : decode cX5_report 94 = .ok (.getfield 67, 3) := by decide +kernel
theorem dX5_report_97 : decode cX5_report 97 = .ok (.iload_n 2, 1) := by decide +kernel
theorem dX5_report_98 : decode cX5_report 98 = .ok (.iastore, 1) := by decide +kernel
theorem dX5_report_99 : decode cX5_report 99 = .ok (.aload_n 0, 1) := by decide +kernel
theorem dX5_report_100 : decode cX5_report 100 = .ok (.getfield 39, 3) := by decide +kernel
theorem dX5_report_103 : decode cX5_report 103 = .ok (.iconst 4, 1) := by decide +kernel
theorem dX5_report_104 : decode cX5_report 104 = .ok (.aload_n 0, 1) := by decide +kernel
theorem dX5_report_105 : decode cX5_report 105 = .ok (.getfield 67, 3) := by decide +kernel
theorem dX5_report_108 : decode cX5_report 108 = .ok (.imul, 1) := by decide +kernel
theorem dX5_report_109 : decode cX5_report 109 = .ok (.iload_n 3, 1) := by decide +kernel
theorem dX5_report_110 : decode cX5_report 110 = .ok (.iastore, 1) := by decide +kernel
theorem dX5_report_111 : decode cX5_report 111 = .ok (.aload_n 0, 1) := by decide +kernel
theorem dX5_report_112 : decode cX5_report 112 = .ok (.getfield 39, 3) := by decide +kernel
theorem dX5_report_115 : decode cX5_report 115 = .ok (.iconst 4, 1) := by decide +kernel
theorem dX5_report_116 : decode cX5_report 116 = .ok (.aload_n 0, 1) := by decide +kernel
theorem dX5_report_117 : decode cX5_report 117 = .ok (.getfield 67, 3) := by decide +kernel
theorem dX5_report_120 : decode cX5_report 120 = .ok (.imul, 1) := by decide +kernel
theorem dX5_report_121 : decode cX5_report 121 = .ok (.iconst 1, 1) := by decide +kernel
theorem dX5_report_122 : decode cX5_report 122 = .ok (.iadd, 1) := by decide +kernel
theorem dX5_report_123 : decode cX5_report 123 = .ok (.iload 4, 2) := by decide +kernel
theorem dX5_report_125 : decode cX5_report 125 = .ok (.iastore, 1) := by decide +kernel
theorem dX5_report_126 : decode cX5_report 126 = .ok (.aload_n 0, 1) := by decide +kernel
theorem dX5_report_127 : decode cX5_report 127 = .ok (.getfield 39, 3) := by decide +kernel
theorem dX5_report_130 : decode cX5_report 130 = .ok (.iconst 4, 1) := by decide +kernel
theorem dX5_report_131 : decode cX5_report 131 = .ok (.aload_n 0, 1) := by decide +kernel
theorem dX5_report_132 : decode cX5_report 132 = .ok (.getfield 67, 3) := by decide +kernel
theorem dX5_report_135 : decode cX5_report 135 = .ok (.imul, 1) := by decide +kernel
theorem dX5_report_136 : decode cX5_report 136 = .ok (.iconst 2, 1) := by decide +kernel
theorem dX5_report_137 : decode cX5_report 137 = .ok (.iadd, 1) := by decide +kernel
theorem dX5_report_138 : decode cX5_report 138 = .ok (.iload 5, 2) := by decide +kernel
theorem dX5_report_140 : decode cX5_report 140 = .ok (.iastore, 1) := by decide +kernel
theorem dX5_report_141 : decode cX5_report 141 = .ok (.aload_n 0, 1) := by decide +kernel
theorem dX5_report_142 : decode cX5_report 142 = .ok (.getfield 39, 3) := by decide +kernel
theorem dX5_report_145 : decode cX5_report 145 = .ok (.iconst 4, 1) := by decide +kernel
theorem dX5_report_146 : decode cX5_report 146 = .ok (.aload_n 0, 1) := by decide +kernel
theorem dX5_report_147 : decode cX5_report 147 = .ok (.getfield 67, 3) := by decide +kernel
theorem dX5_report_150 : decode cX5_report 150 = .ok (.imul, 1) := by decide +kernel
theorem dX5_report_151 : decode cX5_report 151 = .ok (.iconst 3, 1) := by decide +kernel
theorem dX5_report_152 : decode cX5_report 152 = .ok (.iadd, 1) := by decide +kernel
theorem dX5_report_153 : decode cX5_report 153 = .ok (.iload 6, 2) := by decide +kernel
theorem dX5_report_155 : decode cX5_report 155 = .ok (.iastore, 1) := by decide +kernel
theorem dX5_report_156 : decode cX5_report 156 = .ok (.aload_n 0, 1) := by decide +kernel
theorem dX5_report_157 : decode cX5_report 157 = .ok (.getfield 42, 3) := by decide +kernel
theorem dX5_report_160 : decode cX5_report 160 = .ok (.aload_n 0, 1) := by decide +kernel
theorem dX5_report_161 : decode cX5_report 161 = .ok (.getfield 67, 3) := by decide +kernel
theorem dX5_report_164 : decode cX5_report 164 = .ok (.iconst (-1), 1) := by decide +kernel
theorem dX5_report_165 : decode cX5_report 165 = .ok (.iastore, 1) := by decide +kernel
theorem dX5_report_166 : decode cX5_report 166 = .ok (.aload_n 0, 1) := by decide +kernel
theorem dX5_report_167 : decode cX5_report 167 = .ok (.dup, 1) := by decide +kernel
theorem dX5_report_168 : decode cX5_report 168 = .ok (.getfield 67, 3) := by decide +kernel
theorem dX5_report_171 : decode cX5_report 171 = .ok (.iconst 1, 1) := by decide +kernel
theorem dX5_report_172 : decode cX5_report 172 = .ok (.iadd, 1) := by decide +kernel
theorem dX5_report_173 : decode cX5_report 173 = .ok (.putfield 67, 3) := by decide +kernel
theorem dX5_report_176 : decode cX5_report 176 = .ok (.aload_n 0, 1) := by decide +kernel
theorem dX5_report_177 : decode cX5_report 177 = .ok (.getfield 67, 3) := by decide +kernel
theorem dX5_report_180 : decode cX5_report 180 = .ok (.iconst 1, 1) := by decide +kernel
theorem dX5_report_181 : decode cX5_report 181 = .ok (.isub, 1) := by decide +kernel
theorem dX5_report_182 : decode cX5_report 182 = .ok (.ireturn, 1) := by decide +kernel
theorem dX5_reports_0 : decode cX5_reports 0 = .ok (.aload_n 0, 1) := by decide +kernel
theorem dX5_reports_1 : decode cX5_reports 1 = .ok (.iconst 0, 1) := by decide +kernel
theorem dX5_reports_2 : decode cX5_reports 2 = .ok (.putfield 60, 3) := by decide +kernel
theorem dX5_reports_5 : decode cX5_reports 5 = .ok (.aload_n 0, 1) := by decide +kernel
theorem dX5_reports_6 : decode cX5_reports 6 = .ok (.getfield 67, 3) := by decide +kernel
theorem dX5_reports_9 : decode cX5_reports 9 = .ok (.ireturn, 1) := by decide +kernel
theorem dX5_frameOf_0 : decode cX5_frameOf 0 = .ok (.aload_n 0, 1) := by decide +kernel
theorem dX5_frameOf_1 : decode cX5_frameOf 1 = .ok (.getfield 39, 3) := by decide +kernel
theorem dX5_frameOf_4 : decode cX5_frameOf 4 = .ok (.iconst 4, 1) := by decide +kernel
theorem dX5_frameOf_5 : decode cX5_frameOf 5 = .ok (.iload_n 1, 1) := by decide +kernel
theorem dX5_frameOf_6 : decode cX5_frameOf 6 = .ok (.imul, 1) := by decide +kernel
theorem dX5_frameOf_7 : decode cX5_frameOf 7 = .ok (.iload_n 2, 1) := by decide +kernel
theorem dX5_frameOf_8 : decode cX5_frameOf 8 = .ok (.iadd, 1) := by decide +kernel
theorem dX5_frameOf_9 : decode cX5_frameOf 9 = .ok (.iaload, 1) := by decide +kernel
theorem dX5_frameOf_10 : decode cX5_frameOf 10 = .ok (.istore_n 3, 1) := by decide +kernel
theorem dX5_frameOf_11 : decode cX5_frameOf 11 = .ok (.iconst (-1), 1) := by decide +kernel
theorem dX5_frameOf_12 : decode cX5_frameOf 12 = .ok (.istore 4, 2) := by decide +kernel
theorem dX5_frameOf_14 : decode cX5_frameOf 14 = .ok (.bipush 30, 2) := by decide +kernel
theorem dX5_frameOf_16 : decode cX5_frameOf 16 = .ok (.aload_n 0, 1) := by decide +kernel
theorem dX5_frameOf_17 : decode cX5_frameOf 17 = .ok (.getfield 33, 3) := by decide +kernel
theorem dX5_frameOf_20 : decode cX5_frameOf 20 = .ok (.iload_n 1, 1) := by decide +kernel
theorem dX5_frameOf_21 : decode cX5_frameOf 21 = .ok (.iaload, 1) := by decide +kernel
theorem dX5_frameOf_22 : decode cX5_frameOf 22 = .ok (.imul, 1) := by decide +kernel
theorem dX5_frameOf_23 : decode cX5_frameOf 23 = .ok (.istore 5, 2) := by decide +kernel
theorem dX5_frameOf_25 : decode cX5_frameOf 25 = .ok (.iload 5, 2) := by decide +kernel
theorem dX5_frameOf_27 : decode cX5_frameOf 27 = .ok (.bipush 30, 2) := by decide +kernel
theorem dX5_frameOf_29 : decode cX5_frameOf 29 = .ok (.aload_n 0, 1) := by decide +kernel
theorem dX5_frameOf_30 : decode cX5_frameOf 30 = .ok (.getfield 33, 3) := by decide +kernel
theorem dX5_frameOf_33 : decode cX5_frameOf 33 = .ok (.iload_n 1, 1) := by decide +kernel
theorem dX5_frameOf_34 : decode cX5_frameOf 34 = .ok (.iaload, 1) := by decide +kernel
theorem dX5_frameOf_35 : decode cX5_frameOf 35 = .ok (.imul, 1) := by decide +kernel
theorem dX5_frameOf_36 : decode cX5_frameOf 36 = .ok (.aload_n 0, 1) := by decide +kernel
theorem dX5_frameOf_37 : decode cX5_frameOf 37 = .ok (.getfield 7, 3) := by decide +kernel
theorem dX5_frameOf_40 : decode cX5_frameOf 40 = .ok (.aload_n 0, 1) := by decide +kernel
theorem dX5_frameOf_41 : decode cX5_frameOf 41 = .ok (.getfield 33, 3) := by decide +kernel
theorem dX5_frameOf_44 : decode cX5_frameOf 44 = .ok (.iload_n 1, 1) := by decide +kernel
theorem dX5_frameOf_45 : decode cX5_frameOf 45 = .ok (.iaload, 1) := by decide +kernel
theorem dX5_frameOf_46 : decode cX5_frameOf 46 = .ok (.iaload, 1) := by decide +kernel
theorem dX5_frameOf_47 : decode cX5_frameOf 47 = .ok (.iadd, 1) := by decide +kernel
theorem dX5_frameOf_48 : decode cX5_frameOf 48 = .ok (.if_icmp .ge 50, 3) := by decide +kernel
theorem dX5_frameOf_51 : decode cX5_frameOf 51 = .ok (.iload_n 3, 1) := by decide +kernel
theorem dX5_frameOf_52 : decode cX5_frameOf 52 = .ok (.iconst (-1), 1) := by decide +kernel
theorem dX5_frameOf_53 : decode cX5_frameOf 53 = .ok (.if_icmp .eq 35, 3) := by decide +kernel
theorem dX5_frameOf_56 : decode cX5_frameOf 56 = .ok (.aload_n 0, 1) := by decide +kernel
theorem dX5_frameOf_57 : decode cX5_frameOf 57 = .ok (.getfield 13, 3) := by decide +kernel
theorem dX5_frameOf_60 : decode cX5_frameOf 60 = .ok (.iload 5, 2) := by decide +kernel
theorem dX5_frameOf_62 : decode cX5_frameOf 62 = .ok (.iaload, 1) := by decide +kernel
theorem dX5_frameOf_63 : decode cX5_frameOf 63 = .ok (.iload_n 3, 1) := by decide +kernel
theorem dX5_frameOf_64 : decode cX5_frameOf 64 = .ok (.if_icmp .gt 24, 3) := by decide +kernel
theorem dX5_frameOf_67 : decode cX5_frameOf 67 = .ok (.iload_n 3, 1) := by decide +kernel
theorem dX5_frameOf_68 : decode cX5_frameOf 68 = .ok (.aload_n 0, 1) := by decide +kernel
theorem dX5_frameOf_69 : decode cX5_frameOf 69 = .ok (.getfield 16, 3) := by decide +kernel
theorem dX5_frameOf_72 : decode cX5_frameOf 72 = .ok (.iload 5, 2) := by decide +kernel
theorem dX5_frameOf_74 : decode cX5_frameOf 74 = .ok (.iaload, 1) := by decide +kernel
theorem dX5_frameOf_75 : decode cX5_frameOf 75 = .ok (.if_icmp .gt 13, 3) := by decide +kernel
theorem dX5_frameOf_78 : decode cX5_frameOf 78 = .ok (.aload_n 0, 1) := by decide +kernel
theorem dX5_frameOf_79 : decode cX5_frameOf 79 = .ok (.getfield 19, 3) := by decide +kernel
theorem dX5_frameOf_82 : decode cX5_frameOf 82 = .ok (.iload 5, 2) := by decide +kernel
theorem dX5_frameOf_84 : decode cX5_frameOf 84 = .ok (.iaload, 1) := by decide +kernel
theorem dX5_frameOf_85 : decode cX5_frameOf 85 = .ok (.goto 5, 3) := by decide +kernel
theorem dX5_frameOf_88 : decode cX5_frameOf 88 = .ok (.iload 4, 2) := by decide +kernel
theorem dX5_frameOf_90 : decode cX5_frameOf 90 = .ok (.istore 4, 2) := by decide +kernel
theorem dX5_frameOf_92 : decode cX5_frameOf 92 = .ok (.iinc 5 1, 3) := by decide +kernel
theorem dX5_frameOf_95 : decode cX5_frameOf 95 = .ok (.goto (-70), 3) := by decide +kernel
theorem dX5_frameOf_98 : decode cX5_frameOf 98 = .ok (.iload 4, 2) := by decide +kernel
theorem dX5_frameOf_100 : decode cX5_frameOf 100 = .ok (.ireturn, 1) := by decide +kernel
set_option maxRecDepth 20000 in
theorem ggX5_frame_X5_isReport : GoodIn wsX5_frame wsX5_isReport := goodIn_r _ [6, 7, 8, 9, 5, 10, 25, 26, 27, 28, 29, 30, 31, 32, 33, 34, 35, 36, 37, 38, 39, 40, 41, 42] (by decide +kernel) (by decide +kernel)
set_option maxRecDepth 20000 in
theorem gX5_frame_X5_isReport : GoodIn wsX5_frame (wsV RX5 91 RX5 yX5_isReport wsX5_isReport) := goodIn_app (goodIn_of _ (by decide +kernel)) ggX5_frame_X5_isReport
set_option maxRecDepth 20000 in
theorem ggX5_frame_X5_fails : GoodIn wsX5_frame wsX5_fails := goodIn_r _ [14, 1, 25, 26, 27, 28, 29, 30, 31, 32, 33, 34, 35, 36, 37, 38, 39, 40, 41, 42] (by decide +kernel) (by decide +kernel)
set_option maxRecDepth 20000 in
theorem gX5_frame_X5_fails : GoodIn wsX5_frame (wsV RX5 80 RX5 yX5_fails wsX5_fails) := goodIn_app (goodIn_of _ (by decide +kernel)) ggX5_frame_X5_fails
set_option maxRecDepth 20000 in
theorem ggX5_frame_X5_in : GoodIn wsX5_frame wsX5_in := goodIn_r _ [10] (by decide +kernel) (by decide +kernel)
set_option maxRecDepth 20000 in
theorem gX5_frame_X5_in : GoodIn wsX5_frame (va_wsS RX5 63 yX5_in wsX5_in) := goodIn_app (goodIn_of _ (by decide +kernel)) ggX5_frame_X5_in
set_option maxRecDepth 20000 in
theorem ggX5_frame_X5_frameOf : GoodIn wsX5_frame wsX5_frameOf := goodIn_r _ [18, 19, 20, 21, 22, 23, 24, 25, 26, 27, 28, 29, 30, 31, 32, 33, 34, 35, 36, 37, 38, 39, 40, 41, 42] (by decide +kernel) (by decide +kernel)
set_option maxRecDepth 20000 in
theorem gX5_frame_X5_frameOf : GoodIn wsX5_frame (wsV RX5 94 RX5 yX5_frameOf wsX5_frameOf) := goodIn_app (goodIn_of _ (by decide +kernel)) ggX5_frame_X5_frameOf
theorem dX5_frame_0 : decode cX5_frame 0 = .ok (.aload_n 0, 1) := by decide +kernel
theorem dX5_frame_1 : decode cX5_frame 1 = .ok (.iconst 0, 1) := by decide +kernel
theorem dX5_frame_2 : decode cX5_frame 2 = .ok (.putfield 60, 3) := by decide +kernel
theorem dX5_frame_5 : decode cX5_frame 5 = .ok (.aload_n 0, 1) := by decide +kernel
theorem dX5_frame_6 : decode cX5_frame 6 = .ok (.iload_n 1, 1) := by decide +kernel
theorem dX5_frame_7 : decode cX5_frame 7 = .ok (.invokevirtual 91, 3) := by decide +kernel
theorem dX5_frame_10 : decode cX5_frame 10 = .ok (.ifCond .ne 9, 3) := by decide +kernel
theorem dX5_frame_13 : decode cX5_frame 13 = .ok (.aload_n 0, 1) := by decide +kernel
theorem dX5_frame_14 : decode cX5_frame 14 = .ok (.iconst 1, 1) := by decide +kernel
theorem dX5_frame_15 : decode cX5_frame 15 = .ok (.invokevirtual 80, 3) := by decide +kernel
theorem dX5_frame_18 : decode cX5_frame 18 = .ok (.ireturn, 1) := by decide +kernel
theorem dX5_frame_19 : decode cX5_frame 19 = .ok (.iload_n 2, 1) := by decide +kernel
theorem dX5_frame_20 : decode cX5_frame 20 = .ok (.iconst 0, 1) := by decide +kernel
theorem dX5_frame_21 : decode cX5_frame 21 = .ok (.iconst 3, 1) := by decide +kernel
theorem dX5_frame_22 : decode cX5_frame 22 = .ok (.invokestatic 63, 3) := by decide +kernel
theorem dX5_frame_25 : decode cX5_frame 25 = .ok (.ifCond .eq 12, 3) := by decide +kernel
theorem dX5_frame_28 : decode cX5_frame 28 = .ok (.aload_n 0, 1) := by decide +kernel
theorem dX5_frame_29 : decode cX5_frame 29 = .ok (.iload_n 1, 1) := by decide +kernel
theorem dX5_frame_30 : decode cX5_frame 30 = .ok (.iload_n 2, 1) := by decide +kernel
theorem dX5_frame_31 : decode cX5_frame 31 = .ok (.invokevirtual 94, 3) := by decide +kernel
theorem dX5_frame_34 : decode cX5_frame 34 = .ok (.goto 8, 3) := by decide +kernel
theorem dX5_frame_37 : decode cX5_frame 37 = .ok (.aload_n 0, 1) := by decide +kernel
theorem dX5_frame_38 : decode cX5_frame 38 = .ok (.iconst 2, 1) := by decide +kernel
theorem dX5_frame_39 : decode cX5_frame 39 = .ok (.invokevirtual 80, 3) := by decide +kernel
theorem dX5_frame_42 : decode cX5_frame 42 = .ok (.ireturn, 1) := by decide +kernel
set_option maxRecDepth 20000 in
theorem ggX5_keys_X5_frameOf : GoodIn wsX5_keys wsX5_frameOf := goodIn_r _ [8, 9, 10, 11, 12, 13, 14, 20, 21, 22, 23, 24, 25, 26, 27, 28, 29, 30, 31, 32, 33, 34, 35, 36, 37] (by decide +kernel) (by decide +kernel)
set_option maxRecDepth 20000 in
theorem gX5_keys_X5_frameOf : GoodIn wsX5_keys (wsV RX5 94 RX5 yX5_frameOf wsX5_frameOf) := goodIn_app (goodIn_of _ (by decide +kernel)) ggX5_keys_X5_frameOf
set_option maxRecDepth 20000 in
theorem ggX5_keys_X5_root : GoodIn wsX5_keys wsX5_root := goodIn_r _ [18, 19, 20, 21, 22, 23, 24, 25, 26, 27, 28, 29, 30, 31, 32, 33, 34, 35, 36, 37] (by decide +kernel) (by decide +kernel)
set_option maxRecDepth 20000 in
theorem gX5_keys_X5_root : GoodIn wsX5_keys (wsV RX5 98 RX5 yX5_root wsX5_root) := goodIn_app (goodIn_of _ (by decide +kernel)) ggX5_keys_X5_root
theorem dX5_keys_0 : decode cX5_keys 0 = .ok (.iconst 0, 1) := by decide +kernel
theorem dX5_keys_1 : decode cX5_keys 1 = .ok (.istore_n 2, 1) := by decide +kernel
theorem dX5_keys_2 : decode cX5_keys 2 = .ok (.iconst 0, 1) := by decide +kernel
theorem dX5_keys_3 : decode cX5_keys 3 = .ok (.istore_n 3, 1) := by decide +kernel
theorem dX5_keys_4 : decode cX5_keys 4 = .ok (.iload_n 3, 1) := by decide +kernel
theorem dX5_keys_5 : decode cX5_keys 5 = .ok (.iconst 4, 1) := by decide +kernel
theorem dX5_keys_6 : decode cX5_keys 6 = .ok (.if_icmp .ge 20, 3) := by decide +kernel
theorem dX5_keys_9 : decode cX5_keys 9 = .ok (.aload_n 0, 1) := by decide +kernel
theorem dX5_keys_10 : decode cX5_keys 10 = .ok (.getfield 54, 3) := by decide +kernel
theorem dX5_keys_13 : decode cX5_keys 13 = .ok (.iconst 4, 1) := by decide +kernel
theorem dX5_keys_14 : decode cX5_keys 14 = .ok (.iload_n 1, 1) := by decide +kernel
theorem dX5_keys_15 : decode cX5_keys 15 = .ok (.imul, 1) := by decide +kernel
theorem dX5_keys_16 : decode cX5_keys 16 = .ok (.iload_n 3, 1) := by decide +kernel
theorem dX5_keys_17 : decode cX5_keys 17 = .ok (.iadd, 1) := by decide +kernel
theorem dX5_keys_18 : decode cX5_keys 18 = .ok (.iconst (-1), 1) := by decide +kernel
theorem dX5_keys_19 : decode cX5_keys 19 = .ok (.iastore, 1) := by decide +kernel
theorem dX5_keys_20 : decode cX5_keys 20 = .ok (.iinc 3 1, 3) := by decide +kernel
theorem dX5_keys_23 : decode cX5_keys 23 = .ok (.goto (-19), 3) := by decide +kernel
theorem dX5_keys_26 : decode cX5_keys 26 = .ok (.iconst 0, 1) := by decide +kernel
theorem dX5_keys_27 : decode cX5_keys 27 = .ok (.istore_n 3, 1) := by decide +kernel
theorem dX5_keys_28 : decode cX5_keys 28 = .ok (.iload_n 3, 1) := by decide +kernel
theorem dX5_keys_29 : decode cX5_keys 29 = .ok (.iconst 4, 1) := by decide +kernel
theorem dX5_keys_30 : decode cX5_keys 30 = .ok (.if_icmp .ge 60, 3) := by decide +kernel
theorem dX5_keys_33 : decode cX5_keys 33 = .ok (.aload_n 0, 1) := by decide +kernel
theorem dX5_keys_34 : decode cX5_keys 34 = .ok (.iload_n 1, 1) := by decide +kernel
theorem dX5_keys_35 : decode cX5_keys 35 = .ok (.iload_n 3, 1) := by decide +kernel
theorem dX5_keys_36 : decode cX5_keys 36 = .ok (.invokevirtual 94, 3) := by decide +kernel
theorem dX5_keys_39 : decode cX5_keys 39 = .ok (.istore 4, 2) := by decide +kernel
theorem dX5_keys_41 : decode cX5_keys 41 = .ok (.iload 4, 2) := by decide +kernel
theorem dX5_keys_43 : decode cX5_keys 43 = .ok (.iconst (-1), 1) := by decide +kernel
theorem dX5_keys_44 : decode cX5_keys 44 = .ok (.if_icmp .eq 40, 3) := by decide +kernel
theorem dX5_keys_47 : decode cX5_keys 47 = .ok (.aload_n 0, 1) := by decide +kernel
theorem dX5_keys_48 : decode cX5_keys 48 = .ok (.getfield 22, 3) := by decide +kernel
theorem dX5_keys_51 : decode cX5_keys 51 = .ok (.iload 4, 2) := by decide +kernel
theorem dX5_keys_53 : decode cX5_keys 53 = .ok (.baload, 1) := by decide +kernel
theorem dX5_keys_54 : decode cX5_keys 54 = .ok (.ifCond .ne 30, 3) := by decide +kernel
theorem dX5_keys_57 : decode cX5_keys 57 = .ok (.iload_n 2, 1) := by decide +kernel
theorem dX5_keys_58 : decode cX5_keys 58 = .ok (.aload_n 0, 1) := by decide +kernel
theorem dX5_keys_59 : decode cX5_keys 59 = .ok (.getfield 29, 3) := by decide +kernel
theorem dX5_keys_62 : decode cX5_keys 62 = .ok (.if_icmp .ge 22, 3) := by decide +kernel
theorem dX5_keys_65 : decode cX5_keys 65 = .ok (.aload_n 0, 1) := by decide +kernel
theorem dX5_keys_66 : decode cX5_keys 66 = .ok (.getfield 54, 3) := by decide +kernel
theorem dX5_keys_69 : decode cX5_keys 69 = .ok (.iconst 4, 1) := by decide +kernel
theorem dX5_keys_70 : decode cX5_keys 70 = .ok (.iload_n 1, 1) := by decide +kernel
theorem dX5_keys_71 : decode cX5_keys 71 = .ok (.imul, 1) := by decide +kernel
theorem dX5_keys_72 : decode cX5_keys 72 = .ok (.iload_n 2, 1) := by decide +kernel
theorem dX5_keys_73 : decode cX5_keys 73 = .ok (.iadd, 1) := by decide +kernel
theorem dX5_keys_74 : decode cX5_keys 74 = .ok (.aload_n 0, 1) := by decide +kernel
theorem dX5_keys_75 : decode cX5_keys 75 = .ok (.iload 4, 2) := by decide +kernel
theorem dX5_keys_77 : decode cX5_keys 77 = .ok (.invokevirtual 98, 3) := by decide +kernel
theorem dX5_keys_80 : decode cX5_keys 80 = .ok (.iastore, 1) := by decide +kernel
theorem dX5_keys_81 : decode cX5_keys 81 = .ok (.iinc 2 1, 3) := by decide +kernel
theorem dX5_keys_84 : decode cX5_keys 84 = .ok (.iinc 3 1, 3) := by decide +kernel
theorem dX5_keys_87 : decode cX5_keys 87 = .ok (.goto (-59), 3) := by decide +kernel
theorem dX5_keys_90 : decode cX5_keys 90 = .ok (.return_, 1) := by decide +kernel
set_option maxRecDepth 20000 in
theorem ggX5_matters_X5_isReport : GoodIn wsX5_matters wsX5_isReport := goodIn_r _ [7, 8, 9, 10, 6, 11, 37, 38, 39, 40, 41, 42, 43, 44, 45, 46, 47, 48, 49, 50, 51, 52, 53, 54] (by decide +kernel) (by decide +kernel)
set_option maxRecDepth 20000 in
theorem gX5_matters_X5_isReport : GoodIn wsX5_matters (wsV RX5 91 RX5 yX5_isReport wsX5_isReport) := goodIn_app (goodIn_of _ (by decide +kernel)) ggX5_matters_X5_isReport
set_option maxRecDepth 20000 in
theorem ggX5_matters_X5_fails : GoodIn wsX5_matters wsX5_fails := goodIn_r _ [15, 1, 37, 38, 39, 40, 41, 42, 43, 44, 45, 46, 47, 48, 49, 50, 51, 52, 53, 54] (by decide +kernel) (by decide +kernel)
set_option maxRecDepth 20000 in
theorem gX5_matters_X5_fails : GoodIn wsX5_matters (wsV RX5 80 RX5 yX5_fails wsX5_fails) := goodIn_app (goodIn_of _ (by decide +kernel)) ggX5_matters_X5_fails
set_option maxRecDepth 20000 in
theorem ggX5_matters_X5_in : GoodIn wsX5_matters wsX5_in := goodIn_r _ [11] (by decide +kernel) (by decide +kernel)
set_option maxRecDepth 20000 in
theorem gX5_matters_X5_in : GoodIn wsX5_matters (va_wsS RX5 63 yX5_in wsX5_in) := goodIn_app (goodIn_of _ (by decide +kernel)) ggX5_matters_X5_in
set_option maxRecDepth 20000 in
theorem ggX5_matters_X5_keys : GoodIn wsX5_matters wsX5_keys := goodIn_r _ [19, 2, 20, 21, 22, 23, 24, 6, 25, 26, 27, 28, 29, 30, 31, 32, 33, 34, 35, 36, 37, 38, 39, 40, 41, 42, 43, 44, 45, 46, 47, 48, 49, 50, 51, 52, 53, 54] (by decide +kernel) (by decide +kernel)
set_option maxRecDepth 20000 in
theorem gX5_matters_X5_keys : GoodIn wsX5_matters (wsV RX5 101 RX5 yX5_keys wsX5_keys) := goodIn_app (goodIn_of _ (by decide +kernel)) ggX5_matters_X5_keys
theorem dX5_matters_0 : decode cX5_matters 0 = .ok (.aload_n 0, 1) := by decide +kernel
theorem dX5_matters_1 : decode cX5_matters 1 = .ok (.iconst 0, 1) := by decide +kernel
theorem dX5_matters_2 : decode cX5_matters 2 = .ok (.putfield 60, 3) := by decide +kernel
theorem dX5_matters_5 : decode cX5_matters 5 = .ok (.aload_n 0, 1) := by decide +kernel
theorem dX5_matters_6 : decode cX5_matters 6 = .ok (.iload_n 1, 1) := by decide +kernel
theorem dX5_matters_7 : decode cX5_matters 7 = .ok (.invokevirtual 91, 3) := by decide +kernel
theorem dX5_matters_10 : decode cX5_matters 10 = .ok (.ifCond .ne 9, 3) := by decide +kernel
theorem dX5_matters_13 : decode cX5_matters 13 = .ok (.aload_n 0, 1) := by decide +kernel
theorem dX5_matters_14 : decode cX5_matters 14 = .ok (.iconst 1, 1) := by decide +kernel
theorem dX5_matters_15 : decode cX5_matters 15 = .ok (.invokevirtual 80, 3) := by decide +kernel
theorem dX5_matters_18 : decode cX5_matters 18 = .ok (.ireturn, 1) := by decide +kernel
theorem dX5_matters_19 : decode cX5_matters 19 = .ok (.iload_n 2, 1) := by decide +kernel
theorem dX5_matters_20 : decode cX5_matters 20 = .ok (.iconst 0, 1) := by decide +kernel
theorem dX5_matters_21 : decode cX5_matters 21 = .ok (.iconst 3, 1) := by decide +kernel
theorem dX5_matters_22 : decode cX5_matters 22 = .ok (.invokestatic 63, 3) := by decide +kernel
theorem dX5_matters_25 : decode cX5_matters 25 = .ok (.ifCond .ne 9, 3) := by decide +kernel
theorem dX5_matters_28 : decode cX5_matters 28 = .ok (.aload_n 0, 1) := by decide +kernel
theorem dX5_matters_29 : decode cX5_matters 29 = .ok (.iconst 2, 1) := by decide +kernel
theorem dX5_matters_30 : decode cX5_matters 30 = .ok (.invokevirtual 80, 3) := by decide +kernel
theorem dX5_matters_33 : decode cX5_matters 33 = .ok (.ireturn, 1) := by decide +kernel
theorem dX5_matters_34 : decode cX5_matters 34 = .ok (.aload_n 0, 1) := by decide +kernel
theorem dX5_matters_35 : decode cX5_matters 35 = .ok (.iload_n 1, 1) := by decide +kernel
theorem dX5_matters_36 : decode cX5_matters 36 = .ok (.invokevirtual 101, 3) := by decide +kernel
theorem dX5_matters_39 : decode cX5_matters 39 = .ok (.aload_n 0, 1) := by decide +kernel
theorem dX5_matters_40 : decode cX5_matters 40 = .ok (.getfield 54, 3) := by decide +kernel
theorem dX5_matters_43 : decode cX5_matters 43 = .ok (.iconst 4, 1) := by decide +kernel
theorem dX5_matters_44 : decode cX5_matters 44 = .ok (.iload_n 1, 1) := by decide +kernel
theorem dX5_matters_45 : decode cX5_matters 45 = .ok (.imul, 1) := by decide +kernel
theorem dX5_matters_46 : decode cX5_matters 46 = .ok (.iload_n 2, 1) := by decide +kernel
theorem dX5_matters_47 : decode cX5_matters 47 = .ok (.iadd, 1) := by decide +kernel
theorem dX5_matters_48 : decode cX5_matters 48 = .ok (.iaload, 1) := by decide +kernel
theorem dX5_matters_49 : decode cX5_matters 49 = .ok (.ireturn, 1) := by decide +kernel
theorem dX5_isSame_0 : decode cX5_isSame 0 = .ok (.iconst 1, 1) := by decide +kernel
theorem dX5_isSame_1 : decode cX5_isSame 1 = .ok (.istore_n 3, 1) := by decide +kernel
theorem dX5_isSame_2 : decode cX5_isSame 2 = .ok (.iconst 0, 1) := by decide +kernel
theorem dX5_isSame_3 : decode cX5_isSame 3 = .ok (.istore 4, 2) := by decide +kernel
theorem dX5_isSame_5 : decode cX5_isSame 5 = .ok (.iload 4, 2) := by decide +kernel
theorem dX5_isSame_7 : decode cX5_isSame 7 = .ok (.iconst 4, 1) := by decide +kernel
theorem dX5_isSame_8 : decode cX5_isSame 8 = .ok (.if_icmp .ge 44, 3) := by decide +kernel
theorem dX5_isSame_11 : decode cX5_isSame 11 = .ok (.iload_n 3, 1) := by decide +kernel
theorem dX5_isSame_12 : decode cX5_isSame 12 = .ok (.ifCond .eq 32, 3) := by decide +kernel
theorem dX5_isSame_15 : decode cX5_isSame 15 = .ok (.aload_n 0, 1) := by decide +kernel
theorem dX5_isSame_16 : decode cX5_isSame 16 = .ok (.getfield 54, 3) := by decide +kernel
theorem dX5_isSame_19 : decode cX5_isSame 19 = .ok (.iconst 4, 1) := by decide +kernel
theorem dX5_isSame_20 : decode cX5_isSame 20 = .ok (.iload_n 1, 1) := by decide +kernel
theorem dX5_isSame_21 : decode cX5_isSame 21 = .ok (.imul, 1) := by decide +kernel
theorem dX5_isSame_22 : decode cX5_isSame 22 = .ok (.iload 4, 2) := by decide +kernel
theorem dX5_isSame_24 : decode cX5_isSame 24 = .ok (.iadd, 1) := by decide +kernel
theorem dX5_isSame_25 : decode cX5_isSame 25 = .ok (.iaload, 1) := by decide +kernel
theorem dX5_isSame_26 : decode cX5_isSame 26 = .ok (.aload_n 0, 1) := by decide +kernel
theorem dX5_isSame_27 : decode cX5_isSame 27 = .ok (.getfield 54, 3) := by decide +kernel
theorem dX5_isSame_30 : decode cX5_isSame 30 = .ok (.iconst 4, 1) := by decide +kernel
theorem dX5_isSame_31 : decode cX5_isSame 31 = .ok (.iload_n 2, 1) := by decide +kernel
theorem dX5_isSame_32 : decode cX5_isSame 32 = .ok (.imul, 1) := by decide +kernel
theorem dX5_isSame_33 : decode cX5_isSame 33 = .ok (.iload 4, 2) := by decide +kernel
theorem dX5_isSame_35 : decode cX5_isSame 35 = .ok (.iadd, 1) := by decide +kernel
theorem dX5_isSame_36 : decode cX5_isSame 36 = .ok (.iaload, 1) := by decide +kernel
theorem dX5_isSame_37 : decode cX5_isSame 37 = .ok (.if_icmp .ne 7, 3) := by decide +kernel
theorem dX5_isSame_40 : decode cX5_isSame 40 = .ok (.iconst 1, 1) := by decide +kernel
theorem dX5_isSame_41 : decode cX5_isSame 41 = .ok (.goto 4, 3) := by decide +kernel
theorem dX5_isSame_44 : decode cX5_isSame 44 = .ok (.iconst 0, 1) := by decide +kernel
theorem dX5_isSame_45 : decode cX5_isSame 45 = .ok (.istore_n 3, 1) := by decide +kernel
theorem dX5_isSame_46 : decode cX5_isSame 46 = .ok (.iinc 4 1, 3) := by decide +kernel
theorem dX5_isSame_49 : decode cX5_isSame 49 = .ok (.goto (-44), 3) := by decide +kernel
theorem dX5_isSame_52 : decode cX5_isSame 52 = .ok (.aload_n 0, 1) := by decide +kernel
theorem dX5_isSame_53 : decode cX5_isSame 53 = .ok (.getfield 54, 3) := by decide +kernel
theorem dX5_isSame_56 : decode cX5_isSame 56 = .ok (.iconst 4, 1) := by decide +kernel
theorem dX5_isSame_57 : decode cX5_isSame 57 = .ok (.iload_n 1, 1) := by decide +kernel
theorem dX5_isSame_58 : decode cX5_isSame 58 = .ok (.imul, 1) := by decide +kernel
theorem dX5_isSame_59 : decode cX5_isSame 59 = .ok (.iaload, 1) := by decide +kernel
theorem dX5_isSame_60 : decode cX5_isSame 60 = .ok (.iconst (-1), 1) := by decide +kernel
theorem dX5_isSame_61 : decode cX5_isSame 61 = .ok (.if_icmp .eq 7, 3) := by decide +kernel
theorem dX5_isSame_64 : decode cX5_isSame 64 = .ok (.iconst 1, 1) := by decide +kernel
theorem dX5_isSame_65 : decode cX5_isSame 65 = .ok (.goto 4, 3) := by decide +kernel
theorem dX5_isSame_68 : decode cX5_isSame 68 = .ok (.iconst 0, 1) := by decide +kernel
theorem dX5_isSame_69 : decode cX5_isSame 69 = .ok (.istore 4, 2) := by decide +kernel
theorem dX5_isSame_71 : decode cX5_isSame 71 = .ok (.iload_n 3, 1) := by decide +kernel
theorem dX5_isSame_72 : decode cX5_isSame 72 = .ok (.ifCond .eq 46, 3) := by decide +kernel
theorem dX5_isSame_75 : decode cX5_isSame 75 = .ok (.iload 4, 2) := by decide +kernel
theorem dX5_isSame_77 : decode cX5_isSame 77 = .ok (.ifCond .ne 37, 3) := by decide +kernel
theorem dX5_isSame_80 : decode cX5_isSame 80 = .ok (.aload_n 0, 1) := by decide +kernel
theorem dX5_isSame_81 : decode cX5_isSame 81 = .ok (.getfield 39, 3) := by decide +kernel
theorem dX5_isSame_84 : decode cX5_isSame 84 = .ok (.iconst 4, 1) := by decide +kernel
theorem dX5_isSame_85 : decode cX5_isSame 85 = .ok (.iload_n 1, 1) := by decide +kernel
theorem dX5_isSame_86 : decode cX5_isSame 86 = .ok (.imul, 1) := by decide +kernel
theorem dX5_isSame_87 : decode cX5_isSame 87 = .ok (.iaload, 1) := by decide +kernel
theorem dX5_isSame_88 : decode cX5_isSame 88 = .ok (.aload_n 0, 1) := by decide +kernel
theorem dX5_isSame_89 : decode cX5_isSame 89 = .ok (.getfield 39, 3) := by decide +kernel
theorem dX5_isSame_92 : decode cX5_isSame 92 = .ok (.iconst 4, 1) := by decide +kernel
theorem dX5_isSame_93 : decode cX5_isSame 93 = .ok (.iload_n 2, 1) := by decide +kernel
theorem dX5_isSame_94 : decode cX5_isSame 94 = .ok (.imul, 1) := by decide +kernel
theorem dX5_isSame_95 : decode cX5_isSame 95 = .ok (.iaload, 1) := by decide +kernel
theorem dX5_isSame_96 : decode cX5_isSame 96 = .ok (.if_icmp .ne 22, 3) := by decide +kernel
theorem dX5_isSame_99 : decode cX5_isSame 99 = .ok (.aload_n 0, 1) := by decide +kernel
theorem dX5_isSame_100 : decode cX5_isSame 100 = .ok (.getfield 33, 3) := by decide +kernel
theorem dX5_isSame_103 : decode cX5_isSame 103 = .ok (.iload_n 1, 1) := by decide +kernel
theorem dX5_isSame_104 : decode cX5_isSame 104 = .ok (.iaload, 1) := by decide +kernel
theorem dX5_isSame_105 : decode cX5_isSame 105 = .ok (.aload_n 0, 1) := by decide +kernel
theorem dX5_isSame_106 : decode cX5_isSame 106 = .ok (.getfield 33, 3) := by decide +kernel
theorem dX5_isSame_109 : decode cX5_isSame 109 = .ok (.iload_n 2, 1) := by decide +kernel
theorem dX5_isSame_110 : decode cX5_isSame 110 = .ok (.iaload, 1) := by decide +kernel
theorem dX5_isSame_111 : decode cX5_isSame 111 = .ok (.if_icmp .ne 7, 3) := by decide +kernel
theorem dX5_isSame_114 : decode cX5_isSame 114 = .ok (.iconst 1, 1) := by decide +kernel
theorem dX5_isSame_115 : decode cX5_isSame 115 = .ok (.goto 4, 3) := by decide +kernel
theorem dX5_isSame_118 : decode cX5_isSame 118 = .ok (.iconst 0, 1) := by decide +kernel
theorem dX5_isSame_119 : decode cX5_isSame 119 = .ok (.ireturn, 1) := by decide +kernel
set_option maxRecDepth 20000 in
theorem ggX5_names_X5_keys : GoodIn wsX5_names wsX5_keys := goodIn_r _ [7, 8, 9, 10, 11, 12, 13, 6, 14, 15, 16, 17, 18, 19, 20, 21, 22, 23, 24, 25, 30, 31, 32, 33, 34, 35, 36, 37, 38, 39, 40, 41, 42, 43, 44, 45, 46, 47] (by decide +kernel) (by decide +kernel)
set_option maxRecDepth 20000 in
theorem gX5_names_X5_keys : GoodIn wsX5_names (wsV RX5 101 RX5 yX5_keys wsX5_keys) := goodIn_app (goodIn_of _ (by decide +kernel)) ggX5_names_X5_keys
set_option maxRecDepth 20000 in
theorem ggX5_names_X5_isSame : GoodIn wsX5_names wsX5_isSame := goodIn_r _ [29, 8, 15, 16, 30, 31, 32, 33, 34, 35, 36, 37, 38, 39, 40, 41, 42, 43, 44, 45, 46, 47] (by decide +kernel) (by decide +kernel)
set_option maxRecDepth 20000 in
theorem gX5_names_X5_isSame : GoodIn wsX5_names (wsV RX5 105 RX5 yX5_isSame wsX5_isSame) := goodIn_app (goodIn_of _ (by decide +kernel)) ggX5_names_X5_isSame
theorem dX5_names_0 : decode cX5_names 0 = .ok (.iconst 0, 1) := by decide +kernel
theorem dX5_names_1 : decode cX5_names 1 = .ok (.istore_n 1, 1) := by decide +kernel
theorem dX5_names_2 : decode cX5_names 2 = .ok (.iload_n 1, 1) := by decide +kernel
theorem dX5_names_3 : decode cX5_names 3 = .ok (.aload_n 0, 1) := by decide +kernel
theorem dX5_names_4 : decode cX5_names 4 = .ok (.getfield 67, 3) := by decide +kernel
theorem dX5_names_7 : decode cX5_names 7 = .ok (.if_icmp .ge 60, 3) := by decide +kernel
theorem dX5_names_10 : decode cX5_names 10 = .ok (.aload_n 0, 1) := by decide +kernel
theorem dX5_names_11 : decode cX5_names 11 = .ok (.iload_n 1, 1) := by decide +kernel
theorem dX5_names_12 : decode cX5_names 12 = .ok (.invokevirtual 101, 3) := by decide +kernel
theorem dX5_names_15 : decode cX5_names 15 = .ok (.aload_n 0, 1) := by decide +kernel
theorem dX5_names_16 : decode cX5_names 16 = .ok (.getfield 51, 3) := by decide +kernel
theorem dX5_names_19 : decode cX5_names 19 = .ok (.iload_n 1, 1) := by decide +kernel
theorem dX5_names_20 : decode cX5_names 20 = .ok (.iload_n 1, 1) := by decide +kernel
theorem dX5_names_21 : decode cX5_names 21 = .ok (.iastore, 1) := by decide +kernel
theorem dX5_names_22 : decode cX5_names 22 = .ok (.iload_n 1, 1) := by decide +kernel
theorem dX5_names_23 : decode cX5_names 23 = .ok (.iconst 1, 1) := by decide +kernel
theorem dX5_names_24 : decode cX5_names 24 = .ok (.isub, 1) := by decide +kernel
theorem dX5_names_25 : decode cX5_names 25 = .ok (.istore_n 2, 1) := by decide +kernel
theorem dX5_names_26 : decode cX5_names 26 = .ok (.iload_n 2, 1) := by decide +kernel
theorem dX5_names_27 : decode cX5_names 27 = .ok (.ifCond .lt 34, 3) := by decide +kernel
theorem dX5_names_30 : decode cX5_names 30 = .ok (.aload_n 0, 1) := by decide +kernel
theorem dX5_names_31 : decode cX5_names 31 = .ok (.getfield 51, 3) := by decide +kernel
theorem dX5_names_34 : decode cX5_names 34 = .ok (.iload_n 1, 1) := by decide +kernel
theorem dX5_names_35 : decode cX5_names 35 = .ok (.aload_n 0, 1) := by decide +kernel
theorem dX5_names_36 : decode cX5_names 36 = .ok (.iload_n 1, 1) := by decide +kernel
theorem dX5_names_37 : decode cX5_names 37 = .ok (.iload_n 2, 1) := by decide +kernel
theorem dX5_names_38 : decode cX5_names 38 = .ok (.invokevirtual 105, 3) := by decide +kernel
theorem dX5_names_41 : decode cX5_names 41 = .ok (.ifCond .eq 7, 3) := by decide +kernel
theorem dX5_names_44 : decode cX5_names 44 = .ok (.iload_n 2, 1) := by decide +kernel
theorem dX5_names_45 : decode cX5_names 45 = .ok (.goto 9, 3) := by decide +kernel
theorem dX5_names_48 : decode cX5_names 48 = .ok (.aload_n 0, 1) := by decide +kernel
theorem dX5_names_49 : decode cX5_names 49 = .ok (.getfield 51, 3) := by decide +kernel
theorem dX5_names_52 : decode cX5_names 52 = .ok (.iload_n 1, 1) := by decide +kernel
theorem dX5_names_53 : decode cX5_names 53 = .ok (.iaload, 1) := by decide +kernel
theorem dX5_names_54 : decode cX5_names 54 = .ok (.iastore, 1) := by decide +kernel
theorem dX5_names_55 : decode cX5_names 55 = .ok (.iinc 2 (-1), 3) := by decide +kernel
theorem dX5_names_58 : decode cX5_names 58 = .ok (.goto (-32), 3) := by decide +kernel
theorem dX5_names_61 : decode cX5_names 61 = .ok (.iinc 1 1, 3) := by decide +kernel
theorem dX5_names_64 : decode cX5_names 64 = .ok (.goto (-62), 3) := by decide +kernel
theorem dX5_names_67 : decode cX5_names 67 = .ok (.return_, 1) := by decide +kernel
set_option maxRecDepth 20000 in
theorem ggX5_bucket_X5_isReport : GoodIn wsX5_bucket wsX5_isReport := goodIn_r _ [7, 8, 9, 10, 6, 11, 46, 47, 48, 49, 50, 51, 52, 53, 54, 55, 56, 57, 58, 59, 60, 61, 62, 63] (by decide +kernel) (by decide +kernel)
set_option maxRecDepth 20000 in
theorem gX5_bucket_X5_isReport : GoodIn wsX5_bucket (wsV RX5 91 RX5 yX5_isReport wsX5_isReport) := goodIn_app (goodIn_of _ (by decide +kernel)) ggX5_bucket_X5_isReport
set_option maxRecDepth 20000 in
theorem ggX5_bucket_X5_fails : GoodIn wsX5_bucket wsX5_fails := goodIn_r _ [15, 1, 46, 47, 48, 49, 50, 51, 52, 53, 54, 55, 56, 57, 58, 59, 60, 61, 62, 63] (by decide +kernel) (by decide +kernel)
set_option maxRecDepth 20000 in
theorem gX5_bucket_X5_fails : GoodIn wsX5_bucket (wsV RX5 80 RX5 yX5_fails wsX5_fails) := goodIn_app (goodIn_of _ (by decide +kernel)) ggX5_bucket_X5_fails
set_option maxRecDepth 20000 in
theorem ggX5_bucket_X5_names : GoodIn wsX5_bucket wsX5_names := goodIn_r _ [19, 8, 2, 20, 21, 22, 6, 23, 24, 25, 26, 27, 28, 29, 30, 31, 32, 33, 34, 35, 36, 37, 38, 39, 40, 41, 42, 43, 44, 45, 46, 47, 48, 49, 50, 51, 52, 53, 54, 55, 56, 57, 58, 59, 60, 61, 62, 63] (by decide +kernel) (by decide +kernel)
set_option maxRecDepth 20000 in
theorem gX5_bucket_X5_names : GoodIn wsX5_bucket (wsV RX5 108 RX5 yX5_names wsX5_names) := goodIn_app (goodIn_of _ (by decide +kernel)) ggX5_bucket_X5_names
theorem dX5_bucket_0 : decode cX5_bucket 0 = .ok (.aload_n 0, 1) := by decide +kernel
theorem dX5_bucket_1 : decode cX5_bucket 1 = .ok (.iconst 0, 1) := by decide +kernel
theorem dX5_bucket_2 : decode cX5_bucket 2 = .ok (.putfield 60, 3) := by decide +kernel
theorem dX5_bucket_5 : decode cX5_bucket 5 = .ok (.aload_n 0, 1) := by decide +kernel
theorem dX5_bucket_6 : decode cX5_bucket 6 = .ok (.iload_n 1, 1) := by decide +kernel
theorem dX5_bucket_7 : decode cX5_bucket 7 = .ok (.invokevirtual 91, 3) := by decide +kernel
theorem dX5_bucket_10 : decode cX5_bucket 10 = .ok (.ifCond .ne 9, 3) := by decide +kernel
theorem dX5_bucket_13 : decode cX5_bucket 13 = .ok (.aload_n 0, 1) := by decide +kernel
theorem dX5_bucket_14 : decode cX5_bucket 14 = .ok (.iconst 1, 1) := by decide +kernel
theorem dX5_bucket_15 : decode cX5_bucket 15 = .ok (.invokevirtual 80, 3) := by decide +kernel
theorem dX5_bucket_18 : decode cX5_bucket 18 = .ok (.ireturn, 1) := by decide +kernel
theorem dX5_bucket_19 : decode cX5_bucket 19 = .ok (.aload_n 0, 1) := by decide +kernel
theorem dX5_bucket_20 : decode cX5_bucket 20 = .ok (.invokevirtual 108, 3) := by decide +kernel
theorem dX5_bucket_23 : decode cX5_bucket 23 = .ok (.aload_n 0, 1) := by decide +kernel
theorem dX5_bucket_24 : decode cX5_bucket 24 = .ok (.getfield 51, 3) := by decide +kernel
theorem dX5_bucket_27 : decode cX5_bucket 27 = .ok (.iload_n 1, 1) := by decide +kernel
theorem dX5_bucket_28 : decode cX5_bucket 28 = .ok (.iaload, 1) := by decide +kernel
theorem dX5_bucket_29 : decode cX5_bucket 29 = .ok (.ireturn, 1) := by decide +kernel
set_option maxRecDepth 20000 in
theorem ggX5_buckets_X5_names : GoodIn wsX5_buckets wsX5_names := goodIn_r _ [8, 2, 3, 9, 10, 11, 7, 12, 13, 14, 15, 16, 17, 18, 19, 20, 21, 22, 23, 24, 25, 26, 27, 28, 29, 30, 31, 32, 33, 34, 35, 36, 37, 38, 39, 40, 41, 42, 43, 44, 45, 46, 47, 48, 49, 50, 51, 52] (by decide +kernel) (by decide +kernel)
set_option maxRecDepth 20000 in
theorem gX5_buckets_X5_names : GoodIn wsX5_buckets (wsV RX5 108 RX5 yX5_names wsX5_names) := goodIn_app (goodIn_of _ (by decide +kernel)) ggX5_buckets_X5_names
theorem dX5_buckets_0 : decode cX5_buckets 0 = .ok (.aload_n 0, 1) := by decide +kernel
theorem dX5_buckets_1 : decode cX5_buckets 1 = .ok (.iconst 0, 1) := by decide +kernel
theorem dX5_buckets_2 : decode cX5_buckets 2 = .ok (.putfield 60, 3) := by decide +kernel
theorem dX5_buckets_5 : decode cX5_buckets 5 = .ok (.aload_n 0, 1) := by decide +kernel
theorem dX5_buckets_6 : decode cX5_buckets 6 = .ok (.invokevirtual 108, 3) := by decide +kernel
theorem dX5_buckets_9 : decode cX5_buckets 9 = .ok (.iconst 0, 1) := by decide +kernel
theorem dX5_buckets_10 : decode cX5_buckets 10 = .ok (.istore_n 1, 1) := by decide +kernel
theorem dX5_buckets_11 : decode cX5_buckets 11 = .ok (.iconst 0, 1) := by decide +kernel
theorem dX5_buckets_12 : decode cX5_buckets 12 = .ok (.istore_n 2, 1) := by decide +kernel
theorem dX5_buckets_13 : decode cX5_buckets 13 = .ok (.iload_n 2, 1) := by decide +kernel
theorem dX5_buckets_14 : decode cX5_buckets 14 = .ok (.aload_n 0, 1) := by decide +kernel
theorem dX5_buckets_15 : decode cX5_buckets 15 = .ok (.getfield 67, 3) := by decide +kernel
theorem dX5_buckets_18 : decode cX5_buckets 18 = .ok (.if_icmp .ge 27, 3) := by decide +kernel
theorem dX5_buckets_21 : decode cX5_buckets 21 = .ok (.iload_n 1, 1) := by decide +kernel
theorem dX5_buckets_22 : decode cX5_buckets 22 = .ok (.aload_n 0, 1) := by decide +kernel
theorem dX5_buckets_23 : decode cX5_buckets 23 = .ok (.getfield 51, 3) := by decide +kernel
theorem dX5_buckets_26 : decode cX5_buckets 26 = .ok (.iload_n 2, 1) := by decide +kernel
theorem dX5_buckets_27 : decode cX5_buckets 27 = .ok (.iaload, 1) := by decide +kernel
theorem dX5_buckets_28 : decode cX5_buckets 28 = .ok (.iload_n 2, 1) := by decide +kernel
theorem dX5_buckets_29 : decode cX5_buckets 29 = .ok (.if_icmp .ne 7, 3) := by decide +kernel
theorem dX5_buckets_32 : decode cX5_buckets 32 = .ok (.iconst 1, 1) := by decide +kernel
theorem dX5_buckets_33 : decode cX5_buckets 33 = .ok (.goto 4, 3) := by decide +kernel
theorem dX5_buckets_36 : decode cX5_buckets 36 = .ok (.iconst 0, 1) := by decide +kernel
theorem dX5_buckets_37 : decode cX5_buckets 37 = .ok (.iadd, 1) := by decide +kernel
theorem dX5_buckets_38 : decode cX5_buckets 38 = .ok (.istore_n 1, 1) := by decide +kernel
theorem dX5_buckets_39 : decode cX5_buckets 39 = .ok (.iinc 2 1, 3) := by decide +kernel
theorem dX5_buckets_42 : decode cX5_buckets 42 = .ok (.goto (-29), 3) := by decide +kernel
theorem dX5_buckets_45 : decode cX5_buckets 45 = .ok (.iload_n 1, 1) := by decide +kernel
theorem dX5_buckets_46 : decode cX5_buckets 46 = .ok (.ireturn, 1) := by decide +kernel
set_option maxRecDepth 20000 in
theorem ggX5_size_X5_isReport : GoodIn wsX5_size wsX5_isReport := goodIn_r _ [8, 2, 9, 10, 7, 11, 46, 47, 48, 49, 50, 51, 52, 53, 54, 55, 56, 57, 58, 59, 60, 61, 62, 63] (by decide +kernel) (by decide +kernel)
set_option maxRecDepth 20000 in
theorem gX5_size_X5_isReport : GoodIn wsX5_size (wsV RX5 91 RX5 yX5_isReport wsX5_isReport) := goodIn_app (goodIn_of _ (by decide +kernel)) ggX5_size_X5_isReport
set_option maxRecDepth 20000 in
theorem ggX5_size_X5_fails : GoodIn wsX5_size wsX5_fails := goodIn_r _ [15, 1, 46, 47, 48, 49, 50, 51, 52, 53, 54, 55, 56, 57, 58, 59, 60, 61, 62, 63] (by decide +kernel) (by decide +kernel)
set_option maxRecDepth 20000 in
theorem gX5_size_X5_fails : GoodIn wsX5_size (wsV RX5 80 RX5 yX5_fails wsX5_fails) := goodIn_app (goodIn_of _ (by decide +kernel)) ggX5_size_X5_fails
set_option maxRecDepth 20000 in
theorem ggX5_size_X5_names : GoodIn wsX5_size wsX5_names := goodIn_r _ [19, 2, 3, 20, 21, 22, 7, 23, 24, 25, 26, 27, 28, 29, 30, 31, 32, 33, 34, 35, 36, 37, 38, 39, 40, 41, 42, 43, 44, 45, 46, 47, 48, 49, 50, 51, 52, 53, 54, 55, 56, 57, 58, 59, 60, 61, 62, 63] (by decide +kernel) (by decide +kernel)
set_option maxRecDepth 20000 in
theorem gX5_size_X5_names : GoodIn wsX5_size (wsV RX5 108 RX5 yX5_names wsX5_names) := goodIn_app (goodIn_of _ (by decide +kernel)) ggX5_size_X5_names
theorem dX5_size_0 : decode cX5_size 0 = .ok (.aload_n 0, 1) := by decide +kernel
theorem dX5_size_1 : decode cX5_size 1 = .ok (.iconst 0, 1) := by decide +kernel
theorem dX5_size_2 : decode cX5_size 2 = .ok (.putfield 60, 3) := by decide +kernel
theorem dX5_size_5 : decode cX5_size 5 = .ok (.aload_n 0, 1) := by decide +kernel
theorem dX5_size_6 : decode cX5_size 6 = .ok (.iload_n 1, 1) := by decide +kernel
theorem dX5_size_7 : decode cX5_size 7 = .ok (.invokevirtual 91, 3) := by decide +kernel
theorem dX5_size_10 : decode cX5_size 10 = .ok (.ifCond .ne 9, 3) := by decide +kernel
theorem dX5_size_13 : decode cX5_size 13 = .ok (.aload_n 0, 1) := by decide +kernel
theorem dX5_size_14 : decode cX5_size 14 = .ok (.iconst 1, 1) := by decide +kernel
theorem dX5_size_15 : decode cX5_size 15 = .ok (.invokevirtual 80, 3) := by decide +kernel
theorem dX5_size_18 : decode cX5_size 18 = .ok (.ireturn, 1) := by decide +kernel
theorem dX5_size_19 : decode cX5_size 19 = .ok (.aload_n 0, 1) := by decide +kernel
theorem dX5_size_20 : decode cX5_size 20 = .ok (.invokevirtual 108, 3) := by decide +kernel
theorem dX5_size_23 : decode cX5_size 23 = .ok (.iconst 0, 1) := by decide +kernel
theorem dX5_size_24 : decode cX5_size 24 = .ok (.istore_n 2, 1) := by decide +kernel
theorem dX5_size_25 : decode cX5_size 25 = .ok (.iconst 0, 1) := by decide +kernel
theorem dX5_size_26 : decode cX5_size 26 = .ok (.istore_n 3, 1) := by decide +kernel
theorem dX5_size_27 : decode cX5_size 27 = .ok (.iload_n 3, 1) := by decide +kernel
theorem dX5_size_28 : decode cX5_size 28 = .ok (.aload_n 0, 1) := by decide +kernel
theorem dX5_size_29 : decode cX5_size 29 = .ok (.getfield 67, 3) := by decide +kernel
theorem dX5_size_32 : decode cX5_size 32 = .ok (.if_icmp .ge 32, 3) := by decide +kernel
theorem dX5_size_35 : decode cX5_size 35 = .ok (.iload_n 2, 1) := by decide +kernel
theorem dX5_size_36 : decode cX5_size 36 = .ok (.aload_n 0, 1) := by decide +kernel
theorem dX5_size_37 : decode cX5_size 37 = .ok (.getfield 51, 3) := by decide +kernel
theorem dX5_size_40 : decode cX5_size 40 = .ok (.iload_n 3, 1) := by decide +kernel
theorem dX5_size_41 : decode cX5_size 41 = .ok (.iaload, 1) := by decide +kernel
theorem dX5_size_42 : decode cX5_size 42 = .ok (.aload_n 0, 1) := by decide +kernel
theorem dX5_size_43 : decode cX5_size 43 = .ok (.getfield 51, 3) := by decide +kernel
theorem dX5_size_46 : decode cX5_size 46 = .ok (.iload_n 1, 1) := by decide +kernel
theorem dX5_size_47 : decode cX5_size 47 = .ok (.iaload, 1) := by decide +kernel
theorem dX5_size_48 : decode cX5_size 48 = .ok (.if_icmp .ne 7, 3) := by decide +kernel
theorem dX5_size_51 : decode cX5_size 51 = .ok (.iconst 1, 1) := by decide +kernel
theorem dX5_size_52 : decode cX5_size 52 = .ok (.goto 4, 3) := by decide +kernel
theorem dX5_size_55 : decode cX5_size 55 = .ok (.iconst 0, 1) := by decide +kernel
theorem dX5_size_56 : decode cX5_size 56 = .ok (.iadd, 1) := by decide +kernel
theorem dX5_size_57 : decode cX5_size 57 = .ok (.istore_n 2, 1) := by decide +kernel
theorem dX5_size_58 : decode cX5_size 58 = .ok (.iinc 3 1, 3) := by decide +kernel
theorem dX5_size_61 : decode cX5_size 61 = .ok (.goto (-34), 3) := by decide +kernel
theorem dX5_size_64 : decode cX5_size 64 = .ok (.iload_n 2, 1) := by decide +kernel
theorem dX5_size_65 : decode cX5_size 65 = .ok (.ireturn, 1) := by decide +kernel
set_option maxRecDepth 20000 in
theorem ggX5_setSessions_X5_isVersion : GoodIn wsX5_setSessions wsX5_isVersion := goodIn_r _ [7, 8, 9, 6, 10] (by decide +kernel) (by decide +kernel)
set_option maxRecDepth 20000 in
theorem gX5_setSessions_X5_isVersion : GoodIn wsX5_setSessions (va_wsS RX5 70 yX5_isVersion wsX5_isVersion) := goodIn_app (goodIn_of _ (by decide +kernel)) ggX5_setSessions_X5_isVersion
set_option maxRecDepth 20000 in
theorem ggX5_setSessions_X5_in : GoodIn wsX5_setSessions wsX5_in := goodIn_r _ [10] (by decide +kernel) (by decide +kernel)
set_option maxRecDepth 20000 in
theorem gX5_setSessions_X5_in : GoodIn wsX5_setSessions (va_wsS RX5 63 yX5_in wsX5_in) := goodIn_app (goodIn_of _ (by decide +kernel)) ggX5_setSessions_X5_in
set_option maxRecDepth 20000 in
theorem ggX5_setSessions_X5_fails : GoodIn wsX5_setSessions wsX5_fails := goodIn_r _ [14, 1, 15, 16, 17, 18, 19, 20, 21, 22, 23, 24, 25, 26, 27, 28, 29, 30, 31, 32] (by decide +kernel) (by decide +kernel)
set_option maxRecDepth 20000 in
theorem gX5_setSessions_X5_fails : GoodIn wsX5_setSessions (wsV RX5 80 RX5 yX5_fails wsX5_fails) := goodIn_app (goodIn_of _ (by decide +kernel)) ggX5_setSessions_X5_fails
theorem dX5_setSessions_0 : decode cX5_setSessions 0 = .ok (.aload_n 0, 1) := by decide +kernel
theorem dX5_setSessions_1 : decode cX5_setSessions 1 = .ok (.iconst 0, 1) := by decide +kernel
theorem dX5_setSessions_2 : decode cX5_setSessions 2 = .ok (.putfield 60, 3) := by decide +kernel
theorem dX5_setSessions_5 : decode cX5_setSessions 5 = .ok (.iload_n 1, 1) := by decide +kernel
theorem dX5_setSessions_6 : decode cX5_setSessions 6 = .ok (.invokestatic 70, 3) := by decide +kernel
theorem dX5_setSessions_9 : decode cX5_setSessions 9 = .ok (.ifCond .eq 13, 3) := by decide +kernel
theorem dX5_setSessions_12 : decode cX5_setSessions 12 = .ok (.iload_n 2, 1) := by decide +kernel
theorem dX5_setSessions_13 : decode cX5_setSessions 13 = .ok (.iconst 0, 1) := by decide +kernel
theorem dX5_setSessions_14 : decode cX5_setSessions 14 = .ok (.ldc 111, 2) := by decide +kernel
theorem dX5_setSessions_16 : decode cX5_setSessions 16 = .ok (.invokestatic 63, 3) := by decide +kernel
theorem dX5_setSessions_19 : decode cX5_setSessions 19 = .ok (.ifCond .ne 9, 3) := by decide +kernel
theorem dX5_setSessions_22 : decode cX5_setSessions 22 = .ok (.aload_n 0, 1) := by decide +kernel
theorem dX5_setSessions_23 : decode cX5_setSessions 23 = .ok (.iconst 1, 1) := by decide +kernel
theorem dX5_setSessions_24 : decode cX5_setSessions 24 = .ok (.invokevirtual 80, 3) := by decide +kernel
theorem dX5_setSessions_27 : decode cX5_setSessions 27 = .ok (.ireturn, 1) := by decide +kernel
theorem dX5_setSessions_28 : decode cX5_setSessions 28 = .ok (.aload_n 0, 1) := by decide +kernel
theorem dX5_setSessions_29 : decode cX5_setSessions 29 = .ok (.getfield 45, 3) := by decide +kernel
theorem dX5_setSessions_32 : decode cX5_setSessions 32 = .ok (.iload_n 1, 1) := by decide +kernel
theorem dX5_setSessions_33 : decode cX5_setSessions 33 = .ok (.iaload, 1) := by decide +kernel
theorem dX5_setSessions_34 : decode cX5_setSessions 34 = .ok (.istore_n 3, 1) := by decide +kernel
theorem dX5_setSessions_35 : decode cX5_setSessions 35 = .ok (.aload_n 0, 1) := by decide +kernel
theorem dX5_setSessions_36 : decode cX5_setSessions 36 = .ok (.getfield 45, 3) := by decide +kernel
theorem dX5_setSessions_39 : decode cX5_setSessions 39 = .ok (.iload_n 1, 1) := by decide +kernel
theorem dX5_setSessions_40 : decode cX5_setSessions 40 = .ok (.iload_n 2, 1) := by decide +kernel
theorem dX5_setSessions_41 : decode cX5_setSessions 41 = .ok (.iastore, 1) := by decide +kernel
theorem dX5_setSessions_42 : decode cX5_setSessions 42 = .ok (.iload_n 3, 1) := by decide +kernel
theorem dX5_setSessions_43 : decode cX5_setSessions 43 = .ok (.ireturn, 1) := by decide +kernel
set_option maxRecDepth 20000 in
theorem ggX5_setLimit_X5_in : GoodIn wsX5_setLimit wsX5_in := goodIn_r _ [6] (by decide +kernel) (by decide +kernel)
set_option maxRecDepth 20000 in
theorem gX5_setLimit_X5_in : GoodIn wsX5_setLimit (va_wsS RX5 63 yX5_in wsX5_in) := goodIn_app (goodIn_of _ (by decide +kernel)) ggX5_setLimit_X5_in
set_option maxRecDepth 20000 in
theorem ggX5_setLimit_X5_fails : GoodIn wsX5_setLimit wsX5_fails := goodIn_r _ [10, 1, 11, 12, 13, 14, 15, 16, 17, 18, 19, 20, 21, 22, 23, 24, 25, 26, 27, 28] (by decide +kernel) (by decide +kernel)
set_option maxRecDepth 20000 in
theorem gX5_setLimit_X5_fails : GoodIn wsX5_setLimit (wsV RX5 80 RX5 yX5_fails wsX5_fails) := goodIn_app (goodIn_of _ (by decide +kernel)) ggX5_setLimit_X5_fails
theorem dX5_setLimit_0 : decode cX5_setLimit 0 = .ok (.aload_n 0, 1) := by decide +kernel
theorem dX5_setLimit_1 : decode cX5_setLimit 1 = .ok (.iconst 0, 1) := by decide +kernel
theorem dX5_setLimit_2 : decode cX5_setLimit 2 = .ok (.putfield 60, 3) := by decide +kernel
theorem dX5_setLimit_5 : decode cX5_setLimit 5 = .ok (.iload_n 1, 1) := by decide +kernel
theorem dX5_setLimit_6 : decode cX5_setLimit 6 = .ok (.iconst 1, 1) := by decide +kernel
theorem dX5_setLimit_7 : decode cX5_setLimit 7 = .ok (.sipush 10000, 3) := by decide +kernel
theorem dX5_setLimit_10 : decode cX5_setLimit 10 = .ok (.invokestatic 63, 3) := by decide +kernel
theorem dX5_setLimit_13 : decode cX5_setLimit 13 = .ok (.ifCond .ne 9, 3) := by decide +kernel
theorem dX5_setLimit_16 : decode cX5_setLimit 16 = .ok (.aload_n 0, 1) := by decide +kernel
theorem dX5_setLimit_17 : decode cX5_setLimit 17 = .ok (.iconst 1, 1) := by decide +kernel
theorem dX5_setLimit_18 : decode cX5_setLimit 18 = .ok (.invokevirtual 80, 3) := by decide +kernel
theorem dX5_setLimit_21 : decode cX5_setLimit 21 = .ok (.ireturn, 1) := by decide +kernel
theorem dX5_setLimit_22 : decode cX5_setLimit 22 = .ok (.aload_n 0, 1) := by decide +kernel
theorem dX5_setLimit_23 : decode cX5_setLimit 23 = .ok (.getfield 48, 3) := by decide +kernel
theorem dX5_setLimit_26 : decode cX5_setLimit 26 = .ok (.istore_n 2, 1) := by decide +kernel
theorem dX5_setLimit_27 : decode cX5_setLimit 27 = .ok (.aload_n 0, 1) := by decide +kernel
theorem dX5_setLimit_28 : decode cX5_setLimit 28 = .ok (.iload_n 1, 1) := by decide +kernel
theorem dX5_setLimit_29 : decode cX5_setLimit 29 = .ok (.putfield 48, 3) := by decide +kernel
theorem dX5_setLimit_32 : decode cX5_setLimit 32 = .ok (.iload_n 2, 1) := by decide +kernel
theorem dX5_setLimit_33 : decode cX5_setLimit 33 = .ok (.ireturn, 1) := by decide +kernel
theorem dX5_rateOf_0 : decode cX5_rateOf 0 = .ok (.iconst 0, 1) := by decide +kernel
theorem dX5_rateOf_1 : decode cX5_rateOf 1 = .ok (.istore_n 3, 1) := by decide +kernel
theorem dX5_rateOf_2 : decode cX5_rateOf 2 = .ok (.iconst 0, 1) := by decide +kernel
theorem dX5_rateOf_3 : decode cX5_rateOf 3 = .ok (.istore 4, 2) := by decide +kernel
theorem dX5_rateOf_5 : decode cX5_rateOf 5 = .ok (.iload 4, 2) := by decide +kernel
theorem dX5_rateOf_7 : decode cX5_rateOf 7 = .ok (.aload_n 0, 1) := by decide +kernel
theorem dX5_rateOf_8 : decode cX5_rateOf 8 = .ok (.getfield 67, 3) := by decide +kernel
theorem dX5_rateOf_11 : decode cX5_rateOf 11 = .ok (.if_icmp .ge 39, 3) := by decide +kernel
theorem dX5_rateOf_14 : decode cX5_rateOf 14 = .ok (.iload_n 3, 1) := by decide +kernel
theorem dX5_rateOf_15 : decode cX5_rateOf 15 = .ok (.aload_n 0, 1) := by decide +kernel
theorem dX5_rateOf_16 : decode cX5_rateOf 16 = .ok (.getfield 51, 3) := by decide +kernel
theorem dX5_rateOf_19 : decode cX5_rateOf 19 = .ok (.iload 4, 2) := by decide +kernel
theorem dX5_rateOf_21 : decode cX5_rateOf 21 = .ok (.iaload, 1) := by decide +kernel
theorem dX5_rateOf_22 : decode cX5_rateOf 22 = .ok (.iload_n 1, 1) := by decide +kernel
theorem dX5_rateOf_23 : decode cX5_rateOf 23 = .ok (.if_icmp .ne 18, 3) := by decide +kernel
theorem dX5_rateOf_26 : decode cX5_rateOf 26 = .ok (.aload_n 0, 1) := by decide +kernel
theorem dX5_rateOf_27 : decode cX5_rateOf 27 = .ok (.getfield 33, 3) := by decide +kernel
theorem dX5_rateOf_30 : decode cX5_rateOf 30 = .ok (.iload 4, 2) := by decide +kernel
theorem dX5_rateOf_32 : decode cX5_rateOf 32 = .ok (.iaload, 1) := by decide +kernel
theorem dX5_rateOf_33 : decode cX5_rateOf 33 = .ok (.iload_n 2, 1) := by decide +kernel
theorem dX5_rateOf_34 : decode cX5_rateOf 34 = .ok (.if_icmp .ne 7, 3) := by decide +kernel
theorem dX5_rateOf_37 : decode cX5_rateOf 37 = .ok (.iconst 1, 1) := by decide +kernel
theorem dX5_rateOf_38 : decode cX5_rateOf 38 = .ok (.goto 4, 3) := by decide +kernel
theorem dX5_rateOf_41 : decode cX5_rateOf 41 = .ok (.iconst 0, 1) := by decide +kernel
theorem dX5_rateOf_42 : decode cX5_rateOf 42 = .ok (.iadd, 1) := by decide +kernel
theorem dX5_rateOf_43 : decode cX5_rateOf 43 = .ok (.istore_n 3, 1) := by decide +kernel
theorem dX5_rateOf_44 : decode cX5_rateOf 44 = .ok (.iinc 4 1, 3) := by decide +kernel
theorem dX5_rateOf_47 : decode cX5_rateOf 47 = .ok (.goto (-42), 3) := by decide +kernel
theorem dX5_rateOf_50 : decode cX5_rateOf 50 = .ok (.aload_n 0, 1) := by decide +kernel
theorem dX5_rateOf_51 : decode cX5_rateOf 51 = .ok (.getfield 45, 3) := by decide +kernel
theorem dX5_rateOf_54 : decode cX5_rateOf 54 = .ok (.iload_n 2, 1) := by decide +kernel
theorem dX5_rateOf_55 : decode cX5_rateOf 55 = .ok (.iaload, 1) := by decide +kernel
theorem dX5_rateOf_56 : decode cX5_rateOf 56 = .ok (.ifCond .ne 7, 3) := by decide +kernel
theorem dX5_rateOf_59 : decode cX5_rateOf 59 = .ok (.iconst 0, 1) := by decide +kernel
theorem dX5_rateOf_60 : decode cX5_rateOf 60 = .ok (.goto 15, 3) := by decide +kernel
theorem dX5_rateOf_63 : decode cX5_rateOf 63 = .ok (.sipush 10000, 3) := by decide +kernel
theorem dX5_rateOf_66 : decode cX5_rateOf 66 = .ok (.iload_n 3, 1) := by decide +kernel
theorem dX5_rateOf_67 : decode cX5_rateOf 67 = .ok (.imul, 1) := by decide +kernel
theorem dX5_rateOf_68 : decode cX5_rateOf 68 = .ok (.aload_n 0, 1) := by decide +kernel
theorem dX5_rateOf_69 : decode cX5_rateOf 69 = .ok (.getfield 45, 3) := by decide +kernel
theorem dX5_rateOf_72 : decode cX5_rateOf 72 = .ok (.iload_n 2, 1) := by decide +kernel
theorem dX5_rateOf_73 : decode cX5_rateOf 73 = .ok (.iaload, 1) := by decide +kernel
theorem dX5_rateOf_74 : decode cX5_rateOf 74 = .ok (.idiv, 1) := by decide +kernel
theorem dX5_rateOf_75 : decode cX5_rateOf 75 = .ok (.ireturn, 1) := by decide +kernel
theorem dX5_usersOf_0 : decode cX5_usersOf 0 = .ok (.iconst 0, 1) := by decide +kernel
theorem dX5_usersOf_1 : decode cX5_usersOf 1 = .ok (.istore_n 3, 1) := by decide +kernel
theorem dX5_usersOf_2 : decode cX5_usersOf 2 = .ok (.iconst 0, 1) := by decide +kernel
theorem dX5_usersOf_3 : decode cX5_usersOf 3 = .ok (.istore 4, 2) := by decide +kernel
theorem dX5_usersOf_5 : decode cX5_usersOf 5 = .ok (.iload 4, 2) := by decide +kernel
theorem dX5_usersOf_7 : decode cX5_usersOf 7 = .ok (.bipush 20, 2) := by decide +kernel
theorem dX5_usersOf_9 : decode cX5_usersOf 9 = .ok (.if_icmp .ge 17, 3) := by decide +kernel
theorem dX5_usersOf_12 : decode cX5_usersOf 12 = .ok (.aload_n 0, 1) := by decide +kernel
theorem dX5_usersOf_13 : decode cX5_usersOf 13 = .ok (.getfield 57, 3) := by decide +kernel
theorem dX5_usersOf_16 : decode cX5_usersOf 16 = .ok (.iload 4, 2) := by decide +kernel
theorem dX5_usersOf_18 : decode cX5_usersOf 18 = .ok (.iconst 0, 1) := by decide +kernel
theorem dX5_usersOf_19 : decode cX5_usersOf 19 = .ok (.bastore, 1) := by decide +kernel
theorem dX5_usersOf_20 : decode cX5_usersOf 20 = .ok (.iinc 4 1, 3) := by decide +kernel
theorem dX5_usersOf_23 : decode cX5_usersOf 23 = .ok (.goto (-18), 3) := by decide +kernel
theorem dX5_usersOf_26 : decode cX5_usersOf 26 = .ok (.iconst 0, 1) := by decide +kernel
theorem dX5_usersOf_27 : decode cX5_usersOf 27 = .ok (.istore 4, 2) := by decide +kernel
theorem dX5_usersOf_29 : decode cX5_usersOf 29 = .ok (.iload 4, 2) := by decide +kernel
theorem dX5_usersOf_31 : decode cX5_usersOf 31 = .ok (.aload_n 0, 1) := by decide +kernel
theorem dX5_usersOf_32 : decode cX5_usersOf 32 = .ok (.getfield 67, 3) := by decide +kernel
theorem dX5_usersOf_35 : decode cX5_usersOf 35 = .ok (.if_icmp .ge 103, 3) := by decide +kernel
theorem dX5_usersOf_38 : decode cX5_usersOf 38 = .ok (.aload_n 0, 1) := by decide +kernel
theorem dX5_usersOf_39 : decode cX5_usersOf 39 = .ok (.getfield 51, 3) := by decide +kernel
theorem dX5_usersOf_42 : decode cX5_usersOf 42 = .ok (.iload 4, 2) := by decide +kernel
theorem dX5_usersOf_44 : decode cX5_usersOf 44 = .ok (.iaload, 1) := by decide +kernel
theorem dX5_usersOf_45 : decode cX5_usersOf 45 = .ok (.iload_n 1, 1) := by decide +kernel
theorem dX5_usersOf_46 : decode cX5_usersOf 46 = .ok (.if_icmp .ne 18, 3) := by decide +kernel
theorem dX5_usersOf_49 : decode cX5_usersOf 49 = .ok (.aload_n 0, 1) := by decide +kernel
theorem dX5_usersOf_50 : decode cX5_usersOf 50 = .ok (.getfield 33, 3) := by decide +kernel
theorem dX5_usersOf_53 : decode cX5_usersOf 53 = .ok (.iload 4, 2) := by decide +kernel
theorem dX5_usersOf_55 : decode cX5_usersOf 55 = .ok (.iaload, 1) := by decide +kernel
theorem dX5_usersOf_56 : decode cX5_usersOf 56 = .ok (.iload_n 2, 1) := by decide +kernel
theorem dX5_usersOf_57 : decode cX5_usersOf 57 = .ok (.if_icmp .ne 7, 3) := by decide +kernel
theorem dX5_usersOf_60 : decode cX5_usersOf 60 = .ok (.iconst 1, 1) := by decide +kernel
theorem dX5_usersOf_61 : decode cX5_usersOf 61 = .ok (.goto 4, 3) := by decide +kernel
theorem dX5_usersOf_64 : decode cX5_usersOf 64 = .ok (.iconst 0, 1) := by decide +kernel
theorem dX5_usersOf_65 : decode cX5_usersOf 65 = .ok (.istore 5, 2) := by decide +kernel
theorem dX5_usersOf_67 : decode cX5_usersOf 67 = .ok (.iload_n 3, 1) := by decide +kernel
theorem dX5_usersOf_68 : decode cX5_usersOf 68 = .ok (.iload 5, 2) := by decide +kernel
theorem dX5_usersOf_70 : decode cX5_usersOf 70 = .ok (.ifCond .eq 22, 3) := by decide +kernel
theorem dX5_usersOf_73 : decode cX5_usersOf 73 = .ok (.aload_n 0, 1) := by decide +kernel
theorem dX5_usersOf_74 : decode cX5_usersOf 74 = .ok (.getfield 57, 3) := by decide +kernel
theorem dX5_usersOf_77 : decode cX5_usersOf 77 = .ok (.aload_n 0, 1) := by decide +kernel
theorem dX5_usersOf_78 : decode cX5_usersOf 78 = .ok (.getfield 36, 3) := by decide +kernel
theorem dX5_usersOf_81 : decode cX5_usersOf 81 = .ok (.iload 4, 2) := by decide +kernel
theorem dX5_usersOf_83 : decode cX5_usersOf 83 = .ok (.iaload, 1) := by decide +kernel
theorem dX5_usersOf_84 : decode cX5_usersOf 84 = .ok (.baload, 1) := by decide +kernel
theorem dX5_usersOf_85 : decode cX5_usersOf 85 = .ok (.ifCond .ne 7, 3) := by decide +kernel
theorem dX5_usersOf_88 : decode cX5_usersOf 88 = .ok (.iconst 1, 1) := by decide +kernel
theorem dX5_usersOf_89 : decode cX5_usersOf 89 = .ok (.goto 4, 3) := by decide +kernel
theorem dX5_usersOf_92 : decode cX5_usersOf 92 = .ok (.iconst 0, 1) := by decide +kernel
theorem dX5_usersOf_93 : decode cX5_usersOf 93 = .ok (.iadd, 1) := by decide +kernel
theorem dX5_usersOf_94 : decode cX5_usersOf 94 = .ok (.istore_n 3, 1) := by decide +kernel
theorem dX5_usersOf_95 : decode cX5_usersOf 95 = .ok (.aload_n 0, 1) := by decide +kernel
theorem dX5_usersOf_96 : decode cX5_usersOf 96 = .ok (.getfield 57, 3) := by decide +kernel
theorem dX5_usersOf_99 : decode cX5_usersOf 99 = .ok (.aload_n 0, 1) := by decide +kernel
theorem dX5_usersOf_100 : decode cX5_usersOf 100 = .ok (.getfield 36, 3) := by decide +kernel
theorem dX5_usersOf_103 : decode cX5_usersOf 103 = .ok (.iload 4, 2) := by decide +kernel
theorem dX5_usersOf_105 : decode cX5_usersOf 105 = .ok (.iaload, 1) := by decide +kernel
theorem dX5_usersOf_106 : decode cX5_usersOf 106 = .ok (.aload_n 0, 1) := by decide +kernel
theorem dX5_usersOf_107 : decode cX5_usersOf 107 = .ok (.getfield 57, 3) := by decide +kernel
theorem dX5_usersOf_110 : decode cX5_usersOf 110 = .ok (.aload_n 0, 1) := by decide +kernel
theorem dX5_usersOf_111 : decode cX5_usersOf 111 = .ok (.getfield 36, 3) := by decide +kernel
theorem dX5_usersOf_114 : decode cX5_usersOf 114 = .ok (.iload 4, 2) := by decide +kernel
theorem dX5_usersOf_116 : decode cX5_usersOf 116 = .ok (.iaload, 1) := by decide +kernel
theorem dX5_usersOf_117 : decode cX5_usersOf 117 = .ok (.baload, 1) := by decide +kernel
theorem dX5_usersOf_118 : decode cX5_usersOf 118 = .ok (.ifCond .ne 8, 3) := by decide +kernel
theorem dX5_usersOf_121 : decode cX5_usersOf 121 = .ok (.iload 5, 2) := by decide +kernel
theorem dX5_usersOf_123 : decode cX5_usersOf 123 = .ok (.ifCond .eq 7, 3) := by decide +kernel
theorem dX5_usersOf_126 : decode cX5_usersOf 126 = .ok (.iconst 1, 1) := by decide +kernel
theorem dX5_usersOf_127 : decode cX5_usersOf 127 = .ok (.goto 4, 3) := by decide +kernel
theorem dX5_usersOf_130 : decode cX5_usersOf 130 = .ok (.iconst 0, 1) := by decide +kernel
theorem dX5_usersOf_131 : decode cX5_usersOf 131 = .ok (.bastore, 1) := by decide +kernel
theorem dX5_usersOf_132 : decode cX5_usersOf 132 = .ok (.iinc 4 1, 3) := by decide +kernel
theorem dX5_usersOf_135 : decode cX5_usersOf 135 = .ok (.goto (-106), 3) := by decide +kernel
theorem dX5_usersOf_138 : decode cX5_usersOf 138 = .ok (.iload_n 3, 1) := by decide +kernel
theorem dX5_usersOf_139 : decode cX5_usersOf 139 = .ok (.ireturn, 1) := by decide +kernel
set_option maxRecDepth 20000 in
theorem ggX5_rate_X5_isReport : GoodIn wsX5_rate wsX5_isReport := goodIn_r _ [7, 8, 9, 10, 6, 11, 54, 55, 56, 57, 58, 59, 60, 61, 62, 63, 64, 65, 66, 67, 68, 69, 70, 71] (by decide +kernel) (by decide +kernel)
set_option maxRecDepth 20000 in
theorem gX5_rate_X5_isReport : GoodIn wsX5_rate (wsV RX5 91 RX5 yX5_isReport wsX5_isReport) := goodIn_app (goodIn_of _ (by decide +kernel)) ggX5_rate_X5_isReport
set_option maxRecDepth 20000 in
theorem ggX5_rate_X5_fails : GoodIn wsX5_rate wsX5_fails := goodIn_r _ [15, 1, 54, 55, 56, 57, 58, 59, 60, 61, 62, 63, 64, 65, 66, 67, 68, 69, 70, 71] (by decide +kernel) (by decide +kernel)
set_option maxRecDepth 20000 in
theorem gX5_rate_X5_fails : GoodIn wsX5_rate (wsV RX5 80 RX5 yX5_fails wsX5_fails) := goodIn_app (goodIn_of _ (by decide +kernel)) ggX5_rate_X5_fails
set_option maxRecDepth 20000 in
theorem ggX5_rate_X5_isVersion : GoodIn wsX5_rate wsX5_isVersion := goodIn_r _ [18, 9, 10, 6, 11] (by decide +kernel) (by decide +kernel)
set_option maxRecDepth 20000 in
theorem gX5_rate_X5_isVersion : GoodIn wsX5_rate (va_wsS RX5 70 yX5_isVersion wsX5_isVersion) := goodIn_app (goodIn_of _ (by decide +kernel)) ggX5_rate_X5_isVersion
set_option maxRecDepth 20000 in
theorem ggX5_rate_X5_names : GoodIn wsX5_rate wsX5_names := goodIn_r _ [22, 8, 2, 23, 24, 25, 6, 26, 27, 28, 29, 30, 31, 32, 33, 34, 35, 36, 37, 38, 39, 40, 41, 42, 43, 44, 45, 46, 47, 48, 54, 55, 56, 57, 58, 59, 60, 61, 62, 63, 64, 65, 66, 67, 68, 69, 70, 71] (by decide +kernel) (by decide +kernel)
set_option maxRecDepth 20000 in
theorem gX5_rate_X5_names : GoodIn wsX5_rate (wsV RX5 108 RX5 yX5_names wsX5_names) := goodIn_app (goodIn_of _ (by decide +kernel)) ggX5_rate_X5_names
set_option maxRecDepth 20000 in
theorem ggX5_rate_X5_rateOf : GoodIn wsX5_rate wsX5_rateOf := goodIn_r _ [52, 8, 2, 35, 53, 54, 55, 56, 57, 58, 59, 60, 61, 62, 63, 64, 65, 66, 67, 68, 69, 70, 71] (by decide +kernel) (by decide +kernel)
set_option maxRecDepth 20000 in
theorem gX5_rate_X5_rateOf : GoodIn wsX5_rate (wsV RX5 112 RX5 yX5_rateOf wsX5_rateOf) := goodIn_app (goodIn_of _ (by decide +kernel)) ggX5_rate_X5_rateOf
theorem dX5_rate_0 : decode cX5_rate 0 = .ok (.aload_n 0, 1) := by decide +kernel
theorem dX5_rate_1 : decode cX5_rate 1 = .ok (.iconst 0, 1) := by decide +kernel
theorem dX5_rate_2 : decode cX5_rate 2 = .ok (.putfield 60, 3) := by decide +kernel
theorem dX5_rate_5 : decode cX5_rate 5 = .ok (.aload_n 0, 1) := by decide +kernel
theorem dX5_rate_6 : decode cX5_rate 6 = .ok (.iload_n 1, 1) := by decide +kernel
theorem dX5_rate_7 : decode cX5_rate 7 = .ok (.invokevirtual 91, 3) := by decide +kernel
theorem dX5_rate_10 : decode cX5_rate 10 = .ok (.ifCond .ne 9, 3) := by decide +kernel
theorem dX5_rate_13 : decode cX5_rate 13 = .ok (.aload_n 0, 1) := by decide +kernel
theorem dX5_rate_14 : decode cX5_rate 14 = .ok (.iconst 1, 1) := by decide +kernel
theorem dX5_rate_15 : decode cX5_rate 15 = .ok (.invokevirtual 80, 3) := by decide +kernel
theorem dX5_rate_18 : decode cX5_rate 18 = .ok (.ireturn, 1) := by decide +kernel
theorem dX5_rate_19 : decode cX5_rate 19 = .ok (.iload_n 2, 1) := by decide +kernel
theorem dX5_rate_20 : decode cX5_rate 20 = .ok (.invokestatic 70, 3) := by decide +kernel
theorem dX5_rate_23 : decode cX5_rate 23 = .ok (.ifCond .ne 9, 3) := by decide +kernel
theorem dX5_rate_26 : decode cX5_rate 26 = .ok (.aload_n 0, 1) := by decide +kernel
theorem dX5_rate_27 : decode cX5_rate 27 = .ok (.iconst 2, 1) := by decide +kernel
theorem dX5_rate_28 : decode cX5_rate 28 = .ok (.invokevirtual 80, 3) := by decide +kernel
theorem dX5_rate_31 : decode cX5_rate 31 = .ok (.ireturn, 1) := by decide +kernel
theorem dX5_rate_32 : decode cX5_rate 32 = .ok (.aload_n 0, 1) := by decide +kernel
theorem dX5_rate_33 : decode cX5_rate 33 = .ok (.invokevirtual 108, 3) := by decide +kernel
theorem dX5_rate_36 : decode cX5_rate 36 = .ok (.aload_n 0, 1) := by decide +kernel
theorem dX5_rate_37 : decode cX5_rate 37 = .ok (.aload_n 0, 1) := by decide +kernel
theorem dX5_rate_38 : decode cX5_rate 38 = .ok (.getfield 51, 3) := by decide +kernel
theorem dX5_rate_41 : decode cX5_rate 41 = .ok (.iload_n 1, 1) := by decide +kernel
theorem dX5_rate_42 : decode cX5_rate 42 = .ok (.iaload, 1) := by decide +kernel
theorem dX5_rate_43 : decode cX5_rate 43 = .ok (.iload_n 2, 1) := by decide +kernel
theorem dX5_rate_44 : decode cX5_rate 44 = .ok (.invokevirtual 112, 3) := by decide +kernel
theorem dX5_rate_47 : decode cX5_rate 47 = .ok (.ireturn, 1) := by decide +kernel
set_option maxRecDepth 20000 in
theorem ggX5_users_X5_isReport : GoodIn wsX5_users wsX5_isReport := goodIn_r _ [7, 8, 9, 10, 6, 11, 55, 56, 57, 58, 59, 60, 61, 62, 63, 64, 65, 66, 67, 68, 69, 70, 71, 72] (by decide +kernel) (by decide +kernel)
set_option maxRecDepth 20000 in
theorem gX5_users_X5_isReport : GoodIn wsX5_users (wsV RX5 91 RX5 yX5_isReport wsX5_isReport) := goodIn_app (goodIn_of _ (by decide +kernel)) ggX5_users_X5_isReport
set_option maxRecDepth 20000 in
theorem ggX5_users_X5_fails : GoodIn wsX5_users wsX5_fails := goodIn_r _ [15, 1, 55, 56, 57, 58, 59, 60, 61, 62, 63, 64, 65, 66, 67, 68, 69, 70, 71, 72] (by decide +kernel) (by decide +kernel)
set_option maxRecDepth 20000 in
theorem gX5_users_X5_fails : GoodIn wsX5_users (wsV RX5 80 RX5 yX5_fails wsX5_fails) := goodIn_app (goodIn_of _ (by decide +kernel)) ggX5_users_X5_fails
set_option maxRecDepth 20000 in
theorem ggX5_users_X5_isVersion : GoodIn wsX5_users wsX5_isVersion := goodIn_r _ [18, 9, 10, 6, 11] (by decide +kernel) (by decide +kernel)
set_option maxRecDepth 20000 in
theorem gX5_users_X5_isVersion : GoodIn wsX5_users (va_wsS RX5 70 yX5_isVersion wsX5_isVersion) := goodIn_app (goodIn_of _ (by decide +kernel)) ggX5_users_X5_isVersion
set_option maxRecDepth 20000 in
theorem ggX5_users_X5_names : GoodIn wsX5_users wsX5_names := goodIn_r _ [22, 8, 2, 23, 24, 25, 6, 26, 27, 28, 29, 30, 31, 32, 33, 34, 35, 36, 37, 38, 39, 40, 41, 42, 43, 44, 45, 46, 47, 48, 55, 56, 57, 58, 59, 60, 61, 62, 63, 64, 65, 66, 67, 68, 69, 70, 71, 72] (by decide +kernel) (by decide +kernel)
set_option maxRecDepth 20000 in
theorem gX5_users_X5_names : GoodIn wsX5_users (wsV RX5 108 RX5 yX5_names wsX5_names) := goodIn_app (goodIn_of _ (by decide +kernel)) ggX5_users_X5_names
set_option maxRecDepth 20000 in
theorem ggX5_users_X5_usersOf : GoodIn wsX5_users wsX5_usersOf := goodIn_r _ [52, 53, 8, 2, 35, 54, 55, 56, 57, 58, 59, 60, 61, 62, 63, 64, 65, 66, 67, 68, 69, 70, 71, 72] (by decide +kernel) (by decide +kernel)
set_option maxRecDepth 20000 in
theorem gX5_users_X5_usersOf : GoodIn wsX5_users (wsV RX5 115 RX5 yX5_usersOf wsX5_usersOf) := goodIn_app (goodIn_of _ (by decide +kernel)) ggX5_users_X5_usersOf
theorem dX5_users_0 : decode cX5_users 0 = .ok (.aload_n 0, 1) := by decide +kernel
theorem dX5_users_1 : decode cX5_users 1 = .ok (.iconst 0, 1) := by decide +kernel
theorem dX5_users_2 : decode cX5_users 2 = .ok (.putfield 60, 3) := by decide +kernel
theorem dX5_users_5 : decode cX5_users 5 = .ok (.aload_n 0, 1) := by decide +kernel
theorem dX5_users_6 : decode cX5_users 6 = .ok (.iload_n 1, 1) := by decide +kernel
theorem dX5_users_7 : decode cX5_users 7 = .ok (.invokevirtual 91, 3) := by decide +kernel
theorem dX5_users_10 : decode cX5_users 10 = .ok (.ifCond .ne 9, 3) := by decide +kernel
theorem dX5_users_13 : decode cX5_users 13 = .ok (.aload_n 0, 1) := by decide +kernel
theorem dX5_users_14 : decode cX5_users 14 = .ok (.iconst 1, 1) := by decide +kernel
theorem dX5_users_15 : decode cX5_users 15 = .ok (.invokevirtual 80, 3) := by decide +kernel
theorem dX5_users_18 : decode cX5_users 18 = .ok (.ireturn, 1) := by decide +kernel
theorem dX5_users_19 : decode cX5_users 19 = .ok (.iload_n 2, 1) := by decide +kernel
theorem dX5_users_20 : decode cX5_users 20 = .ok (.invokestatic 70, 3) := by decide +kernel
theorem dX5_users_23 : decode cX5_users 23 = .ok (.ifCond .ne 9, 3) := by decide +kernel
theorem dX5_users_26 : decode cX5_users 26 = .ok (.aload_n 0, 1) := by decide +kernel
theorem dX5_users_27 : decode cX5_users 27 = .ok (.iconst 2, 1) := by decide +kernel
theorem dX5_users_28 : decode cX5_users 28 = .ok (.invokevirtual 80, 3) := by decide +kernel
theorem dX5_users_31 : decode cX5_users 31 = .ok (.ireturn, 1) := by decide +kernel
theorem dX5_users_32 : decode cX5_users 32 = .ok (.aload_n 0, 1) := by decide +kernel
theorem dX5_users_33 : decode cX5_users 33 = .ok (.invokevirtual 108, 3) := by decide +kernel
theorem dX5_users_36 : decode cX5_users 36 = .ok (.aload_n 0, 1) := by decide +kernel
theorem dX5_users_37 : decode cX5_users 37 = .ok (.aload_n 0, 1) := by decide +kernel
theorem dX5_users_38 : decode cX5_users 38 = .ok (.getfield 51, 3) := by decide +kernel
theorem dX5_users_41 : decode cX5_users 41 = .ok (.iload_n 1, 1) := by decide +kernel
theorem dX5_users_42 : decode cX5_users 42 = .ok (.iaload, 1) := by decide +kernel
theorem dX5_users_43 : decode cX5_users 43 = .ok (.iload_n 2, 1) := by decide +kernel
theorem dX5_users_44 : decode cX5_users 44 = .ok (.invokevirtual 115, 3) := by decide +kernel
theorem dX5_users_47 : decode cX5_users 47 = .ok (.ireturn, 1) := by decide +kernel
set_option maxRecDepth 20000 in
theorem ggX5_gate_X5_isVersion : GoodIn wsX5_gate wsX5_isVersion := goodIn_r _ [9, 10, 11, 8, 12] (by decide +kernel) (by decide +kernel)
set_option maxRecDepth 20000 in
theorem gX5_gate_X5_isVersion : GoodIn wsX5_gate (va_wsS RX5 70 yX5_isVersion wsX5_isVersion) := goodIn_app (goodIn_of _ (by decide +kernel)) ggX5_gate_X5_isVersion
set_option maxRecDepth 20000 in
theorem ggX5_gate_X5_fails : GoodIn wsX5_gate wsX5_fails := goodIn_r _ [16, 1, 57, 58, 59, 60, 61, 62, 63, 64, 65, 66, 67, 68, 69, 70, 71, 72, 73, 74] (by decide +kernel) (by decide +kernel)
set_option maxRecDepth 20000 in
theorem gX5_gate_X5_fails : GoodIn wsX5_gate (wsV RX5 80 RX5 yX5_fails wsX5_fails) := goodIn_app (goodIn_of _ (by decide +kernel)) ggX5_gate_X5_fails
set_option maxRecDepth 20000 in
theorem ggX5_gate_X5_names : GoodIn wsX5_gate wsX5_names := goodIn_r _ [20, 3, 4, 21, 22, 23, 8, 24, 25, 26, 27, 28, 29, 30, 31, 32, 33, 34, 35, 36, 37, 38, 39, 40, 41, 42, 43, 44, 45, 46, 57, 58, 59, 60, 61, 62, 63, 64, 65, 66, 67, 68, 69, 70, 71, 72, 73, 74] (by decide +kernel) (by decide +kernel)
set_option maxRecDepth 20000 in
theorem gX5_gate_X5_names : GoodIn wsX5_gate (wsV RX5 108 RX5 yX5_names wsX5_names) := goodIn_app (goodIn_of _ (by decide +kernel)) ggX5_gate_X5_names
set_option maxRecDepth 20000 in
theorem ggX5_gate_X5_rateOf : GoodIn wsX5_gate wsX5_rateOf := goodIn_r _ [50, 3, 4, 33, 2, 57, 58, 59, 60, 61, 62, 63, 64, 65, 66, 67, 68, 69, 70, 71, 72, 73, 74] (by decide +kernel) (by decide +kernel)
set_option maxRecDepth 20000 in
theorem gX5_gate_X5_rateOf : GoodIn wsX5_gate (wsV RX5 112 RX5 yX5_rateOf wsX5_rateOf) := goodIn_app (goodIn_of _ (by decide +kernel)) ggX5_gate_X5_rateOf
set_option maxRecDepth 20000 in
theorem ggX5_gate_X5_usersOf : GoodIn wsX5_gate wsX5_usersOf := goodIn_r _ [54, 55, 3, 4, 33, 56, 57, 58, 59, 60, 61, 62, 63, 64, 65, 66, 67, 68, 69, 70, 71, 72, 73, 74] (by decide +kernel) (by decide +kernel)
set_option maxRecDepth 20000 in
theorem gX5_gate_X5_usersOf : GoodIn wsX5_gate (wsV RX5 115 RX5 yX5_usersOf wsX5_usersOf) := goodIn_app (goodIn_of _ (by decide +kernel)) ggX5_gate_X5_usersOf
theorem dX5_gate_0 : decode cX5_gate 0 = .ok (.aload_n 0, 1) := by decide +kernel
theorem dX5_gate_1 : decode cX5_gate 1 = .ok (.iconst 0, 1) := by decide +kernel
theorem dX5_gate_2 : decode cX5_gate 2 = .ok (.putfield 60, 3) := by decide +kernel
theorem dX5_gate_5 : decode cX5_gate 5 = .ok (.iload_n 1, 1) := by decide +kernel
theorem dX5_gate_6 : decode cX5_gate 6 = .ok (.invokestatic 70, 3) := by decide +kernel
theorem dX5_gate_9 : decode cX5_gate 9 = .ok (.ifCond .ne 9, 3) := by decide +kernel
theorem dX5_gate_12 : decode cX5_gate 12 = .ok (.aload_n 0, 1) := by decide +kernel
theorem dX5_gate_13 : decode cX5_gate 13 = .ok (.iconst 1, 1) := by decide +kernel
theorem dX5_gate_14 : decode cX5_gate 14 = .ok (.invokevirtual 80, 3) := by decide +kernel
theorem dX5_gate_17 : decode cX5_gate 17 = .ok (.ireturn, 1) := by decide +kernel
theorem dX5_gate_18 : decode cX5_gate 18 = .ok (.aload_n 0, 1) := by decide +kernel
theorem dX5_gate_19 : decode cX5_gate 19 = .ok (.invokevirtual 108, 3) := by decide +kernel
theorem dX5_gate_22 : decode cX5_gate 22 = .ok (.iconst 0, 1) := by decide +kernel
theorem dX5_gate_23 : decode cX5_gate 23 = .ok (.istore_n 2, 1) := by decide +kernel
theorem dX5_gate_24 : decode cX5_gate 24 = .ok (.aload_n 0, 1) := by decide +kernel
theorem dX5_gate_25 : decode cX5_gate 25 = .ok (.getfield 45, 3) := by decide +kernel
theorem dX5_gate_28 : decode cX5_gate 28 = .ok (.iload_n 1, 1) := by decide +kernel
theorem dX5_gate_29 : decode cX5_gate 29 = .ok (.iaload, 1) := by decide +kernel
theorem dX5_gate_30 : decode cX5_gate 30 = .ok (.bipush 50, 2) := by decide +kernel
theorem dX5_gate_32 : decode cX5_gate 32 = .ok (.if_icmp .ge 7, 3) := by decide +kernel
theorem dX5_gate_35 : decode cX5_gate 35 = .ok (.iconst 1, 1) := by decide +kernel
theorem dX5_gate_36 : decode cX5_gate 36 = .ok (.goto 4, 3) := by decide +kernel
theorem dX5_gate_39 : decode cX5_gate 39 = .ok (.iconst 0, 1) := by decide +kernel
theorem dX5_gate_40 : decode cX5_gate 40 = .ok (.istore_n 3, 1) := by decide +kernel
theorem dX5_gate_41 : decode cX5_gate 41 = .ok (.iconst 0, 1) := by decide +kernel
theorem dX5_gate_42 : decode cX5_gate 42 = .ok (.istore 4, 2) := by decide +kernel
theorem dX5_gate_44 : decode cX5_gate 44 = .ok (.iload 4, 2) := by decide +kernel
theorem dX5_gate_46 : decode cX5_gate 46 = .ok (.aload_n 0, 1) := by decide +kernel
theorem dX5_gate_47 : decode cX5_gate 47 = .ok (.getfield 67, 3) := by decide +kernel
theorem dX5_gate_50 : decode cX5_gate 50 = .ok (.if_icmp .ge 92, 3) := by decide +kernel
theorem dX5_gate_53 : decode cX5_gate 53 = .ok (.aload_n 0, 1) := by decide +kernel
theorem dX5_gate_54 : decode cX5_gate 54 = .ok (.getfield 51, 3) := by decide +kernel
theorem dX5_gate_57 : decode cX5_gate 57 = .ok (.iload 4, 2) := by decide +kernel
theorem dX5_gate_59 : decode cX5_gate 59 = .ok (.iaload, 1) := by decide +kernel
theorem dX5_gate_60 : decode cX5_gate 60 = .ok (.iload 4, 2) := by decide +kernel
theorem dX5_gate_62 : decode cX5_gate 62 = .ok (.if_icmp .ne 74, 3) := by decide +kernel
theorem dX5_gate_65 : decode cX5_gate 65 = .ok (.aload_n 0, 1) := by decide +kernel
theorem dX5_gate_66 : decode cX5_gate 66 = .ok (.iload 4, 2) := by decide +kernel
theorem dX5_gate_68 : decode cX5_gate 68 = .ok (.iload_n 1, 1) := by decide +kernel
theorem dX5_gate_69 : decode cX5_gate 69 = .ok (.invokevirtual 112, 3) := by decide +kernel
theorem dX5_gate_72 : decode cX5_gate 72 = .ok (.istore 5, 2) := by decide +kernel
theorem dX5_gate_74 : decode cX5_gate 74 = .ok (.iload_n 2, 1) := by decide +kernel
theorem dX5_gate_75 : decode cX5_gate 75 = .ok (.ifCond .ne 34, 3) := by decide +kernel
theorem dX5_gate_78 : decode cX5_gate 78 = .ok (.aload_n 0, 1) := by decide +kernel
theorem dX5_gate_79 : decode cX5_gate 79 = .ok (.getfield 45, 3) := by decide +kernel
theorem dX5_gate_82 : decode cX5_gate 82 = .ok (.iload_n 1, 1) := by decide +kernel
theorem dX5_gate_83 : decode cX5_gate 83 = .ok (.iaload, 1) := by decide +kernel
theorem dX5_gate_84 : decode cX5_gate 84 = .ok (.bipush 50, 2) := by decide +kernel
theorem dX5_gate_86 : decode cX5_gate 86 = .ok (.if_icmp .lt 27, 3) := by decide +kernel
theorem dX5_gate_89 : decode cX5_gate 89 = .ok (.iload 5, 2) := by decide +kernel
theorem dX5_gate_91 : decode cX5_gate 91 = .ok (.aload_n 0, 1) := by decide +kernel
theorem dX5_gate_92 : decode cX5_gate 92 = .ok (.getfield 48, 3) := by decide +kernel
theorem dX5_gate_95 : decode cX5_gate 95 = .ok (.if_icmp .lt 18, 3) := by decide +kernel
theorem dX5_gate_98 : decode cX5_gate 98 = .ok (.aload_n 0, 1) := by decide +kernel
theorem dX5_gate_99 : decode cX5_gate 99 = .ok (.iload 4, 2) := by decide +kernel
theorem dX5_gate_101 : decode cX5_gate 101 = .ok (.iload_n 1, 1) := by decide +kernel
theorem dX5_gate_102 : decode cX5_gate 102 = .ok (.invokevirtual 115, 3) := by decide +kernel
theorem dX5_gate_105 : decode cX5_gate 105 = .ok (.iconst 1, 1) := by decide +kernel
theorem dX5_gate_106 : decode cX5_gate 106 = .ok (.if_icmp .le 7, 3) := by decide +kernel
theorem dX5_gate_109 : decode cX5_gate 109 = .ok (.iconst 1, 1) := by decide +kernel
theorem dX5_gate_110 : decode cX5_gate 110 = .ok (.goto 4, 3) := by decide +kernel
theorem dX5_gate_113 : decode cX5_gate 113 = .ok (.iconst 0, 1) := by decide +kernel
theorem dX5_gate_114 : decode cX5_gate 114 = .ok (.istore_n 2, 1) := by decide +kernel
theorem dX5_gate_115 : decode cX5_gate 115 = .ok (.iload_n 3, 1) := by decide +kernel
theorem dX5_gate_116 : decode cX5_gate 116 = .ok (.ifCond .ne 14, 3) := by decide +kernel
theorem dX5_gate_119 : decode cX5_gate 119 = .ok (.iconst 2, 1) := by decide +kernel
theorem dX5_gate_120 : decode cX5_gate 120 = .ok (.iload 5, 2) := by decide +kernel
theorem dX5_gate_122 : decode cX5_gate 122 = .ok (.imul, 1) := by decide +kernel
theorem dX5_gate_123 : decode cX5_gate 123 = .ok (.aload_n 0, 1) := by decide +kernel
theorem dX5_gate_124 : decode cX5_gate 124 = .ok (.getfield 48, 3) := by decide +kernel
theorem dX5_gate_127 : decode cX5_gate 127 = .ok (.if_icmp .lt 7, 3) := by decide +kernel
theorem dX5_gate_130 : decode cX5_gate 130 = .ok (.iconst 1, 1) := by decide +kernel
theorem dX5_gate_131 : decode cX5_gate 131 = .ok (.goto 4, 3) := by decide +kernel
theorem dX5_gate_134 : decode cX5_gate 134 = .ok (.iconst 0, 1) := by decide +kernel
theorem dX5_gate_135 : decode cX5_gate 135 = .ok (.istore_n 3, 1) := by decide +kernel
theorem dX5_gate_136 : decode cX5_gate 136 = .ok (.iinc 4 1, 3) := by decide +kernel
theorem dX5_gate_139 : decode cX5_gate 139 = .ok (.goto (-95), 3) := by decide +kernel
theorem dX5_gate_142 : decode cX5_gate 142 = .ok (.iload_n 2, 1) := by decide +kernel
theorem dX5_gate_143 : decode cX5_gate 143 = .ok (.ifCond .eq 7, 3) := by decide +kernel
theorem dX5_gate_146 : decode cX5_gate 146 = .ok (.iconst 2, 1) := by decide +kernel
theorem dX5_gate_147 : decode cX5_gate 147 = .ok (.goto 12, 3) := by decide +kernel
theorem dX5_gate_150 : decode cX5_gate 150 = .ok (.iload_n 3, 1) := by decide +kernel
theorem dX5_gate_151 : decode cX5_gate 151 = .ok (.ifCond .eq 7, 3) := by decide +kernel
theorem dX5_gate_154 : decode cX5_gate 154 = .ok (.iconst 1, 1) := by decide +kernel
theorem dX5_gate_155 : decode cX5_gate 155 = .ok (.goto 4, 3) := by decide +kernel
theorem dX5_gate_158 : decode cX5_gate 158 = .ok (.iconst 0, 1) := by decide +kernel
theorem dX5_gate_159 : decode cX5_gate 159 = .ok (.ireturn, 1) := by decide +kernel
set_option maxRecDepth 20000 in
theorem ggX5_worst_X5_isVersion : GoodIn wsX5_worst wsX5_isVersion := goodIn_r _ [7, 8, 9, 6, 10] (by decide +kernel) (by decide +kernel)
set_option maxRecDepth 20000 in
theorem gX5_worst_X5_isVersion : GoodIn wsX5_worst (va_wsS RX5 70 yX5_isVersion wsX5_isVersion) := goodIn_app (goodIn_of _ (by decide +kernel)) ggX5_worst_X5_isVersion
set_option maxRecDepth 20000 in
theorem ggX5_worst_X5_fails : GoodIn wsX5_worst wsX5_fails := goodIn_r _ [14, 1, 50, 51, 52, 53, 54, 55, 56, 57, 58, 59, 60, 61, 62, 63, 64, 65, 66, 67] (by decide +kernel) (by decide +kernel)
set_option maxRecDepth 20000 in
theorem gX5_worst_X5_fails : GoodIn wsX5_worst (wsV RX5 80 RX5 yX5_fails wsX5_fails) := goodIn_app (goodIn_of _ (by decide +kernel)) ggX5_worst_X5_fails
set_option maxRecDepth 20000 in
theorem ggX5_worst_X5_names : GoodIn wsX5_worst wsX5_names := goodIn_r _ [18, 2, 3, 19, 20, 21, 6, 22, 23, 24, 25, 26, 27, 28, 29, 30, 31, 32, 33, 34, 35, 36, 37, 38, 39, 40, 41, 42, 43, 44, 50, 51, 52, 53, 54, 55, 56, 57, 58, 59, 60, 61, 62, 63, 64, 65, 66, 67] (by decide +kernel) (by decide +kernel)
set_option maxRecDepth 20000 in
theorem gX5_worst_X5_names : GoodIn wsX5_worst (wsV RX5 108 RX5 yX5_names wsX5_names) := goodIn_app (goodIn_of _ (by decide +kernel)) ggX5_worst_X5_names
set_option maxRecDepth 20000 in
theorem ggX5_worst_X5_rateOf : GoodIn wsX5_worst wsX5_rateOf := goodIn_r _ [48, 2, 3, 31, 49, 50, 51, 52, 53, 54, 55, 56, 57, 58, 59, 60, 61, 62, 63, 64, 65, 66, 67] (by decide +kernel) (by decide +kernel)
set_option maxRecDepth 20000 in
theorem gX5_worst_X5_rateOf : GoodIn wsX5_worst (wsV RX5 112 RX5 yX5_rateOf wsX5_rateOf) := goodIn_app (goodIn_of _ (by decide +kernel)) ggX5_worst_X5_rateOf
theorem dX5_worst_0 : decode cX5_worst 0 = .ok (.aload_n 0, 1) := by decide +kernel
theorem dX5_worst_1 : decode cX5_worst 1 = .ok (.iconst 0, 1) := by decide +kernel
theorem dX5_worst_2 : decode cX5_worst 2 = .ok (.putfield 60, 3) := by decide +kernel
theorem dX5_worst_5 : decode cX5_worst 5 = .ok (.iload_n 1, 1) := by decide +kernel
theorem dX5_worst_6 : decode cX5_worst 6 = .ok (.invokestatic 70, 3) := by decide +kernel
theorem dX5_worst_9 : decode cX5_worst 9 = .ok (.ifCond .ne 9, 3) := by decide +kernel
theorem dX5_worst_12 : decode cX5_worst 12 = .ok (.aload_n 0, 1) := by decide +kernel
theorem dX5_worst_13 : decode cX5_worst 13 = .ok (.iconst 1, 1) := by decide +kernel
theorem dX5_worst_14 : decode cX5_worst 14 = .ok (.invokevirtual 80, 3) := by decide +kernel
theorem dX5_worst_17 : decode cX5_worst 17 = .ok (.ireturn, 1) := by decide +kernel
theorem dX5_worst_18 : decode cX5_worst 18 = .ok (.aload_n 0, 1) := by decide +kernel
theorem dX5_worst_19 : decode cX5_worst 19 = .ok (.invokevirtual 108, 3) := by decide +kernel
theorem dX5_worst_22 : decode cX5_worst 22 = .ok (.iconst (-1), 1) := by decide +kernel
theorem dX5_worst_23 : decode cX5_worst 23 = .ok (.istore_n 2, 1) := by decide +kernel
theorem dX5_worst_24 : decode cX5_worst 24 = .ok (.iconst 0, 1) := by decide +kernel
theorem dX5_worst_25 : decode cX5_worst 25 = .ok (.istore_n 3, 1) := by decide +kernel
theorem dX5_worst_26 : decode cX5_worst 26 = .ok (.iconst 0, 1) := by decide +kernel
theorem dX5_worst_27 : decode cX5_worst 27 = .ok (.istore 4, 2) := by decide +kernel
theorem dX5_worst_29 : decode cX5_worst 29 = .ok (.iload 4, 2) := by decide +kernel
theorem dX5_worst_31 : decode cX5_worst 31 = .ok (.aload_n 0, 1) := by decide +kernel
theorem dX5_worst_32 : decode cX5_worst 32 = .ok (.getfield 67, 3) := by decide +kernel
theorem dX5_worst_35 : decode cX5_worst 35 = .ok (.if_icmp .ge 60, 3) := by decide +kernel
theorem dX5_worst_38 : decode cX5_worst 38 = .ok (.aload_n 0, 1) := by decide +kernel
theorem dX5_worst_39 : decode cX5_worst 39 = .ok (.getfield 51, 3) := by decide +kernel
theorem dX5_worst_42 : decode cX5_worst 42 = .ok (.iload 4, 2) := by decide +kernel
theorem dX5_worst_44 : decode cX5_worst 44 = .ok (.iaload, 1) := by decide +kernel
theorem dX5_worst_45 : decode cX5_worst 45 = .ok (.iload 4, 2) := by decide +kernel
theorem dX5_worst_47 : decode cX5_worst 47 = .ok (.if_icmp .ne 13, 3) := by decide +kernel
theorem dX5_worst_50 : decode cX5_worst 50 = .ok (.aload_n 0, 1) := by decide +kernel
theorem dX5_worst_51 : decode cX5_worst 51 = .ok (.iload 4, 2) := by decide +kernel
theorem dX5_worst_53 : decode cX5_worst 53 = .ok (.iload_n 1, 1) := by decide +kernel
theorem dX5_worst_54 : decode cX5_worst 54 = .ok (.invokevirtual 112, 3) := by decide +kernel
theorem dX5_worst_57 : decode cX5_worst 57 = .ok (.goto 4, 3) := by decide +kernel
theorem dX5_worst_60 : decode cX5_worst 60 = .ok (.iconst 0, 1) := by decide +kernel
theorem dX5_worst_61 : decode cX5_worst 61 = .ok (.istore 5, 2) := by decide +kernel
theorem dX5_worst_63 : decode cX5_worst 63 = .ok (.iload 5, 2) := by decide +kernel
theorem dX5_worst_65 : decode cX5_worst 65 = .ok (.iload_n 3, 1) := by decide +kernel
theorem dX5_worst_66 : decode cX5_worst 66 = .ok (.if_icmp .le 8, 3) := by decide +kernel
theorem dX5_worst_69 : decode cX5_worst 69 = .ok (.iload 4, 2) := by decide +kernel
theorem dX5_worst_71 : decode cX5_worst 71 = .ok (.goto 4, 3) := by decide +kernel
theorem dX5_worst_74 : decode cX5_worst 74 = .ok (.iload_n 2, 1) := by decide +kernel
theorem dX5_worst_75 : decode cX5_worst 75 = .ok (.istore_n 2, 1) := by decide +kernel
theorem dX5_worst_76 : decode cX5_worst 76 = .ok (.iload 5, 2) := by decide +kernel
theorem dX5_worst_78 : decode cX5_worst 78 = .ok (.iload_n 3, 1) := by decide +kernel
theorem dX5_worst_79 : decode cX5_worst 79 = .ok (.if_icmp .le 8, 3) := by decide +kernel
theorem dX5_worst_82 : decode cX5_worst 82 = .ok (.iload 5, 2) := by decide +kernel
theorem dX5_worst_84 : decode cX5_worst 84 = .ok (.goto 4, 3) := by decide +kernel
theorem dX5_worst_87 : decode cX5_worst 87 = .ok (.iload_n 3, 1) := by decide +kernel
theorem dX5_worst_88 : decode cX5_worst 88 = .ok (.istore_n 3, 1) := by decide +kernel
theorem dX5_worst_89 : decode cX5_worst 89 = .ok (.iinc 4 1, 3) := by decide +kernel
theorem dX5_worst_92 : decode cX5_worst 92 = .ok (.goto (-63), 3) := by decide +kernel
theorem dX5_worst_95 : decode cX5_worst 95 = .ok (.iload_n 2, 1) := by decide +kernel
theorem dX5_worst_96 : decode cX5_worst 96 = .ok (.ireturn, 1) := by decide +kernel
set_option maxRecDepth 20000 in
theorem ggX5_fix_X5_isReport : GoodIn wsX5_fix wsX5_isReport := goodIn_r _ [7, 8, 9, 10, 6, 11, 16, 17, 18, 19, 20, 21, 22, 23, 24, 25, 26, 27, 28, 29, 30, 31, 32, 33] (by decide +kernel) (by decide +kernel)
set_option maxRecDepth 20000 in
theorem gX5_fix_X5_isReport : GoodIn wsX5_fix (wsV RX5 91 RX5 yX5_isReport wsX5_isReport) := goodIn_app (goodIn_of _ (by decide +kernel)) ggX5_fix_X5_isReport
set_option maxRecDepth 20000 in
theorem ggX5_fix_X5_fails : GoodIn wsX5_fix wsX5_fails := goodIn_r _ [15, 1, 16, 17, 18, 19, 20, 21, 22, 23, 24, 25, 26, 27, 28, 29, 30, 31, 32, 33] (by decide +kernel) (by decide +kernel)
set_option maxRecDepth 20000 in
theorem gX5_fix_X5_fails : GoodIn wsX5_fix (wsV RX5 80 RX5 yX5_fails wsX5_fails) := goodIn_app (goodIn_of _ (by decide +kernel)) ggX5_fix_X5_fails
set_option maxRecDepth 20000 in
theorem ggX5_fix_X5_in : GoodIn wsX5_fix wsX5_in := goodIn_r _ [11] (by decide +kernel) (by decide +kernel)
set_option maxRecDepth 20000 in
theorem gX5_fix_X5_in : GoodIn wsX5_fix (va_wsS RX5 63 yX5_in wsX5_in) := goodIn_app (goodIn_of _ (by decide +kernel)) ggX5_fix_X5_in
theorem dX5_fix_0 : decode cX5_fix 0 = .ok (.aload_n 0, 1) := by decide +kernel
theorem dX5_fix_1 : decode cX5_fix 1 = .ok (.iconst 0, 1) := by decide +kernel
theorem dX5_fix_2 : decode cX5_fix 2 = .ok (.putfield 60, 3) := by decide +kernel
theorem dX5_fix_5 : decode cX5_fix 5 = .ok (.aload_n 0, 1) := by decide +kernel
theorem dX5_fix_6 : decode cX5_fix 6 = .ok (.iload_n 1, 1) := by decide +kernel
theorem dX5_fix_7 : decode cX5_fix 7 = .ok (.invokevirtual 91, 3) := by decide +kernel
theorem dX5_fix_10 : decode cX5_fix 10 = .ok (.ifCond .ne 9, 3) := by decide +kernel
theorem dX5_fix_13 : decode cX5_fix 13 = .ok (.aload_n 0, 1) := by decide +kernel
theorem dX5_fix_14 : decode cX5_fix 14 = .ok (.iconst 1, 1) := by decide +kernel
theorem dX5_fix_15 : decode cX5_fix 15 = .ok (.invokevirtual 80, 3) := by decide +kernel
theorem dX5_fix_18 : decode cX5_fix 18 = .ok (.ireturn, 1) := by decide +kernel
theorem dX5_fix_19 : decode cX5_fix 19 = .ok (.iload_n 2, 1) := by decide +kernel
theorem dX5_fix_20 : decode cX5_fix 20 = .ok (.iconst 1, 1) := by decide +kernel
theorem dX5_fix_21 : decode cX5_fix 21 = .ok (.iconst 3, 1) := by decide +kernel
theorem dX5_fix_22 : decode cX5_fix 22 = .ok (.invokestatic 63, 3) := by decide +kernel
theorem dX5_fix_25 : decode cX5_fix 25 = .ok (.ifCond .ne 9, 3) := by decide +kernel
theorem dX5_fix_28 : decode cX5_fix 28 = .ok (.aload_n 0, 1) := by decide +kernel
theorem dX5_fix_29 : decode cX5_fix 29 = .ok (.iconst 2, 1) := by decide +kernel
theorem dX5_fix_30 : decode cX5_fix 30 = .ok (.invokevirtual 80, 3) := by decide +kernel
theorem dX5_fix_33 : decode cX5_fix 33 = .ok (.ireturn, 1) := by decide +kernel
theorem dX5_fix_34 : decode cX5_fix 34 = .ok (.aload_n 0, 1) := by decide +kernel
theorem dX5_fix_35 : decode cX5_fix 35 = .ok (.getfield 42, 3) := by decide +kernel
theorem dX5_fix_38 : decode cX5_fix 38 = .ok (.iload_n 1, 1) := by decide +kernel
theorem dX5_fix_39 : decode cX5_fix 39 = .ok (.iaload, 1) := by decide +kernel
theorem dX5_fix_40 : decode cX5_fix 40 = .ok (.istore_n 3, 1) := by decide +kernel
theorem dX5_fix_41 : decode cX5_fix 41 = .ok (.aload_n 0, 1) := by decide +kernel
theorem dX5_fix_42 : decode cX5_fix 42 = .ok (.getfield 42, 3) := by decide +kernel
theorem dX5_fix_45 : decode cX5_fix 45 = .ok (.iload_n 1, 1) := by decide +kernel
theorem dX5_fix_46 : decode cX5_fix 46 = .ok (.iload_n 2, 1) := by decide +kernel
theorem dX5_fix_47 : decode cX5_fix 47 = .ok (.iastore, 1) := by decide +kernel
theorem dX5_fix_48 : decode cX5_fix 48 = .ok (.iload_n 3, 1) := by decide +kernel
theorem dX5_fix_49 : decode cX5_fix 49 = .ok (.ireturn, 1) := by decide +kernel
set_option maxRecDepth 20000 in
theorem ggX5_holds_X5_isReport : GoodIn wsX5_holds wsX5_isReport := goodIn_r _ [9, 10, 11, 12, 8, 13, 48, 49, 50, 51, 52, 53, 54, 55, 56, 57, 58, 59, 60, 61, 62, 63, 64, 65] (by decide +kernel) (by decide +kernel)
set_option maxRecDepth 20000 in
theorem gX5_holds_X5_isReport : GoodIn wsX5_holds (wsV RX5 91 RX5 yX5_isReport wsX5_isReport) := goodIn_app (goodIn_of _ (by decide +kernel)) ggX5_holds_X5_isReport
set_option maxRecDepth 20000 in
theorem ggX5_holds_X5_names : GoodIn wsX5_holds wsX5_names := goodIn_r _ [17, 10, 3, 18, 19, 20, 8, 21, 22, 23, 24, 25, 26, 27, 28, 29, 30, 31, 32, 33, 34, 35, 36, 37, 38, 39, 40, 41, 42, 43, 48, 49, 50, 51, 52, 53, 54, 55, 56, 57, 58, 59, 60, 61, 62, 63, 64, 65] (by decide +kernel) (by decide +kernel)
set_option maxRecDepth 20000 in
theorem gX5_holds_X5_names : GoodIn wsX5_holds (wsV RX5 108 RX5 yX5_names wsX5_names) := goodIn_app (goodIn_of _ (by decide +kernel)) ggX5_holds_X5_names
set_option maxRecDepth 20000 in
theorem ggX5_holds_X5_rateOf : GoodIn wsX5_holds wsX5_rateOf := goodIn_r _ [47, 10, 3, 30, 4, 48, 49, 50, 51, 52, 53, 54, 55, 56, 57, 58, 59, 60, 61, 62, 63, 64, 65] (by decide +kernel) (by decide +kernel)
set_option maxRecDepth 20000 in
theorem gX5_holds_X5_rateOf : GoodIn wsX5_holds (wsV RX5 112 RX5 yX5_rateOf wsX5_rateOf) := goodIn_app (goodIn_of _ (by decide +kernel)) ggX5_holds_X5_rateOf
theorem dX5_holds_0 : decode cX5_holds 0 = .ok (.aload_n 0, 1) := by decide +kernel
theorem dX5_holds_1 : decode cX5_holds 1 = .ok (.aload_n 0, 1) := by decide +kernel
theorem dX5_holds_2 : decode cX5_holds 2 = .ok (.iload_n 1, 1) := by decide +kernel
theorem dX5_holds_3 : decode cX5_holds 3 = .ok (.invokevirtual 91, 3) := by decide +kernel
theorem dX5_holds_6 : decode cX5_holds 6 = .ok (.ifCond .ne 7, 3) := by decide +kernel
theorem dX5_holds_9 : decode cX5_holds 9 = .ok (.iconst 1, 1) := by decide +kernel
theorem dX5_holds_10 : decode cX5_holds 10 = .ok (.goto 18, 3) := by decide +kernel
theorem dX5_holds_13 : decode cX5_holds 13 = .ok (.aload_n 0, 1) := by decide +kernel
theorem dX5_holds_14 : decode cX5_holds 14 = .ok (.getfield 42, 3) := by decide +kernel
theorem dX5_holds_17 : decode cX5_holds 17 = .ok (.iload_n 1, 1) := by decide +kernel
theorem dX5_holds_18 : decode cX5_holds 18 = .ok (.iaload, 1) := by decide +kernel
theorem dX5_holds_19 : decode cX5_holds 19 = .ok (.iconst (-1), 1) := by decide +kernel
theorem dX5_holds_20 : decode cX5_holds 20 = .ok (.if_icmp .ne 7, 3) := by decide +kernel
theorem dX5_holds_23 : decode cX5_holds 23 = .ok (.iconst 2, 1) := by decide +kernel
theorem dX5_holds_24 : decode cX5_holds 24 = .ok (.goto 4, 3) := by decide +kernel
theorem dX5_holds_27 : decode cX5_holds 27 = .ok (.iconst 0, 1) := by decide +kernel
theorem dX5_holds_28 : decode cX5_holds 28 = .ok (.putfield 60, 3) := by decide +kernel
theorem dX5_holds_31 : decode cX5_holds 31 = .ok (.aload_n 0, 1) := by decide +kernel
theorem dX5_holds_32 : decode cX5_holds 32 = .ok (.getfield 60, 3) := by decide +kernel
theorem dX5_holds_35 : decode cX5_holds 35 = .ok (.ifCond .le 5, 3) := by decide +kernel
theorem dX5_holds_38 : decode cX5_holds 38 = .ok (.iconst 0, 1) := by decide +kernel
theorem dX5_holds_39 : decode cX5_holds 39 = .ok (.ireturn, 1) := by decide +kernel
theorem dX5_holds_40 : decode cX5_holds 40 = .ok (.aload_n 0, 1) := by decide +kernel
theorem dX5_holds_41 : decode cX5_holds 41 = .ok (.invokevirtual 108, 3) := by decide +kernel
theorem dX5_holds_44 : decode cX5_holds 44 = .ok (.iconst 0, 1) := by decide +kernel
theorem dX5_holds_45 : decode cX5_holds 45 = .ok (.istore_n 2, 1) := by decide +kernel
theorem dX5_holds_46 : decode cX5_holds 46 = .ok (.iconst 1, 1) := by decide +kernel
theorem dX5_holds_47 : decode cX5_holds 47 = .ok (.istore_n 3, 1) := by decide +kernel
theorem dX5_holds_48 : decode cX5_holds 48 = .ok (.iconst 0, 1) := by decide +kernel
theorem dX5_holds_49 : decode cX5_holds 49 = .ok (.istore 4, 2) := by decide +kernel
theorem dX5_holds_51 : decode cX5_holds 51 = .ok (.iload 4, 2) := by decide +kernel
theorem dX5_holds_53 : decode cX5_holds 53 = .ok (.iconst 4, 1) := by decide +kernel
theorem dX5_holds_54 : decode cX5_holds 54 = .ok (.if_icmp .ge 86, 3) := by decide +kernel
theorem dX5_holds_57 : decode cX5_holds 57 = .ok (.aload_n 0, 1) := by decide +kernel
theorem dX5_holds_58 : decode cX5_holds 58 = .ok (.aload_n 0, 1) := by decide +kernel
theorem dX5_holds_59 : decode cX5_holds 59 = .ok (.getfield 51, 3) := by decide +kernel
theorem dX5_holds_62 : decode cX5_holds 62 = .ok (.iload_n 1, 1) := by decide +kernel
theorem dX5_holds_63 : decode cX5_holds 63 = .ok (.iaload, 1) := by decide +kernel
theorem dX5_holds_64 : decode cX5_holds 64 = .ok (.iload 4, 2) := by decide +kernel
theorem dX5_holds_66 : decode cX5_holds 66 = .ok (.invokevirtual 112, 3) := by decide +kernel
theorem dX5_holds_69 : decode cX5_holds 69 = .ok (.istore 5, 2) := by decide +kernel
theorem dX5_holds_71 : decode cX5_holds 71 = .ok (.iload 4, 2) := by decide +kernel
theorem dX5_holds_73 : decode cX5_holds 73 = .ok (.aload_n 0, 1) := by decide +kernel
theorem dX5_holds_74 : decode cX5_holds 74 = .ok (.getfield 42, 3) := by decide +kernel
theorem dX5_holds_77 : decode cX5_holds 77 = .ok (.iload_n 1, 1) := by decide +kernel
theorem dX5_holds_78 : decode cX5_holds 78 = .ok (.iaload, 1) := by decide +kernel
theorem dX5_holds_79 : decode cX5_holds 79 = .ok (.if_icmp .ge 14, 3) := by decide +kernel
theorem dX5_holds_82 : decode cX5_holds 82 = .ok (.iload 5, 2) := by decide +kernel
theorem dX5_holds_84 : decode cX5_holds 84 = .ok (.iload_n 2, 1) := by decide +kernel
theorem dX5_holds_85 : decode cX5_holds 85 = .ok (.if_icmp .le 8, 3) := by decide +kernel
theorem dX5_holds_88 : decode cX5_holds 88 = .ok (.iload 5, 2) := by decide +kernel
theorem dX5_holds_90 : decode cX5_holds 90 = .ok (.goto 4, 3) := by decide +kernel
theorem dX5_holds_93 : decode cX5_holds 93 = .ok (.iload_n 2, 1) := by decide +kernel
theorem dX5_holds_94 : decode cX5_holds 94 = .ok (.istore_n 2, 1) := by decide +kernel
theorem dX5_holds_95 : decode cX5_holds 95 = .ok (.iload_n 3, 1) := by decide +kernel
theorem dX5_holds_96 : decode cX5_holds 96 = .ok (.ifCond .eq 36, 3) := by decide +kernel
theorem dX5_holds_99 : decode cX5_holds 99 = .ok (.iload 4, 2) := by decide +kernel
theorem dX5_holds_101 : decode cX5_holds 101 = .ok (.aload_n 0, 1) := by decide +kernel
theorem dX5_holds_102 : decode cX5_holds 102 = .ok (.getfield 42, 3) := by decide +kernel
theorem dX5_holds_105 : decode cX5_holds 105 = .ok (.iload_n 1, 1) := by decide +kernel
theorem dX5_holds_106 : decode cX5_holds 106 = .ok (.iaload, 1) := by decide +kernel
theorem dX5_holds_107 : decode cX5_holds 107 = .ok (.if_icmp .lt 21, 3) := by decide +kernel
theorem dX5_holds_110 : decode cX5_holds 110 = .ok (.aload_n 0, 1) := by decide +kernel
theorem dX5_holds_111 : decode cX5_holds 111 = .ok (.getfield 45, 3) := by decide +kernel
theorem dX5_holds_114 : decode cX5_holds 114 = .ok (.iload 4, 2) := by decide +kernel
theorem dX5_holds_116 : decode cX5_holds 116 = .ok (.iaload, 1) := by decide +kernel
theorem dX5_holds_117 : decode cX5_holds 117 = .ok (.ifCond .eq 11, 3) := by decide +kernel
theorem dX5_holds_120 : decode cX5_holds 120 = .ok (.iconst 2, 1) := by decide +kernel
theorem dX5_holds_121 : decode cX5_holds 121 = .ok (.iload 5, 2) := by decide +kernel
theorem dX5_holds_123 : decode cX5_holds 123 = .ok (.imul, 1) := by decide +kernel
theorem dX5_holds_124 : decode cX5_holds 124 = .ok (.iload_n 2, 1) := by decide +kernel
theorem dX5_holds_125 : decode cX5_holds 125 = .ok (.if_icmp .gt 7, 3) := by decide +kernel
theorem dX5_holds_128 : decode cX5_holds 128 = .ok (.iconst 1, 1) := by decide +kernel
theorem dX5_holds_129 : decode cX5_holds 129 = .ok (.goto 4, 3) := by decide +kernel
theorem dX5_holds_132 : decode cX5_holds 132 = .ok (.iconst 0, 1) := by decide +kernel
theorem dX5_holds_133 : decode cX5_holds 133 = .ok (.istore_n 3, 1) := by decide +kernel
theorem dX5_holds_134 : decode cX5_holds 134 = .ok (.iinc 4 1, 3) := by decide +kernel
theorem dX5_holds_137 : decode cX5_holds 137 = .ok (.goto (-86), 3) := by decide +kernel
theorem dX5_holds_140 : decode cX5_holds 140 = .ok (.iload_n 3, 1) := by decide +kernel
theorem dX5_holds_141 : decode cX5_holds 141 = .ok (.ireturn, 1) := by decide +kernel
theorem dJ6_bitCount_0f7a4_0 : decode cJ6_bitCount_0f7a4 0 = .ok (.iload_n 0, 1) := by decide +kernel
theorem dJ6_bitCount_0f7a4_1 : decode cJ6_bitCount_0f7a4 1 = .ok (.iload_n 0, 1) := by decide +kernel
theorem dJ6_bitCount_0f7a4_2 : decode cJ6_bitCount_0f7a4 2 = .ok (.iconst 1, 1) := by decide +kernel
theorem dJ6_bitCount_0f7a4_3 : decode cJ6_bitCount_0f7a4 3 = .ok (.iushr, 1) := by decide +kernel
theorem dJ6_bitCount_0f7a4_4 : decode cJ6_bitCount_0f7a4 4 = .ok (.ldc_w 265, 3) := by decide +kernel
theorem dJ6_bitCount_0f7a4_7 : decode cJ6_bitCount_0f7a4 7 = .ok (.iand, 1) := by decide +kernel
theorem dJ6_bitCount_0f7a4_8 : decode cJ6_bitCount_0f7a4 8 = .ok (.isub, 1) := by decide +kernel
theorem dJ6_bitCount_0f7a4_9 : decode cJ6_bitCount_0f7a4 9 = .ok (.istore_n 0, 1) := by decide +kernel
theorem dJ6_bitCount_0f7a4_10 : decode cJ6_bitCount_0f7a4 10 = .ok (.iload_n 0, 1) := by decide +kernel
theorem dJ6_bitCount_0f7a4_11 : decode cJ6_bitCount_0f7a4 11 = .ok (.ldc_w 266, 3) := by decide +kernel
theorem dJ6_bitCount_0f7a4_14 : decode cJ6_bitCount_0f7a4 14 = .ok (.iand, 1) := by decide +kernel
theorem dJ6_bitCount_0f7a4_15 : decode cJ6_bitCount_0f7a4 15 = .ok (.iload_n 0, 1) := by decide +kernel
theorem dJ6_bitCount_0f7a4_16 : decode cJ6_bitCount_0f7a4 16 = .ok (.iconst 2, 1) := by decide +kernel
theorem dJ6_bitCount_0f7a4_17 : decode cJ6_bitCount_0f7a4 17 = .ok (.iushr, 1) := by decide +kernel
theorem dJ6_bitCount_0f7a4_18 : decode cJ6_bitCount_0f7a4 18 = .ok (.ldc_w 266, 3) := by decide +kernel
theorem dJ6_bitCount_0f7a4_21 : decode cJ6_bitCount_0f7a4 21 = .ok (.iand, 1) := by decide +kernel
theorem dJ6_bitCount_0f7a4_22 : decode cJ6_bitCount_0f7a4 22 = .ok (.iadd, 1) := by decide +kernel
theorem dJ6_bitCount_0f7a4_23 : decode cJ6_bitCount_0f7a4 23 = .ok (.istore_n 0, 1) := by decide +kernel
theorem dJ6_bitCount_0f7a4_24 : decode cJ6_bitCount_0f7a4 24 = .ok (.iload_n 0, 1) := by decide +kernel
theorem dJ6_bitCount_0f7a4_25 : decode cJ6_bitCount_0f7a4 25 = .ok (.iload_n 0, 1) := by decide +kernel
theorem dJ6_bitCount_0f7a4_26 : decode cJ6_bitCount_0f7a4 26 = .ok (.iconst 4, 1) := by decide +kernel
theorem dJ6_bitCount_0f7a4_27 : decode cJ6_bitCount_0f7a4 27 = .ok (.iushr, 1) := by decide +kernel
theorem dJ6_bitCount_0f7a4_28 : decode cJ6_bitCount_0f7a4 28 = .ok (.iadd, 1) := by decide +kernel
theorem dJ6_bitCount_0f7a4_29 : decode cJ6_bitCount_0f7a4 29 = .ok (.ldc_w 267, 3) := by decide +kernel
theorem dJ6_bitCount_0f7a4_32 : decode cJ6_bitCount_0f7a4 32 = .ok (.iand, 1) := by decide +kernel
theorem dJ6_bitCount_0f7a4_33 : decode cJ6_bitCount_0f7a4 33 = .ok (.istore_n 0, 1) := by decide +kernel
theorem dJ6_bitCount_0f7a4_34 : decode cJ6_bitCount_0f7a4 34 = .ok (.iload_n 0, 1) := by decide +kernel
theorem dJ6_bitCount_0f7a4_35 : decode cJ6_bitCount_0f7a4 35 = .ok (.iload_n 0, 1) := by decide +kernel
theorem dJ6_bitCount_0f7a4_36 : decode cJ6_bitCount_0f7a4 36 = .ok (.bipush 8, 2) := by decide +kernel
theorem dJ6_bitCount_0f7a4_38 : decode cJ6_bitCount_0f7a4 38 = .ok (.iushr, 1) := by decide +kernel
theorem dJ6_bitCount_0f7a4_39 : decode cJ6_bitCount_0f7a4 39 = .ok (.iadd, 1) := by decide +kernel
theorem dJ6_bitCount_0f7a4_40 : decode cJ6_bitCount_0f7a4 40 = .ok (.istore_n 0, 1) := by decide +kernel
theorem dJ6_bitCount_0f7a4_41 : decode cJ6_bitCount_0f7a4 41 = .ok (.iload_n 0, 1) := by decide +kernel
theorem dJ6_bitCount_0f7a4_42 : decode cJ6_bitCount_0f7a4 42 = .ok (.iload_n 0, 1) := by decide +kernel
theorem dJ6_bitCount_0f7a4_43 : decode cJ6_bitCount_0f7a4 43 = .ok (.bipush 16, 2) := by decide +kernel
theorem dJ6_bitCount_0f7a4_45 : decode cJ6_bitCount_0f7a4 45 = .ok (.iushr, 1) := by decide +kernel
theorem dJ6_bitCount_0f7a4_46 : decode cJ6_bitCount_0f7a4 46 = .ok (.iadd, 1) := by decide +kernel
theorem dJ6_bitCount_0f7a4_47 : decode cJ6_bitCount_0f7a4 47 = .ok (.istore_n 0, 1) := by decide +kernel
theorem dJ6_bitCount_0f7a4_48 : decode cJ6_bitCount_0f7a4 48 = .ok (.iload_n 0, 1) := by decide +kernel
theorem dJ6_bitCount_0f7a4_49 : decode cJ6_bitCount_0f7a4 49 = .ok (.bipush 63, 2) := by decide +kernel
theorem dJ6_bitCount_0f7a4_51 : decode cJ6_bitCount_0f7a4 51 = .ok (.iand, 1) := by decide +kernel
theorem dJ6_bitCount_0f7a4_52 : decode cJ6_bitCount_0f7a4 52 = .ok (.ireturn, 1) := by decide +kernel
theorem dJ9_max_7cf53_0 : decode cJ9_max_7cf53 0 = .ok (.iload_n 0, 1) := by decide +kernel
theorem dJ9_max_7cf53_1 : decode cJ9_max_7cf53 1 = .ok (.iload_n 1, 1) := by decide +kernel
theorem dJ9_max_7cf53_2 : decode cJ9_max_7cf53 2 = .ok (.if_icmp .lt 7, 3) := by decide +kernel
theorem dJ9_max_7cf53_5 : decode cJ9_max_7cf53 5 = .ok (.iload_n 0, 1) := by decide +kernel
theorem dJ9_max_7cf53_6 : decode cJ9_max_7cf53 6 = .ok (.goto 4, 3) := by decide +kernel
theorem dJ9_max_7cf53_9 : decode cJ9_max_7cf53 9 = .ok (.iload_n 1, 1) := by decide +kernel
theorem dJ9_max_7cf53_10 : decode cJ9_max_7cf53 10 = .ok (.ireturn, 1) := by decide +kernel
