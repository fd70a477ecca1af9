theorem dX0_init_0 : decode cX0_init 0 = .ok (.aload_n 0, 1) := by decide +kernel
theorem dX0_init_1 : decode cX0_init 1 = .ok (.invokespecial 3, 3) := by decide +kernel
theorem dX0_init_4 : decode cX0_init 4 = .ok (.aload_n 0, 1) := by decide +kernel
theorem dX0_init_5 : decode cX0_init 5 = .ok (.iconst 4, 1) := by decide +kernel
theorem dX0_init_6 : decode cX0_init 6 = .ok (.newarray .int, 2) := by decide +kernel
theorem dX0_init_8 : decode cX0_init 8 = .ok (.putfield 9, 3) := by decide +kernel
theorem dX0_init_11 : decode cX0_init 11 = .ok (.aload_n 0, 1) := by decide +kernel
theorem dX0_init_12 : decode cX0_init 12 = .ok (.iconst 4, 1) := by decide +kernel
theorem dX0_init_13 : decode cX0_init 13 = .ok (.bipush 30, 2) := by decide +kernel
theorem dX0_init_15 : decode cX0_init 15 = .ok (.multianewarray 15 2, 4) := by decide +kernel
theorem dX0_init_19 : decode cX0_init 19 = .ok (.putfield 17, 3) := by decide +kernel
theorem dX0_init_22 : decode cX0_init 22 = .ok (.aload_n 0, 1) := by decide +kernel
theorem dX0_init_23 : decode cX0_init 23 = .ok (.iconst 4, 1) := by decide +kernel
theorem dX0_init_24 : decode cX0_init 24 = .ok (.bipush 30, 2) := by decide +kernel
theorem dX0_init_26 : decode cX0_init 26 = .ok (.multianewarray 15 2, 4) := by decide +kernel
theorem dX0_init_30 : decode cX0_init 30 = .ok (.putfield 20, 3) := by decide +kernel
theorem dX0_init_33 : decode cX0_init 33 = .ok (.aload_n 0, 1) := by decide +kernel
theorem dX0_init_34 : decode cX0_init 34 = .ok (.iconst 4, 1) := by decide +kernel
theorem dX0_init_35 : decode cX0_init 35 = .ok (.bipush 30, 2) := by decide +kernel
theorem dX0_init_37 : decode cX0_init 37 = .ok (.multianewarray 15 2, 4) := by decide +kernel
theorem dX0_init_41 : decode cX0_init 41 = .ok (.putfield 23, 3) := by decide +kernel
theorem dX0_init_44 : decode cX0_init 44 = .ok (.return_, 1) := by decide +kernel
theorem dX0_isFull_0 : decode cX0_isFull 0 = .ok (.aload_n 0, 1) := by decide +kernel
theorem dX0_isFull_1 : decode cX0_isFull 1 = .ok (.getfield 9, 3) := by decide +kernel
theorem dX0_isFull_4 : decode cX0_isFull 4 = .ok (.iload_n 1, 1) := by decide +kernel
theorem dX0_isFull_5 : decode cX0_isFull 5 = .ok (.iaload, 1) := by decide +kernel
theorem dX0_isFull_6 : decode cX0_isFull 6 = .ok (.bipush 30, 2) := by decide +kernel
theorem dX0_isFull_8 : decode cX0_isFull 8 = .ok (.if_icmp .lt 7, 3) := by decide +kernel
theorem dX0_isFull_11 : decode cX0_isFull 11 = .ok (.iconst 1, 1) := by decide +kernel
theorem dX0_isFull_12 : decode cX0_isFull 12 = .ok (.goto 4, 3) := by decide +kernel
theorem dX0_isFull_15 : decode cX0_isFull 15 = .ok (.iconst 0, 1) := by decide +kernel
theorem dX0_isFull_16 : decode cX0_isFull 16 = .ok (.ireturn, 1) := by decide +kernel
theorem dX0_overlaps_0 : decode cX0_overlaps 0 = .ok (.iconst 0, 1) := by decide +kernel
theorem dX0_overlaps_1 : decode cX0_overlaps 1 = .ok (.istore 4, 2) := by decide +kernel
theorem dX0_overlaps_3 : decode cX0_overlaps 3 = .ok (.iload 4, 2) := by decide +kernel
theorem dX0_overlaps_5 : decode cX0_overlaps 5 = .ok (.aload_n 0, 1) := by decide +kernel
theorem dX0_overlaps_6 : decode cX0_overlaps 6 = .ok (.getfield 9, 3) := by decide +kernel
theorem dX0_overlaps_9 : decode cX0_overlaps 9 = .ok (.iload_n 1, 1) := by decide +kernel
theorem dX0_overlaps_10 : decode cX0_overlaps 10 = .ok (.iaload, 1) := by decide +kernel
theorem dX0_overlaps_11 : decode cX0_overlaps 11 = .ok (.if_icmp .ge 37, 3) := by decide +kernel
theorem dX0_overlaps_14 : decode cX0_overlaps 14 = .ok (.aload_n 0, 1) := by decide +kernel
theorem dX0_overlaps_15 : decode cX0_overlaps 15 = .ok (.getfield 17, 3) := by decide +kernel
theorem dX0_overlaps_18 : decode cX0_overlaps 18 = .ok (.iload_n 1, 1) := by decide +kernel
theorem dX0_overlaps_19 : decode cX0_overlaps 19 = .ok (.aaload, 1) := by decide +kernel
theorem dX0_overlaps_20 : decode cX0_overlaps 20 = .ok (.iload 4, 2) := by decide +kernel
theorem dX0_overlaps_22 : decode cX0_overlaps 22 = .ok (.iaload, 1) := by decide +kernel
theorem dX0_overlaps_23 : decode cX0_overlaps 23 = .ok (.iload_n 3, 1) := by decide +kernel
theorem dX0_overlaps_24 : decode cX0_overlaps 24 = .ok (.if_icmp .gt 18, 3) := by decide +kernel
theorem dX0_overlaps_27 : decode cX0_overlaps 27 = .ok (.iload_n 2, 1) := by decide +kernel
theorem dX0_overlaps_28 : decode cX0_overlaps 28 = .ok (.aload_n 0, 1) := by decide +kernel
theorem dX0_overlaps_29 : decode cX0_overlaps 29 = .ok (.getfield 20, 3) := by decide +kernel
theorem dX0_overlaps_32 : decode cX0_overlaps 32 = .ok (.iload_n 1, 1) := by decide +kernel
theorem dX0_overlaps_33 : decode cX0_overlaps 33 = .ok (.aaload, 1) := by decide +kernel
theorem dX0_overlaps_34 : decode cX0_overlaps 34 = .ok (.iload 4, 2) := by decide +kernel
theorem dX0_overlaps_36 : decode cX0_overlaps 36 = .ok (.iaload, 1) := by decide +kernel
theorem dX0_overlaps_37 : decode cX0_overlaps 37 = .ok (.if_icmp .gt 5, 3) := by decide +kernel
theorem dX0_overlaps_40 : decode cX0_overlaps 40 = .ok (.iconst 1, 1) := by decide +kernel
theorem dX0_overlaps_41 : decode cX0_overlaps 41 = .ok (.ireturn, 1) := by decide +kernel
theorem dX0_overlaps_42 : decode cX0_overlaps 42 = .ok (.iinc 4 1, 3) := by decide +kernel
theorem dX0_overlaps_45 : decode cX0_overlaps 45 = .ok (.goto (-42), 3) := by decide +kernel
theorem dX0_overlaps_48 : decode cX0_overlaps 48 = .ok (.iconst 0, 1) := by decide +kernel
theorem dX0_overlaps_49 : decode cX0_overlaps 49 = .ok (.ireturn, 1) := by decide +kernel
theorem dX0_add_0 : decode cX0_add 0 = .ok (.aload_n 0, 1) := by decide +kernel
theorem dX0_add_1 : decode cX0_add 1 = .ok (.getfield 9, 3) := by decide +kernel
theorem dX0_add_4 : decode cX0_add 4 = .ok (.iload_n 1, 1) := by decide +kernel
theorem dX0_add_5 : decode cX0_add 5 = .ok (.iaload, 1) := by decide +kernel
theorem dX0_add_6 : decode cX0_add 6 = .ok (.istore 5, 2) := by decide +kernel
theorem dX0_add_8 : decode cX0_add 8 = .ok (.aload_n 0, 1) := by decide +kernel
theorem dX0_add_9 : decode cX0_add 9 = .ok (.getfield 17, 3) := by decide +kernel
theorem dX0_add_12 : decode cX0_add 12 = .ok (.iload_n 1, 1) := by decide +kernel
theorem dX0_add_13 : decode cX0_add 13 = .ok (.aaload, 1) := by decide +kernel
theorem dX0_add_14 : decode cX0_add 14 = .ok (.iload 5, 2) := by decide +kernel
theorem dX0_add_16 : decode cX0_add 16 = .ok (.iload_n 2, 1) := by decide +kernel
theorem dX0_add_17 : decode cX0_add 17 = .ok (.iastore, 1) := by decide +kernel
theorem dX0_add_18 : decode cX0_add 18 = .ok (.aload_n 0, 1) := by decide +kernel
theorem dX0_add_19 : decode cX0_add 19 = .ok (.getfield 20, 3) := by decide +kernel
theorem dX0_add_22 : decode cX0_add 22 = .ok (.iload_n 1, 1) := by decide +kernel
theorem dX0_add_23 : decode cX0_add 23 = .ok (.aaload, 1) := by decide +kernel
theorem dX0_add_24 : decode cX0_add 24 = .ok (.iload 5, 2) := by decide +kernel
theorem dX0_add_26 : decode cX0_add 26 = .ok (.iload_n 3, 1) := by decide +kernel
theorem dX0_add_27 : decode cX0_add 27 = .ok (.iastore, 1) := by decide +kernel
theorem dX0_add_28 : decode cX0_add 28 = .ok (.aload_n 0, 1) := by decide +kernel
theorem dX0_add_29 : decode cX0_add 29 = .ok (.getfield 23, 3) := by decide +kernel
theorem dX0_add_32 : decode cX0_add 32 = .ok (.iload_n 1, 1) := by decide +kernel
theorem dX0_add_33 : decode cX0_add 33 = .ok (.aaload, 1) := by decide +kernel
theorem dX0_add_34 : decode cX0_add 34 = .ok (.iload 5, 2) := by decide +kernel
theorem dX0_add_36 : decode cX0_add 36 = .ok (.iload 4, 2) := by decide +kernel
theorem dX0_add_38 : decode cX0_add 38 = .ok (.iastore, 1) := by decide +kernel
theorem dX0_add_39 : decode cX0_add 39 = .ok (.aload_n 0, 1) := by decide +kernel
theorem dX0_add_40 : decode cX0_add 40 = .ok (.getfield 9, 3) := by decide +kernel
theorem dX0_add_43 : decode cX0_add 43 = .ok (.iload_n 1, 1) := by decide +kernel
theorem dX0_add_44 : decode cX0_add 44 = .ok (.iload 5, 2) := by decide +kernel
theorem dX0_add_46 : decode cX0_add 46 = .ok (.iconst 1, 1) := by decide +kernel
theorem dX0_add_47 : decode cX0_add 47 = .ok (.iadd, 1) := by decide +kernel
theorem dX0_add_48 : decode cX0_add 48 = .ok (.iastore, 1) := by decide +kernel
theorem dX0_add_49 : decode cX0_add 49 = .ok (.return_, 1) := by decide +kernel
theorem dX0_functionAt_0 : decode cX0_functionAt 0 = .ok (.iconst 0, 1) := by decide +kernel
theorem dX0_functionAt_1 : decode cX0_functionAt 1 = .ok (.istore_n 3, 1) := by decide +kernel
theorem dX0_functionAt_2 : decode cX0_functionAt 2 = .ok (.iload_n 3, 1) := by decide +kernel
theorem dX0_functionAt_3 : decode cX0_functionAt 3 = .ok (.aload_n 0, 1) := by decide +kernel
theorem dX0_functionAt_4 : decode cX0_functionAt 4 = .ok (.getfield 9, 3) := by decide +kernel
theorem dX0_functionAt_7 : decode cX0_functionAt 7 = .ok (.iload_n 1, 1) := by decide +kernel
theorem dX0_functionAt_8 : decode cX0_functionAt 8 = .ok (.iaload, 1) := by decide +kernel
theorem dX0_functionAt_9 : decode cX0_functionAt 9 = .ok (.if_icmp .ge 42, 3) := by decide +kernel
theorem dX0_functionAt_12 : decode cX0_functionAt 12 = .ok (.aload_n 0, 1) := by decide +kernel
theorem dX0_functionAt_13 : decode cX0_functionAt 13 = .ok (.getfield 17, 3) := by decide +kernel
theorem dX0_functionAt_16 : decode cX0_functionAt 16 = .ok (.iload_n 1, 1) := by decide +kernel
theorem dX0_functionAt_17 : decode cX0_functionAt 17 = .ok (.aaload, 1) := by decide +kernel
theorem dX0_functionAt_18 : decode cX0_functionAt 18 = .ok (.iload_n 3, 1) := by decide +kernel
theorem dX0_functionAt_19 : decode cX0_functionAt 19 = .ok (.iaload, 1) := by decide +kernel
theorem dX0_functionAt_20 : decode cX0_functionAt 20 = .ok (.iload_n 2, 1) := by decide +kernel
theorem dX0_functionAt_21 : decode cX0_functionAt 21 = .ok (.if_icmp .gt 24, 3) := by decide +kernel
theorem dX0_functionAt_24 : decode cX0_functionAt 24 = .ok (.iload_n 2, 1) := by decide +kernel
theorem dX0_functionAt_25 : decode cX0_functionAt 25 = .ok (.aload_n 0, 1) := by decide +kernel
theorem dX0_functionAt_26 : decode cX0_functionAt 26 = .ok (.getfield 20, 3) := by decide +kernel
theorem dX0_functionAt_29 : decode cX0_functionAt 29 = .ok (.iload_n 1, 1) := by decide +kernel
theorem dX0_functionAt_30 : decode cX0_functionAt 30 = .ok (.aaload, 1) := by decide +kernel
theorem dX0_functionAt_31 : decode cX0_functionAt 31 = .ok (.iload_n 3, 1) := by decide +kernel
theorem dX0_functionAt_32 : decode cX0_functionAt 32 = .ok (.iaload, 1) := by decide +kernel
theorem dX0_functionAt_33 : decode cX0_functionAt 33 = .ok (.if_icmp .gt 12, 3) := by decide +kernel
theorem dX0_functionAt_36 : decode cX0_functionAt 36 = .ok (.aload_n 0, 1) := by decide +kernel
theorem dX0_functionAt_37 : decode cX0_functionAt 37 = .ok (.getfield 23, 3) := by decide +kernel
theorem dX0_functionAt_40 : decode cX0_functionAt 40 = .ok (.iload_n 1, 1) := by decide +kernel
theorem dX0_functionAt_41 : decode cX0_functionAt 41 = .ok (.aaload, 1) := by decide +kernel
theorem dX0_functionAt_42 : decode cX0_functionAt 42 = .ok (.iload_n 3, 1) := by decide +kernel
theorem dX0_functionAt_43 : decode cX0_functionAt 43 = .ok (.iaload, 1) := by decide +kernel
theorem dX0_functionAt_44 : decode cX0_functionAt 44 = .ok (.ireturn, 1) := by decide +kernel
theorem dX0_functionAt_45 : decode cX0_functionAt 45 = .ok (.iinc 3 1, 3) := by decide +kernel
theorem dX0_functionAt_48 : decode cX0_functionAt 48 = .ok (.goto (-46), 3) := by decide +kernel
theorem dX0_functionAt_51 : decode cX0_functionAt 51 = .ok (.iconst (-1), 1) := by decide +kernel
theorem dX0_functionAt_52 : decode cX0_functionAt 52 = .ok (.ireturn, 1) := by decide +kernel
theorem dX1_init_0 : decode cX1_init 0 = .ok (.aload_n 0, 1) := by decide +kernel
theorem dX1_init_1 : decode cX1_init 1 = .ok (.invokespecial 3, 3) := by decide +kernel
theorem dX1_init_4 : decode cX1_init 4 = .ok (.aload_n 0, 1) := by decide +kernel
theorem dX1_init_5 : decode cX1_init 5 = .ok (.bipush 60, 2) := by decide +kernel
theorem dX1_init_7 : decode cX1_init 7 = .ok (.iconst 4, 1) := by decide +kernel
theorem dX1_init_8 : decode cX1_init 8 = .ok (.multianewarray 9 2, 4) := by decide +kernel
theorem dX1_init_12 : decode cX1_init 12 = .ok (.putfield 11, 3) := by decide +kernel
theorem dX1_init_15 : decode cX1_init 15 = .ok (.aload_n 0, 1) := by decide +kernel
theorem dX1_init_16 : decode cX1_init 16 = .ok (.bipush 60, 2) := by decide +kernel
theorem dX1_init_18 : decode cX1_init 18 = .ok (.iconst 4, 1) := by decide +kernel
theorem dX1_init_19 : decode cX1_init 19 = .ok (.multianewarray 9 2, 4) := by decide +kernel
theorem dX1_init_23 : decode cX1_init 23 = .ok (.putfield 16, 3) := by decide +kernel
theorem dX1_init_26 : decode cX1_init 26 = .ok (.aload_n 0, 1) := by decide +kernel
theorem dX1_init_27 : decode cX1_init 27 = .ok (.bipush 60, 2) := by decide +kernel
theorem dX1_init_29 : decode cX1_init 29 = .ok (.newarray .int, 2) := by decide +kernel
theorem dX1_init_31 : decode cX1_init 31 = .ok (.putfield 19, 3) := by decide +kernel
theorem dX1_init_34 : decode cX1_init 34 = .ok (.aload_n 0, 1) := by decide +kernel
theorem dX1_init_35 : decode cX1_init 35 = .ok (.bipush 60, 2) := by decide +kernel
theorem dX1_init_37 : decode cX1_init 37 = .ok (.newarray .int, 2) := by decide +kernel
theorem dX1_init_39 : decode cX1_init 39 = .ok (.putfield 23, 3) := by decide +kernel
theorem dX1_init_42 : decode cX1_init 42 = .ok (.return_, 1) := by decide +kernel
theorem dX1_isName_0 : decode cX1_isName 0 = .ok (.aload_n 0, 1) := by decide +kernel
theorem dX1_isName_1 : decode cX1_isName 1 = .ok (.getfield 23, 3) := by decide +kernel
theorem dX1_isName_4 : decode cX1_isName 4 = .ok (.iload_n 1, 1) := by decide +kernel
theorem dX1_isName_5 : decode cX1_isName 5 = .ok (.iaload, 1) := by decide +kernel
theorem dX1_isName_6 : decode cX1_isName 6 = .ok (.iload_n 1, 1) := by decide +kernel
theorem dX1_isName_7 : decode cX1_isName 7 = .ok (.if_icmp .ne 7, 3) := by decide +kernel
theorem dX1_isName_10 : decode cX1_isName 10 = .ok (.iconst 1, 1) := by decide +kernel
theorem dX1_isName_11 : decode cX1_isName 11 = .ok (.goto 4, 3) := by decide +kernel
theorem dX1_isName_14 : decode cX1_isName 14 = .ok (.iconst 0, 1) := by decide +kernel
theorem dX1_isName_15 : decode cX1_isName 15 = .ok (.ireturn, 1) := by decide +kernel
set_option maxRecDepth 20000 in
theorem ggX1_readStacksOf_X1_readStack : GoodIn wsX1_readStacksOf wsX1_readStack := goodIn_r _ [5, 6, 7, 8, 9, 10, 11, 12, 13, 14, 20, 21, 22, 23, 15, 16, 17, 18, 19, 24, 25, 26, 27] (by decide +kernel) (by decide +kernel)
set_option maxRecDepth 20000 in
theorem gX1_readStacksOf_X1_readStack : GoodIn wsX1_readStacksOf (wsV RX1 35 RX1 yX1_readStack wsX1_readStack) := goodIn_app (goodIn_of _ (by decide +kernel)) ggX1_readStacksOf_X1_readStack
theorem dX1_readStacksOf_0 : decode cX1_readStacksOf 0 = .ok (.iconst 0, 1) := by decide +kernel
theorem dX1_readStacksOf_1 : decode cX1_readStacksOf 1 = .ok (.istore 4, 2) := by decide +kernel
theorem dX1_readStacksOf_3 : decode cX1_readStacksOf 3 = .ok (.iload 4, 2) := by decide +kernel
theorem dX1_readStacksOf_5 : decode cX1_readStacksOf 5 = .ok (.aload_n 2, 1) := by decide +kernel
theorem dX1_readStacksOf_6 : decode cX1_readStacksOf 6 = .ok (.getfield 26, 3) := by decide +kernel
theorem dX1_readStacksOf_9 : decode cX1_readStacksOf 9 = .ok (.if_icmp .ge 28, 3) := by decide +kernel
theorem dX1_readStacksOf_12 : decode cX1_readStacksOf 12 = .ok (.aload_n 2, 1) := by decide +kernel
theorem dX1_readStacksOf_13 : decode cX1_readStacksOf 13 = .ok (.getfield 32, 3) := by decide +kernel
theorem dX1_readStacksOf_16 : decode cX1_readStacksOf 16 = .ok (.iload 4, 2) := by decide +kernel
theorem dX1_readStacksOf_18 : decode cX1_readStacksOf 18 = .ok (.iaload, 1) := by decide +kernel
theorem dX1_readStacksOf_19 : decode cX1_readStacksOf 19 = .ok (.iload_n 1, 1) := by decide +kernel
theorem dX1_readStacksOf_20 : decode cX1_readStacksOf 20 = .ok (.if_icmp .ne 11, 3) := by decide +kernel
theorem dX1_readStacksOf_23 : decode cX1_readStacksOf 23 = .ok (.aload_n 0, 1) := by decide +kernel
theorem dX1_readStacksOf_24 : decode cX1_readStacksOf 24 = .ok (.iload 4, 2) := by decide +kernel
theorem dX1_readStacksOf_26 : decode cX1_readStacksOf 26 = .ok (.aload_n 2, 1) := by decide +kernel
theorem dX1_readStacksOf_27 : decode cX1_readStacksOf 27 = .ok (.aload_n 3, 1) := by decide +kernel
theorem dX1_readStacksOf_28 : decode cX1_readStacksOf 28 = .ok (.invokevirtual 35, 3) := by decide +kernel
theorem dX1_readStacksOf_31 : decode cX1_readStacksOf 31 = .ok (.iinc 4 1, 3) := by decide +kernel
theorem dX1_readStacksOf_34 : decode cX1_readStacksOf 34 = .ok (.goto (-31), 3) := by decide +kernel
theorem dX1_readStacksOf_37 : decode cX1_readStacksOf 37 = .ok (.return_, 1) := by decide +kernel
set_option maxRecDepth 20000 in
theorem ggX1_readStack_X0_functionAt : GoodIn wsX1_readStack wsX0_functionAt := goodIn_r _ [5, 6, 7, 8, 9, 19, 20, 21, 22] (by decide +kernel) (by decide +kernel)
set_option maxRecDepth 20000 in
theorem gX1_readStack_X0_functionAt_n42 : GoodIn wsX1_readStack (wsX0_functionAt) := ggX1_readStack_X0_functionAt
theorem dX1_readStack_0 : decode cX1_readStack 0 = .ok (.iconst 0, 1) := by decide +kernel
theorem dX1_readStack_1 : decode cX1_readStack 1 = .ok (.istore 4, 2) := by decide +kernel
theorem dX1_readStack_3 : decode cX1_readStack 3 = .ok (.iload 4, 2) := by decide +kernel
theorem dX1_readStack_5 : decode cX1_readStack 5 = .ok (.iconst 4, 1) := by decide +kernel
theorem dX1_readStack_6 : decode cX1_readStack 6 = .ok (.if_icmp .ge 37, 3) := by decide +kernel
theorem dX1_readStack_9 : decode cX1_readStack 9 = .ok (.aload_n 0, 1) := by decide +kernel
theorem dX1_readStack_10 : decode cX1_readStack 10 = .ok (.getfield 11, 3) := by decide +kernel
theorem dX1_readStack_13 : decode cX1_readStack 13 = .ok (.iload_n 1, 1) := by decide +kernel
theorem dX1_readStack_14 : decode cX1_readStack 14 = .ok (.aaload, 1) := by decide +kernel
theorem dX1_readStack_15 : decode cX1_readStack 15 = .ok (.iload 4, 2) := by decide +kernel
theorem dX1_readStack_17 : decode cX1_readStack 17 = .ok (.aload_n 3, 1) := by decide +kernel
theorem dX1_readStack_18 : decode cX1_readStack 18 = .ok (.aload_n 2, 1) := by decide +kernel
theorem dX1_readStack_19 : decode cX1_readStack 19 = .ok (.getfield 32, 3) := by decide +kernel
theorem dX1_readStack_22 : decode cX1_readStack 22 = .ok (.iload_n 1, 1) := by decide +kernel
theorem dX1_readStack_23 : decode cX1_readStack 23 = .ok (.iaload, 1) := by decide +kernel
theorem dX1_readStack_24 : decode cX1_readStack 24 = .ok (.aload_n 2, 1) := by decide +kernel
theorem dX1_readStack_25 : decode cX1_readStack 25 = .ok (.getfield 39, 3) := by decide +kernel
theorem dX1_readStack_28 : decode cX1_readStack 28 = .ok (.iload_n 1, 1) := by decide +kernel
theorem dX1_readStack_29 : decode cX1_readStack 29 = .ok (.aaload, 1) := by decide +kernel
theorem dX1_readStack_30 : decode cX1_readStack 30 = .ok (.iload 4, 2) := by decide +kernel
theorem dX1_readStack_32 : decode cX1_readStack 32 = .ok (.iaload, 1) := by decide +kernel
theorem dX1_readStack_33 : decode cX1_readStack 33 = .ok (.invokevirtual 42, 3) := by decide +kernel
theorem dX1_readStack_36 : decode cX1_readStack 36 = .ok (.iastore, 1) := by decide +kernel
theorem dX1_readStack_37 : decode cX1_readStack 37 = .ok (.iinc 4 1, 3) := by decide +kernel
theorem dX1_readStack_40 : decode cX1_readStack 40 = .ok (.goto (-37), 3) := by decide +kernel
theorem dX1_readStack_43 : decode cX1_readStack 43 = .ok (.return_, 1) := by decide +kernel
set_option maxRecDepth 20000 in
theorem ggX1_sortAll_X1_sort : GoodIn wsX1_sortAll wsX1_sort := goodIn_r _ [5, 6, 7, 8, 9, 10, 4, 11, 12, 13, 14, 15, 16, 17, 18, 19, 20, 21, 22, 28, 29, 30, 31, 32, 33, 34, 23, 24, 25, 26, 27] (by decide +kernel) (by decide +kernel)
set_option maxRecDepth 20000 in
theorem gX1_sortAll_X1_sort : GoodIn wsX1_sortAll (wsV RX1 48 RX1 yX1_sort wsX1_sort) := goodIn_app (goodIn_of _ (by decide +kernel)) ggX1_sortAll_X1_sort
theorem dX1_sortAll_0 : decode cX1_sortAll 0 = .ok (.iconst 0, 1) := by decide +kernel
theorem dX1_sortAll_1 : decode cX1_sortAll 1 = .ok (.istore_n 3, 1) := by decide +kernel
theorem dX1_sortAll_2 : decode cX1_sortAll 2 = .ok (.iload_n 3, 1) := by decide +kernel
theorem dX1_sortAll_3 : decode cX1_sortAll 3 = .ok (.aload_n 1, 1) := by decide +kernel
theorem dX1_sortAll_4 : decode cX1_sortAll 4 = .ok (.getfield 26, 3) := by decide +kernel
theorem dX1_sortAll_7 : decode cX1_sortAll 7 = .ok (.if_icmp .ge 16, 3) := by decide +kernel
theorem dX1_sortAll_10 : decode cX1_sortAll 10 = .ok (.aload_n 0, 1) := by decide +kernel
theorem dX1_sortAll_11 : decode cX1_sortAll 11 = .ok (.iload_n 3, 1) := by decide +kernel
theorem dX1_sortAll_12 : decode cX1_sortAll 12 = .ok (.aload_n 1, 1) := by decide +kernel
theorem dX1_sortAll_13 : decode cX1_sortAll 13 = .ok (.aload_n 2, 1) := by decide +kernel
theorem dX1_sortAll_14 : decode cX1_sortAll 14 = .ok (.invokevirtual 48, 3) := by decide +kernel
theorem dX1_sortAll_17 : decode cX1_sortAll 17 = .ok (.iinc 3 1, 3) := by decide +kernel
theorem dX1_sortAll_20 : decode cX1_sortAll 20 = .ok (.goto (-18), 3) := by decide +kernel
theorem dX1_sortAll_23 : decode cX1_sortAll 23 = .ok (.return_, 1) := by decide +kernel
set_option maxRecDepth 20000 in
theorem ggX1_sort_X1_pickMattering : GoodIn wsX1_sort wsX1_pickMattering := goodIn_r _ [7, 8, 9, 10, 11, 12, 13, 14, 23, 24, 25, 19, 20, 21, 22] (by decide +kernel) (by decide +kernel)
set_option maxRecDepth 20000 in
theorem gX1_sort_X1_pickMattering : GoodIn wsX1_sort (wsV RX1 52 RX1 yX1_pickMattering wsX1_pickMattering) := goodIn_app (goodIn_of _ (by decide +kernel)) ggX1_sort_X1_pickMattering
set_option maxRecDepth 20000 in
theorem ggX1_sort_X1_signatureOf : GoodIn wsX1_sort wsX1_signatureOf := goodIn_r _ [18, 9, 19, 20, 21, 22, 26, 27, 28, 29, 30] (by decide +kernel) (by decide +kernel)
set_option maxRecDepth 20000 in
theorem gX1_sort_X1_signatureOf : GoodIn wsX1_sort (wsV RX1 56 RX1 yX1_signatureOf wsX1_signatureOf) := goodIn_app (goodIn_of _ (by decide +kernel)) ggX1_sort_X1_signatureOf
theorem dX1_sort_0 : decode cX1_sort 0 = .ok (.aload_n 0, 1) := by decide +kernel
theorem dX1_sort_1 : decode cX1_sort 1 = .ok (.iload_n 1, 1) := by decide +kernel
theorem dX1_sort_2 : decode cX1_sort 2 = .ok (.aload_n 3, 1) := by decide +kernel
theorem dX1_sort_3 : decode cX1_sort 3 = .ok (.invokevirtual 52, 3) := by decide +kernel
theorem dX1_sort_6 : decode cX1_sort 6 = .ok (.aload_n 0, 1) := by decide +kernel
theorem dX1_sort_7 : decode cX1_sort 7 = .ok (.getfield 19, 3) := by decide +kernel
theorem dX1_sort_10 : decode cX1_sort 10 = .ok (.iload_n 1, 1) := by decide +kernel
theorem dX1_sort_11 : decode cX1_sort 11 = .ok (.aload_n 0, 1) := by decide +kernel
theorem dX1_sort_12 : decode cX1_sort 12 = .ok (.iload_n 1, 1) := by decide +kernel
theorem dX1_sort_13 : decode cX1_sort 13 = .ok (.aload_n 2, 1) := by decide +kernel
theorem dX1_sort_14 : decode cX1_sort 14 = .ok (.invokevirtual 56, 3) := by decide +kernel
theorem dX1_sort_17 : decode cX1_sort 17 = .ok (.iastore, 1) := by decide +kernel
theorem dX1_sort_18 : decode cX1_sort 18 = .ok (.iconst 0, 1) := by decide +kernel
theorem dX1_sort_19 : decode cX1_sort 19 = .ok (.istore 4, 2) := by decide +kernel
theorem dX1_sort_21 : decode cX1_sort 21 = .ok (.iload 4, 2) := by decide +kernel
theorem dX1_sort_23 : decode cX1_sort 23 = .ok (.iload_n 1, 1) := by decide +kernel
theorem dX1_sort_24 : decode cX1_sort 24 = .ok (.if_icmp .ge 25, 3) := by decide +kernel
theorem dX1_sort_27 : decode cX1_sort 27 = .ok (.aload_n 0, 1) := by decide +kernel
theorem dX1_sort_28 : decode cX1_sort 28 = .ok (.getfield 19, 3) := by decide +kernel
theorem dX1_sort_31 : decode cX1_sort 31 = .ok (.iload 4, 2) := by decide +kernel
theorem dX1_sort_33 : decode cX1_sort 33 = .ok (.iaload, 1) := by decide +kernel
theorem dX1_sort_34 : decode cX1_sort 34 = .ok (.aload_n 0, 1) := by decide +kernel
theorem dX1_sort_35 : decode cX1_sort 35 = .ok (.getfield 19, 3) := by decide +kernel
theorem dX1_sort_38 : decode cX1_sort 38 = .ok (.iload_n 1, 1) := by decide +kernel
theorem dX1_sort_39 : decode cX1_sort 39 = .ok (.iaload, 1) := by decide +kernel
theorem dX1_sort_40 : decode cX1_sort 40 = .ok (.if_icmp .eq 9, 3) := by decide +kernel
theorem dX1_sort_43 : decode cX1_sort 43 = .ok (.iinc 4 1, 3) := by decide +kernel
theorem dX1_sort_46 : decode cX1_sort 46 = .ok (.goto (-25), 3) := by decide +kernel
theorem dX1_sort_49 : decode cX1_sort 49 = .ok (.aload_n 0, 1) := by decide +kernel
theorem dX1_sort_50 : decode cX1_sort 50 = .ok (.getfield 23, 3) := by decide +kernel
theorem dX1_sort_53 : decode cX1_sort 53 = .ok (.iload_n 1, 1) := by decide +kernel
theorem dX1_sort_54 : decode cX1_sort 54 = .ok (.iload 4, 2) := by decide +kernel
theorem dX1_sort_56 : decode cX1_sort 56 = .ok (.iastore, 1) := by decide +kernel
theorem dX1_sort_57 : decode cX1_sort 57 = .ok (.return_, 1) := by decide +kernel
set_option maxRecDepth 20000 in
theorem ggX1_pickMattering_X3_inTheEnd : GoodIn wsX1_pickMattering wsX3_inTheEnd := goodIn_r _ [6, 7, 8, 9, 10] (by decide +kernel) (by decide +kernel)
set_option maxRecDepth 20000 in
theorem gX1_pickMattering_X3_inTheEnd_n69 : GoodIn wsX1_pickMattering (wsX3_inTheEnd) := ggX1_pickMattering_X3_inTheEnd
theorem dX1_pickMattering_0 : decode cX1_pickMattering 0 = .ok (.iconst 0, 1) := by decide +kernel
theorem dX1_pickMattering_1 : decode cX1_pickMattering 1 = .ok (.istore_n 3, 1) := by decide +kernel
theorem dX1_pickMattering_2 : decode cX1_pickMattering 2 = .ok (.iconst 0, 1) := by decide +kernel
theorem dX1_pickMattering_3 : decode cX1_pickMattering 3 = .ok (.istore 4, 2) := by decide +kernel
theorem dX1_pickMattering_5 : decode cX1_pickMattering 5 = .ok (.iload 4, 2) := by decide +kernel
theorem dX1_pickMattering_7 : decode cX1_pickMattering 7 = .ok (.iconst 4, 1) := by decide +kernel
theorem dX1_pickMattering_8 : decode cX1_pickMattering 8 = .ok (.if_icmp .ge 61, 3) := by decide +kernel
theorem dX1_pickMattering_11 : decode cX1_pickMattering 11 = .ok (.iload_n 3, 1) := by decide +kernel
theorem dX1_pickMattering_12 : decode cX1_pickMattering 12 = .ok (.aload_n 2, 1) := by decide +kernel
theorem dX1_pickMattering_13 : decode cX1_pickMattering 13 = .ok (.getfield 60, 3) := by decide +kernel
theorem dX1_pickMattering_16 : decode cX1_pickMattering 16 = .ok (.if_icmp .ge 53, 3) := by decide +kernel
theorem dX1_pickMattering_19 : decode cX1_pickMattering 19 = .ok (.aload_n 0, 1) := by decide +kernel
theorem dX1_pickMattering_20 : decode cX1_pickMattering 20 = .ok (.getfield 11, 3) := by decide +kernel
theorem dX1_pickMattering_23 : decode cX1_pickMattering 23 = .ok (.iload_n 1, 1) := by decide +kernel
theorem dX1_pickMattering_24 : decode cX1_pickMattering 24 = .ok (.aaload, 1) := by decide +kernel
theorem dX1_pickMattering_25 : decode cX1_pickMattering 25 = .ok (.iload 4, 2) := by decide +kernel
theorem dX1_pickMattering_27 : decode cX1_pickMattering 27 = .ok (.iaload, 1) := by decide +kernel
theorem dX1_pickMattering_28 : decode cX1_pickMattering 28 = .ok (.istore 5, 2) := by decide +kernel
theorem dX1_pickMattering_30 : decode cX1_pickMattering 30 = .ok (.iload 5, 2) := by decide +kernel
theorem dX1_pickMattering_32 : decode cX1_pickMattering 32 = .ok (.iconst (-1), 1) := by decide +kernel
theorem dX1_pickMattering_33 : decode cX1_pickMattering 33 = .ok (.if_icmp .eq 30, 3) := by decide +kernel
theorem dX1_pickMattering_36 : decode cX1_pickMattering 36 = .ok (.aload_n 2, 1) := by decide +kernel
theorem dX1_pickMattering_37 : decode cX1_pickMattering 37 = .ok (.getfield 65, 3) := by decide +kernel
theorem dX1_pickMattering_40 : decode cX1_pickMattering 40 = .ok (.iload 5, 2) := by decide +kernel
theorem dX1_pickMattering_42 : decode cX1_pickMattering 42 = .ok (.baload, 1) := by decide +kernel
theorem dX1_pickMattering_43 : decode cX1_pickMattering 43 = .ok (.ifCond .ne 20, 3) := by decide +kernel
theorem dX1_pickMattering_46 : decode cX1_pickMattering 46 = .ok (.aload_n 0, 1) := by decide +kernel
theorem dX1_pickMattering_47 : decode cX1_pickMattering 47 = .ok (.getfield 16, 3) := by decide +kernel
theorem dX1_pickMattering_50 : decode cX1_pickMattering 50 = .ok (.iload_n 1, 1) := by decide +kernel
theorem dX1_pickMattering_51 : decode cX1_pickMattering 51 = .ok (.aaload, 1) := by decide +kernel
theorem dX1_pickMattering_52 : decode cX1_pickMattering 52 = .ok (.iload_n 3, 1) := by decide +kernel
theorem dX1_pickMattering_53 : decode cX1_pickMattering 53 = .ok (.aload_n 2, 1) := by decide +kernel
theorem dX1_pickMattering_54 : decode cX1_pickMattering 54 = .ok (.iload 5, 2) := by decide +kernel
theorem dX1_pickMattering_56 : decode cX1_pickMattering 56 = .ok (.invokevirtual 69, 3) := by decide +kernel
theorem dX1_pickMattering_59 : decode cX1_pickMattering 59 = .ok (.iastore, 1) := by decide +kernel
theorem dX1_pickMattering_60 : decode cX1_pickMattering 60 = .ok (.iinc 3 1, 3) := by decide +kernel
theorem dX1_pickMattering_63 : decode cX1_pickMattering 63 = .ok (.iinc 4 1, 3) := by decide +kernel
theorem dX1_pickMattering_66 : decode cX1_pickMattering 66 = .ok (.goto (-61), 3) := by decide +kernel
theorem dX1_pickMattering_69 : decode cX1_pickMattering 69 = .ok (.iload_n 3, 1) := by decide +kernel
theorem dX1_pickMattering_70 : decode cX1_pickMattering 70 = .ok (.istore 4, 2) := by decide +kernel
theorem dX1_pickMattering_72 : decode cX1_pickMattering 72 = .ok (.iload 4, 2) := by decide +kernel
theorem dX1_pickMattering_74 : decode cX1_pickMattering 74 = .ok (.iconst 4, 1) := by decide +kernel
theorem dX1_pickMattering_75 : decode cX1_pickMattering 75 = .ok (.if_icmp .ge 19, 3) := by decide +kernel
theorem dX1_pickMattering_78 : decode cX1_pickMattering 78 = .ok (.aload_n 0, 1) := by decide +kernel
theorem dX1_pickMattering_79 : decode cX1_pickMattering 79 = .ok (.getfield 16, 3) := by decide +kernel
theorem dX1_pickMattering_82 : decode cX1_pickMattering 82 = .ok (.iload_n 1, 1) := by decide +kernel
theorem dX1_pickMattering_83 : decode cX1_pickMattering 83 = .ok (.aaload, 1) := by decide +kernel
theorem dX1_pickMattering_84 : decode cX1_pickMattering 84 = .ok (.iload 4, 2) := by decide +kernel
theorem dX1_pickMattering_86 : decode cX1_pickMattering 86 = .ok (.iconst (-1), 1) := by decide +kernel
theorem dX1_pickMattering_87 : decode cX1_pickMattering 87 = .ok (.iastore, 1) := by decide +kernel
theorem dX1_pickMattering_88 : decode cX1_pickMattering 88 = .ok (.iinc 4 1, 3) := by decide +kernel
theorem dX1_pickMattering_91 : decode cX1_pickMattering 91 = .ok (.goto (-19), 3) := by decide +kernel
theorem dX1_pickMattering_94 : decode cX1_pickMattering 94 = .ok (.return_, 1) := by decide +kernel
theorem dX1_signatureOf_0 : decode cX1_signatureOf 0 = .ok (.iconst 0, 1) := by decide +kernel
theorem dX1_signatureOf_1 : decode cX1_signatureOf 1 = .ok (.istore_n 3, 1) := by decide +kernel
theorem dX1_signatureOf_2 : decode cX1_signatureOf 2 = .ok (.iconst 0, 1) := by decide +kernel
theorem dX1_signatureOf_3 : decode cX1_signatureOf 3 = .ok (.istore 4, 2) := by decide +kernel
theorem dX1_signatureOf_5 : decode cX1_signatureOf 5 = .ok (.iload 4, 2) := by decide +kernel
theorem dX1_signatureOf_7 : decode cX1_signatureOf 7 = .ok (.iconst 4, 1) := by decide +kernel
theorem dX1_signatureOf_8 : decode cX1_signatureOf 8 = .ok (.if_icmp .ge 26, 3) := by decide +kernel
theorem dX1_signatureOf_11 : decode cX1_signatureOf 11 = .ok (.iload_n 3, 1) := by decide +kernel
theorem dX1_signatureOf_12 : decode cX1_signatureOf 12 = .ok (.bipush 31, 2) := by decide +kernel
theorem dX1_signatureOf_14 : decode cX1_signatureOf 14 = .ok (.imul, 1) := by decide +kernel
theorem dX1_signatureOf_15 : decode cX1_signatureOf 15 = .ok (.aload_n 0, 1) := by decide +kernel
theorem dX1_signatureOf_16 : decode cX1_signatureOf 16 = .ok (.getfield 16, 3) := by decide +kernel
theorem dX1_signatureOf_19 : decode cX1_signatureOf 19 = .ok (.iload_n 1, 1) := by decide +kernel
theorem dX1_signatureOf_20 : decode cX1_signatureOf 20 = .ok (.aaload, 1) := by decide +kernel
theorem dX1_signatureOf_21 : decode cX1_signatureOf 21 = .ok (.iload 4, 2) := by decide +kernel
theorem dX1_signatureOf_23 : decode cX1_signatureOf 23 = .ok (.iaload, 1) := by decide +kernel
theorem dX1_signatureOf_24 : decode cX1_signatureOf 24 = .ok (.iadd, 1) := by decide +kernel
theorem dX1_signatureOf_25 : decode cX1_signatureOf 25 = .ok (.iconst 1, 1) := by decide +kernel
theorem dX1_signatureOf_26 : decode cX1_signatureOf 26 = .ok (.iadd, 1) := by decide +kernel
theorem dX1_signatureOf_27 : decode cX1_signatureOf 27 = .ok (.istore_n 3, 1) := by decide +kernel
theorem dX1_signatureOf_28 : decode cX1_signatureOf 28 = .ok (.iinc 4 1, 3) := by decide +kernel
theorem dX1_signatureOf_31 : decode cX1_signatureOf 31 = .ok (.goto (-26), 3) := by decide +kernel
theorem dX1_signatureOf_34 : decode cX1_signatureOf 34 = .ok (.iload_n 3, 1) := by decide +kernel
theorem dX1_signatureOf_35 : decode cX1_signatureOf 35 = .ok (.ifCond .le 5, 3) := by decide +kernel
theorem dX1_signatureOf_38 : decode cX1_signatureOf 38 = .ok (.iload_n 3, 1) := by decide +kernel
theorem dX1_signatureOf_39 : decode cX1_signatureOf 39 = .ok (.ireturn, 1) := by decide +kernel
theorem dX1_signatureOf_40 : decode cX1_signatureOf 40 = .ok (.iconst (-1), 1) := by decide +kernel
theorem dX1_signatureOf_41 : decode cX1_signatureOf 41 = .ok (.aload_n 2, 1) := by decide +kernel
theorem dX1_signatureOf_42 : decode cX1_signatureOf 42 = .ok (.getfield 32, 3) := by decide +kernel
theorem dX1_signatureOf_45 : decode cX1_signatureOf 45 = .ok (.iload_n 1, 1) := by decide +kernel
theorem dX1_signatureOf_46 : decode cX1_signatureOf 46 = .ok (.iaload, 1) := by decide +kernel
theorem dX1_signatureOf_47 : decode cX1_signatureOf 47 = .ok (.sipush 10000, 3) := by decide +kernel
theorem dX1_signatureOf_50 : decode cX1_signatureOf 50 = .ok (.imul, 1) := by decide +kernel
theorem dX1_signatureOf_51 : decode cX1_signatureOf 51 = .ok (.isub, 1) := by decide +kernel
theorem dX1_signatureOf_52 : decode cX1_signatureOf 52 = .ok (.aload_n 2, 1) := by decide +kernel
theorem dX1_signatureOf_53 : decode cX1_signatureOf 53 = .ok (.getfield 39, 3) := by decide +kernel
theorem dX1_signatureOf_56 : decode cX1_signatureOf 56 = .ok (.iload_n 1, 1) := by decide +kernel
theorem dX1_signatureOf_57 : decode cX1_signatureOf 57 = .ok (.aaload, 1) := by decide +kernel
theorem dX1_signatureOf_58 : decode cX1_signatureOf 58 = .ok (.iconst 0, 1) := by decide +kernel
theorem dX1_signatureOf_59 : decode cX1_signatureOf 59 = .ok (.iaload, 1) := by decide +kernel
theorem dX1_signatureOf_60 : decode cX1_signatureOf 60 = .ok (.isub, 1) := by decide +kernel
theorem dX1_signatureOf_61 : decode cX1_signatureOf 61 = .ok (.ireturn, 1) := by decide +kernel
theorem dX2_init_0 : decode cX2_init 0 = .ok (.aload_n 0, 1) := by decide +kernel
theorem dX2_init_1 : decode cX2_init 1 = .ok (.invokespecial 3, 3) := by decide +kernel
theorem dX2_init_4 : decode cX2_init 4 = .ok (.aload_n 0, 1) := by decide +kernel
theorem dX2_init_5 : decode cX2_init 5 = .ok (.iconst 0, 1) := by decide +kernel
theorem dX2_init_6 : decode cX2_init 6 = .ok (.putfield 9, 3) := by decide +kernel
theorem dX2_init_9 : decode cX2_init 9 = .ok (.aload_n 0, 1) := by decide +kernel
theorem dX2_init_10 : decode cX2_init 10 = .ok (.bipush 60, 2) := by decide +kernel
theorem dX2_init_12 : decode cX2_init 12 = .ok (.newarray .int, 2) := by decide +kernel
theorem dX2_init_14 : decode cX2_init 14 = .ok (.putfield 15, 3) := by decide +kernel
theorem dX2_init_17 : decode cX2_init 17 = .ok (.aload_n 0, 1) := by decide +kernel
theorem dX2_init_18 : decode cX2_init 18 = .ok (.bipush 60, 2) := by decide +kernel
theorem dX2_init_20 : decode cX2_init 20 = .ok (.newarray .int, 2) := by decide +kernel
theorem dX2_init_22 : decode cX2_init 22 = .ok (.putfield 19, 3) := by decide +kernel
theorem dX2_init_25 : decode cX2_init 25 = .ok (.aload_n 0, 1) := by decide +kernel
theorem dX2_init_26 : decode cX2_init 26 = .ok (.bipush 60, 2) := by decide +kernel
theorem dX2_init_28 : decode cX2_init 28 = .ok (.iconst 4, 1) := by decide +kernel
theorem dX2_init_29 : decode cX2_init 29 = .ok (.multianewarray 22 2, 4) := by decide +kernel
theorem dX2_init_33 : decode cX2_init 33 = .ok (.putfield 24, 3) := by decide +kernel
theorem dX2_init_36 : decode cX2_init 36 = .ok (.aload_n 0, 1) := by decide +kernel
theorem dX2_init_37 : decode cX2_init 37 = .ok (.bipush 60, 2) := by decide +kernel
theorem dX2_init_39 : decode cX2_init 39 = .ok (.newarray .int, 2) := by decide +kernel
theorem dX2_init_41 : decode cX2_init 41 = .ok (.putfield 27, 3) := by decide +kernel
theorem dX2_init_44 : decode cX2_init 44 = .ok (.return_, 1) := by decide +kernel
theorem dX2_add_0 : decode cX2_add 0 = .ok (.aload_n 0, 1) := by decide +kernel
theorem dX2_add_1 : decode cX2_add 1 = .ok (.getfield 9, 3) := by decide +kernel
theorem dX2_add_4 : decode cX2_add 4 = .ok (.istore_n 3, 1) := by decide +kernel
theorem dX2_add_5 : decode cX2_add 5 = .ok (.aload_n 0, 1) := by decide +kernel
theorem dX2_add_6 : decode cX2_add 6 = .ok (.getfield 15, 3) := by decide +kernel
theorem dX2_add_9 : decode cX2_add 9 = .ok (.iload_n 3, 1) := by decide +kernel
theorem dX2_add_10 : decode cX2_add 10 = .ok (.iload_n 1, 1) := by decide +kernel
theorem dX2_add_11 : decode cX2_add 11 = .ok (.iastore, 1) := by decide +kernel
theorem dX2_add_12 : decode cX2_add 12 = .ok (.aload_n 0, 1) := by decide +kernel
theorem dX2_add_13 : decode cX2_add 13 = .ok (.getfield 19, 3) := by decide +kernel
theorem dX2_add_16 : decode cX2_add 16 = .ok (.iload_n 3, 1) := by decide +kernel
theorem dX2_add_17 : decode cX2_add 17 = .ok (.iload_n 2, 1) := by decide +kernel
theorem dX2_add_18 : decode cX2_add 18 = .ok (.iastore, 1) := by decide +kernel
theorem dX2_add_19 : decode cX2_add 19 = .ok (.aload_n 0, 1) := by decide +kernel
theorem dX2_add_20 : decode cX2_add 20 = .ok (.getfield 27, 3) := by decide +kernel
theorem dX2_add_23 : decode cX2_add 23 = .ok (.iload_n 3, 1) := by decide +kernel
theorem dX2_add_24 : decode cX2_add 24 = .ok (.iconst (-1), 1) := by decide +kernel
theorem dX2_add_25 : decode cX2_add 25 = .ok (.iastore, 1) := by decide +kernel
theorem dX2_add_26 : decode cX2_add 26 = .ok (.aload_n 0, 1) := by decide +kernel
theorem dX2_add_27 : decode cX2_add 27 = .ok (.iload_n 3, 1) := by decide +kernel
theorem dX2_add_28 : decode cX2_add 28 = .ok (.iconst 1, 1) := by decide +kernel
theorem dX2_add_29 : decode cX2_add 29 = .ok (.iadd, 1) := by decide +kernel
theorem dX2_add_30 : decode cX2_add 30 = .ok (.putfield 9, 3) := by decide +kernel
theorem dX2_add_33 : decode cX2_add 33 = .ok (.iload_n 3, 1) := by decide +kernel
theorem dX2_add_34 : decode cX2_add 34 = .ok (.ireturn, 1) := by decide +kernel
theorem dX2_setStack_0 : decode cX2_setStack 0 = .ok (.aload_n 0, 1) := by decide +kernel
theorem dX2_setStack_1 : decode cX2_setStack 1 = .ok (.getfield 24, 3) := by decide +kernel
theorem dX2_setStack_4 : decode cX2_setStack 4 = .ok (.iload_n 1, 1) := by decide +kernel
theorem dX2_setStack_5 : decode cX2_setStack 5 = .ok (.aaload, 1) := by decide +kernel
theorem dX2_setStack_6 : decode cX2_setStack 6 = .ok (.iconst 0, 1) := by decide +kernel
theorem dX2_setStack_7 : decode cX2_setStack 7 = .ok (.iload_n 2, 1) := by decide +kernel
theorem dX2_setStack_8 : decode cX2_setStack 8 = .ok (.iastore, 1) := by decide +kernel
theorem dX2_setStack_9 : decode cX2_setStack 9 = .ok (.aload_n 0, 1) := by decide +kernel
theorem dX2_setStack_10 : decode cX2_setStack 10 = .ok (.getfield 24, 3) := by decide +kernel
theorem dX2_setStack_13 : decode cX2_setStack 13 = .ok (.iload_n 1, 1) := by decide +kernel
theorem dX2_setStack_14 : decode cX2_setStack 14 = .ok (.aaload, 1) := by decide +kernel
theorem dX2_setStack_15 : decode cX2_setStack 15 = .ok (.iconst 1, 1) := by decide +kernel
theorem dX2_setStack_16 : decode cX2_setStack 16 = .ok (.iload_n 3, 1) := by decide +kernel
theorem dX2_setStack_17 : decode cX2_setStack 17 = .ok (.iastore, 1) := by decide +kernel
theorem dX2_setStack_18 : decode cX2_setStack 18 = .ok (.aload_n 0, 1) := by decide +kernel
theorem dX2_setStack_19 : decode cX2_setStack 19 = .ok (.getfield 24, 3) := by decide +kernel
theorem dX2_setStack_22 : decode cX2_setStack 22 = .ok (.iload_n 1, 1) := by decide +kernel
theorem dX2_setStack_23 : decode cX2_setStack 23 = .ok (.aaload, 1) := by decide +kernel
theorem dX2_setStack_24 : decode cX2_setStack 24 = .ok (.iconst 2, 1) := by decide +kernel
theorem dX2_setStack_25 : decode cX2_setStack 25 = .ok (.iload 4, 2) := by decide +kernel
theorem dX2_setStack_27 : decode cX2_setStack 27 = .ok (.iastore, 1) := by decide +kernel
theorem dX2_setStack_28 : decode cX2_setStack 28 = .ok (.aload_n 0, 1) := by decide +kernel
theorem dX2_setStack_29 : decode cX2_setStack 29 = .ok (.getfield 24, 3) := by decide +kernel
theorem dX2_setStack_32 : decode cX2_setStack 32 = .ok (.iload_n 1, 1) := by decide +kernel
theorem dX2_setStack_33 : decode cX2_setStack 33 = .ok (.aaload, 1) := by decide +kernel
theorem dX2_setStack_34 : decode cX2_setStack 34 = .ok (.iconst 3, 1) := by decide +kernel
theorem dX2_setStack_35 : decode cX2_setStack 35 = .ok (.iload 5, 2) := by decide +kernel
theorem dX2_setStack_37 : decode cX2_setStack 37 = .ok (.iastore, 1) := by decide +kernel
theorem dX2_setStack_38 : decode cX2_setStack 38 = .ok (.return_, 1) := by decide +kernel
theorem dX3_init_0 : decode cX3_init 0 = .ok (.aload_n 0, 1) := by decide +kernel
theorem dX3_init_1 : decode cX3_init 1 = .ok (.invokespecial 3, 3) := by decide +kernel
theorem dX3_init_4 : decode cX3_init 4 = .ok (.aload_n 0, 1) := by decide +kernel
theorem dX3_init_5 : decode cX3_init 5 = .ok (.bipush 30, 2) := by decide +kernel
theorem dX3_init_7 : decode cX3_init 7 = .ok (.newarray .boolean, 2) := by decide +kernel
theorem dX3_init_9 : decode cX3_init 9 = .ok (.putfield 9, 3) := by decide +kernel
theorem dX3_init_12 : decode cX3_init 12 = .ok (.aload_n 0, 1) := by decide +kernel
theorem dX3_init_13 : decode cX3_init 13 = .ok (.bipush 30, 2) := by decide +kernel
theorem dX3_init_15 : decode cX3_init 15 = .ok (.newarray .int, 2) := by decide +kernel
theorem dX3_init_17 : decode cX3_init 17 = .ok (.putfield 15, 3) := by decide +kernel
theorem dX3_init_20 : decode cX3_init 20 = .ok (.aload_n 0, 1) := by decide +kernel
theorem dX3_init_21 : decode cX3_init 21 = .ok (.iconst 2, 1) := by decide +kernel
theorem dX3_init_22 : decode cX3_init 22 = .ok (.putfield 19, 3) := by decide +kernel
theorem dX3_init_25 : decode cX3_init 25 = .ok (.iconst 0, 1) := by decide +kernel
theorem dX3_init_26 : decode cX3_init 26 = .ok (.istore_n 1, 1) := by decide +kernel
theorem dX3_init_27 : decode cX3_init 27 = .ok (.iload_n 1, 1) := by decide +kernel
theorem dX3_init_28 : decode cX3_init 28 = .ok (.bipush 30, 2) := by decide +kernel
theorem dX3_init_30 : decode cX3_init 30 = .ok (.if_icmp .ge 16, 3) := by decide +kernel
theorem dX3_init_33 : decode cX3_init 33 = .ok (.aload_n 0, 1) := by decide +kernel
theorem dX3_init_34 : decode cX3_init 34 = .ok (.getfield 15, 3) := by decide +kernel
theorem dX3_init_37 : decode cX3_init 37 = .ok (.iload_n 1, 1) := by decide +kernel
theorem dX3_init_38 : decode cX3_init 38 = .ok (.iload_n 1, 1) := by decide +kernel
theorem dX3_init_39 : decode cX3_init 39 = .ok (.iastore, 1) := by decide +kernel
theorem dX3_init_40 : decode cX3_init 40 = .ok (.iinc 1 1, 3) := by decide +kernel
theorem dX3_init_43 : decode cX3_init 43 = .ok (.goto (-16), 3) := by decide +kernel
theorem dX3_init_46 : decode cX3_init 46 = .ok (.return_, 1) := by decide +kernel
theorem dX3_leadsTo_0 : decode cX3_leadsTo 0 = .ok (.iload_n 1, 1) := by decide +kernel
theorem dX3_leadsTo_1 : decode cX3_leadsTo 1 = .ok (.istore_n 3, 1) := by decide +kernel
theorem dX3_leadsTo_2 : decode cX3_leadsTo 2 = .ok (.iconst 0, 1) := by decide +kernel
theorem dX3_leadsTo_3 : decode cX3_leadsTo 3 = .ok (.istore 4, 2) := by decide +kernel
theorem dX3_leadsTo_5 : decode cX3_leadsTo 5 = .ok (.iload 4, 2) := by decide +kernel
theorem dX3_leadsTo_7 : decode cX3_leadsTo 7 = .ok (.bipush 30, 2) := by decide +kernel
theorem dX3_leadsTo_9 : decode cX3_leadsTo 9 = .ok (.if_icmp .ge 21, 3) := by decide +kernel
theorem dX3_leadsTo_12 : decode cX3_leadsTo 12 = .ok (.iload_n 3, 1) := by decide +kernel
theorem dX3_leadsTo_13 : decode cX3_leadsTo 13 = .ok (.iload_n 2, 1) := by decide +kernel
theorem dX3_leadsTo_14 : decode cX3_leadsTo 14 = .ok (.if_icmp .eq 16, 3) := by decide +kernel
theorem dX3_leadsTo_17 : decode cX3_leadsTo 17 = .ok (.aload_n 0, 1) := by decide +kernel
theorem dX3_leadsTo_18 : decode cX3_leadsTo 18 = .ok (.getfield 15, 3) := by decide +kernel
theorem dX3_leadsTo_21 : decode cX3_leadsTo 21 = .ok (.iload_n 3, 1) := by decide +kernel
theorem dX3_leadsTo_22 : decode cX3_leadsTo 22 = .ok (.iaload, 1) := by decide +kernel
theorem dX3_leadsTo_23 : decode cX3_leadsTo 23 = .ok (.istore_n 3, 1) := by decide +kernel
theorem dX3_leadsTo_24 : decode cX3_leadsTo 24 = .ok (.iinc 4 1, 3) := by decide +kernel
theorem dX3_leadsTo_27 : decode cX3_leadsTo 27 = .ok (.goto (-22), 3) := by decide +kernel
theorem dX3_leadsTo_30 : decode cX3_leadsTo 30 = .ok (.iload_n 3, 1) := by decide +kernel
theorem dX3_leadsTo_31 : decode cX3_leadsTo 31 = .ok (.iload_n 2, 1) := by decide +kernel
theorem dX3_leadsTo_32 : decode cX3_leadsTo 32 = .ok (.if_icmp .ne 7, 3) := by decide +kernel
theorem dX3_leadsTo_35 : decode cX3_leadsTo 35 = .ok (.iconst 1, 1) := by decide +kernel
theorem dX3_leadsTo_36 : decode cX3_leadsTo 36 = .ok (.goto 4, 3) := by decide +kernel
theorem dX3_leadsTo_39 : decode cX3_leadsTo 39 = .ok (.iconst 0, 1) := by decide +kernel
theorem dX3_leadsTo_40 : decode cX3_leadsTo 40 = .ok (.ireturn, 1) := by decide +kernel
theorem dX3_inTheEnd_0 : decode cX3_inTheEnd 0 = .ok (.iload_n 1, 1) := by decide +kernel
theorem dX3_inTheEnd_1 : decode cX3_inTheEnd 1 = .ok (.istore_n 2, 1) := by decide +kernel
theorem dX3_inTheEnd_2 : decode cX3_inTheEnd 2 = .ok (.iconst 0, 1) := by decide +kernel
theorem dX3_inTheEnd_3 : decode cX3_inTheEnd 3 = .ok (.istore_n 3, 1) := by decide +kernel
theorem dX3_inTheEnd_4 : decode cX3_inTheEnd 4 = .ok (.iload_n 3, 1) := by decide +kernel
theorem dX3_inTheEnd_5 : decode cX3_inTheEnd 5 = .ok (.bipush 30, 2) := by decide +kernel
theorem dX3_inTheEnd_7 : decode cX3_inTheEnd 7 = .ok (.if_icmp .ge 26, 3) := by decide +kernel
theorem dX3_inTheEnd_10 : decode cX3_inTheEnd 10 = .ok (.aload_n 0, 1) := by decide +kernel
theorem dX3_inTheEnd_11 : decode cX3_inTheEnd 11 = .ok (.getfield 15, 3) := by decide +kernel
theorem dX3_inTheEnd_14 : decode cX3_inTheEnd 14 = .ok (.iload_n 2, 1) := by decide +kernel
theorem dX3_inTheEnd_15 : decode cX3_inTheEnd 15 = .ok (.iaload, 1) := by decide +kernel
theorem dX3_inTheEnd_16 : decode cX3_inTheEnd 16 = .ok (.iload_n 2, 1) := by decide +kernel
theorem dX3_inTheEnd_17 : decode cX3_inTheEnd 17 = .ok (.if_icmp .eq 16, 3) := by decide +kernel
theorem dX3_inTheEnd_20 : decode cX3_inTheEnd 20 = .ok (.aload_n 0, 1) := by decide +kernel
theorem dX3_inTheEnd_21 : decode cX3_inTheEnd 21 = .ok (.getfield 15, 3) := by decide +kernel
theorem dX3_inTheEnd_24 : decode cX3_inTheEnd 24 = .ok (.iload_n 2, 1) := by decide +kernel
theorem dX3_inTheEnd_25 : decode cX3_inTheEnd 25 = .ok (.iaload, 1) := by decide +kernel
theorem dX3_inTheEnd_26 : decode cX3_inTheEnd 26 = .ok (.istore_n 2, 1) := by decide +kernel
theorem dX3_inTheEnd_27 : decode cX3_inTheEnd 27 = .ok (.iinc 3 1, 3) := by decide +kernel
theorem dX3_inTheEnd_30 : decode cX3_inTheEnd 30 = .ok (.goto (-26), 3) := by decide +kernel
theorem dX3_inTheEnd_33 : decode cX3_inTheEnd 33 = .ok (.iload_n 2, 1) := by decide +kernel
theorem dX3_inTheEnd_34 : decode cX3_inTheEnd 34 = .ok (.ireturn, 1) := by decide +kernel
set_option maxRecDepth 20000 in
theorem ggX4_init_X0_init : GoodIn wsX4_init wsX0_init := goodIn_r _ [24, 25, 2, 3, 20, 26, 27, 28, 29, 30, 55, 56, 57, 58] (by decide +kernel) (by decide +kernel)
set_option maxRecDepth 20000 in
theorem gX4_init_X0_init_n9 : GoodIn wsX4_init (wsX0_init) := ggX4_init_X0_init
set_option maxRecDepth 20000 in
theorem ggX4_init_X3_init : GoodIn wsX4_init wsX3_init := goodIn_r _ [32, 33, 2, 3, 34, 35, 20, 36, 37, 65, 66, 67] (by decide +kernel) (by decide +kernel)
set_option maxRecDepth 20000 in
theorem gX4_init_X3_init_n18 : GoodIn wsX4_init (wsX3_init) := ggX4_init_X3_init
set_option maxRecDepth 20000 in
theorem ggX4_init_X2_init : GoodIn wsX4_init wsX2_init := goodIn_r _ [39, 40, 2, 3, 41, 20, 42, 43, 44, 45, 46, 68, 69, 70, 71, 72] (by decide +kernel) (by decide +kernel)
set_option maxRecDepth 20000 in
theorem gX4_init_X2_init_n25 : GoodIn wsX4_init (wsX2_init) := ggX4_init_X2_init
set_option maxRecDepth 20000 in
theorem ggX4_init_X1_init : GoodIn wsX4_init wsX1_init := goodIn_r _ [48, 49, 2, 3, 50, 20, 51, 52, 53, 54, 73, 74, 75, 76] (by decide +kernel) (by decide +kernel)
set_option maxRecDepth 20000 in
theorem gX4_init_X1_init_n32 : GoodIn wsX4_init (wsX1_init) := ggX4_init_X1_init
theorem dX4_init_0 : decode cX4_init 0 = .ok (.aload_n 0, 1) := by decide +kernel
theorem dX4_init_1 : decode cX4_init 1 = .ok (.invokespecial 1, 3) := by decide +kernel
theorem dX4_init_4 : decode cX4_init 4 = .ok (.aload_n 0, 1) := by decide +kernel
theorem dX4_init_5 : decode cX4_init 5 = .ok (.new 7, 3) := by decide +kernel
theorem dX4_init_8 : decode cX4_init 8 = .ok (.dup, 1) := by decide +kernel
theorem dX4_init_9 : decode cX4_init 9 = .ok (.invokespecial 9, 3) := by decide +kernel
theorem dX4_init_12 : decode cX4_init 12 = .ok (.putfield 10, 3) := by decide +kernel
theorem dX4_init_15 : decode cX4_init 15 = .ok (.aload_n 0, 1) := by decide +kernel
theorem dX4_init_16 : decode cX4_init 16 = .ok (.new 16, 3) := by decide +kernel
theorem dX4_init_19 : decode cX4_init 19 = .ok (.dup, 1) := by decide +kernel
theorem dX4_init_20 : decode cX4_init 20 = .ok (.invokespecial 18, 3) := by decide +kernel
theorem dX4_init_23 : decode cX4_init 23 = .ok (.putfield 19, 3) := by decide +kernel
theorem dX4_init_26 : decode cX4_init 26 = .ok (.aload_n 0, 1) := by decide +kernel
theorem dX4_init_27 : decode cX4_init 27 = .ok (.new 23, 3) := by decide +kernel
theorem dX4_init_30 : decode cX4_init 30 = .ok (.dup, 1) := by decide +kernel
theorem dX4_init_31 : decode cX4_init 31 = .ok (.invokespecial 25, 3) := by decide +kernel
theorem dX4_init_34 : decode cX4_init 34 = .ok (.putfield 26, 3) := by decide +kernel
theorem dX4_init_37 : decode cX4_init 37 = .ok (.aload_n 0, 1) := by decide +kernel
theorem dX4_init_38 : decode cX4_init 38 = .ok (.new 30, 3) := by decide +kernel
theorem dX4_init_41 : decode cX4_init 41 = .ok (.dup, 1) := by decide +kernel
theorem dX4_init_42 : decode cX4_init 42 = .ok (.invokespecial 32, 3) := by decide +kernel
theorem dX4_init_45 : decode cX4_init 45 = .ok (.putfield 33, 3) := by decide +kernel
theorem dX4_init_48 : decode cX4_init 48 = .ok (.aload_n 0, 1) := by decide +kernel
theorem dX4_init_49 : decode cX4_init 49 = .ok (.iconst 4, 1) := by decide +kernel
theorem dX4_init_50 : decode cX4_init 50 = .ok (.newarray .int, 2) := by decide +kernel
theorem dX4_init_52 : decode cX4_init 52 = .ok (.putfield 37, 3) := by decide +kernel
theorem dX4_init_55 : decode cX4_init 55 = .ok (.aload_n 0, 1) := by decide +kernel
theorem dX4_init_56 : decode cX4_init 56 = .ok (.bipush 100, 2) := by decide +kernel
theorem dX4_init_58 : decode cX4_init 58 = .ok (.putfield 41, 3) := by decide +kernel
theorem dX4_init_61 : decode cX4_init 61 = .ok (.return_, 1) := by decide +kernel
set_option maxRecDepth 20000 in
theorem ggX4_addRange_X4_isBelow : GoodIn wsX4_addRange wsX4_isBelow := goodIn_r _ [10] (by decide +kernel) (by decide +kernel)
set_option maxRecDepth 20000 in
theorem gX4_addRange_X4_isBelow : GoodIn wsX4_addRange (va_wsS RX4 45 yX4_isBelow wsX4_isBelow) := goodIn_app (goodIn_of _ (by decide +kernel)) ggX4_addRange_X4_isBelow
set_option maxRecDepth 20000 in
theorem ggX4_addRange_X4_checkArgument : GoodIn wsX4_addRange wsX4_checkArgument := goodIn_ca (goodIn_r _ [13, 14, 15] (by decide +kernel) (by decide +kernel)) (goodIn_sub (fun _ h => List.mem_cons_of_mem _ (List.mem_append_right _ h)) (by decide +kernel))
set_option maxRecDepth 20000 in
theorem gX4_addRange_X4_checkArgument : GoodIn wsX4_addRange (va_wsS RX4 49 yX4_checkArgument wsX4_checkArgument) := goodIn_app (goodIn_of _ (by decide +kernel)) ggX4_addRange_X4_checkArgument
set_option maxRecDepth 20000 in
theorem ggX4_addRange_X0_isFull : GoodIn wsX4_addRange wsX0_isFull := goodIn_r _ [19, 20, 71, 72, 73, 74] (by decide +kernel) (by decide +kernel)
set_option maxRecDepth 20000 in
theorem gX4_addRange_X0_isFull_n53 : GoodIn wsX4_addRange (wsX0_isFull) := ggX4_addRange_X0_isFull
set_option maxRecDepth 20000 in
theorem ggX4_addRange_X0_overlaps : GoodIn wsX4_addRange wsX0_overlaps := goodIn_r _ [23, 20, 24, 25, 71, 72, 73, 74] (by decide +kernel) (by decide +kernel)
set_option maxRecDepth 20000 in
theorem gX4_addRange_X0_overlaps_n64 : GoodIn wsX4_addRange (wsX0_overlaps) := ggX4_addRange_X0_overlaps
set_option maxRecDepth 20000 in
theorem ggX4_addRange_X0_add : GoodIn wsX4_addRange wsX0_add := goodIn_r _ [28, 20, 24, 25, 29, 71, 72, 73, 74] (by decide +kernel) (by decide +kernel)
set_option maxRecDepth 20000 in
theorem gX4_addRange_X0_add_n70 : GoodIn wsX4_addRange (wsX0_add) := ggX4_addRange_X0_add
set_option maxRecDepth 20000 in
theorem ggX4_addRange_X1_readStacksOf : GoodIn wsX4_addRange wsX1_readStacksOf := goodIn_r _ [33, 34, 35, 36, 31, 37, 38, 39, 17, 40, 41, 20, 24, 25, 29, 75, 76, 77, 78, 79, 80, 81, 82, 83, 71, 72, 73, 74] (by decide +kernel) (by decide +kernel)
set_option maxRecDepth 20000 in
theorem gX4_addRange_X1_readStacksOf_n74 : GoodIn wsX4_addRange (wsX1_readStacksOf) := ggX4_addRange_X1_readStacksOf
set_option maxRecDepth 20000 in
theorem ggX4_addRange_X1_sortAll : GoodIn wsX4_addRange wsX1_sortAll := goodIn_r _ [44, 45, 46, 47, 31, 48, 49, 50, 51, 52, 53, 54, 38, 55, 56, 57, 58, 59, 60, 61, 62, 63, 64, 75, 76, 77, 78, 79, 80, 81, 82, 83, 84, 85, 86] (by decide +kernel) (by decide +kernel)
set_option maxRecDepth 20000 in
theorem gX4_addRange_X1_sortAll_n78 : GoodIn wsX4_addRange (wsX1_sortAll) := ggX4_addRange_X1_sortAll
theorem dX4_addRange_0 : decode cX4_addRange 0 = .ok (.iload_n 1, 1) := by decide +kernel
theorem dX4_addRange_1 : decode cX4_addRange 1 = .ok (.iconst 4, 1) := by decide +kernel
theorem dX4_addRange_2 : decode cX4_addRange 2 = .ok (.invokestatic 45, 3) := by decide +kernel
theorem dX4_addRange_5 : decode cX4_addRange 5 = .ok (.ifCond .eq 17, 3) := by decide +kernel
theorem dX4_addRange_8 : decode cX4_addRange 8 = .ok (.iload 4, 2) := by decide +kernel
theorem dX4_addRange_10 : decode cX4_addRange 10 = .ok (.bipush 30, 2) := by decide +kernel
theorem dX4_addRange_12 : decode cX4_addRange 12 = .ok (.invokestatic 45, 3) := by decide +kernel
theorem dX4_addRange_15 : decode cX4_addRange 15 = .ok (.ifCond .eq 7, 3) := by decide +kernel
theorem dX4_addRange_18 : decode cX4_addRange 18 = .ok (.iconst 1, 1) := by decide +kernel
theorem dX4_addRange_19 : decode cX4_addRange 19 = .ok (.goto 4, 3) := by decide +kernel
theorem dX4_addRange_22 : decode cX4_addRange 22 = .ok (.iconst 0, 1) := by decide +kernel
theorem dX4_addRange_23 : decode cX4_addRange 23 = .ok (.invokestatic 49, 3) := by decide +kernel
theorem dX4_addRange_26 : decode cX4_addRange 26 = .ok (.iload_n 2, 1) := by decide +kernel
theorem dX4_addRange_27 : decode cX4_addRange 27 = .ok (.sipush 10000, 3) := by decide +kernel
theorem dX4_addRange_30 : decode cX4_addRange 30 = .ok (.invokestatic 45, 3) := by decide +kernel
theorem dX4_addRange_33 : decode cX4_addRange 33 = .ok (.ifCond .eq 22, 3) := by decide +kernel
theorem dX4_addRange_36 : decode cX4_addRange 36 = .ok (.iload_n 3, 1) := by decide +kernel
theorem dX4_addRange_37 : decode cX4_addRange 37 = .ok (.sipush 10000, 3) := by decide +kernel
theorem dX4_addRange_40 : decode cX4_addRange 40 = .ok (.invokestatic 45, 3) := by decide +kernel
theorem dX4_addRange_43 : decode cX4_addRange 43 = .ok (.ifCond .eq 12, 3) := by decide +kernel
theorem dX4_addRange_46 : decode cX4_addRange 46 = .ok (.iload_n 2, 1) := by decide +kernel
theorem dX4_addRange_47 : decode cX4_addRange 47 = .ok (.iload_n 3, 1) := by decide +kernel
theorem dX4_addRange_48 : decode cX4_addRange 48 = .ok (.if_icmp .gt 7, 3) := by decide +kernel
theorem dX4_addRange_51 : decode cX4_addRange 51 = .ok (.iconst 1, 1) := by decide +kernel
theorem dX4_addRange_52 : decode cX4_addRange 52 = .ok (.goto 4, 3) := by decide +kernel
theorem dX4_addRange_55 : decode cX4_addRange 55 = .ok (.iconst 0, 1) := by decide +kernel
theorem dX4_addRange_56 : decode cX4_addRange 56 = .ok (.invokestatic 49, 3) := by decide +kernel
theorem dX4_addRange_59 : decode cX4_addRange 59 = .ok (.aload_n 0, 1) := by decide +kernel
theorem dX4_addRange_60 : decode cX4_addRange 60 = .ok (.getfield 10, 3) := by decide +kernel
theorem dX4_addRange_63 : decode cX4_addRange 63 = .ok (.iload_n 1, 1) := by decide +kernel
theorem dX4_addRange_64 : decode cX4_addRange 64 = .ok (.invokevirtual 53, 3) := by decide +kernel
theorem dX4_addRange_67 : decode cX4_addRange 67 = .ok (.ifCond .eq 13, 3) := by decide +kernel
theorem dX4_addRange_70 : decode cX4_addRange 70 = .ok (.new 57, 3) := by decide +kernel
theorem dX4_addRange_73 : decode cX4_addRange 73 = .ok (.dup, 1) := by decide +kernel
theorem dX4_addRange_74 : decode cX4_addRange 74 = .ok (.ldc 59, 2) := by decide +kernel
theorem dX4_addRange_76 : decode cX4_addRange 76 = .ok (.invokespecial 61, 3) := by decide +kernel
theorem dX4_addRange_79 : decode cX4_addRange 79 = .ok (.athrow, 1) := by decide +kernel
theorem dX4_addRange_80 : decode cX4_addRange 80 = .ok (.aload_n 0, 1) := by decide +kernel
theorem dX4_addRange_81 : decode cX4_addRange 81 = .ok (.getfield 10, 3) := by decide +kernel
theorem dX4_addRange_84 : decode cX4_addRange 84 = .ok (.iload_n 1, 1) := by decide +kernel
theorem dX4_addRange_85 : decode cX4_addRange 85 = .ok (.iload_n 2, 1) := by decide +kernel
theorem dX4_addRange_86 : decode cX4_addRange 86 = .ok (.iload_n 3, 1) := by decide +kernel
theorem dX4_addRange_87 : decode cX4_addRange 87 = .ok (.invokevirtual 64, 3) := by decide +kernel
theorem dX4_addRange_90 : decode cX4_addRange 90 = .ok (.ifCond .eq 13, 3) := by decide +kernel
theorem dX4_addRange_93 : decode cX4_addRange 93 = .ok (.new 57, 3) := by decide +kernel
theorem dX4_addRange_96 : decode cX4_addRange 96 = .ok (.dup, 1) := by decide +kernel
theorem dX4_addRange_97 : decode cX4_addRange 97 = .ok (.ldc 68, 2) := by decide +kernel
theorem dX4_addRange_99 : decode cX4_addRange 99 = .ok (.invokespecial 61, 3) := by decide +kernel
theorem dX4_addRange_102 : decode cX4_addRange 102 = .ok (.athrow, 1) := by decide +kernel
theorem dX4_addRange_103 : decode cX4_addRange 103 = .ok (.aload_n 0, 1) := by decide +kernel
theorem dX4_addRange_104 : decode cX4_addRange 104 = .ok (.getfield 10, 3) := by decide +kernel
theorem dX4_addRange_107 : decode cX4_addRange 107 = .ok (.iload_n 1, 1) := by decide +kernel
theorem dX4_addRange_108 : decode cX4_addRange 108 = .ok (.iload_n 2, 1) := by decide +kernel
theorem dX4_addRange_109 : decode cX4_addRange 109 = .ok (.iload_n 3, 1) := by decide +kernel
theorem dX4_addRange_110 : decode cX4_addRange 110 = .ok (.iload 4, 2) := by decide +kernel
theorem dX4_addRange_112 : decode cX4_addRange 112 = .ok (.invokevirtual 70, 3) := by decide +kernel
theorem dX4_addRange_115 : decode cX4_addRange 115 = .ok (.aload_n 0, 1) := by decide +kernel
theorem dX4_addRange_116 : decode cX4_addRange 116 = .ok (.getfield 33, 3) := by decide +kernel
theorem dX4_addRange_119 : decode cX4_addRange 119 = .ok (.iload_n 1, 1) := by decide +kernel
theorem dX4_addRange_120 : decode cX4_addRange 120 = .ok (.aload_n 0, 1) := by decide +kernel
theorem dX4_addRange_121 : decode cX4_addRange 121 = .ok (.getfield 26, 3) := by decide +kernel
theorem dX4_addRange_124 : decode cX4_addRange 124 = .ok (.aload_n 0, 1) := by decide +kernel
theorem dX4_addRange_125 : decode cX4_addRange 125 = .ok (.getfield 10, 3) := by decide +kernel
theorem dX4_addRange_128 : decode cX4_addRange 128 = .ok (.invokevirtual 74, 3) := by decide +kernel
theorem dX4_addRange_131 : decode cX4_addRange 131 = .ok (.aload_n 0, 1) := by decide +kernel
theorem dX4_addRange_132 : decode cX4_addRange 132 = .ok (.getfield 33, 3) := by decide +kernel
theorem dX4_addRange_135 : decode cX4_addRange 135 = .ok (.aload_n 0, 1) := by decide +kernel
theorem dX4_addRange_136 : decode cX4_addRange 136 = .ok (.getfield 26, 3) := by decide +kernel
theorem dX4_addRange_139 : decode cX4_addRange 139 = .ok (.aload_n 0, 1) := by decide +kernel
theorem dX4_addRange_140 : decode cX4_addRange 140 = .ok (.getfield 19, 3) := by decide +kernel
theorem dX4_addRange_143 : decode cX4_addRange 143 = .ok (.invokevirtual 78, 3) := by decide +kernel
theorem dX4_addRange_146 : decode cX4_addRange 146 = .ok (.aload_n 0, 1) := by decide +kernel
theorem dX4_addRange_147 : decode cX4_addRange 147 = .ok (.getfield 10, 3) := by decide +kernel
theorem dX4_addRange_150 : decode cX4_addRange 150 = .ok (.getfield 82, 3) := by decide +kernel
theorem dX4_addRange_153 : decode cX4_addRange 153 = .ok (.iload_n 1, 1) := by decide +kernel
theorem dX4_addRange_154 : decode cX4_addRange 154 = .ok (.iaload, 1) := by decide +kernel
theorem dX4_addRange_155 : decode cX4_addRange 155 = .ok (.ireturn, 1) := by decide +kernel
set_option maxRecDepth 20000 in
theorem ggX4_ignore_X4_isBelow : GoodIn wsX4_ignore wsX4_isBelow := goodIn_r _ [7] (by decide +kernel) (by decide +kernel)
set_option maxRecDepth 20000 in
theorem gX4_ignore_X4_isBelow : GoodIn wsX4_ignore (va_wsS RX4 45 yX4_isBelow wsX4_isBelow) := goodIn_app (goodIn_of _ (by decide +kernel)) ggX4_ignore_X4_isBelow
set_option maxRecDepth 20000 in
theorem ggX4_ignore_X4_checkArgument : GoodIn wsX4_ignore wsX4_checkArgument := goodIn_ca (goodIn_r _ [10, 11, 12] (by decide +kernel) (by decide +kernel)) (goodIn_sub (fun _ h => List.mem_cons_of_mem _ (List.mem_append_right _ h)) (by decide +kernel))
set_option maxRecDepth 20000 in
theorem gX4_ignore_X4_checkArgument : GoodIn wsX4_ignore (va_wsS RX4 49 yX4_checkArgument wsX4_checkArgument) := goodIn_app (goodIn_of _ (by decide +kernel)) ggX4_ignore_X4_checkArgument
set_option maxRecDepth 20000 in
theorem ggX4_ignore_X1_sortAll : GoodIn wsX4_ignore wsX1_sortAll := goodIn_r _ [16, 17, 18, 19, 14, 20, 21, 22, 23, 24, 25, 26, 27, 28, 29, 30, 31, 32, 33, 34, 35, 36, 37, 47, 48, 49, 50, 51, 52, 53, 54, 55, 44, 45, 46] (by decide +kernel) (by decide +kernel)
set_option maxRecDepth 20000 in
theorem gX4_ignore_X1_sortAll_n78 : GoodIn wsX4_ignore (wsX1_sortAll) := ggX4_ignore_X1_sortAll
theorem dX4_ignore_0 : decode cX4_ignore 0 = .ok (.iload_n 1, 1) := by decide +kernel
theorem dX4_ignore_1 : decode cX4_ignore 1 = .ok (.bipush 30, 2) := by decide +kernel
theorem dX4_ignore_3 : decode cX4_ignore 3 = .ok (.invokestatic 45, 3) := by decide +kernel
theorem dX4_ignore_6 : decode cX4_ignore 6 = .ok (.invokestatic 49, 3) := by decide +kernel
theorem dX4_ignore_9 : decode cX4_ignore 9 = .ok (.aload_n 0, 1) := by decide +kernel
theorem dX4_ignore_10 : decode cX4_ignore 10 = .ok (.getfield 19, 3) := by decide +kernel
theorem dX4_ignore_13 : decode cX4_ignore 13 = .ok (.getfield 85, 3) := by decide +kernel
theorem dX4_ignore_16 : decode cX4_ignore 16 = .ok (.iload_n 1, 1) := by decide +kernel
theorem dX4_ignore_17 : decode cX4_ignore 17 = .ok (.baload, 1) := by decide +kernel
theorem dX4_ignore_18 : decode cX4_ignore 18 = .ok (.istore_n 3, 1) := by decide +kernel
theorem dX4_ignore_19 : decode cX4_ignore 19 = .ok (.aload_n 0, 1) := by decide +kernel
theorem dX4_ignore_20 : decode cX4_ignore 20 = .ok (.getfield 19, 3) := by decide +kernel
theorem dX4_ignore_23 : decode cX4_ignore 23 = .ok (.getfield 85, 3) := by decide +kernel
theorem dX4_ignore_26 : decode cX4_ignore 26 = .ok (.iload_n 1, 1) := by decide +kernel
theorem dX4_ignore_27 : decode cX4_ignore 27 = .ok (.iload_n 2, 1) := by decide +kernel
theorem dX4_ignore_28 : decode cX4_ignore 28 = .ok (.bastore, 1) := by decide +kernel
theorem dX4_ignore_29 : decode cX4_ignore 29 = .ok (.aload_n 0, 1) := by decide +kernel
theorem dX4_ignore_30 : decode cX4_ignore 30 = .ok (.getfield 33, 3) := by decide +kernel
theorem dX4_ignore_33 : decode cX4_ignore 33 = .ok (.aload_n 0, 1) := by decide +kernel
theorem dX4_ignore_34 : decode cX4_ignore 34 = .ok (.getfield 26, 3) := by decide +kernel
theorem dX4_ignore_37 : decode cX4_ignore 37 = .ok (.aload_n 0, 1) := by decide +kernel
theorem dX4_ignore_38 : decode cX4_ignore 38 = .ok (.getfield 19, 3) := by decide +kernel
theorem dX4_ignore_41 : decode cX4_ignore 41 = .ok (.invokevirtual 78, 3) := by decide +kernel
theorem dX4_ignore_44 : decode cX4_ignore 44 = .ok (.iload_n 3, 1) := by decide +kernel
theorem dX4_ignore_45 : decode cX4_ignore 45 = .ok (.ireturn, 1) := by decide +kernel
set_option maxRecDepth 20000 in
theorem ggX4_standFor_X4_isBelow : GoodIn wsX4_standFor wsX4_isBelow := goodIn_r _ [9] (by decide +kernel) (by decide +kernel)
set_option maxRecDepth 20000 in
theorem gX4_standFor_X4_isBelow : GoodIn wsX4_standFor (va_wsS RX4 45 yX4_isBelow wsX4_isBelow) := goodIn_app (goodIn_of _ (by decide +kernel)) ggX4_standFor_X4_isBelow
set_option maxRecDepth 20000 in
theorem ggX4_standFor_X4_checkArgument : GoodIn wsX4_standFor wsX4_checkArgument := goodIn_ca (goodIn_r _ [12, 13, 14] (by decide +kernel) (by decide +kernel)) (goodIn_sub (fun _ h => List.mem_cons_of_mem _ (List.mem_append_right _ h)) (by decide +kernel))
set_option maxRecDepth 20000 in
theorem gX4_standFor_X4_checkArgument : GoodIn wsX4_standFor (va_wsS RX4 49 yX4_checkArgument wsX4_checkArgument) := goodIn_app (goodIn_of _ (by decide +kernel)) ggX4_standFor_X4_checkArgument
set_option maxRecDepth 20000 in
theorem ggX4_standFor_X3_leadsTo : GoodIn wsX4_standFor wsX3_leadsTo := goodIn_r _ [18, 19, 49, 50, 51] (by decide +kernel) (by decide +kernel)
set_option maxRecDepth 20000 in
theorem gX4_standFor_X3_leadsTo_n89 : GoodIn wsX4_standFor (wsX3_leadsTo) := ggX4_standFor_X3_leadsTo
set_option maxRecDepth 20000 in
theorem ggX4_standFor_X1_sortAll : GoodIn wsX4_standFor wsX1_sortAll := goodIn_r _ [23, 24, 25, 26, 21, 27, 28, 29, 30, 31, 32, 33, 34, 35, 36, 16, 37, 38, 19, 39, 40, 41, 42, 52, 53, 54, 55, 56, 57, 58, 59, 60, 49, 50, 51] (by decide +kernel) (by decide +kernel)
set_option maxRecDepth 20000 in
theorem gX4_standFor_X1_sortAll_n78 : GoodIn wsX4_standFor (wsX1_sortAll) := ggX4_standFor_X1_sortAll
theorem dX4_standFor_0 : decode cX4_standFor 0 = .ok (.iload_n 1, 1) := by decide +kernel
theorem dX4_standFor_1 : decode cX4_standFor 1 = .ok (.bipush 30, 2) := by decide +kernel
theorem dX4_standFor_3 : decode cX4_standFor 3 = .ok (.invokestatic 45, 3) := by decide +kernel
theorem dX4_standFor_6 : decode cX4_standFor 6 = .ok (.ifCond .eq 16, 3) := by decide +kernel
theorem dX4_standFor_9 : decode cX4_standFor 9 = .ok (.iload_n 2, 1) := by decide +kernel
theorem dX4_standFor_10 : decode cX4_standFor 10 = .ok (.bipush 30, 2) := by decide +kernel
theorem dX4_standFor_12 : decode cX4_standFor 12 = .ok (.invokestatic 45, 3) := by decide +kernel
theorem dX4_standFor_15 : decode cX4_standFor 15 = .ok (.ifCond .eq 7, 3) := by decide +kernel
theorem dX4_standFor_18 : decode cX4_standFor 18 = .ok (.iconst 1, 1) := by decide +kernel
theorem dX4_standFor_19 : decode cX4_standFor 19 = .ok (.goto 4, 3) := by decide +kernel
theorem dX4_standFor_22 : decode cX4_standFor 22 = .ok (.iconst 0, 1) := by decide +kernel
theorem dX4_standFor_23 : decode cX4_standFor 23 = .ok (.invokestatic 49, 3) := by decide +kernel
theorem dX4_standFor_26 : decode cX4_standFor 26 = .ok (.iload_n 1, 1) := by decide +kernel
theorem dX4_standFor_27 : decode cX4_standFor 27 = .ok (.iload_n 2, 1) := by decide +kernel
theorem dX4_standFor_28 : decode cX4_standFor 28 = .ok (.if_icmp .eq 25, 3) := by decide +kernel
theorem dX4_standFor_31 : decode cX4_standFor 31 = .ok (.aload_n 0, 1) := by decide +kernel
theorem dX4_standFor_32 : decode cX4_standFor 32 = .ok (.getfield 19, 3) := by decide +kernel
theorem dX4_standFor_35 : decode cX4_standFor 35 = .ok (.iload_n 2, 1) := by decide +kernel
theorem dX4_standFor_36 : decode cX4_standFor 36 = .ok (.iload_n 1, 1) := by decide +kernel
theorem dX4_standFor_37 : decode cX4_standFor 37 = .ok (.invokevirtual 89, 3) := by decide +kernel
theorem dX4_standFor_40 : decode cX4_standFor 40 = .ok (.ifCond .eq 13, 3) := by decide +kernel
theorem dX4_standFor_43 : decode cX4_standFor 43 = .ok (.new 57, 3) := by decide +kernel
theorem dX4_standFor_46 : decode cX4_standFor 46 = .ok (.dup, 1) := by decide +kernel
theorem dX4_standFor_47 : decode cX4_standFor 47 = .ok (.ldc 92, 2) := by decide +kernel
theorem dX4_standFor_49 : decode cX4_standFor 49 = .ok (.invokespecial 61, 3) := by decide +kernel
theorem dX4_standFor_52 : decode cX4_standFor 52 = .ok (.athrow, 1) := by decide +kernel
theorem dX4_standFor_53 : decode cX4_standFor 53 = .ok (.aload_n 0, 1) := by decide +kernel
theorem dX4_standFor_54 : decode cX4_standFor 54 = .ok (.getfield 19, 3) := by decide +kernel
theorem dX4_standFor_57 : decode cX4_standFor 57 = .ok (.getfield 94, 3) := by decide +kernel
theorem dX4_standFor_60 : decode cX4_standFor 60 = .ok (.iload_n 1, 1) := by decide +kernel
theorem dX4_standFor_61 : decode cX4_standFor 61 = .ok (.iaload, 1) := by decide +kernel
theorem dX4_standFor_62 : decode cX4_standFor 62 = .ok (.istore_n 3, 1) := by decide +kernel
theorem dX4_standFor_63 : decode cX4_standFor 63 = .ok (.aload_n 0, 1) := by decide +kernel
theorem dX4_standFor_64 : decode cX4_standFor 64 = .ok (.getfield 19, 3) := by decide +kernel
theorem dX4_standFor_67 : decode cX4_standFor 67 = .ok (.getfield 94, 3) := by decide +kernel
theorem dX4_standFor_70 : decode cX4_standFor 70 = .ok (.iload_n 1, 1) := by decide +kernel
theorem dX4_standFor_71 : decode cX4_standFor 71 = .ok (.iload_n 2, 1) := by decide +kernel
theorem dX4_standFor_72 : decode cX4_standFor 72 = .ok (.iastore, 1) := by decide +kernel
theorem dX4_standFor_73 : decode cX4_standFor 73 = .ok (.aload_n 0, 1) := by decide +kernel
theorem dX4_standFor_74 : decode cX4_standFor 74 = .ok (.getfield 33, 3) := by decide +kernel
theorem dX4_standFor_77 : decode cX4_standFor 77 = .ok (.aload_n 0, 1) := by decide +kernel
theorem dX4_standFor_78 : decode cX4_standFor 78 = .ok (.getfield 26, 3) := by decide +kernel
theorem dX4_standFor_81 : decode cX4_standFor 81 = .ok (.aload_n 0, 1) := by decide +kernel
theorem dX4_standFor_82 : decode cX4_standFor 82 = .ok (.getfield 19, 3) := by decide +kernel
theorem dX4_standFor_85 : decode cX4_standFor 85 = .ok (.invokevirtual 78, 3) := by decide +kernel
theorem dX4_standFor_88 : decode cX4_standFor 88 = .ok (.iload_n 3, 1) := by decide +kernel
theorem dX4_standFor_89 : decode cX4_standFor 89 = .ok (.ireturn, 1) := by decide +kernel
set_option maxRecDepth 20000 in
theorem ggX4_setDepth_X4_checkArgument : GoodIn wsX4_setDepth wsX4_checkArgument := goodIn_ca (goodIn_r _ [7, 8, 9] (by decide +kernel) (by decide +kernel)) (goodIn_sub (fun _ h => List.mem_cons_of_mem _ (List.mem_append_right _ h)) (by decide +kernel))
set_option maxRecDepth 20000 in
theorem gX4_setDepth_X4_checkArgument : GoodIn wsX4_setDepth (va_wsS RX4 49 yX4_checkArgument wsX4_checkArgument) := goodIn_app (goodIn_of _ (by decide +kernel)) ggX4_setDepth_X4_checkArgument
set_option maxRecDepth 20000 in
theorem ggX4_setDepth_X1_sortAll : GoodIn wsX4_setDepth wsX1_sortAll := goodIn_r _ [13, 14, 15, 16, 11, 17, 18, 19, 20, 21, 22, 23, 24, 25, 26, 27, 28, 29, 30, 31, 32, 33, 34, 44, 45, 46, 47, 48, 49, 50, 51, 52, 41, 42, 43] (by decide +kernel) (by decide +kernel)
set_option maxRecDepth 20000 in
theorem gX4_setDepth_X1_sortAll_n78 : GoodIn wsX4_setDepth (wsX1_sortAll) := ggX4_setDepth_X1_sortAll
theorem dX4_setDepth_0 : decode cX4_setDepth 0 = .ok (.iload_n 1, 1) := by decide +kernel
theorem dX4_setDepth_1 : decode cX4_setDepth 1 = .ok (.iconst 1, 1) := by decide +kernel
theorem dX4_setDepth_2 : decode cX4_setDepth 2 = .ok (.if_icmp .lt 12, 3) := by decide +kernel
theorem dX4_setDepth_5 : decode cX4_setDepth 5 = .ok (.iload_n 1, 1) := by decide +kernel
theorem dX4_setDepth_6 : decode cX4_setDepth 6 = .ok (.iconst 4, 1) := by decide +kernel
theorem dX4_setDepth_7 : decode cX4_setDepth 7 = .ok (.if_icmp .gt 7, 3) := by decide +kernel
theorem dX4_setDepth_10 : decode cX4_setDepth 10 = .ok (.iconst 1, 1) := by decide +kernel
theorem dX4_setDepth_11 : decode cX4_setDepth 11 = .ok (.goto 4, 3) := by decide +kernel
theorem dX4_setDepth_14 : decode cX4_setDepth 14 = .ok (.iconst 0, 1) := by decide +kernel
theorem dX4_setDepth_15 : decode cX4_setDepth 15 = .ok (.invokestatic 49, 3) := by decide +kernel
theorem dX4_setDepth_18 : decode cX4_setDepth 18 = .ok (.aload_n 0, 1) := by decide +kernel
theorem dX4_setDepth_19 : decode cX4_setDepth 19 = .ok (.getfield 19, 3) := by decide +kernel
theorem dX4_setDepth_22 : decode cX4_setDepth 22 = .ok (.getfield 97, 3) := by decide +kernel
theorem dX4_setDepth_25 : decode cX4_setDepth 25 = .ok (.istore_n 2, 1) := by decide +kernel
theorem dX4_setDepth_26 : decode cX4_setDepth 26 = .ok (.aload_n 0, 1) := by decide +kernel
theorem dX4_setDepth_27 : decode cX4_setDepth 27 = .ok (.getfield 19, 3) := by decide +kernel
theorem dX4_setDepth_30 : decode cX4_setDepth 30 = .ok (.iload_n 1, 1) := by decide +kernel
theorem dX4_setDepth_31 : decode cX4_setDepth 31 = .ok (.putfield 97, 3) := by decide +kernel
theorem dX4_setDepth_34 : decode cX4_setDepth 34 = .ok (.aload_n 0, 1) := by decide +kernel
theorem dX4_setDepth_35 : decode cX4_setDepth 35 = .ok (.getfield 33, 3) := by decide +kernel
theorem dX4_setDepth_38 : decode cX4_setDepth 38 = .ok (.aload_n 0, 1) := by decide +kernel
theorem dX4_setDepth_39 : decode cX4_setDepth 39 = .ok (.getfield 26, 3) := by decide +kernel
theorem dX4_setDepth_42 : decode cX4_setDepth 42 = .ok (.aload_n 0, 1) := by decide +kernel
theorem dX4_setDepth_43 : decode cX4_setDepth 43 = .ok (.getfield 19, 3) := by decide +kernel
theorem dX4_setDepth_46 : decode cX4_setDepth 46 = .ok (.invokevirtual 78, 3) := by decide +kernel
theorem dX4_setDepth_49 : decode cX4_setDepth 49 = .ok (.iload_n 2, 1) := by decide +kernel
theorem dX4_setDepth_50 : decode cX4_setDepth 50 = .ok (.ireturn, 1) := by decide +kernel
set_option maxRecDepth 20000 in
theorem ggX4_report_X4_isBelow : GoodIn wsX4_report wsX4_isBelow := goodIn_r _ [10] (by decide +kernel) (by decide +kernel)
set_option maxRecDepth 20000 in
theorem gX4_report_X4_isBelow : GoodIn wsX4_report (va_wsS RX4 45 yX4_isBelow wsX4_isBelow) := goodIn_app (goodIn_of _ (by decide +kernel)) ggX4_report_X4_isBelow
set_option maxRecDepth 20000 in
theorem ggX4_report_X4_checkArgument : GoodIn wsX4_report wsX4_checkArgument := goodIn_ca (goodIn_r _ [13, 14, 15] (by decide +kernel) (by decide +kernel)) (goodIn_sub (fun _ h => List.mem_cons_of_mem _ (List.mem_append_right _ h)) (by decide +kernel))
set_option maxRecDepth 20000 in
theorem gX4_report_X4_checkArgument : GoodIn wsX4_report (va_wsS RX4 49 yX4_checkArgument wsX4_checkArgument) := goodIn_app (goodIn_of _ (by decide +kernel)) ggX4_report_X4_checkArgument
set_option maxRecDepth 20000 in
theorem ggX4_report_X4_mayFollow : GoodIn wsX4_report wsX4_mayFollow := goodIn_r _ [18, 7, 8, 9, 10] (by decide +kernel) (by decide +kernel)
set_option maxRecDepth 20000 in
theorem gX4_report_X4_mayFollow : GoodIn wsX4_report (va_wsS RX4 100 yX4_mayFollow wsX4_mayFollow) := goodIn_app (goodIn_of _ (by decide +kernel)) ggX4_report_X4_mayFollow
set_option maxRecDepth 20000 in
theorem ggX4_report_X2_add : GoodIn wsX4_report wsX2_add := goodIn_r _ [22, 23, 24, 25, 26, 69, 70, 71, 72, 73] (by decide +kernel) (by decide +kernel)
set_option maxRecDepth 20000 in
theorem gX4_report_X2_add_n108 : GoodIn wsX4_report (wsX2_add) := ggX4_report_X2_add
set_option maxRecDepth 20000 in
theorem ggX4_report_X2_setStack : GoodIn wsX4_report wsX2_setStack := goodIn_r _ [29, 30, 69, 70, 71, 72, 73] (by decide +kernel) (by decide +kernel)
set_option maxRecDepth 20000 in
theorem gX4_report_X2_setStack_n111 : GoodIn wsX4_report (wsX2_setStack) := ggX4_report_X2_setStack
set_option maxRecDepth 20000 in
theorem ggX4_report_X1_readStack : GoodIn wsX4_report wsX1_readStack := goodIn_r _ [34, 35, 36, 37, 38, 39, 40, 41, 42, 43, 74, 75, 76, 77, 69, 70, 71, 72, 73, 78, 79, 80, 81] (by decide +kernel) (by decide +kernel)
set_option maxRecDepth 20000 in
theorem gX4_report_X1_readStack_n115 : GoodIn wsX4_report (wsX1_readStack) := ggX4_report_X1_readStack
set_option maxRecDepth 20000 in
theorem ggX4_report_X1_sort : GoodIn wsX4_report wsX1_sort := goodIn_r _ [46, 47, 48, 49, 50, 51, 32, 52, 35, 53, 54, 55, 56, 57, 58, 59, 60, 61, 62, 74, 75, 76, 77, 82, 83, 84, 69, 70, 71, 72, 73] (by decide +kernel) (by decide +kernel)
set_option maxRecDepth 20000 in
theorem gX4_report_X1_sort_n118 : GoodIn wsX4_report (wsX1_sort) := ggX4_report_X1_sort
theorem dX4_report_0 : decode cX4_report 0 = .ok (.iload_n 1, 1) := by decide +kernel
theorem dX4_report_1 : decode cX4_report 1 = .ok (.iconst 4, 1) := by decide +kernel
theorem dX4_report_2 : decode cX4_report 2 = .ok (.invokestatic 45, 3) := by decide +kernel
theorem dX4_report_5 : decode cX4_report 5 = .ok (.ifCond .eq 16, 3) := by decide +kernel
theorem dX4_report_8 : decode cX4_report 8 = .ok (.iload_n 2, 1) := by decide +kernel
theorem dX4_report_9 : decode cX4_report 9 = .ok (.bipush 20, 2) := by decide +kernel
theorem dX4_report_11 : decode cX4_report 11 = .ok (.invokestatic 45, 3) := by decide +kernel
theorem dX4_report_14 : decode cX4_report 14 = .ok (.ifCond .eq 7, 3) := by decide +kernel
theorem dX4_report_17 : decode cX4_report 17 = .ok (.iconst 1, 1) := by decide +kernel
theorem dX4_report_18 : decode cX4_report 18 = .ok (.goto 4, 3) := by decide +kernel
theorem dX4_report_21 : decode cX4_report 21 = .ok (.iconst 0, 1) := by decide +kernel
theorem dX4_report_22 : decode cX4_report 22 = .ok (.invokestatic 49, 3) := by decide +kernel
theorem dX4_report_25 : decode cX4_report 25 = .ok (.iload_n 3, 1) := by decide +kernel
theorem dX4_report_26 : decode cX4_report 26 = .ok (.sipush 10000, 3) := by decide +kernel
theorem dX4_report_29 : decode cX4_report 29 = .ok (.invokestatic 45, 3) := by decide +kernel
theorem dX4_report_32 : decode cX4_report 32 = .ok (.ifCond .eq 36, 3) := by decide +kernel
theorem dX4_report_35 : decode cX4_report 35 = .ok (.iload_n 3, 1) := by decide +kernel
theorem dX4_report_36 : decode cX4_report 36 = .ok (.iload 4, 2) := by decide +kernel
theorem dX4_report_38 : decode cX4_report 38 = .ok (.invokestatic 100, 3) := by decide +kernel
theorem dX4_report_41 : decode cX4_report 41 = .ok (.ifCond .eq 27, 3) := by decide +kernel
theorem dX4_report_44 : decode cX4_report 44 = .ok (.iload 4, 2) := by decide +kernel
theorem dX4_report_46 : decode cX4_report 46 = .ok (.iload 5, 2) := by decide +kernel
theorem dX4_report_48 : decode cX4_report 48 = .ok (.invokestatic 100, 3) := by decide +kernel
theorem dX4_report_51 : decode cX4_report 51 = .ok (.ifCond .eq 17, 3) := by decide +kernel
theorem dX4_report_54 : decode cX4_report 54 = .ok (.iload 5, 2) := by decide +kernel
theorem dX4_report_56 : decode cX4_report 56 = .ok (.iload 6, 2) := by decide +kernel
theorem dX4_report_58 : decode cX4_report 58 = .ok (.invokestatic 100, 3) := by decide +kernel
theorem dX4_report_61 : decode cX4_report 61 = .ok (.ifCond .eq 7, 3) := by decide +kernel
theorem dX4_report_64 : decode cX4_report 64 = .ok (.iconst 1, 1) := by decide +kernel
theorem dX4_report_65 : decode cX4_report 65 = .ok (.goto 4, 3) := by decide +kernel
theorem dX4_report_68 : decode cX4_report 68 = .ok (.iconst 0, 1) := by decide +kernel
theorem dX4_report_69 : decode cX4_report 69 = .ok (.invokestatic 49, 3) := by decide +kernel
theorem dX4_report_72 : decode cX4_report 72 = .ok (.aload_n 0, 1) := by decide +kernel
theorem dX4_report_73 : decode cX4_report 73 = .ok (.getfield 26, 3) := by decide +kernel
theorem dX4_report_76 : decode cX4_report 76 = .ok (.getfield 103, 3) := by decide +kernel
theorem dX4_report_79 : decode cX4_report 79 = .ok (.bipush 60, 2) := by decide +kernel
theorem dX4_report_81 : decode cX4_report 81 = .ok (.if_icmp .lt 13, 3) := by decide +kernel
theorem dX4_report_84 : decode cX4_report 84 = .ok (.new 57, 3) := by decide +kernel
theorem dX4_report_87 : decode cX4_report 87 = .ok (.dup, 1) := by decide +kernel
theorem dX4_report_88 : decode cX4_report 88 = .ok (.ldc 106, 2) := by decide +kernel
theorem dX4_report_90 : decode cX4_report 90 = .ok (.invokespecial 61, 3) := by decide +kernel
theorem dX4_report_93 : decode cX4_report 93 = .ok (.athrow, 1) := by decide +kernel
theorem dX4_report_94 : decode cX4_report 94 = .ok (.aload_n 0, 1) := by decide +kernel
theorem dX4_report_95 : decode cX4_report 95 = .ok (.getfield 26, 3) := by decide +kernel
theorem dX4_report_98 : decode cX4_report 98 = .ok (.iload_n 1, 1) := by decide +kernel
theorem dX4_report_99 : decode cX4_report 99 = .ok (.iload_n 2, 1) := by decide +kernel
theorem dX4_report_100 : decode cX4_report 100 = .ok (.invokevirtual 108, 3) := by decide +kernel
theorem dX4_report_103 : decode cX4_report 103 = .ok (.istore 7, 2) := by decide +kernel
theorem dX4_report_105 : decode cX4_report 105 = .ok (.aload_n 0, 1) := by decide +kernel
theorem dX4_report_106 : decode cX4_report 106 = .ok (.getfield 26, 3) := by decide +kernel
theorem dX4_report_109 : decode cX4_report 109 = .ok (.iload 7, 2) := by decide +kernel
theorem dX4_report_111 : decode cX4_report 111 = .ok (.iload_n 3, 1) := by decide +kernel
theorem dX4_report_112 : decode cX4_report 112 = .ok (.iload 4, 2) := by decide +kernel
theorem dX4_report_114 : decode cX4_report 114 = .ok (.iload 5, 2) := by decide +kernel
theorem dX4_report_116 : decode cX4_report 116 = .ok (.iload 6, 2) := by decide +kernel
theorem dX4_report_118 : decode cX4_report 118 = .ok (.invokevirtual 111, 3) := by decide +kernel
theorem dX4_report_121 : decode cX4_report 121 = .ok (.aload_n 0, 1) := by decide +kernel
theorem dX4_report_122 : decode cX4_report 122 = .ok (.getfield 33, 3) := by decide +kernel
theorem dX4_report_125 : decode cX4_report 125 = .ok (.iload 7, 2) := by decide +kernel
theorem dX4_report_127 : decode cX4_report 127 = .ok (.aload_n 0, 1) := by decide +kernel
theorem dX4_report_128 : decode cX4_report 128 = .ok (.getfield 26, 3) := by decide +kernel
theorem dX4_report_131 : decode cX4_report 131 = .ok (.aload_n 0, 1) := by decide +kernel
theorem dX4_report_132 : decode cX4_report 132 = .ok (.getfield 10, 3) := by decide +kernel
theorem dX4_report_135 : decode cX4_report 135 = .ok (.invokevirtual 115, 3) := by decide +kernel
theorem dX4_report_138 : decode cX4_report 138 = .ok (.aload_n 0, 1) := by decide +kernel
theorem dX4_report_139 : decode cX4_report 139 = .ok (.getfield 33, 3) := by decide +kernel
theorem dX4_report_142 : decode cX4_report 142 = .ok (.iload 7, 2) := by decide +kernel
theorem dX4_report_144 : decode cX4_report 144 = .ok (.aload_n 0, 1) := by decide +kernel
theorem dX4_report_145 : decode cX4_report 145 = .ok (.getfield 26, 3) := by decide +kernel
theorem dX4_report_148 : decode cX4_report 148 = .ok (.aload_n 0, 1) := by decide +kernel
theorem dX4_report_149 : decode cX4_report 149 = .ok (.getfield 19, 3) := by decide +kernel
theorem dX4_report_152 : decode cX4_report 152 = .ok (.invokevirtual 118, 3) := by decide +kernel
theorem dX4_report_155 : decode cX4_report 155 = .ok (.iload 7, 2) := by decide +kernel
theorem dX4_report_157 : decode cX4_report 157 = .ok (.ireturn, 1) := by decide +kernel
theorem dX4_reports_0 : decode cX4_reports 0 = .ok (.aload_n 0, 1) := by decide +kernel
theorem dX4_reports_1 : decode cX4_reports 1 = .ok (.getfield 26, 3) := by decide +kernel
theorem dX4_reports_4 : decode cX4_reports 4 = .ok (.getfield 103, 3) := by decide +kernel
theorem dX4_reports_7 : decode cX4_reports 7 = .ok (.ireturn, 1) := by decide +kernel
set_option maxRecDepth 20000 in
theorem ggX4_frame_X4_checkReport : GoodIn wsX4_frame wsX4_checkReport := goodIn_ca (goodIn_r _ [6, 7, 8, 9, 10, 11, 5, 12, 18, 19, 20, 21, 22, 23, 28, 29, 30, 31, 32] (by decide +kernel) (by decide +kernel)) (goodIn_sub (fun _ h => List.mem_cons_of_mem _ (List.mem_append_left _ (List.mem_append_right _ h))) (by decide +kernel))
set_option maxRecDepth 20000 in
theorem gX4_frame_X4_checkReport : GoodIn wsX4_frame (wsV RX4 122 RX4 yX4_checkReport wsX4_checkReport) := goodIn_app (goodIn_of _ (by decide +kernel)) ggX4_frame_X4_checkReport
set_option maxRecDepth 20000 in
theorem ggX4_frame_X4_isBelow : GoodIn wsX4_frame wsX4_isBelow := goodIn_r _ [12] (by decide +kernel) (by decide +kernel)
set_option maxRecDepth 20000 in
theorem gX4_frame_X4_isBelow : GoodIn wsX4_frame (va_wsS RX4 45 yX4_isBelow wsX4_isBelow) := goodIn_app (goodIn_of _ (by decide +kernel)) ggX4_frame_X4_isBelow
set_option maxRecDepth 20000 in
theorem ggX4_frame_X4_checkArgument : GoodIn wsX4_frame wsX4_checkArgument := goodIn_ca (goodIn_r _ [15, 16, 17] (by decide +kernel) (by decide +kernel)) (goodIn_sub (fun _ h => List.mem_cons_of_mem _ (List.mem_append_right _ h)) (by decide +kernel))
set_option maxRecDepth 20000 in
theorem gX4_frame_X4_checkArgument : GoodIn wsX4_frame (va_wsS RX4 49 yX4_checkArgument wsX4_checkArgument) := goodIn_app (goodIn_of _ (by decide +kernel)) ggX4_frame_X4_checkArgument
theorem dX4_frame_0 : decode cX4_frame 0 = .ok (.aload_n 0, 1) := by decide +kernel
theorem dX4_frame_1 : decode cX4_frame 1 = .ok (.iload_n 1, 1) := by decide +kernel
theorem dX4_frame_2 : decode cX4_frame 2 = .ok (.invokevirtual 122, 3) := by decide +kernel
theorem dX4_frame_5 : decode cX4_frame 5 = .ok (.iload_n 2, 1) := by decide +kernel
theorem dX4_frame_6 : decode cX4_frame 6 = .ok (.iconst 4, 1) := by decide +kernel
theorem dX4_frame_7 : decode cX4_frame 7 = .ok (.invokestatic 45, 3) := by decide +kernel
theorem dX4_frame_10 : decode cX4_frame 10 = .ok (.invokestatic 49, 3) := by decide +kernel
theorem dX4_frame_13 : decode cX4_frame 13 = .ok (.aload_n 0, 1) := by decide +kernel
theorem dX4_frame_14 : decode cX4_frame 14 = .ok (.getfield 33, 3) := by decide +kernel
theorem dX4_frame_17 : decode cX4_frame 17 = .ok (.getfield 126, 3) := by decide +kernel
theorem dX4_frame_20 : decode cX4_frame 20 = .ok (.iload_n 1, 1) := by decide +kernel
theorem dX4_frame_21 : decode cX4_frame 21 = .ok (.aaload, 1) := by decide +kernel
theorem dX4_frame_22 : decode cX4_frame 22 = .ok (.iload_n 2, 1) := by decide +kernel
theorem dX4_frame_23 : decode cX4_frame 23 = .ok (.iaload, 1) := by decide +kernel
theorem dX4_frame_24 : decode cX4_frame 24 = .ok (.ireturn, 1) := by decide +kernel
set_option maxRecDepth 20000 in
theorem ggX4_matters_X4_checkReport : GoodIn wsX4_matters wsX4_checkReport := goodIn_ca (goodIn_r _ [6, 7, 8, 9, 10, 11, 5, 12, 18, 19, 20, 21, 22, 23, 28, 29, 30, 31, 32] (by decide +kernel) (by decide +kernel)) (goodIn_sub (fun _ h => List.mem_cons_of_mem _ (List.mem_append_left _ (List.mem_append_right _ h))) (by decide +kernel))
set_option maxRecDepth 20000 in
theorem gX4_matters_X4_checkReport : GoodIn wsX4_matters (wsV RX4 122 RX4 yX4_checkReport wsX4_checkReport) := goodIn_app (goodIn_of _ (by decide +kernel)) ggX4_matters_X4_checkReport
set_option maxRecDepth 20000 in
theorem ggX4_matters_X4_isBelow : GoodIn wsX4_matters wsX4_isBelow := goodIn_r _ [12] (by decide +kernel) (by decide +kernel)
set_option maxRecDepth 20000 in
theorem gX4_matters_X4_isBelow : GoodIn wsX4_matters (va_wsS RX4 45 yX4_isBelow wsX4_isBelow) := goodIn_app (goodIn_of _ (by decide +kernel)) ggX4_matters_X4_isBelow
set_option maxRecDepth 20000 in
theorem ggX4_matters_X4_checkArgument : GoodIn wsX4_matters wsX4_checkArgument := goodIn_ca (goodIn_r _ [15, 16, 17] (by decide +kernel) (by decide +kernel)) (goodIn_sub (fun _ h => List.mem_cons_of_mem _ (List.mem_append_right _ h)) (by decide +kernel))
set_option maxRecDepth 20000 in
theorem gX4_matters_X4_checkArgument : GoodIn wsX4_matters (va_wsS RX4 49 yX4_checkArgument wsX4_checkArgument) := goodIn_app (goodIn_of _ (by decide +kernel)) ggX4_matters_X4_checkArgument
theorem dX4_matters_0 : decode cX4_matters 0 = .ok (.aload_n 0, 1) := by decide +kernel
theorem dX4_matters_1 : decode cX4_matters 1 = .ok (.iload_n 1, 1) := by decide +kernel
theorem dX4_matters_2 : decode cX4_matters 2 = .ok (.invokevirtual 122, 3) := by decide +kernel
theorem dX4_matters_5 : decode cX4_matters 5 = .ok (.iload_n 2, 1) := by decide +kernel
theorem dX4_matters_6 : decode cX4_matters 6 = .ok (.iconst 4, 1) := by decide +kernel
theorem dX4_matters_7 : decode cX4_matters 7 = .ok (.invokestatic 45, 3) := by decide +kernel
theorem dX4_matters_10 : decode cX4_matters 10 = .ok (.invokestatic 49, 3) := by decide +kernel
theorem dX4_matters_13 : decode cX4_matters 13 = .ok (.aload_n 0, 1) := by decide +kernel
theorem dX4_matters_14 : decode cX4_matters 14 = .ok (.getfield 33, 3) := by decide +kernel
theorem dX4_matters_17 : decode cX4_matters 17 = .ok (.getfield 130, 3) := by decide +kernel
theorem dX4_matters_20 : decode cX4_matters 20 = .ok (.iload_n 1, 1) := by decide +kernel
theorem dX4_matters_21 : decode cX4_matters 21 = .ok (.aaload, 1) := by decide +kernel
theorem dX4_matters_22 : decode cX4_matters 22 = .ok (.iload_n 2, 1) := by decide +kernel
theorem dX4_matters_23 : decode cX4_matters 23 = .ok (.iaload, 1) := by decide +kernel
theorem dX4_matters_24 : decode cX4_matters 24 = .ok (.ireturn, 1) := by decide +kernel
set_option maxRecDepth 20000 in
theorem ggX4_bucket_X4_checkReport : GoodIn wsX4_bucket wsX4_checkReport := goodIn_ca (goodIn_r _ [6, 7, 8, 9, 10, 11, 5, 12, 13, 14, 15, 16, 17, 18, 23, 24, 25, 26, 27] (by decide +kernel) (by decide +kernel)) (goodIn_sub (fun _ h => List.mem_cons_of_mem _ (List.mem_append_right _ h)) (by decide +kernel))
set_option maxRecDepth 20000 in
theorem gX4_bucket_X4_checkReport : GoodIn wsX4_bucket (wsV RX4 122 RX4 yX4_checkReport wsX4_checkReport) := goodIn_app (goodIn_of _ (by decide +kernel)) ggX4_bucket_X4_checkReport
theorem dX4_bucket_0 : decode cX4_bucket 0 = .ok (.aload_n 0, 1) := by decide +kernel
theorem dX4_bucket_1 : decode cX4_bucket 1 = .ok (.iload_n 1, 1) := by decide +kernel
theorem dX4_bucket_2 : decode cX4_bucket 2 = .ok (.invokevirtual 122, 3) := by decide +kernel
theorem dX4_bucket_5 : decode cX4_bucket 5 = .ok (.aload_n 0, 1) := by decide +kernel
theorem dX4_bucket_6 : decode cX4_bucket 6 = .ok (.getfield 33, 3) := by decide +kernel
theorem dX4_bucket_9 : decode cX4_bucket 9 = .ok (.getfield 133, 3) := by decide +kernel
theorem dX4_bucket_12 : decode cX4_bucket 12 = .ok (.iload_n 1, 1) := by decide +kernel
theorem dX4_bucket_13 : decode cX4_bucket 13 = .ok (.iaload, 1) := by decide +kernel
theorem dX4_bucket_14 : decode cX4_bucket 14 = .ok (.ireturn, 1) := by decide +kernel
set_option maxRecDepth 20000 in
theorem ggX4_buckets_X1_isName : GoodIn wsX4_buckets wsX1_isName := goodIn_r _ [6, 7, 19, 20, 21, 22] (by decide +kernel) (by decide +kernel)
set_option maxRecDepth 20000 in
theorem gX4_buckets_X1_isName_n136 : GoodIn wsX4_buckets (wsX1_isName) := ggX4_buckets_X1_isName
theorem dX4_buckets_0 : decode cX4_buckets 0 = .ok (.iconst 0, 1) := by decide +kernel
theorem dX4_buckets_1 : decode cX4_buckets 1 = .ok (.istore_n 1, 1) := by decide +kernel
theorem dX4_buckets_2 : decode cX4_buckets 2 = .ok (.iconst 0, 1) := by decide +kernel
theorem dX4_buckets_3 : decode cX4_buckets 3 = .ok (.istore_n 2, 1) := by decide +kernel
theorem dX4_buckets_4 : decode cX4_buckets 4 = .ok (.iload_n 2, 1) := by decide +kernel
theorem dX4_buckets_5 : decode cX4_buckets 5 = .ok (.aload_n 0, 1) := by decide +kernel
theorem dX4_buckets_6 : decode cX4_buckets 6 = .ok (.getfield 26, 3) := by decide +kernel
theorem dX4_buckets_9 : decode cX4_buckets 9 = .ok (.getfield 103, 3) := by decide +kernel
theorem dX4_buckets_12 : decode cX4_buckets 12 = .ok (.if_icmp .ge 23, 3) := by decide +kernel
theorem dX4_buckets_15 : decode cX4_buckets 15 = .ok (.aload_n 0, 1) := by decide +kernel
theorem dX4_buckets_16 : decode cX4_buckets 16 = .ok (.getfield 33, 3) := by decide +kernel
theorem dX4_buckets_19 : decode cX4_buckets 19 = .ok (.iload_n 2, 1) := by decide +kernel
theorem dX4_buckets_20 : decode cX4_buckets 20 = .ok (.invokevirtual 136, 3) := by decide +kernel
theorem dX4_buckets_23 : decode cX4_buckets 23 = .ok (.ifCond .eq 6, 3) := by decide +kernel
theorem dX4_buckets_26 : decode cX4_buckets 26 = .ok (.iinc 1 1, 3) := by decide +kernel
theorem dX4_buckets_29 : decode cX4_buckets 29 = .ok (.iinc 2 1, 3) := by decide +kernel
theorem dX4_buckets_32 : decode cX4_buckets 32 = .ok (.goto (-28), 3) := by decide +kernel
theorem dX4_buckets_35 : decode cX4_buckets 35 = .ok (.iload_n 1, 1) := by decide +kernel
theorem dX4_buckets_36 : decode cX4_buckets 36 = .ok (.ireturn, 1) := by decide +kernel
set_option maxRecDepth 20000 in
theorem ggX4_size_X4_checkReport : GoodIn wsX4_size wsX4_checkReport := goodIn_ca (goodIn_r _ [6, 7, 8, 9, 10, 11, 5, 12, 21, 22, 23, 24, 25, 26, 31, 32, 33, 34, 35] (by decide +kernel) (by decide +kernel)) (goodIn_sub (fun _ h => List.mem_cons_of_mem _ (List.mem_append_right _ h)) (by decide +kernel))
set_option maxRecDepth 20000 in
theorem gX4_size_X4_checkReport : GoodIn wsX4_size (wsV RX4 122 RX4 yX4_checkReport wsX4_checkReport) := goodIn_app (goodIn_of _ (by decide +kernel)) ggX4_size_X4_checkReport
set_option maxRecDepth 20000 in
theorem ggX4_size_X4_countIn : GoodIn wsX4_size wsX4_countIn := goodIn_r _ [16, 9, 17, 18, 19, 5, 20, 1, 21, 22, 23, 24, 25, 26, 31, 32, 33, 34, 35, 27, 28, 29, 30] (by decide +kernel) (by decide +kernel)
set_option maxRecDepth 20000 in
theorem gX4_size_X4_countIn : GoodIn wsX4_size (wsV RX4 139 RX4 yX4_countIn wsX4_countIn) := goodIn_app (goodIn_of _ (by decide +kernel)) ggX4_size_X4_countIn
theorem dX4_size_0 : decode cX4_size 0 = .ok (.aload_n 0, 1) := by decide +kernel
theorem dX4_size_1 : decode cX4_size 1 = .ok (.iload_n 1, 1) := by decide +kernel
theorem dX4_size_2 : decode cX4_size 2 = .ok (.invokevirtual 122, 3) := by decide +kernel
theorem dX4_size_5 : decode cX4_size 5 = .ok (.iconst 0, 1) := by decide +kernel
theorem dX4_size_6 : decode cX4_size 6 = .ok (.istore_n 2, 1) := by decide +kernel
theorem dX4_size_7 : decode cX4_size 7 = .ok (.iconst 0, 1) := by decide +kernel
theorem dX4_size_8 : decode cX4_size 8 = .ok (.istore_n 3, 1) := by decide +kernel
theorem dX4_size_9 : decode cX4_size 9 = .ok (.iload_n 3, 1) := by decide +kernel
theorem dX4_size_10 : decode cX4_size 10 = .ok (.iconst 4, 1) := by decide +kernel
theorem dX4_size_11 : decode cX4_size 11 = .ok (.if_icmp .ge 26, 3) := by decide +kernel
theorem dX4_size_14 : decode cX4_size 14 = .ok (.iload_n 2, 1) := by decide +kernel
theorem dX4_size_15 : decode cX4_size 15 = .ok (.aload_n 0, 1) := by decide +kernel
theorem dX4_size_16 : decode cX4_size 16 = .ok (.aload_n 0, 1) := by decide +kernel
theorem dX4_size_17 : decode cX4_size 17 = .ok (.getfield 33, 3) := by decide +kernel
theorem dX4_size_20 : decode cX4_size 20 = .ok (.getfield 133, 3) := by decide +kernel
theorem dX4_size_23 : decode cX4_size 23 = .ok (.iload_n 1, 1) := by decide +kernel
theorem dX4_size_24 : decode cX4_size 24 = .ok (.iaload, 1) := by decide +kernel
theorem dX4_size_25 : decode cX4_size 25 = .ok (.iload_n 3, 1) := by decide +kernel
theorem dX4_size_26 : decode cX4_size 26 = .ok (.invokevirtual 139, 3) := by decide +kernel
theorem dX4_size_29 : decode cX4_size 29 = .ok (.iadd, 1) := by decide +kernel
theorem dX4_size_30 : decode cX4_size 30 = .ok (.istore_n 2, 1) := by decide +kernel
theorem dX4_size_31 : decode cX4_size 31 = .ok (.iinc 3 1, 3) := by decide +kernel
theorem dX4_size_34 : decode cX4_size 34 = .ok (.goto (-25), 3) := by decide +kernel
theorem dX4_size_37 : decode cX4_size 37 = .ok (.iload_n 2, 1) := by decide +kernel
theorem dX4_size_38 : decode cX4_size 38 = .ok (.ireturn, 1) := by decide +kernel
set_option maxRecDepth 20000 in
theorem ggX4_setSessions_X4_isBelow : GoodIn wsX4_setSessions wsX4_isBelow := goodIn_r _ [6] (by decide +kernel) (by decide +kernel)
set_option maxRecDepth 20000 in
theorem gX4_setSessions_X4_isBelow : GoodIn wsX4_setSessions (va_wsS RX4 45 yX4_isBelow wsX4_isBelow) := goodIn_app (goodIn_of _ (by decide +kernel)) ggX4_setSessions_X4_isBelow
set_option maxRecDepth 20000 in
theorem ggX4_setSessions_X4_checkArgument : GoodIn wsX4_setSessions wsX4_checkArgument := goodIn_ca (goodIn_r _ [9, 10, 11] (by decide +kernel) (by decide +kernel)) (goodIn_sub (fun _ h => List.mem_cons_of_mem _ (List.mem_append_right _ h)) (by decide +kernel))
set_option maxRecDepth 20000 in
theorem gX4_setSessions_X4_checkArgument : GoodIn wsX4_setSessions (va_wsS RX4 49 yX4_checkArgument wsX4_checkArgument) := goodIn_app (goodIn_of _ (by decide +kernel)) ggX4_setSessions_X4_checkArgument
theorem dX4_setSessions_0 : decode cX4_setSessions 0 = .ok (.iload_n 1, 1) := by decide +kernel
theorem dX4_setSessions_1 : decode cX4_setSessions 1 = .ok (.iconst 4, 1) := by decide +kernel
theorem dX4_setSessions_2 : decode cX4_setSessions 2 = .ok (.invokestatic 45, 3) := by decide +kernel
theorem dX4_setSessions_5 : decode cX4_setSessions 5 = .ok (.ifCond .eq 17, 3) := by decide +kernel
theorem dX4_setSessions_8 : decode cX4_setSessions 8 = .ok (.iload_n 2, 1) := by decide +kernel
theorem dX4_setSessions_9 : decode cX4_setSessions 9 = .ok (.ifCond .lt 13, 3) := by decide +kernel
theorem dX4_setSessions_12 : decode cX4_setSessions 12 = .ok (.iload_n 2, 1) := by decide +kernel
theorem dX4_setSessions_13 : decode cX4_setSessions 13 = .ok (.ldc 142, 2) := by decide +kernel
theorem dX4_setSessions_15 : decode cX4_setSessions 15 = .ok (.if_icmp .gt 7, 3) := by decide +kernel
theorem dX4_setSessions_18 : decode cX4_setSessions 18 = .ok (.iconst 1, 1) := by decide +kernel
theorem dX4_setSessions_19 : decode cX4_setSessions 19 = .ok (.goto 4, 3) := by decide +kernel
theorem dX4_setSessions_22 : decode cX4_setSessions 22 = .ok (.iconst 0, 1) := by decide +kernel
theorem dX4_setSessions_23 : decode cX4_setSessions 23 = .ok (.invokestatic 49, 3) := by decide +kernel
theorem dX4_setSessions_26 : decode cX4_setSessions 26 = .ok (.aload_n 0, 1) := by decide +kernel
theorem dX4_setSessions_27 : decode cX4_setSessions 27 = .ok (.getfield 37, 3) := by decide +kernel
theorem dX4_setSessions_30 : decode cX4_setSessions 30 = .ok (.iload_n 1, 1) := by decide +kernel
theorem dX4_setSessions_31 : decode cX4_setSessions 31 = .ok (.iaload, 1) := by decide +kernel
theorem dX4_setSessions_32 : decode cX4_setSessions 32 = .ok (.istore_n 3, 1) := by decide +kernel
theorem dX4_setSessions_33 : decode cX4_setSessions 33 = .ok (.aload_n 0, 1) := by decide +kernel
theorem dX4_setSessions_34 : decode cX4_setSessions 34 = .ok (.getfield 37, 3) := by decide +kernel
theorem dX4_setSessions_37 : decode cX4_setSessions 37 = .ok (.iload_n 1, 1) := by decide +kernel
theorem dX4_setSessions_38 : decode cX4_setSessions 38 = .ok (.iload_n 2, 1) := by decide +kernel
theorem dX4_setSessions_39 : decode cX4_setSessions 39 = .ok (.iastore, 1) := by decide +kernel
theorem dX4_setSessions_40 : decode cX4_setSessions 40 = .ok (.iload_n 3, 1) := by decide +kernel
theorem dX4_setSessions_41 : decode cX4_setSessions 41 = .ok (.ireturn, 1) := by decide +kernel
set_option maxRecDepth 20000 in
theorem ggX4_setLimit_X4_checkArgument : GoodIn wsX4_setLimit wsX4_checkArgument := goodIn_ca (goodIn_r _ [5, 6, 7] (by decide +kernel) (by decide +kernel)) (goodIn_sub (fun _ h => List.mem_cons_of_mem _ (List.mem_append_right _ h)) (by decide +kernel))
set_option maxRecDepth 20000 in
theorem gX4_setLimit_X4_checkArgument : GoodIn wsX4_setLimit (va_wsS RX4 49 yX4_checkArgument wsX4_checkArgument) := goodIn_app (goodIn_of _ (by decide +kernel)) ggX4_setLimit_X4_checkArgument
theorem dX4_setLimit_0 : decode cX4_setLimit 0 = .ok (.iload_n 1, 1) := by decide +kernel
theorem dX4_setLimit_1 : decode cX4_setLimit 1 = .ok (.iconst 1, 1) := by decide +kernel
theorem dX4_setLimit_2 : decode cX4_setLimit 2 = .ok (.if_icmp .lt 14, 3) := by decide +kernel
theorem dX4_setLimit_5 : decode cX4_setLimit 5 = .ok (.iload_n 1, 1) := by decide +kernel
theorem dX4_setLimit_6 : decode cX4_setLimit 6 = .ok (.sipush 10000, 3) := by decide +kernel
theorem dX4_setLimit_9 : decode cX4_setLimit 9 = .ok (.if_icmp .gt 7, 3) := by decide +kernel
theorem dX4_setLimit_12 : decode cX4_setLimit 12 = .ok (.iconst 1, 1) := by decide +kernel
theorem dX4_setLimit_13 : decode cX4_setLimit 13 = .ok (.goto 4, 3) := by decide +kernel
theorem dX4_setLimit_16 : decode cX4_setLimit 16 = .ok (.iconst 0, 1) := by decide +kernel
theorem dX4_setLimit_17 : decode cX4_setLimit 17 = .ok (.invokestatic 49, 3) := by decide +kernel
theorem dX4_setLimit_20 : decode cX4_setLimit 20 = .ok (.aload_n 0, 1) := by decide +kernel
theorem dX4_setLimit_21 : decode cX4_setLimit 21 = .ok (.getfield 41, 3) := by decide +kernel
theorem dX4_setLimit_24 : decode cX4_setLimit 24 = .ok (.istore_n 2, 1) := by decide +kernel
theorem dX4_setLimit_25 : decode cX4_setLimit 25 = .ok (.aload_n 0, 1) := by decide +kernel
theorem dX4_setLimit_26 : decode cX4_setLimit 26 = .ok (.iload_n 1, 1) := by decide +kernel
theorem dX4_setLimit_27 : decode cX4_setLimit 27 = .ok (.putfield 41, 3) := by decide +kernel
theorem dX4_setLimit_30 : decode cX4_setLimit 30 = .ok (.iload_n 2, 1) := by decide +kernel
theorem dX4_setLimit_31 : decode cX4_setLimit 31 = .ok (.ireturn, 1) := by decide +kernel
set_option maxRecDepth 20000 in
theorem ggX4_rate_X4_checkReport : GoodIn wsX4_rate wsX4_checkReport := goodIn_ca (goodIn_r _ [6, 7, 8, 9, 10, 11, 5, 12, 31, 32, 33, 34, 35, 36, 41, 42, 43, 44, 45] (by decide +kernel) (by decide +kernel)) (goodIn_sub (fun _ h => List.mem_cons_of_mem _ (List.mem_append_left _ (List.mem_append_right _ h))) (by decide +kernel))
set_option maxRecDepth 20000 in
theorem gX4_rate_X4_checkReport : GoodIn wsX4_rate (wsV RX4 122 RX4 yX4_checkReport wsX4_checkReport) := goodIn_app (goodIn_of _ (by decide +kernel)) ggX4_rate_X4_checkReport
set_option maxRecDepth 20000 in
theorem ggX4_rate_X4_isBelow : GoodIn wsX4_rate wsX4_isBelow := goodIn_r _ [12] (by decide +kernel) (by decide +kernel)
set_option maxRecDepth 20000 in
theorem gX4_rate_X4_isBelow : GoodIn wsX4_rate (va_wsS RX4 45 yX4_isBelow wsX4_isBelow) := goodIn_app (goodIn_of _ (by decide +kernel)) ggX4_rate_X4_isBelow
set_option maxRecDepth 20000 in
theorem ggX4_rate_X4_checkArgument : GoodIn wsX4_rate wsX4_checkArgument := goodIn_ca (goodIn_r _ [15, 16, 17] (by decide +kernel) (by decide +kernel)) (goodIn_sub (fun _ h => List.mem_cons_of_mem _ (List.mem_append_right _ h)) (by decide +kernel))
set_option maxRecDepth 20000 in
theorem gX4_rate_X4_checkArgument : GoodIn wsX4_rate (va_wsS RX4 49 yX4_checkArgument wsX4_checkArgument) := goodIn_app (goodIn_of _ (by decide +kernel)) ggX4_rate_X4_checkArgument
set_option maxRecDepth 20000 in
theorem ggX4_rate_X4_rateOf : GoodIn wsX4_rate wsX4_rateOf := goodIn_r _ [21, 22, 23, 24, 25, 5, 26, 9, 27, 28, 29, 30, 1, 31, 32, 33, 34, 35, 36, 41, 42, 43, 44, 45, 37, 38, 39, 40] (by decide +kernel) (by decide +kernel)
set_option maxRecDepth 20000 in
theorem gX4_rate_X4_rateOf : GoodIn wsX4_rate (wsV RX4 143 RX4 yX4_rateOf wsX4_rateOf) := goodIn_app (goodIn_of _ (by decide +kernel)) ggX4_rate_X4_rateOf
theorem dX4_rate_0 : decode cX4_rate 0 = .ok (.aload_n 0, 1) := by decide +kernel
theorem dX4_rate_1 : decode cX4_rate 1 = .ok (.iload_n 1, 1) := by decide +kernel
theorem dX4_rate_2 : decode cX4_rate 2 = .ok (.invokevirtual 122, 3) := by decide +kernel
theorem dX4_rate_5 : decode cX4_rate 5 = .ok (.iload_n 2, 1) := by decide +kernel
theorem dX4_rate_6 : decode cX4_rate 6 = .ok (.iconst 4, 1) := by decide +kernel
theorem dX4_rate_7 : decode cX4_rate 7 = .ok (.invokestatic 45, 3) := by decide +kernel
theorem dX4_rate_10 : decode cX4_rate 10 = .ok (.invokestatic 49, 3) := by decide +kernel
theorem dX4_rate_13 : decode cX4_rate 13 = .ok (.aload_n 0, 1) := by decide +kernel
theorem dX4_rate_14 : decode cX4_rate 14 = .ok (.aload_n 0, 1) := by decide +kernel
theorem dX4_rate_15 : decode cX4_rate 15 = .ok (.getfield 33, 3) := by decide +kernel
theorem dX4_rate_18 : decode cX4_rate 18 = .ok (.getfield 133, 3) := by decide +kernel
theorem dX4_rate_21 : decode cX4_rate 21 = .ok (.iload_n 1, 1) := by decide +kernel
theorem dX4_rate_22 : decode cX4_rate 22 = .ok (.iaload, 1) := by decide +kernel
theorem dX4_rate_23 : decode cX4_rate 23 = .ok (.iload_n 2, 1) := by decide +kernel
theorem dX4_rate_24 : decode cX4_rate 24 = .ok (.invokevirtual 143, 3) := by decide +kernel
theorem dX4_rate_27 : decode cX4_rate 27 = .ok (.ireturn, 1) := by decide +kernel
set_option maxRecDepth 20000 in
theorem ggX4_users_X4_checkReport : GoodIn wsX4_users wsX4_checkReport := goodIn_ca (goodIn_r _ [6, 7, 8, 9, 10, 11, 5, 12, 33, 34, 35, 36, 37, 38, 43, 44, 45, 46, 47] (by decide +kernel) (by decide +kernel)) (goodIn_sub (fun _ h => List.mem_cons_of_mem _ (List.mem_append_left _ (List.mem_append_right _ h))) (by decide +kernel))
set_option maxRecDepth 20000 in
theorem gX4_users_X4_checkReport : GoodIn wsX4_users (wsV RX4 122 RX4 yX4_checkReport wsX4_checkReport) := goodIn_app (goodIn_of _ (by decide +kernel)) ggX4_users_X4_checkReport
set_option maxRecDepth 20000 in
theorem ggX4_users_X4_isBelow : GoodIn wsX4_users wsX4_isBelow := goodIn_r _ [12] (by decide +kernel) (by decide +kernel)
set_option maxRecDepth 20000 in
theorem gX4_users_X4_isBelow : GoodIn wsX4_users (va_wsS RX4 45 yX4_isBelow wsX4_isBelow) := goodIn_app (goodIn_of _ (by decide +kernel)) ggX4_users_X4_isBelow
set_option maxRecDepth 20000 in
theorem ggX4_users_X4_checkArgument : GoodIn wsX4_users wsX4_checkArgument := goodIn_ca (goodIn_r _ [15, 16, 17] (by decide +kernel) (by decide +kernel)) (goodIn_sub (fun _ h => List.mem_cons_of_mem _ (List.mem_append_right _ h)) (by decide +kernel))
set_option maxRecDepth 20000 in
theorem gX4_users_X4_checkArgument : GoodIn wsX4_users (va_wsS RX4 49 yX4_checkArgument wsX4_checkArgument) := goodIn_app (goodIn_of _ (by decide +kernel)) ggX4_users_X4_checkArgument
set_option maxRecDepth 20000 in
theorem ggX4_users_X4_usersOf : GoodIn wsX4_users wsX4_usersOf := goodIn_r _ [21, 9, 22, 23, 24, 5, 25, 1, 26, 27, 28, 29, 30, 31, 32, 33, 34, 35, 36, 37, 38, 43, 44, 45, 46, 47, 39, 40, 41, 42] (by decide +kernel) (by decide +kernel)
set_option maxRecDepth 20000 in
theorem gX4_users_X4_usersOf : GoodIn wsX4_users (wsV RX4 146 RX4 yX4_usersOf wsX4_usersOf) := goodIn_app (goodIn_of _ (by decide +kernel)) ggX4_users_X4_usersOf
theorem dX4_users_0 : decode cX4_users 0 = .ok (.aload_n 0, 1) := by decide +kernel
theorem dX4_users_1 : decode cX4_users 1 = .ok (.iload_n 1, 1) := by decide +kernel
theorem dX4_users_2 : decode cX4_users 2 = .ok (.invokevirtual 122, 3) := by decide +kernel
theorem dX4_users_5 : decode cX4_users 5 = .ok (.iload_n 2, 1) := by decide +kernel
theorem dX4_users_6 : decode cX4_users 6 = .ok (.iconst 4, 1) := by decide +kernel
theorem dX4_users_7 : decode cX4_users 7 = .ok (.invokestatic 45, 3) := by decide +kernel
theorem dX4_users_10 : decode cX4_users 10 = .ok (.invokestatic 49, 3) := by decide +kernel
theorem dX4_users_13 : decode cX4_users 13 = .ok (.aload_n 0, 1) := by decide +kernel
theorem dX4_users_14 : decode cX4_users 14 = .ok (.aload_n 0, 1) := by decide +kernel
theorem dX4_users_15 : decode cX4_users 15 = .ok (.getfield 33, 3) := by decide +kernel
theorem dX4_users_18 : decode cX4_users 18 = .ok (.getfield 133, 3) := by decide +kernel
theorem dX4_users_21 : decode cX4_users 21 = .ok (.iload_n 1, 1) := by decide +kernel
theorem dX4_users_22 : decode cX4_users 22 = .ok (.iaload, 1) := by decide +kernel
theorem dX4_users_23 : decode cX4_users 23 = .ok (.iload_n 2, 1) := by decide +kernel
theorem dX4_users_24 : decode cX4_users 24 = .ok (.invokevirtual 146, 3) := by decide +kernel
theorem dX4_users_27 : decode cX4_users 27 = .ok (.ireturn, 1) := by decide +kernel
set_option maxRecDepth 20000 in
theorem ggX4_gate_X4_isBelow : GoodIn wsX4_gate wsX4_isBelow := goodIn_r _ [8] (by decide +kernel) (by decide +kernel)
set_option maxRecDepth 20000 in
theorem gX4_gate_X4_isBelow : GoodIn wsX4_gate (va_wsS RX4 45 yX4_isBelow wsX4_isBelow) := goodIn_app (goodIn_of _ (by decide +kernel)) ggX4_gate_X4_isBelow
set_option maxRecDepth 20000 in
theorem ggX4_gate_X4_checkArgument : GoodIn wsX4_gate wsX4_checkArgument := goodIn_ca (goodIn_r _ [11, 12, 13] (by decide +kernel) (by decide +kernel)) (goodIn_sub (fun _ h => List.mem_cons_of_mem _ (List.mem_append_right _ h)) (by decide +kernel))
set_option maxRecDepth 20000 in
theorem gX4_gate_X4_checkArgument : GoodIn wsX4_gate (va_wsS RX4 49 yX4_checkArgument wsX4_checkArgument) := goodIn_app (goodIn_of _ (by decide +kernel)) ggX4_gate_X4_checkArgument
set_option maxRecDepth 20000 in
theorem ggX4_gate_X1_isName : GoodIn wsX4_gate wsX1_isName := goodIn_r _ [17, 18, 53, 54, 55, 56] (by decide +kernel) (by decide +kernel)
set_option maxRecDepth 20000 in
theorem gX4_gate_X1_isName_n136 : GoodIn wsX4_gate (wsX1_isName) := ggX4_gate_X1_isName
set_option maxRecDepth 20000 in
theorem ggX4_gate_X4_rateOf : GoodIn wsX4_gate wsX4_rateOf := goodIn_r _ [22, 1, 23, 24, 25, 7, 26, 2, 27, 28, 29, 30, 3, 42, 43, 44, 45, 46, 47, 48, 49, 50, 51, 52, 53, 54, 55, 56] (by decide +kernel) (by decide +kernel)
set_option maxRecDepth 20000 in
theorem gX4_gate_X4_rateOf : GoodIn wsX4_gate (wsV RX4 143 RX4 yX4_rateOf wsX4_rateOf) := goodIn_app (goodIn_of _ (by decide +kernel)) ggX4_gate_X4_rateOf
set_option maxRecDepth 20000 in
theorem ggX4_gate_X4_usersOf : GoodIn wsX4_gate wsX4_usersOf := goodIn_r _ [34, 2, 27, 28, 29, 7, 30, 3, 35, 36, 37, 38, 39, 40, 41, 42, 43, 44, 45, 46, 47, 48, 49, 50, 51, 52, 53, 54, 55, 56] (by decide +kernel) (by decide +kernel)
set_option maxRecDepth 20000 in
theorem gX4_gate_X4_usersOf : GoodIn wsX4_gate (wsV RX4 146 RX4 yX4_usersOf wsX4_usersOf) := goodIn_app (goodIn_of _ (by decide +kernel)) ggX4_gate_X4_usersOf
theorem dX4_gate_0 : decode cX4_gate 0 = .ok (.iload_n 1, 1) := by decide +kernel
theorem dX4_gate_1 : decode cX4_gate 1 = .ok (.iconst 4, 1) := by decide +kernel
theorem dX4_gate_2 : decode cX4_gate 2 = .ok (.invokestatic 45, 3) := by decide +kernel
theorem dX4_gate_5 : decode cX4_gate 5 = .ok (.invokestatic 49, 3) := by decide +kernel
theorem dX4_gate_8 : decode cX4_gate 8 = .ok (.aload_n 0, 1) := by decide +kernel
theorem dX4_gate_9 : decode cX4_gate 9 = .ok (.getfield 37, 3) := by decide +kernel
theorem dX4_gate_12 : decode cX4_gate 12 = .ok (.iload_n 1, 1) := by decide +kernel
theorem dX4_gate_13 : decode cX4_gate 13 = .ok (.iaload, 1) := by decide +kernel
theorem dX4_gate_14 : decode cX4_gate 14 = .ok (.bipush 50, 2) := by decide +kernel
theorem dX4_gate_16 : decode cX4_gate 16 = .ok (.if_icmp .lt 7, 3) := by decide +kernel
theorem dX4_gate_19 : decode cX4_gate 19 = .ok (.iconst 1, 1) := by decide +kernel
theorem dX4_gate_20 : decode cX4_gate 20 = .ok (.goto 4, 3) := by decide +kernel
theorem dX4_gate_23 : decode cX4_gate 23 = .ok (.iconst 0, 1) := by decide +kernel
theorem dX4_gate_24 : decode cX4_gate 24 = .ok (.istore_n 2, 1) := by decide +kernel
theorem dX4_gate_25 : decode cX4_gate 25 = .ok (.iload_n 2, 1) := by decide +kernel
theorem dX4_gate_26 : decode cX4_gate 26 = .ok (.ifCond .ne 7, 3) := by decide +kernel
theorem dX4_gate_29 : decode cX4_gate 29 = .ok (.iconst 1, 1) := by decide +kernel
theorem dX4_gate_30 : decode cX4_gate 30 = .ok (.goto 4, 3) := by decide +kernel
theorem dX4_gate_33 : decode cX4_gate 33 = .ok (.iconst 0, 1) := by decide +kernel
theorem dX4_gate_34 : decode cX4_gate 34 = .ok (.istore_n 3, 1) := by decide +kernel
theorem dX4_gate_35 : decode cX4_gate 35 = .ok (.iconst 0, 1) := by decide +kernel
theorem dX4_gate_36 : decode cX4_gate 36 = .ok (.istore 4, 2) := by decide +kernel
theorem dX4_gate_38 : decode cX4_gate 38 = .ok (.iload 4, 2) := by decide +kernel
theorem dX4_gate_40 : decode cX4_gate 40 = .ok (.aload_n 0, 1) := by decide +kernel
theorem dX4_gate_41 : decode cX4_gate 41 = .ok (.getfield 26, 3) := by decide +kernel
theorem dX4_gate_44 : decode cX4_gate 44 = .ok (.getfield 103, 3) := by decide +kernel
theorem dX4_gate_47 : decode cX4_gate 47 = .ok (.if_icmp .ge 77, 3) := by decide +kernel
theorem dX4_gate_50 : decode cX4_gate 50 = .ok (.aload_n 0, 1) := by decide +kernel
theorem dX4_gate_51 : decode cX4_gate 51 = .ok (.getfield 33, 3) := by decide +kernel
theorem dX4_gate_54 : decode cX4_gate 54 = .ok (.iload 4, 2) := by decide +kernel
theorem dX4_gate_56 : decode cX4_gate 56 = .ok (.invokevirtual 136, 3) := by decide +kernel
theorem dX4_gate_59 : decode cX4_gate 59 = .ok (.ifCond .eq 59, 3) := by decide +kernel
theorem dX4_gate_62 : decode cX4_gate 62 = .ok (.aload_n 0, 1) := by decide +kernel
theorem dX4_gate_63 : decode cX4_gate 63 = .ok (.iload 4, 2) := by decide +kernel
theorem dX4_gate_65 : decode cX4_gate 65 = .ok (.iload_n 1, 1) := by decide +kernel
theorem dX4_gate_66 : decode cX4_gate 66 = .ok (.invokevirtual 143, 3) := by decide +kernel
theorem dX4_gate_69 : decode cX4_gate 69 = .ok (.istore 5, 2) := by decide +kernel
theorem dX4_gate_71 : decode cX4_gate 71 = .ok (.iload_n 2, 1) := by decide +kernel
theorem dX4_gate_72 : decode cX4_gate 72 = .ok (.ifCond .eq 25, 3) := by decide +kernel
theorem dX4_gate_75 : decode cX4_gate 75 = .ok (.iload 5, 2) := by decide +kernel
theorem dX4_gate_77 : decode cX4_gate 77 = .ok (.aload_n 0, 1) := by decide +kernel
theorem dX4_gate_78 : decode cX4_gate 78 = .ok (.getfield 41, 3) := by decide +kernel
theorem dX4_gate_81 : decode cX4_gate 81 = .ok (.if_icmp .lt 16, 3) := by decide +kernel
theorem dX4_gate_84 : decode cX4_gate 84 = .ok (.aload_n 0, 1) := by decide +kernel
theorem dX4_gate_85 : decode cX4_gate 85 = .ok (.iload 4, 2) := by decide +kernel
theorem dX4_gate_87 : decode cX4_gate 87 = .ok (.iload_n 1, 1) := by decide +kernel
theorem dX4_gate_88 : decode cX4_gate 88 = .ok (.invokevirtual 146, 3) := by decide +kernel
theorem dX4_gate_91 : decode cX4_gate 91 = .ok (.iconst 2, 1) := by decide +kernel
theorem dX4_gate_92 : decode cX4_gate 92 = .ok (.if_icmp .lt 5, 3) := by decide +kernel
theorem dX4_gate_95 : decode cX4_gate 95 = .ok (.iconst 2, 1) := by decide +kernel
theorem dX4_gate_96 : decode cX4_gate 96 = .ok (.ireturn, 1) := by decide +kernel
theorem dX4_gate_97 : decode cX4_gate 97 = .ok (.iload_n 3, 1) := by decide +kernel
theorem dX4_gate_98 : decode cX4_gate 98 = .ok (.ifCond .ne 14, 3) := by decide +kernel
theorem dX4_gate_101 : decode cX4_gate 101 = .ok (.iconst 2, 1) := by decide +kernel
theorem dX4_gate_102 : decode cX4_gate 102 = .ok (.iload 5, 2) := by decide +kernel
theorem dX4_gate_104 : decode cX4_gate 104 = .ok (.imul, 1) := by decide +kernel
theorem dX4_gate_105 : decode cX4_gate 105 = .ok (.aload_n 0, 1) := by decide +kernel
theorem dX4_gate_106 : decode cX4_gate 106 = .ok (.getfield 41, 3) := by decide +kernel
theorem dX4_gate_109 : decode cX4_gate 109 = .ok (.if_icmp .lt 7, 3) := by decide +kernel
theorem dX4_gate_112 : decode cX4_gate 112 = .ok (.iconst 1, 1) := by decide +kernel
theorem dX4_gate_113 : decode cX4_gate 113 = .ok (.goto 4, 3) := by decide +kernel
theorem dX4_gate_116 : decode cX4_gate 116 = .ok (.iconst 0, 1) := by decide +kernel
theorem dX4_gate_117 : decode cX4_gate 117 = .ok (.istore_n 3, 1) := by decide +kernel
theorem dX4_gate_118 : decode cX4_gate 118 = .ok (.iinc 4 1, 3) := by decide +kernel
theorem dX4_gate_121 : decode cX4_gate 121 = .ok (.goto (-83), 3) := by decide +kernel
theorem dX4_gate_124 : decode cX4_gate 124 = .ok (.iload_n 3, 1) := by decide +kernel
theorem dX4_gate_125 : decode cX4_gate 125 = .ok (.ifCond .eq 7, 3) := by decide +kernel
theorem dX4_gate_128 : decode cX4_gate 128 = .ok (.iconst 1, 1) := by decide +kernel
theorem dX4_gate_129 : decode cX4_gate 129 = .ok (.goto 4, 3) := by decide +kernel
theorem dX4_gate_132 : decode cX4_gate 132 = .ok (.iconst 0, 1) := by decide +kernel
theorem dX4_gate_133 : decode cX4_gate 133 = .ok (.ireturn, 1) := by decide +kernel
set_option maxRecDepth 20000 in
theorem ggX4_worst_X4_isBelow : GoodIn wsX4_worst wsX4_isBelow := goodIn_r _ [6] (by decide +kernel) (by decide +kernel)
set_option maxRecDepth 20000 in
theorem gX4_worst_X4_isBelow : GoodIn wsX4_worst (va_wsS RX4 45 yX4_isBelow wsX4_isBelow) := goodIn_app (goodIn_of _ (by decide +kernel)) ggX4_worst_X4_isBelow
set_option maxRecDepth 20000 in
theorem ggX4_worst_X4_checkArgument : GoodIn wsX4_worst wsX4_checkArgument := goodIn_ca (goodIn_r _ [9, 10, 11] (by decide +kernel) (by decide +kernel)) (goodIn_sub (fun _ h => List.mem_cons_of_mem _ (List.mem_append_right _ h)) (by decide +kernel))
set_option maxRecDepth 20000 in
theorem gX4_worst_X4_checkArgument : GoodIn wsX4_worst (va_wsS RX4 49 yX4_checkArgument wsX4_checkArgument) := goodIn_app (goodIn_of _ (by decide +kernel)) ggX4_worst_X4_checkArgument
set_option maxRecDepth 20000 in
theorem ggX4_worst_X1_isName : GoodIn wsX4_worst wsX1_isName := goodIn_r _ [15, 16, 41, 42, 43, 44] (by decide +kernel) (by decide +kernel)
set_option maxRecDepth 20000 in
theorem gX4_worst_X1_isName_n136 : GoodIn wsX4_worst (wsX1_isName) := ggX4_worst_X1_isName
set_option maxRecDepth 20000 in
theorem ggX4_worst_X4_rateOf : GoodIn wsX4_worst wsX4_rateOf := goodIn_r _ [20, 21, 22, 23, 24, 5, 25, 1, 26, 27, 28, 29, 2, 30, 31, 32, 33, 34, 35, 36, 37, 38, 39, 40, 41, 42, 43, 44] (by decide +kernel) (by decide +kernel)
set_option maxRecDepth 20000 in
theorem gX4_worst_X4_rateOf : GoodIn wsX4_worst (wsV RX4 143 RX4 yX4_rateOf wsX4_rateOf) := goodIn_app (goodIn_of _ (by decide +kernel)) ggX4_worst_X4_rateOf
theorem dX4_worst_0 : decode cX4_worst 0 = .ok (.iload_n 1, 1) := by decide +kernel
theorem dX4_worst_1 : decode cX4_worst 1 = .ok (.iconst 4, 1) := by decide +kernel
theorem dX4_worst_2 : decode cX4_worst 2 = .ok (.invokestatic 45, 3) := by decide +kernel
theorem dX4_worst_5 : decode cX4_worst 5 = .ok (.invokestatic 49, 3) := by decide +kernel
theorem dX4_worst_8 : decode cX4_worst 8 = .ok (.iconst (-1), 1) := by decide +kernel
theorem dX4_worst_9 : decode cX4_worst 9 = .ok (.istore_n 2, 1) := by decide +kernel
theorem dX4_worst_10 : decode cX4_worst 10 = .ok (.iconst 0, 1) := by decide +kernel
theorem dX4_worst_11 : decode cX4_worst 11 = .ok (.istore_n 3, 1) := by decide +kernel
theorem dX4_worst_12 : decode cX4_worst 12 = .ok (.iconst 0, 1) := by decide +kernel
theorem dX4_worst_13 : decode cX4_worst 13 = .ok (.istore 4, 2) := by decide +kernel
theorem dX4_worst_15 : decode cX4_worst 15 = .ok (.iload 4, 2) := by decide +kernel
theorem dX4_worst_17 : decode cX4_worst 17 = .ok (.aload_n 0, 1) := by decide +kernel
theorem dX4_worst_18 : decode cX4_worst 18 = .ok (.getfield 26, 3) := by decide +kernel
theorem dX4_worst_21 : decode cX4_worst 21 = .ok (.getfield 103, 3) := by decide +kernel
theorem dX4_worst_24 : decode cX4_worst 24 = .ok (.if_icmp .ge 42, 3) := by decide +kernel
theorem dX4_worst_27 : decode cX4_worst 27 = .ok (.aload_n 0, 1) := by decide +kernel
theorem dX4_worst_28 : decode cX4_worst 28 = .ok (.getfield 33, 3) := by decide +kernel
theorem dX4_worst_31 : decode cX4_worst 31 = .ok (.iload 4, 2) := by decide +kernel
theorem dX4_worst_33 : decode cX4_worst 33 = .ok (.invokevirtual 136, 3) := by decide +kernel
theorem dX4_worst_36 : decode cX4_worst 36 = .ok (.ifCond .eq 24, 3) := by decide +kernel
theorem dX4_worst_39 : decode cX4_worst 39 = .ok (.aload_n 0, 1) := by decide +kernel
theorem dX4_worst_40 : decode cX4_worst 40 = .ok (.iload 4, 2) := by decide +kernel
theorem dX4_worst_42 : decode cX4_worst 42 = .ok (.iload_n 1, 1) := by decide +kernel
theorem dX4_worst_43 : decode cX4_worst 43 = .ok (.invokevirtual 143, 3) := by decide +kernel
theorem dX4_worst_46 : decode cX4_worst 46 = .ok (.istore 5, 2) := by decide +kernel
theorem dX4_worst_48 : decode cX4_worst 48 = .ok (.iload 5, 2) := by decide +kernel
theorem dX4_worst_50 : decode cX4_worst 50 = .ok (.iload_n 3, 1) := by decide +kernel
theorem dX4_worst_51 : decode cX4_worst 51 = .ok (.if_icmp .le 9, 3) := by decide +kernel
theorem dX4_worst_54 : decode cX4_worst 54 = .ok (.iload 4, 2) := by decide +kernel
theorem dX4_worst_56 : decode cX4_worst 56 = .ok (.istore_n 2, 1) := by decide +kernel
theorem dX4_worst_57 : decode cX4_worst 57 = .ok (.iload 5, 2) := by decide +kernel
theorem dX4_worst_59 : decode cX4_worst 59 = .ok (.istore_n 3, 1) := by decide +kernel
theorem dX4_worst_60 : decode cX4_worst 60 = .ok (.iinc 4 1, 3) := by decide +kernel
theorem dX4_worst_63 : decode cX4_worst 63 = .ok (.goto (-48), 3) := by decide +kernel
theorem dX4_worst_66 : decode cX4_worst 66 = .ok (.iload_n 2, 1) := by decide +kernel
theorem dX4_worst_67 : decode cX4_worst 67 = .ok (.ireturn, 1) := by decide +kernel
set_option maxRecDepth 20000 in
theorem ggX4_fix_X4_checkReport : GoodIn wsX4_fix wsX4_checkReport := goodIn_ca (goodIn_r _ [6, 7, 8, 1, 9, 10, 5, 11, 17, 18, 19, 20, 21, 22, 23, 24, 25, 26, 27] (by decide +kernel) (by decide +kernel)) (goodIn_sub (fun _ h => List.mem_cons_of_mem _ (List.mem_append_left _ (List.mem_append_right _ h))) (by decide +kernel))
set_option maxRecDepth 20000 in
theorem gX4_fix_X4_checkReport : GoodIn wsX4_fix (wsV RX4 122 RX4 yX4_checkReport wsX4_checkReport) := goodIn_app (goodIn_of _ (by decide +kernel)) ggX4_fix_X4_checkReport
set_option maxRecDepth 20000 in
theorem ggX4_fix_X4_isBelow : GoodIn wsX4_fix wsX4_isBelow := goodIn_r _ [11] (by decide +kernel) (by decide +kernel)
set_option maxRecDepth 20000 in
theorem gX4_fix_X4_isBelow : GoodIn wsX4_fix (va_wsS RX4 45 yX4_isBelow wsX4_isBelow) := goodIn_app (goodIn_of _ (by decide +kernel)) ggX4_fix_X4_isBelow
set_option maxRecDepth 20000 in
theorem ggX4_fix_X4_checkArgument : GoodIn wsX4_fix wsX4_checkArgument := goodIn_ca (goodIn_r _ [14, 15, 16] (by decide +kernel) (by decide +kernel)) (goodIn_sub (fun _ h => List.mem_cons_of_mem _ (List.mem_append_right _ h)) (by decide +kernel))
set_option maxRecDepth 20000 in
theorem gX4_fix_X4_checkArgument : GoodIn wsX4_fix (va_wsS RX4 49 yX4_checkArgument wsX4_checkArgument) := goodIn_app (goodIn_of _ (by decide +kernel)) ggX4_fix_X4_checkArgument
theorem dX4_fix_0 : decode cX4_fix 0 = .ok (.aload_n 0, 1) := by decide +kernel
theorem dX4_fix_1 : decode cX4_fix 1 = .ok (.iload_n 1, 1) := by decide +kernel
theorem dX4_fix_2 : decode cX4_fix 2 = .ok (.invokevirtual 122, 3) := by decide +kernel
theorem dX4_fix_5 : decode cX4_fix 5 = .ok (.iload_n 2, 1) := by decide +kernel
theorem dX4_fix_6 : decode cX4_fix 6 = .ok (.iconst 1, 1) := by decide +kernel
theorem dX4_fix_7 : decode cX4_fix 7 = .ok (.if_icmp .lt 15, 3) := by decide +kernel
theorem dX4_fix_10 : decode cX4_fix 10 = .ok (.iload_n 2, 1) := by decide +kernel
theorem dX4_fix_11 : decode cX4_fix 11 = .ok (.iconst 4, 1) := by decide +kernel
theorem dX4_fix_12 : decode cX4_fix 12 = .ok (.invokestatic 45, 3) := by decide +kernel
theorem dX4_fix_15 : decode cX4_fix 15 = .ok (.ifCond .eq 7, 3) := by decide +kernel
theorem dX4_fix_18 : decode cX4_fix 18 = .ok (.iconst 1, 1) := by decide +kernel
theorem dX4_fix_19 : decode cX4_fix 19 = .ok (.goto 4, 3) := by decide +kernel
theorem dX4_fix_22 : decode cX4_fix 22 = .ok (.iconst 0, 1) := by decide +kernel
theorem dX4_fix_23 : decode cX4_fix 23 = .ok (.invokestatic 49, 3) := by decide +kernel
theorem dX4_fix_26 : decode cX4_fix 26 = .ok (.aload_n 0, 1) := by decide +kernel
theorem dX4_fix_27 : decode cX4_fix 27 = .ok (.getfield 26, 3) := by decide +kernel
theorem dX4_fix_30 : decode cX4_fix 30 = .ok (.getfield 149, 3) := by decide +kernel
theorem dX4_fix_33 : decode cX4_fix 33 = .ok (.iload_n 1, 1) := by decide +kernel
theorem dX4_fix_34 : decode cX4_fix 34 = .ok (.iaload, 1) := by decide +kernel
theorem dX4_fix_35 : decode cX4_fix 35 = .ok (.istore_n 3, 1) := by decide +kernel
theorem dX4_fix_36 : decode cX4_fix 36 = .ok (.aload_n 0, 1) := by decide +kernel
theorem dX4_fix_37 : decode cX4_fix 37 = .ok (.getfield 26, 3) := by decide +kernel
theorem dX4_fix_40 : decode cX4_fix 40 = .ok (.getfield 149, 3) := by decide +kernel
theorem dX4_fix_43 : decode cX4_fix 43 = .ok (.iload_n 1, 1) := by decide +kernel
theorem dX4_fix_44 : decode cX4_fix 44 = .ok (.iload_n 2, 1) := by decide +kernel
theorem dX4_fix_45 : decode cX4_fix 45 = .ok (.iastore, 1) := by decide +kernel
theorem dX4_fix_46 : decode cX4_fix 46 = .ok (.iload_n 3, 1) := by decide +kernel
theorem dX4_fix_47 : decode cX4_fix 47 = .ok (.ireturn, 1) := by decide +kernel
set_option maxRecDepth 20000 in
theorem ggX4_holds_X4_checkReport : GoodIn wsX4_holds wsX4_checkReport := goodIn_ca (goodIn_r _ [10, 11, 12, 3, 13, 14, 9, 15, 36, 37, 38, 39, 40, 41, 42, 43, 44, 45, 46] (by decide +kernel) (by decide +kernel)) (goodIn_sub (fun _ h => List.mem_cons_of_mem _ (List.mem_append_right _ h)) (by decide +kernel))
set_option maxRecDepth 20000 in
theorem gX4_holds_X4_checkReport : GoodIn wsX4_holds (wsV RX4 122 RX4 yX4_checkReport wsX4_checkReport) := goodIn_app (goodIn_of _ (by decide +kernel)) ggX4_holds_X4_checkReport
set_option maxRecDepth 20000 in
theorem ggX4_holds_X4_greatestRateBefore : GoodIn wsX4_holds wsX4_greatestRateBefore := goodIn_r _ [19, 20, 21, 22, 23, 24, 25, 26, 9, 27, 5, 28, 29, 30, 31, 3, 32, 33, 34, 35, 4, 36, 37, 38, 39, 40, 41, 42, 43, 44, 45, 46, 47, 48, 49, 50] (by decide +kernel) (by decide +kernel)
set_option maxRecDepth 20000 in
theorem gX4_holds_X4_greatestRateBefore : GoodIn wsX4_holds (wsV RX4 154 RX4 yX4_greatestRateBefore wsX4_greatestRateBefore) := goodIn_app (goodIn_of _ (by decide +kernel)) ggX4_holds_X4_greatestRateBefore
set_option maxRecDepth 20000 in
theorem ggX4_holds_X4_rateOf : GoodIn wsX4_holds wsX4_rateOf := goodIn_r _ [27, 5, 28, 29, 30, 9, 31, 3, 32, 33, 34, 35, 4, 36, 37, 38, 39, 40, 41, 42, 43, 44, 45, 46, 47, 48, 49, 50] (by decide +kernel) (by decide +kernel)
set_option maxRecDepth 20000 in
theorem gX4_holds_X4_rateOf : GoodIn wsX4_holds (wsV RX4 143 RX4 yX4_rateOf wsX4_rateOf) := goodIn_app (goodIn_of _ (by decide +kernel)) ggX4_holds_X4_rateOf
theorem dX4_holds_0 : decode cX4_holds 0 = .ok (.aload_n 0, 1) := by decide +kernel
theorem dX4_holds_1 : decode cX4_holds 1 = .ok (.iload_n 1, 1) := by decide +kernel
theorem dX4_holds_2 : decode cX4_holds 2 = .ok (.invokevirtual 122, 3) := by decide +kernel
theorem dX4_holds_5 : decode cX4_holds 5 = .ok (.aload_n 0, 1) := by decide +kernel
theorem dX4_holds_6 : decode cX4_holds 6 = .ok (.getfield 26, 3) := by decide +kernel
theorem dX4_holds_9 : decode cX4_holds 9 = .ok (.getfield 149, 3) := by decide +kernel
theorem dX4_holds_12 : decode cX4_holds 12 = .ok (.iload_n 1, 1) := by decide +kernel
theorem dX4_holds_13 : decode cX4_holds 13 = .ok (.iaload, 1) := by decide +kernel
theorem dX4_holds_14 : decode cX4_holds 14 = .ok (.istore_n 2, 1) := by decide +kernel
theorem dX4_holds_15 : decode cX4_holds 15 = .ok (.iload_n 2, 1) := by decide +kernel
theorem dX4_holds_16 : decode cX4_holds 16 = .ok (.iconst (-1), 1) := by decide +kernel
theorem dX4_holds_17 : decode cX4_holds 17 = .ok (.if_icmp .ne 13, 3) := by decide +kernel
theorem dX4_holds_20 : decode cX4_holds 20 = .ok (.new 57, 3) := by decide +kernel
theorem dX4_holds_23 : decode cX4_holds 23 = .ok (.dup, 1) := by decide +kernel
theorem dX4_holds_24 : decode cX4_holds 24 = .ok (.ldc 152, 2) := by decide +kernel
theorem dX4_holds_26 : decode cX4_holds 26 = .ok (.invokespecial 61, 3) := by decide +kernel
theorem dX4_holds_29 : decode cX4_holds 29 = .ok (.athrow, 1) := by decide +kernel
theorem dX4_holds_30 : decode cX4_holds 30 = .ok (.aload_n 0, 1) := by decide +kernel
theorem dX4_holds_31 : decode cX4_holds 31 = .ok (.getfield 33, 3) := by decide +kernel
theorem dX4_holds_34 : decode cX4_holds 34 = .ok (.getfield 133, 3) := by decide +kernel
theorem dX4_holds_37 : decode cX4_holds 37 = .ok (.iload_n 1, 1) := by decide +kernel
theorem dX4_holds_38 : decode cX4_holds 38 = .ok (.iaload, 1) := by decide +kernel
theorem dX4_holds_39 : decode cX4_holds 39 = .ok (.istore_n 3, 1) := by decide +kernel
theorem dX4_holds_40 : decode cX4_holds 40 = .ok (.aload_n 0, 1) := by decide +kernel
theorem dX4_holds_41 : decode cX4_holds 41 = .ok (.iload_n 3, 1) := by decide +kernel
theorem dX4_holds_42 : decode cX4_holds 42 = .ok (.iload_n 2, 1) := by decide +kernel
theorem dX4_holds_43 : decode cX4_holds 43 = .ok (.invokevirtual 154, 3) := by decide +kernel
theorem dX4_holds_46 : decode cX4_holds 46 = .ok (.istore 4, 2) := by decide +kernel
theorem dX4_holds_48 : decode cX4_holds 48 = .ok (.iload_n 2, 1) := by decide +kernel
theorem dX4_holds_49 : decode cX4_holds 49 = .ok (.istore 5, 2) := by decide +kernel
theorem dX4_holds_51 : decode cX4_holds 51 = .ok (.iload 5, 2) := by decide +kernel
theorem dX4_holds_53 : decode cX4_holds 53 = .ok (.iconst 4, 1) := by decide +kernel
theorem dX4_holds_54 : decode cX4_holds 54 = .ok (.if_icmp .ge 35, 3) := by decide +kernel
theorem dX4_holds_57 : decode cX4_holds 57 = .ok (.aload_n 0, 1) := by decide +kernel
theorem dX4_holds_58 : decode cX4_holds 58 = .ok (.getfield 37, 3) := by decide +kernel
theorem dX4_holds_61 : decode cX4_holds 61 = .ok (.iload 5, 2) := by decide +kernel
theorem dX4_holds_63 : decode cX4_holds 63 = .ok (.iaload, 1) := by decide +kernel
theorem dX4_holds_64 : decode cX4_holds 64 = .ok (.ifCond .le 19, 3) := by decide +kernel
theorem dX4_holds_67 : decode cX4_holds 67 = .ok (.iconst 2, 1) := by decide +kernel
theorem dX4_holds_68 : decode cX4_holds 68 = .ok (.aload_n 0, 1) := by decide +kernel
theorem dX4_holds_69 : decode cX4_holds 69 = .ok (.iload_n 3, 1) := by decide +kernel
theorem dX4_holds_70 : decode cX4_holds 70 = .ok (.iload 5, 2) := by decide +kernel
theorem dX4_holds_72 : decode cX4_holds 72 = .ok (.invokevirtual 143, 3) := by decide +kernel
theorem dX4_holds_75 : decode cX4_holds 75 = .ok (.imul, 1) := by decide +kernel
theorem dX4_holds_76 : decode cX4_holds 76 = .ok (.iload 4, 2) := by decide +kernel
theorem dX4_holds_78 : decode cX4_holds 78 = .ok (.if_icmp .le 5, 3) := by decide +kernel
theorem dX4_holds_81 : decode cX4_holds 81 = .ok (.iconst 0, 1) := by decide +kernel
theorem dX4_holds_82 : decode cX4_holds 82 = .ok (.ireturn, 1) := by decide +kernel
theorem dX4_holds_83 : decode cX4_holds 83 = .ok (.iinc 5 1, 3) := by decide +kernel
theorem dX4_holds_86 : decode cX4_holds 86 = .ok (.goto (-35), 3) := by decide +kernel
theorem dX4_holds_89 : decode cX4_holds 89 = .ok (.iconst 1, 1) := by decide +kernel
theorem dX4_holds_90 : decode cX4_holds 90 = .ok (.ireturn, 1) := by decide +kernel
theorem dX4_isBelow_0 : decode cX4_isBelow 0 = .ok (.iload_n 0, 1) := by decide +kernel
theorem dX4_isBelow_1 : decode cX4_isBelow 1 = .ok (.ifCond .lt 12, 3) := by decide +kernel
theorem dX4_isBelow_4 : decode cX4_isBelow 4 = .ok (.iload_n 0, 1) := by decide +kernel
theorem dX4_isBelow_5 : decode cX4_isBelow 5 = .ok (.iload_n 1, 1) := by decide +kernel
theorem dX4_isBelow_6 : decode cX4_isBelow 6 = .ok (.if_icmp .ge 7, 3) := by decide +kernel
theorem dX4_isBelow_9 : decode cX4_isBelow 9 = .ok (.iconst 1, 1) := by decide +kernel
theorem dX4_isBelow_10 : decode cX4_isBelow 10 = .ok (.goto 4, 3) := by decide +kernel
theorem dX4_isBelow_13 : decode cX4_isBelow 13 = .ok (.iconst 0, 1) := by decide +kernel
theorem dX4_isBelow_14 : decode cX4_isBelow 14 = .ok (.ireturn, 1) := by decide +kernel
set_option maxRecDepth 20000 in
theorem ggX4_mayFollow_X4_isBelow : GoodIn wsX4_mayFollow wsX4_isBelow := goodIn_r _ [4] (by decide +kernel) (by decide +kernel)
set_option maxRecDepth 20000 in
theorem gX4_mayFollow_X4_isBelow : GoodIn wsX4_mayFollow (va_wsS RX4 45 yX4_isBelow wsX4_isBelow) := goodIn_app (goodIn_of _ (by decide +kernel)) ggX4_mayFollow_X4_isBelow
theorem dX4_mayFollow_0 : decode cX4_mayFollow 0 = .ok (.iload_n 1, 1) := by decide +kernel
theorem dX4_mayFollow_1 : decode cX4_mayFollow 1 = .ok (.iconst (-1), 1) := by decide +kernel
theorem dX4_mayFollow_2 : decode cX4_mayFollow 2 = .ok (.if_icmp .eq 18, 3) := by decide +kernel
theorem dX4_mayFollow_5 : decode cX4_mayFollow 5 = .ok (.iload_n 0, 1) := by decide +kernel
theorem dX4_mayFollow_6 : decode cX4_mayFollow 6 = .ok (.iconst (-1), 1) := by decide +kernel
theorem dX4_mayFollow_7 : decode cX4_mayFollow 7 = .ok (.if_icmp .eq 17, 3) := by decide +kernel
theorem dX4_mayFollow_10 : decode cX4_mayFollow 10 = .ok (.iload_n 1, 1) := by decide +kernel
theorem dX4_mayFollow_11 : decode cX4_mayFollow 11 = .ok (.sipush 10000, 3) := by decide +kernel
theorem dX4_mayFollow_14 : decode cX4_mayFollow 14 = .ok (.invokestatic 45, 3) := by decide +kernel
theorem dX4_mayFollow_17 : decode cX4_mayFollow 17 = .ok (.ifCond .eq 7, 3) := by decide +kernel
theorem dX4_mayFollow_20 : decode cX4_mayFollow 20 = .ok (.iconst 1, 1) := by decide +kernel
theorem dX4_mayFollow_21 : decode cX4_mayFollow 21 = .ok (.goto 4, 3) := by decide +kernel
theorem dX4_mayFollow_24 : decode cX4_mayFollow 24 = .ok (.iconst 0, 1) := by decide +kernel
theorem dX4_mayFollow_25 : decode cX4_mayFollow 25 = .ok (.ireturn, 1) := by decide +kernel
theorem dX4_checkArgument_0 : decode cX4_checkArgument 0 = .ok (.iload_n 0, 1) := by decide +kernel
theorem dX4_checkArgument_1 : decode cX4_checkArgument 1 = .ok (.ifCond .ne 13, 3) := by decide +kernel
theorem dX4_checkArgument_4 : decode cX4_checkArgument 4 = .ok (.new 157, 3) := by decide +kernel
theorem dX4_checkArgument_7 : decode cX4_checkArgument 7 = .ok (.dup, 1) := by decide +kernel
theorem dX4_checkArgument_8 : decode cX4_checkArgument 8 = .ok (.ldc 159, 2) := by decide +kernel
theorem dX4_checkArgument_10 : decode cX4_checkArgument 10 = .ok (.invokespecial 161, 3) := by decide +kernel
theorem dX4_checkArgument_13 : decode cX4_checkArgument 13 = .ok (.athrow, 1) := by decide +kernel
theorem dX4_checkArgument_14 : decode cX4_checkArgument 14 = .ok (.return_, 1) := by decide +kernel
set_option maxRecDepth 20000 in
theorem ggX4_checkReport_X4_isBelow : GoodIn wsX4_checkReport wsX4_isBelow := goodIn_r _ [7] (by decide +kernel) (by decide +kernel)
set_option maxRecDepth 20000 in
theorem gX4_checkReport_X4_isBelow : GoodIn wsX4_checkReport (va_wsS RX4 45 yX4_isBelow wsX4_isBelow) := goodIn_app (goodIn_of _ (by decide +kernel)) ggX4_checkReport_X4_isBelow
theorem dX4_checkReport_0 : decode cX4_checkReport 0 = .ok (.iload_n 1, 1) := by decide +kernel
theorem dX4_checkReport_1 : decode cX4_checkReport 1 = .ok (.aload_n 0, 1) := by decide +kernel
theorem dX4_checkReport_2 : decode cX4_checkReport 2 = .ok (.getfield 26, 3) := by decide +kernel
theorem dX4_checkReport_5 : decode cX4_checkReport 5 = .ok (.getfield 103, 3) := by decide +kernel
theorem dX4_checkReport_8 : decode cX4_checkReport 8 = .ok (.invokestatic 45, 3) := by decide +kernel
theorem dX4_checkReport_11 : decode cX4_checkReport 11 = .ok (.ifCond .ne 13, 3) := by decide +kernel
theorem dX4_checkReport_14 : decode cX4_checkReport 14 = .ok (.new 162, 3) := by decide +kernel
theorem dX4_checkReport_17 : decode cX4_checkReport 17 = .ok (.dup, 1) := by decide +kernel
theorem dX4_checkReport_18 : decode cX4_checkReport 18 = .ok (.ldc 164, 2) := by decide +kernel
theorem dX4_checkReport_20 : decode cX4_checkReport 20 = .ok (.invokespecial 166, 3) := by decide +kernel
theorem dX4_checkReport_23 : decode cX4_checkReport 23 = .ok (.athrow, 1) := by decide +kernel
theorem dX4_checkReport_24 : decode cX4_checkReport 24 = .ok (.return_, 1) := by decide +kernel
theorem dX4_isOf_0 : decode cX4_isOf 0 = .ok (.aload_n 0, 1) := by decide +kernel
theorem dX4_isOf_1 : decode cX4_isOf 1 = .ok (.getfield 33, 3) := by decide +kernel
theorem dX4_isOf_4 : decode cX4_isOf 4 = .ok (.getfield 133, 3) := by decide +kernel
theorem dX4_isOf_7 : decode cX4_isOf 7 = .ok (.iload_n 1, 1) := by decide +kernel
theorem dX4_isOf_8 : decode cX4_isOf 8 = .ok (.iaload, 1) := by decide +kernel
theorem dX4_isOf_9 : decode cX4_isOf 9 = .ok (.iload_n 2, 1) := by decide +kernel
theorem dX4_isOf_10 : decode cX4_isOf 10 = .ok (.if_icmp .ne 20, 3) := by decide +kernel
theorem dX4_isOf_13 : decode cX4_isOf 13 = .ok (.aload_n 0, 1) := by decide +kernel
theorem dX4_isOf_14 : decode cX4_isOf 14 = .ok (.getfield 26, 3) := by decide +kernel
theorem dX4_isOf_17 : decode cX4_isOf 17 = .ok (.getfield 167, 3) := by decide +kernel
theorem dX4_isOf_20 : decode cX4_isOf 20 = .ok (.iload_n 1, 1) := by decide +kernel
theorem dX4_isOf_21 : decode cX4_isOf 21 = .ok (.iaload, 1) := by decide +kernel
theorem dX4_isOf_22 : decode cX4_isOf 22 = .ok (.iload_n 3, 1) := by decide +kernel
theorem dX4_isOf_23 : decode cX4_isOf 23 = .ok (.if_icmp .ne 7, 3) := by decide +kernel
theorem dX4_isOf_26 : decode cX4_isOf 26 = .ok (.iconst 1, 1) := by decide +kernel
theorem dX4_isOf_27 : decode cX4_isOf 27 = .ok (.goto 4, 3) := by decide +kernel
theorem dX4_isOf_30 : decode cX4_isOf 30 = .ok (.iconst 0, 1) := by decide +kernel
theorem dX4_isOf_31 : decode cX4_isOf 31 = .ok (.ireturn, 1) := by decide +kernel
set_option maxRecDepth 20000 in
theorem ggX4_countIn_X4_isOf : GoodIn wsX4_countIn wsX4_isOf := goodIn_r _ [6, 7, 1, 8, 9, 10, 11, 12, 13, 19, 20, 21, 22, 14, 15, 16, 17, 18] (by decide +kernel) (by decide +kernel)
set_option maxRecDepth 20000 in
theorem gX4_countIn_X4_isOf : GoodIn wsX4_countIn (wsV RX4 170 RX4 yX4_isOf wsX4_isOf) := goodIn_app (goodIn_of _ (by decide +kernel)) ggX4_countIn_X4_isOf
theorem dX4_countIn_0 : decode cX4_countIn 0 = .ok (.iconst 0, 1) := by decide +kernel
theorem dX4_countIn_1 : decode cX4_countIn 1 = .ok (.istore_n 3, 1) := by decide +kernel
theorem dX4_countIn_2 : decode cX4_countIn 2 = .ok (.iconst 0, 1) := by decide +kernel
theorem dX4_countIn_3 : decode cX4_countIn 3 = .ok (.istore 4, 2) := by decide +kernel
theorem dX4_countIn_5 : decode cX4_countIn 5 = .ok (.iload 4, 2) := by decide +kernel
theorem dX4_countIn_7 : decode cX4_countIn 7 = .ok (.aload_n 0, 1) := by decide +kernel
theorem dX4_countIn_8 : decode cX4_countIn 8 = .ok (.getfield 26, 3) := by decide +kernel
theorem dX4_countIn_11 : decode cX4_countIn 11 = .ok (.getfield 103, 3) := by decide +kernel
theorem dX4_countIn_14 : decode cX4_countIn 14 = .ok (.if_icmp .ge 23, 3) := by decide +kernel
theorem dX4_countIn_17 : decode cX4_countIn 17 = .ok (.aload_n 0, 1) := by decide +kernel
theorem dX4_countIn_18 : decode cX4_countIn 18 = .ok (.iload 4, 2) := by decide +kernel
theorem dX4_countIn_20 : decode cX4_countIn 20 = .ok (.iload_n 1, 1) := by decide +kernel
theorem dX4_countIn_21 : decode cX4_countIn 21 = .ok (.iload_n 2, 1) := by decide +kernel
theorem dX4_countIn_22 : decode cX4_countIn 22 = .ok (.invokevirtual 170, 3) := by decide +kernel
theorem dX4_countIn_25 : decode cX4_countIn 25 = .ok (.ifCond .eq 6, 3) := by decide +kernel
theorem dX4_countIn_28 : decode cX4_countIn 28 = .ok (.iinc 3 1, 3) := by decide +kernel
theorem dX4_countIn_31 : decode cX4_countIn 31 = .ok (.iinc 4 1, 3) := by decide +kernel
theorem dX4_countIn_34 : decode cX4_countIn 34 = .ok (.goto (-29), 3) := by decide +kernel
theorem dX4_countIn_37 : decode cX4_countIn 37 = .ok (.iload_n 3, 1) := by decide +kernel
theorem dX4_countIn_38 : decode cX4_countIn 38 = .ok (.ireturn, 1) := by decide +kernel
set_option maxRecDepth 20000 in
theorem ggX4_rateOf_X4_countIn : GoodIn wsX4_rateOf wsX4_countIn := goodIn_r _ [6, 7, 8, 9, 10, 5, 11, 12, 13, 14, 15, 16, 17, 18, 19, 20, 21, 22, 23, 24, 25, 26, 27] (by decide +kernel) (by decide +kernel)
set_option maxRecDepth 20000 in
theorem gX4_rateOf_X4_countIn : GoodIn wsX4_rateOf (wsV RX4 139 RX4 yX4_countIn wsX4_countIn) := goodIn_app (goodIn_of _ (by decide +kernel)) ggX4_rateOf_X4_countIn
theorem dX4_rateOf_0 : decode cX4_rateOf 0 = .ok (.aload_n 0, 1) := by decide +kernel
theorem dX4_rateOf_1 : decode cX4_rateOf 1 = .ok (.getfield 37, 3) := by decide +kernel
theorem dX4_rateOf_4 : decode cX4_rateOf 4 = .ok (.iload_n 2, 1) := by decide +kernel
theorem dX4_rateOf_5 : decode cX4_rateOf 5 = .ok (.iaload, 1) := by decide +kernel
theorem dX4_rateOf_6 : decode cX4_rateOf 6 = .ok (.istore_n 3, 1) := by decide +kernel
theorem dX4_rateOf_7 : decode cX4_rateOf 7 = .ok (.iload_n 3, 1) := by decide +kernel
theorem dX4_rateOf_8 : decode cX4_rateOf 8 = .ok (.ifCond .le 18, 3) := by decide +kernel
theorem dX4_rateOf_11 : decode cX4_rateOf 11 = .ok (.sipush 10000, 3) := by decide +kernel
theorem dX4_rateOf_14 : decode cX4_rateOf 14 = .ok (.aload_n 0, 1) := by decide +kernel
theorem dX4_rateOf_15 : decode cX4_rateOf 15 = .ok (.iload_n 1, 1) := by decide +kernel
theorem dX4_rateOf_16 : decode cX4_rateOf 16 = .ok (.iload_n 2, 1) := by decide +kernel
theorem dX4_rateOf_17 : decode cX4_rateOf 17 = .ok (.invokevirtual 139, 3) := by decide +kernel
theorem dX4_rateOf_20 : decode cX4_rateOf 20 = .ok (.imul, 1) := by decide +kernel
theorem dX4_rateOf_21 : decode cX4_rateOf 21 = .ok (.iload_n 3, 1) := by decide +kernel
theorem dX4_rateOf_22 : decode cX4_rateOf 22 = .ok (.idiv, 1) := by decide +kernel
theorem dX4_rateOf_23 : decode cX4_rateOf 23 = .ok (.goto 4, 3) := by decide +kernel
theorem dX4_rateOf_26 : decode cX4_rateOf 26 = .ok (.iconst 0, 1) := by decide +kernel
theorem dX4_rateOf_27 : decode cX4_rateOf 27 = .ok (.ireturn, 1) := by decide +kernel
set_option maxRecDepth 20000 in
theorem ggX4_usersOf_X4_isOf : GoodIn wsX4_usersOf wsX4_isOf := goodIn_r _ [6, 7, 1, 15, 16, 17, 18, 19, 20, 26, 27, 28, 29, 21, 22, 23, 24, 25] (by decide +kernel) (by decide +kernel)
set_option maxRecDepth 20000 in
theorem gX4_usersOf_X4_isOf : GoodIn wsX4_usersOf (wsV RX4 170 RX4 yX4_isOf wsX4_isOf) := goodIn_app (goodIn_of _ (by decide +kernel)) ggX4_usersOf_X4_isOf
set_option maxRecDepth 20000 in
theorem ggX4_usersOf_J6_bitCount_0f7a4 : GoodIn wsX4_usersOf wsJ6_bitCount_0f7a4 := goodIn_r _ [11, 12, 13, 14] (by decide +kernel) (by decide +kernel)
set_option maxRecDepth 20000 in
theorem gX4_usersOf_J6_bitCount_0f7a4 : GoodIn wsX4_usersOf (va_wsS RX4 176 yJ6_bitCount_0f7a4 wsJ6_bitCount_0f7a4) := goodIn_app (goodIn_of _ (by decide +kernel)) ggX4_usersOf_J6_bitCount_0f7a4
theorem dX4_usersOf_0 : decode cX4_usersOf 0 = .ok (.iconst 0, 1) := by decide +kernel
theorem dX4_usersOf_1 : decode cX4_usersOf 1 = .ok (.istore_n 3, 1) := by decide +kernel
theorem dX4_usersOf_2 : decode cX4_usersOf 2 = .ok (.iconst 0, 1) := by decide +kernel
theorem dX4_usersOf_3 : decode cX4_usersOf 3 = .ok (.istore 4, 2) := by decide +kernel
theorem dX4_usersOf_5 : decode cX4_usersOf 5 = .ok (.iload 4, 2) := by decide +kernel
theorem dX4_usersOf_7 : decode cX4_usersOf 7 = .ok (.aload_n 0, 1) := by decide +kernel
theorem dX4_usersOf_8 : decode cX4_usersOf 8 = .ok (.getfield 26, 3) := by decide +kernel
theorem dX4_usersOf_11 : decode cX4_usersOf 11 = .ok (.getfield 103, 3) := by decide +kernel
theorem dX4_usersOf_14 : decode cX4_usersOf 14 = .ok (.if_icmp .ge 35, 3) := by decide +kernel
theorem dX4_usersOf_17 : decode cX4_usersOf 17 = .ok (.aload_n 0, 1) := by decide +kernel
theorem dX4_usersOf_18 : decode cX4_usersOf 18 = .ok (.iload 4, 2) := by decide +kernel
theorem dX4_usersOf_20 : decode cX4_usersOf 20 = .ok (.iload_n 1, 1) := by decide +kernel
theorem dX4_usersOf_21 : decode cX4_usersOf 21 = .ok (.iload_n 2, 1) := by decide +kernel
theorem dX4_usersOf_22 : decode cX4_usersOf 22 = .ok (.invokevirtual 170, 3) := by decide +kernel
theorem dX4_usersOf_25 : decode cX4_usersOf 25 = .ok (.ifCond .eq 18, 3) := by decide +kernel
theorem dX4_usersOf_28 : decode cX4_usersOf 28 = .ok (.iload_n 3, 1) := by decide +kernel
theorem dX4_usersOf_29 : decode cX4_usersOf 29 = .ok (.iconst 1, 1) := by decide +kernel
theorem dX4_usersOf_30 : decode cX4_usersOf 30 = .ok (.aload_n 0, 1) := by decide +kernel
theorem dX4_usersOf_31 : decode cX4_usersOf 31 = .ok (.getfield 26, 3) := by decide +kernel
theorem dX4_usersOf_34 : decode cX4_usersOf 34 = .ok (.getfield 173, 3) := by decide +kernel
theorem dX4_usersOf_37 : decode cX4_usersOf 37 = .ok (.iload 4, 2) := by decide +kernel
theorem dX4_usersOf_39 : decode cX4_usersOf 39 = .ok (.iaload, 1) := by decide +kernel
theorem dX4_usersOf_40 : decode cX4_usersOf 40 = .ok (.ishl, 1) := by decide +kernel
theorem dX4_usersOf_41 : decode cX4_usersOf 41 = .ok (.ior, 1) := by decide +kernel
theorem dX4_usersOf_42 : decode cX4_usersOf 42 = .ok (.istore_n 3, 1) := by decide +kernel
theorem dX4_usersOf_43 : decode cX4_usersOf 43 = .ok (.iinc 4 1, 3) := by decide +kernel
theorem dX4_usersOf_46 : decode cX4_usersOf 46 = .ok (.goto (-41), 3) := by decide +kernel
theorem dX4_usersOf_49 : decode cX4_usersOf 49 = .ok (.iload_n 3, 1) := by decide +kernel
theorem dX4_usersOf_50 : decode cX4_usersOf 50 = .ok (.invokestatic 176, 3) := by decide +kernel
theorem dX4_usersOf_53 : decode cX4_usersOf 53 = .ok (.ireturn, 1) := by decide +kernel
set_option maxRecDepth 20000 in
theorem ggX4_greatestRateBefore_X4_rateOf : GoodIn wsX4_greatestRateBefore wsX4_rateOf := goodIn_r _ [9, 10, 11, 12, 13, 8, 14, 15, 16, 17, 18, 19, 20, 21, 22, 23, 24, 25, 26, 27, 28, 29, 30, 31, 32, 33, 34, 35] (by decide +kernel) (by decide +kernel)
set_option maxRecDepth 20000 in
theorem gX4_greatestRateBefore_X4_rateOf : GoodIn wsX4_greatestRateBefore (wsV RX4 143 RX4 yX4_rateOf wsX4_rateOf) := goodIn_app (goodIn_of _ (by decide +kernel)) ggX4_greatestRateBefore_X4_rateOf
theorem dX4_greatestRateBefore_0 : decode cX4_greatestRateBefore 0 = .ok (.iconst 0, 1) := by decide +kernel
theorem dX4_greatestRateBefore_1 : decode cX4_greatestRateBefore 1 = .ok (.istore_n 3, 1) := by decide +kernel
theorem dX4_greatestRateBefore_2 : decode cX4_greatestRateBefore 2 = .ok (.iconst 0, 1) := by decide +kernel
theorem dX4_greatestRateBefore_3 : decode cX4_greatestRateBefore 3 = .ok (.istore 4, 2) := by decide +kernel
theorem dX4_greatestRateBefore_5 : decode cX4_greatestRateBefore 5 = .ok (.iload 4, 2) := by decide +kernel
theorem dX4_greatestRateBefore_7 : decode cX4_greatestRateBefore 7 = .ok (.iload_n 2, 1) := by decide +kernel
theorem dX4_greatestRateBefore_8 : decode cX4_greatestRateBefore 8 = .ok (.if_icmp .ge 21, 3) := by decide +kernel
theorem dX4_greatestRateBefore_11 : decode cX4_greatestRateBefore 11 = .ok (.iload_n 3, 1) := by decide +kernel
theorem dX4_greatestRateBefore_12 : decode cX4_greatestRateBefore 12 = .ok (.aload_n 0, 1) := by decide +kernel
theorem dX4_greatestRateBefore_13 : decode cX4_greatestRateBefore 13 = .ok (.iload_n 1, 1) := by decide +kernel
theorem dX4_greatestRateBefore_14 : decode cX4_greatestRateBefore 14 = .ok (.iload 4, 2) := by decide +kernel
theorem dX4_greatestRateBefore_16 : decode cX4_greatestRateBefore 16 = .ok (.invokevirtual 143, 3) := by decide +kernel
theorem dX4_greatestRateBefore_19 : decode cX4_greatestRateBefore 19 = .ok (.invokestatic 182, 3) := by decide +kernel
theorem dX4_greatestRateBefore_22 : decode cX4_greatestRateBefore 22 = .ok (.istore_n 3, 1) := by decide +kernel
theorem dX4_greatestRateBefore_23 : decode cX4_greatestRateBefore 23 = .ok (.iinc 4 1, 3) := by decide +kernel
theorem dX4_greatestRateBefore_26 : decode cX4_greatestRateBefore 26 = .ok (.goto (-21), 3) := by decide +kernel
theorem dX4_greatestRateBefore_29 : decode cX4_greatestRateBefore 29 = .ok (.iload_n 3, 1) := by decide +kernel
theorem dX4_greatestRateBefore_30 : decode cX4_greatestRateBefore 30 = .ok (.ireturn, 1) := by decide +kernel
