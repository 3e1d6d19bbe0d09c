theorem dX0_init_0 : decode cX0_init 0 = .ok (.aload_n 0, 1) := by decide +kernel
theorem dX0_init_1 : decode cX0_init 1 = .ok (.invokespecial 1, 3) := by decide +kernel
theorem dX0_init_4 : decode cX0_init 4 = .ok (.aload_n 0, 1) := by decide +kernel
theorem dX0_init_5 : decode cX0_init 5 = .ok (.lconst 0, 1) := by decide +kernel
theorem dX0_init_6 : decode cX0_init 6 = .ok (.putfield 7, 3) := by decide +kernel
theorem dX0_init_9 : decode cX0_init 9 = .ok (.aload_n 0, 1) := by decide +kernel
theorem dX0_init_10 : decode cX0_init 10 = .ok (.lconst 1, 1) := by decide +kernel
theorem dX0_init_11 : decode cX0_init 11 = .ok (.putfield 13, 3) := by decide +kernel
theorem dX0_init_14 : decode cX0_init 14 = .ok (.return_, 1) := by decide +kernel
theorem dX0_set_0 : decode cX0_set 0 = .ok (.aload_n 0, 1) := by decide +kernel
theorem dX0_set_1 : decode cX0_set 1 = .ok (.lload_n 1, 1) := by decide +kernel
theorem dX0_set_2 : decode cX0_set 2 = .ok (.putfield 7, 3) := by decide +kernel
theorem dX0_set_5 : decode cX0_set 5 = .ok (.aload_n 0, 1) := by decide +kernel
theorem dX0_set_6 : decode cX0_set 6 = .ok (.lload_n 3, 1) := by decide +kernel
theorem dX0_set_7 : decode cX0_set 7 = .ok (.putfield 13, 3) := by decide +kernel
theorem dX0_set_10 : decode cX0_set 10 = .ok (.return_, 1) := by decide +kernel
set_option maxRecDepth 20000 in
theorem ggX0_lessen_X0_isAbove : GoodIn wsX0_lessen wsX0_isAbove := goodIn_r _ [6] (by decide +kernel) (by decide +kernel)
set_option maxRecDepth 20000 in
theorem gX0_lessen_X0_isAbove : GoodIn wsX0_lessen (va_wsS RX0 16 yX0_isAbove wsX0_isAbove) := goodIn_app (goodIn_of _ (by decide +kernel)) ggX0_lessen_X0_isAbove
set_option maxRecDepth 20000 in
theorem ggX0_lessen_X0_set : GoodIn wsX0_lessen wsX0_set := goodIn_r _ [10, 1, 2, 11, 12] (by decide +kernel) (by decide +kernel)
set_option maxRecDepth 20000 in
theorem gX0_lessen_X0_set : GoodIn wsX0_lessen (wsV RX0 20 RX0 yX0_set wsX0_set) := goodIn_app (goodIn_of _ (by decide +kernel)) ggX0_lessen_X0_set
theorem dX0_lessen_0 : decode cX0_lessen 0 = .ok (.aload_n 0, 1) := by decide +kernel
theorem dX0_lessen_1 : decode cX0_lessen 1 = .ok (.getfield 7, 3) := by decide +kernel
theorem dX0_lessen_4 : decode cX0_lessen 4 = .ok (.aload_n 0, 1) := by decide +kernel
theorem dX0_lessen_5 : decode cX0_lessen 5 = .ok (.getfield 13, 3) := by decide +kernel
theorem dX0_lessen_8 : decode cX0_lessen 8 = .ok (.lload_n 1, 1) := by decide +kernel
theorem dX0_lessen_9 : decode cX0_lessen 9 = .ok (.lload_n 3, 1) := by decide +kernel
theorem dX0_lessen_10 : decode cX0_lessen 10 = .ok (.invokestatic 16, 3) := by decide +kernel
theorem dX0_lessen_13 : decode cX0_lessen 13 = .ok (.ifCond .eq 9, 3) := by decide +kernel
theorem dX0_lessen_16 : decode cX0_lessen 16 = .ok (.aload_n 0, 1) := by decide +kernel
theorem dX0_lessen_17 : decode cX0_lessen 17 = .ok (.lload_n 1, 1) := by decide +kernel
theorem dX0_lessen_18 : decode cX0_lessen 18 = .ok (.lload_n 3, 1) := by decide +kernel
theorem dX0_lessen_19 : decode cX0_lessen 19 = .ok (.invokevirtual 20, 3) := by decide +kernel
theorem dX0_lessen_22 : decode cX0_lessen 22 = .ok (.return_, 1) := by decide +kernel
theorem dX0_isAbove_0 : decode cX0_isAbove 0 = .ok (.lload_n 2, 1) := by decide +kernel
theorem dX0_isAbove_1 : decode cX0_isAbove 1 = .ok (.lconst 0, 1) := by decide +kernel
theorem dX0_isAbove_2 : decode cX0_isAbove 2 = .ok (.lcmp, 1) := by decide +kernel
theorem dX0_isAbove_3 : decode cX0_isAbove 3 = .ok (.ifCond .le 10, 3) := by decide +kernel
theorem dX0_isAbove_6 : decode cX0_isAbove 6 = .ok (.lload 6, 2) := by decide +kernel
theorem dX0_isAbove_8 : decode cX0_isAbove 8 = .ok (.lconst 0, 1) := by decide +kernel
theorem dX0_isAbove_9 : decode cX0_isAbove 9 = .ok (.lcmp, 1) := by decide +kernel
theorem dX0_isAbove_10 : decode cX0_isAbove 10 = .ok (.ifCond .gt 5, 3) := by decide +kernel
theorem dX0_isAbove_13 : decode cX0_isAbove 13 = .ok (.iconst 0, 1) := by decide +kernel
theorem dX0_isAbove_14 : decode cX0_isAbove 14 = .ok (.ireturn, 1) := by decide +kernel
theorem dX0_isAbove_15 : decode cX0_isAbove 15 = .ok (.lload_n 0, 1) := by decide +kernel
theorem dX0_isAbove_16 : decode cX0_isAbove 16 = .ok (.lload_n 2, 1) := by decide +kernel
theorem dX0_isAbove_17 : decode cX0_isAbove 17 = .ok (.ldiv, 1) := by decide +kernel
theorem dX0_isAbove_18 : decode cX0_isAbove 18 = .ok (.lstore 8, 2) := by decide +kernel
theorem dX0_isAbove_20 : decode cX0_isAbove 20 = .ok (.lload 4, 2) := by decide +kernel
theorem dX0_isAbove_22 : decode cX0_isAbove 22 = .ok (.lload 6, 2) := by decide +kernel
theorem dX0_isAbove_24 : decode cX0_isAbove 24 = .ok (.ldiv, 1) := by decide +kernel
theorem dX0_isAbove_25 : decode cX0_isAbove 25 = .ok (.lstore 10, 2) := by decide +kernel
theorem dX0_isAbove_27 : decode cX0_isAbove 27 = .ok (.lload 8, 2) := by decide +kernel
theorem dX0_isAbove_29 : decode cX0_isAbove 29 = .ok (.lload 10, 2) := by decide +kernel
theorem dX0_isAbove_31 : decode cX0_isAbove 31 = .ok (.lcmp, 1) := by decide +kernel
theorem dX0_isAbove_32 : decode cX0_isAbove 32 = .ok (.ifCond .eq 17, 3) := by decide +kernel
theorem dX0_isAbove_35 : decode cX0_isAbove 35 = .ok (.lload 8, 2) := by decide +kernel
theorem dX0_isAbove_37 : decode cX0_isAbove 37 = .ok (.lload 10, 2) := by decide +kernel
theorem dX0_isAbove_39 : decode cX0_isAbove 39 = .ok (.lcmp, 1) := by decide +kernel
theorem dX0_isAbove_40 : decode cX0_isAbove 40 = .ok (.ifCond .le 7, 3) := by decide +kernel
theorem dX0_isAbove_43 : decode cX0_isAbove 43 = .ok (.iconst 1, 1) := by decide +kernel
theorem dX0_isAbove_44 : decode cX0_isAbove 44 = .ok (.goto 4, 3) := by decide +kernel
theorem dX0_isAbove_47 : decode cX0_isAbove 47 = .ok (.iconst 0, 1) := by decide +kernel
theorem dX0_isAbove_48 : decode cX0_isAbove 48 = .ok (.ireturn, 1) := by decide +kernel
theorem dX0_isAbove_49 : decode cX0_isAbove 49 = .ok (.lload_n 0, 1) := by decide +kernel
theorem dX0_isAbove_50 : decode cX0_isAbove 50 = .ok (.lload_n 2, 1) := by decide +kernel
theorem dX0_isAbove_51 : decode cX0_isAbove 51 = .ok (.lrem, 1) := by decide +kernel
theorem dX0_isAbove_52 : decode cX0_isAbove 52 = .ok (.lload 6, 2) := by decide +kernel
theorem dX0_isAbove_54 : decode cX0_isAbove 54 = .ok (.lmul, 1) := by decide +kernel
theorem dX0_isAbove_55 : decode cX0_isAbove 55 = .ok (.lload 4, 2) := by decide +kernel
theorem dX0_isAbove_57 : decode cX0_isAbove 57 = .ok (.lload 6, 2) := by decide +kernel
theorem dX0_isAbove_59 : decode cX0_isAbove 59 = .ok (.lrem, 1) := by decide +kernel
theorem dX0_isAbove_60 : decode cX0_isAbove 60 = .ok (.lload_n 2, 1) := by decide +kernel
theorem dX0_isAbove_61 : decode cX0_isAbove 61 = .ok (.lmul, 1) := by decide +kernel
theorem dX0_isAbove_62 : decode cX0_isAbove 62 = .ok (.lcmp, 1) := by decide +kernel
theorem dX0_isAbove_63 : decode cX0_isAbove 63 = .ok (.ifCond .le 7, 3) := by decide +kernel
theorem dX0_isAbove_66 : decode cX0_isAbove 66 = .ok (.iconst 1, 1) := by decide +kernel
theorem dX0_isAbove_67 : decode cX0_isAbove 67 = .ok (.goto 4, 3) := by decide +kernel
theorem dX0_isAbove_70 : decode cX0_isAbove 70 = .ok (.iconst 0, 1) := by decide +kernel
theorem dX0_isAbove_71 : decode cX0_isAbove 71 = .ok (.ireturn, 1) := by decide +kernel
set_option maxRecDepth 20000 in
theorem ggX0_reduce_X0_greatestDivisor : GoodIn wsX0_reduce wsX0_greatestDivisor := goodIn_r _ [6] (by decide +kernel) (by decide +kernel)
set_option maxRecDepth 20000 in
theorem gX0_reduce_X0_greatestDivisor : GoodIn wsX0_reduce (va_wsS RX0 24 yX0_greatestDivisor wsX0_greatestDivisor) := goodIn_app (goodIn_of _ (by decide +kernel)) ggX0_reduce_X0_greatestDivisor
theorem dX0_reduce_0 : decode cX0_reduce 0 = .ok (.aload_n 0, 1) := by decide +kernel
theorem dX0_reduce_1 : decode cX0_reduce 1 = .ok (.getfield 7, 3) := by decide +kernel
theorem dX0_reduce_4 : decode cX0_reduce 4 = .ok (.aload_n 0, 1) := by decide +kernel
theorem dX0_reduce_5 : decode cX0_reduce 5 = .ok (.getfield 13, 3) := by decide +kernel
theorem dX0_reduce_8 : decode cX0_reduce 8 = .ok (.invokestatic 24, 3) := by decide +kernel
theorem dX0_reduce_11 : decode cX0_reduce 11 = .ok (.lstore_n 1, 1) := by decide +kernel
theorem dX0_reduce_12 : decode cX0_reduce 12 = .ok (.lload_n 1, 1) := by decide +kernel
theorem dX0_reduce_13 : decode cX0_reduce 13 = .ok (.lconst 1, 1) := by decide +kernel
theorem dX0_reduce_14 : decode cX0_reduce 14 = .ok (.lcmp, 1) := by decide +kernel
theorem dX0_reduce_15 : decode cX0_reduce 15 = .ok (.ifCond .le 23, 3) := by decide +kernel
theorem dX0_reduce_18 : decode cX0_reduce 18 = .ok (.aload_n 0, 1) := by decide +kernel
theorem dX0_reduce_19 : decode cX0_reduce 19 = .ok (.dup, 1) := by decide +kernel
theorem dX0_reduce_20 : decode cX0_reduce 20 = .ok (.getfield 7, 3) := by decide +kernel
theorem dX0_reduce_23 : decode cX0_reduce 23 = .ok (.lload_n 1, 1) := by decide +kernel
theorem dX0_reduce_24 : decode cX0_reduce 24 = .ok (.ldiv, 1) := by decide +kernel
theorem dX0_reduce_25 : decode cX0_reduce 25 = .ok (.putfield 7, 3) := by decide +kernel
theorem dX0_reduce_28 : decode cX0_reduce 28 = .ok (.aload_n 0, 1) := by decide +kernel
theorem dX0_reduce_29 : decode cX0_reduce 29 = .ok (.dup, 1) := by decide +kernel
theorem dX0_reduce_30 : decode cX0_reduce 30 = .ok (.getfield 13, 3) := by decide +kernel
theorem dX0_reduce_33 : decode cX0_reduce 33 = .ok (.lload_n 1, 1) := by decide +kernel
theorem dX0_reduce_34 : decode cX0_reduce 34 = .ok (.ldiv, 1) := by decide +kernel
theorem dX0_reduce_35 : decode cX0_reduce 35 = .ok (.putfield 13, 3) := by decide +kernel
theorem dX0_reduce_38 : decode cX0_reduce 38 = .ok (.return_, 1) := by decide +kernel
theorem dX0_greatestDivisor_0 : decode cX0_greatestDivisor 0 = .ok (.iconst 0, 1) := by decide +kernel
theorem dX0_greatestDivisor_1 : decode cX0_greatestDivisor 1 = .ok (.istore 4, 2) := by decide +kernel
theorem dX0_greatestDivisor_3 : decode cX0_greatestDivisor 3 = .ok (.iload 4, 2) := by decide +kernel
theorem dX0_greatestDivisor_5 : decode cX0_greatestDivisor 5 = .ok (.sipush 200, 3) := by decide +kernel
theorem dX0_greatestDivisor_8 : decode cX0_greatestDivisor 8 = .ok (.if_icmp .ge 25, 3) := by decide +kernel
theorem dX0_greatestDivisor_11 : decode cX0_greatestDivisor 11 = .ok (.lload_n 2, 1) := by decide +kernel
theorem dX0_greatestDivisor_12 : decode cX0_greatestDivisor 12 = .ok (.lconst 0, 1) := by decide +kernel
theorem dX0_greatestDivisor_13 : decode cX0_greatestDivisor 13 = .ok (.lcmp, 1) := by decide +kernel
theorem dX0_greatestDivisor_14 : decode cX0_greatestDivisor 14 = .ok (.ifCond .eq 19, 3) := by decide +kernel
theorem dX0_greatestDivisor_17 : decode cX0_greatestDivisor 17 = .ok (.lload_n 0, 1) := by decide +kernel
theorem dX0_greatestDivisor_18 : decode cX0_greatestDivisor 18 = .ok (.lload_n 2, 1) := by decide +kernel
theorem dX0_greatestDivisor_19 : decode cX0_greatestDivisor 19 = .ok (.lrem, 1) := by decide +kernel
theorem dX0_greatestDivisor_20 : decode cX0_greatestDivisor 20 = .ok (.lstore 5, 2) := by decide +kernel
theorem dX0_greatestDivisor_22 : decode cX0_greatestDivisor 22 = .ok (.lload_n 2, 1) := by decide +kernel
theorem dX0_greatestDivisor_23 : decode cX0_greatestDivisor 23 = .ok (.lstore_n 0, 1) := by decide +kernel
theorem dX0_greatestDivisor_24 : decode cX0_greatestDivisor 24 = .ok (.lload 5, 2) := by decide +kernel
theorem dX0_greatestDivisor_26 : decode cX0_greatestDivisor 26 = .ok (.lstore_n 2, 1) := by decide +kernel
theorem dX0_greatestDivisor_27 : decode cX0_greatestDivisor 27 = .ok (.iinc 4 1, 3) := by decide +kernel
theorem dX0_greatestDivisor_30 : decode cX0_greatestDivisor 30 = .ok (.goto (-27), 3) := by decide +kernel
theorem dX0_greatestDivisor_33 : decode cX0_greatestDivisor 33 = .ok (.lload_n 0, 1) := by decide +kernel
theorem dX0_greatestDivisor_34 : decode cX0_greatestDivisor 34 = .ok (.lreturn, 1) := by decide +kernel
theorem dX2_init_0 : decode cX2_init 0 = .ok (.aload_n 0, 1) := by decide +kernel
theorem dX2_init_1 : decode cX2_init 1 = .ok (.invokespecial 3, 3) := by decide +kernel
theorem dX2_init_4 : decode cX2_init 4 = .ok (.aload_n 0, 1) := by decide +kernel
theorem dX2_init_5 : decode cX2_init 5 = .ok (.iconst 0, 1) := by decide +kernel
theorem dX2_init_6 : decode cX2_init 6 = .ok (.putfield 9, 3) := by decide +kernel
theorem dX2_init_9 : decode cX2_init 9 = .ok (.aload_n 0, 1) := by decide +kernel
theorem dX2_init_10 : decode cX2_init 10 = .ok (.iconst 0, 1) := by decide +kernel
theorem dX2_init_11 : decode cX2_init 11 = .ok (.putfield 15, 3) := by decide +kernel
theorem dX2_init_14 : decode cX2_init 14 = .ok (.aload_n 0, 1) := by decide +kernel
theorem dX2_init_15 : decode cX2_init 15 = .ok (.sipush 10000, 3) := by decide +kernel
theorem dX2_init_18 : decode cX2_init 18 = .ok (.putfield 18, 3) := by decide +kernel
theorem dX2_init_21 : decode cX2_init 21 = .ok (.aload_n 0, 1) := by decide +kernel
theorem dX2_init_22 : decode cX2_init 22 = .ok (.sipush 10000, 3) := by decide +kernel
theorem dX2_init_25 : decode cX2_init 25 = .ok (.putfield 21, 3) := by decide +kernel
theorem dX2_init_28 : decode cX2_init 28 = .ok (.aload_n 0, 1) := by decide +kernel
theorem dX2_init_29 : decode cX2_init 29 = .ok (.sipush (-10000), 3) := by decide +kernel
theorem dX2_init_32 : decode cX2_init 32 = .ok (.putfield 24, 3) := by decide +kernel
theorem dX2_init_35 : decode cX2_init 35 = .ok (.aload_n 0, 1) := by decide +kernel
theorem dX2_init_36 : decode cX2_init 36 = .ok (.sipush (-10000), 3) := by decide +kernel
theorem dX2_init_39 : decode cX2_init 39 = .ok (.putfield 27, 3) := by decide +kernel
theorem dX2_init_42 : decode cX2_init 42 = .ok (.aload_n 0, 1) := by decide +kernel
theorem dX2_init_43 : decode cX2_init 43 = .ok (.aload_n 1, 1) := by decide +kernel
theorem dX2_init_44 : decode cX2_init 44 = .ok (.putfield 30, 3) := by decide +kernel
theorem dX2_init_47 : decode cX2_init 47 = .ok (.aload_n 0, 1) := by decide +kernel
theorem dX2_init_48 : decode cX2_init 48 = .ok (.aload_n 1, 1) := by decide +kernel
theorem dX2_init_49 : decode cX2_init 49 = .ok (.getfield 34, 3) := by decide +kernel
theorem dX2_init_52 : decode cX2_init 52 = .ok (.iconst 1, 1) := by decide +kernel
theorem dX2_init_53 : decode cX2_init 53 = .ok (.iadd, 1) := by decide +kernel
theorem dX2_init_54 : decode cX2_init 54 = .ok (.newarray .int, 2) := by decide +kernel
theorem dX2_init_56 : decode cX2_init 56 = .ok (.putfield 39, 3) := by decide +kernel
theorem dX2_init_59 : decode cX2_init 59 = .ok (.aload_n 0, 1) := by decide +kernel
theorem dX2_init_60 : decode cX2_init 60 = .ok (.aload_n 1, 1) := by decide +kernel
theorem dX2_init_61 : decode cX2_init 61 = .ok (.getfield 34, 3) := by decide +kernel
theorem dX2_init_64 : decode cX2_init 64 = .ok (.iconst 1, 1) := by decide +kernel
theorem dX2_init_65 : decode cX2_init 65 = .ok (.iadd, 1) := by decide +kernel
theorem dX2_init_66 : decode cX2_init 66 = .ok (.newarray .int, 2) := by decide +kernel
theorem dX2_init_68 : decode cX2_init 68 = .ok (.putfield 43, 3) := by decide +kernel
theorem dX2_init_71 : decode cX2_init 71 = .ok (.return_, 1) := by decide +kernel
set_option maxRecDepth 20000 in
theorem ggX2_add_X2_judge : GoodIn wsX2_add wsX2_judge := goodIn_r _ [22, 1, 2, 23, 24, 25, 26, 27, 21, 28, 29, 30, 31, 32, 33, 4, 5, 34, 35, 36, 37, 38, 39, 40, 41, 42, 43, 44, 45, 46, 47, 48, 49, 13, 14, 9, 15, 7, 8, 10, 50, 51, 52, 53, 54, 55, 56, 57, 58, 59, 60, 61, 62] (by decide +kernel) (by decide +kernel)
set_option maxRecDepth 20000 in
theorem gX2_add_X2_judge : GoodIn wsX2_add (wsV RX2 55 RX2 yX2_judge wsX2_judge) := goodIn_app (goodIn_of _ (by decide +kernel)) ggX2_add_X2_judge
theorem dX2_add_0 : decode cX2_add 0 = .ok (.aload_n 0, 1) := by decide +kernel
theorem dX2_add_1 : decode cX2_add 1 = .ok (.getfield 9, 3) := by decide +kernel
theorem dX2_add_4 : decode cX2_add 4 = .ok (.aload_n 0, 1) := by decide +kernel
theorem dX2_add_5 : decode cX2_add 5 = .ok (.getfield 30, 3) := by decide +kernel
theorem dX2_add_8 : decode cX2_add 8 = .ok (.getfield 34, 3) := by decide +kernel
theorem dX2_add_11 : decode cX2_add 11 = .ok (.if_icmp .lt 4, 3) := by decide +kernel
theorem dX2_add_14 : decode cX2_add 14 = .ok (.return_, 1) := by decide +kernel
theorem dX2_add_15 : decode cX2_add 15 = .ok (.aload_n 0, 1) := by decide +kernel
theorem dX2_add_16 : decode cX2_add 16 = .ok (.getfield 39, 3) := by decide +kernel
theorem dX2_add_19 : decode cX2_add 19 = .ok (.aload_n 0, 1) := by decide +kernel
theorem dX2_add_20 : decode cX2_add 20 = .ok (.getfield 9, 3) := by decide +kernel
theorem dX2_add_23 : decode cX2_add 23 = .ok (.iload_n 1, 1) := by decide +kernel
theorem dX2_add_24 : decode cX2_add 24 = .ok (.iastore, 1) := by decide +kernel
theorem dX2_add_25 : decode cX2_add 25 = .ok (.aload_n 0, 1) := by decide +kernel
theorem dX2_add_26 : decode cX2_add 26 = .ok (.getfield 43, 3) := by decide +kernel
theorem dX2_add_29 : decode cX2_add 29 = .ok (.aload_n 0, 1) := by decide +kernel
theorem dX2_add_30 : decode cX2_add 30 = .ok (.getfield 9, 3) := by decide +kernel
theorem dX2_add_33 : decode cX2_add 33 = .ok (.iload_n 2, 1) := by decide +kernel
theorem dX2_add_34 : decode cX2_add 34 = .ok (.iastore, 1) := by decide +kernel
theorem dX2_add_35 : decode cX2_add 35 = .ok (.aload_n 0, 1) := by decide +kernel
theorem dX2_add_36 : decode cX2_add 36 = .ok (.dup, 1) := by decide +kernel
theorem dX2_add_37 : decode cX2_add 37 = .ok (.getfield 9, 3) := by decide +kernel
theorem dX2_add_40 : decode cX2_add 40 = .ok (.iconst 1, 1) := by decide +kernel
theorem dX2_add_41 : decode cX2_add 41 = .ok (.iadd, 1) := by decide +kernel
theorem dX2_add_42 : decode cX2_add 42 = .ok (.putfield 9, 3) := by decide +kernel
theorem dX2_add_45 : decode cX2_add 45 = .ok (.aload_n 0, 1) := by decide +kernel
theorem dX2_add_46 : decode cX2_add 46 = .ok (.getfield 39, 3) := by decide +kernel
theorem dX2_add_49 : decode cX2_add 49 = .ok (.aload_n 0, 1) := by decide +kernel
theorem dX2_add_50 : decode cX2_add 50 = .ok (.getfield 9, 3) := by decide +kernel
theorem dX2_add_53 : decode cX2_add 53 = .ok (.aload_n 0, 1) := by decide +kernel
theorem dX2_add_54 : decode cX2_add 54 = .ok (.getfield 39, 3) := by decide +kernel
theorem dX2_add_57 : decode cX2_add 57 = .ok (.iconst 0, 1) := by decide +kernel
theorem dX2_add_58 : decode cX2_add 58 = .ok (.iaload, 1) := by decide +kernel
theorem dX2_add_59 : decode cX2_add 59 = .ok (.iastore, 1) := by decide +kernel
theorem dX2_add_60 : decode cX2_add 60 = .ok (.aload_n 0, 1) := by decide +kernel
theorem dX2_add_61 : decode cX2_add 61 = .ok (.getfield 43, 3) := by decide +kernel
theorem dX2_add_64 : decode cX2_add 64 = .ok (.aload_n 0, 1) := by decide +kernel
theorem dX2_add_65 : decode cX2_add 65 = .ok (.getfield 9, 3) := by decide +kernel
theorem dX2_add_68 : decode cX2_add 68 = .ok (.aload_n 0, 1) := by decide +kernel
theorem dX2_add_69 : decode cX2_add 69 = .ok (.getfield 43, 3) := by decide +kernel
theorem dX2_add_72 : decode cX2_add 72 = .ok (.iconst 0, 1) := by decide +kernel
theorem dX2_add_73 : decode cX2_add 73 = .ok (.iaload, 1) := by decide +kernel
theorem dX2_add_74 : decode cX2_add 74 = .ok (.iastore, 1) := by decide +kernel
theorem dX2_add_75 : decode cX2_add 75 = .ok (.aload_n 0, 1) := by decide +kernel
theorem dX2_add_76 : decode cX2_add 76 = .ok (.aload_n 0, 1) := by decide +kernel
theorem dX2_add_77 : decode cX2_add 77 = .ok (.getfield 18, 3) := by decide +kernel
theorem dX2_add_80 : decode cX2_add 80 = .ok (.iload_n 1, 1) := by decide +kernel
theorem dX2_add_81 : decode cX2_add 81 = .ok (.invokestatic 46, 3) := by decide +kernel
theorem dX2_add_84 : decode cX2_add 84 = .ok (.putfield 18, 3) := by decide +kernel
theorem dX2_add_87 : decode cX2_add 87 = .ok (.aload_n 0, 1) := by decide +kernel
theorem dX2_add_88 : decode cX2_add 88 = .ok (.aload_n 0, 1) := by decide +kernel
theorem dX2_add_89 : decode cX2_add 89 = .ok (.getfield 21, 3) := by decide +kernel
theorem dX2_add_92 : decode cX2_add 92 = .ok (.iload_n 2, 1) := by decide +kernel
theorem dX2_add_93 : decode cX2_add 93 = .ok (.invokestatic 46, 3) := by decide +kernel
theorem dX2_add_96 : decode cX2_add 96 = .ok (.putfield 21, 3) := by decide +kernel
theorem dX2_add_99 : decode cX2_add 99 = .ok (.aload_n 0, 1) := by decide +kernel
theorem dX2_add_100 : decode cX2_add 100 = .ok (.aload_n 0, 1) := by decide +kernel
theorem dX2_add_101 : decode cX2_add 101 = .ok (.getfield 24, 3) := by decide +kernel
theorem dX2_add_104 : decode cX2_add 104 = .ok (.iload_n 1, 1) := by decide +kernel
theorem dX2_add_105 : decode cX2_add 105 = .ok (.invokestatic 52, 3) := by decide +kernel
theorem dX2_add_108 : decode cX2_add 108 = .ok (.putfield 24, 3) := by decide +kernel
theorem dX2_add_111 : decode cX2_add 111 = .ok (.aload_n 0, 1) := by decide +kernel
theorem dX2_add_112 : decode cX2_add 112 = .ok (.aload_n 0, 1) := by decide +kernel
theorem dX2_add_113 : decode cX2_add 113 = .ok (.getfield 27, 3) := by decide +kernel
theorem dX2_add_116 : decode cX2_add 116 = .ok (.iload_n 2, 1) := by decide +kernel
theorem dX2_add_117 : decode cX2_add 117 = .ok (.invokestatic 52, 3) := by decide +kernel
theorem dX2_add_120 : decode cX2_add 120 = .ok (.putfield 27, 3) := by decide +kernel
theorem dX2_add_123 : decode cX2_add 123 = .ok (.aload_n 0, 1) := by decide +kernel
theorem dX2_add_124 : decode cX2_add 124 = .ok (.aload_n 0, 1) := by decide +kernel
theorem dX2_add_125 : decode cX2_add 125 = .ok (.invokevirtual 55, 3) := by decide +kernel
theorem dX2_add_128 : decode cX2_add 128 = .ok (.putfield 15, 3) := by decide +kernel
theorem dX2_add_131 : decode cX2_add 131 = .ok (.return_, 1) := by decide +kernel
theorem dX2_boxMeets_0 : decode cX2_boxMeets 0 = .ok (.aload_n 0, 1) := by decide +kernel
theorem dX2_boxMeets_1 : decode cX2_boxMeets 1 = .ok (.getfield 18, 3) := by decide +kernel
theorem dX2_boxMeets_4 : decode cX2_boxMeets 4 = .ok (.iload_n 3, 1) := by decide +kernel
theorem dX2_boxMeets_5 : decode cX2_boxMeets 5 = .ok (.if_icmp .gt 32, 3) := by decide +kernel
theorem dX2_boxMeets_8 : decode cX2_boxMeets 8 = .ok (.aload_n 0, 1) := by decide +kernel
theorem dX2_boxMeets_9 : decode cX2_boxMeets 9 = .ok (.getfield 24, 3) := by decide +kernel
theorem dX2_boxMeets_12 : decode cX2_boxMeets 12 = .ok (.iload_n 1, 1) := by decide +kernel
theorem dX2_boxMeets_13 : decode cX2_boxMeets 13 = .ok (.if_icmp .lt 24, 3) := by decide +kernel
theorem dX2_boxMeets_16 : decode cX2_boxMeets 16 = .ok (.aload_n 0, 1) := by decide +kernel
theorem dX2_boxMeets_17 : decode cX2_boxMeets 17 = .ok (.getfield 21, 3) := by decide +kernel
theorem dX2_boxMeets_20 : decode cX2_boxMeets 20 = .ok (.iload 4, 2) := by decide +kernel
theorem dX2_boxMeets_22 : decode cX2_boxMeets 22 = .ok (.if_icmp .gt 15, 3) := by decide +kernel
theorem dX2_boxMeets_25 : decode cX2_boxMeets 25 = .ok (.aload_n 0, 1) := by decide +kernel
theorem dX2_boxMeets_26 : decode cX2_boxMeets 26 = .ok (.getfield 27, 3) := by decide +kernel
theorem dX2_boxMeets_29 : decode cX2_boxMeets 29 = .ok (.iload_n 2, 1) := by decide +kernel
theorem dX2_boxMeets_30 : decode cX2_boxMeets 30 = .ok (.if_icmp .lt 7, 3) := by decide +kernel
theorem dX2_boxMeets_33 : decode cX2_boxMeets 33 = .ok (.iconst 1, 1) := by decide +kernel
theorem dX2_boxMeets_34 : decode cX2_boxMeets 34 = .ok (.goto 4, 3) := by decide +kernel
theorem dX2_boxMeets_37 : decode cX2_boxMeets 37 = .ok (.iconst 0, 1) := by decide +kernel
theorem dX2_boxMeets_38 : decode cX2_boxMeets 38 = .ok (.ireturn, 1) := by decide +kernel
theorem dX2_twiceEnclosed_0 : decode cX2_twiceEnclosed 0 = .ok (.lconst 0, 1) := by decide +kernel
theorem dX2_twiceEnclosed_1 : decode cX2_twiceEnclosed 1 = .ok (.lstore_n 1, 1) := by decide +kernel
theorem dX2_twiceEnclosed_2 : decode cX2_twiceEnclosed 2 = .ok (.iconst 0, 1) := by decide +kernel
theorem dX2_twiceEnclosed_3 : decode cX2_twiceEnclosed 3 = .ok (.istore_n 3, 1) := by decide +kernel
theorem dX2_twiceEnclosed_4 : decode cX2_twiceEnclosed 4 = .ok (.iload_n 3, 1) := by decide +kernel
theorem dX2_twiceEnclosed_5 : decode cX2_twiceEnclosed 5 = .ok (.aload_n 0, 1) := by decide +kernel
theorem dX2_twiceEnclosed_6 : decode cX2_twiceEnclosed 6 = .ok (.getfield 9, 3) := by decide +kernel
theorem dX2_twiceEnclosed_9 : decode cX2_twiceEnclosed 9 = .ok (.if_icmp .ge 47, 3) := by decide +kernel
theorem dX2_twiceEnclosed_12 : decode cX2_twiceEnclosed 12 = .ok (.lload_n 1, 1) := by decide +kernel
theorem dX2_twiceEnclosed_13 : decode cX2_twiceEnclosed 13 = .ok (.aload_n 0, 1) := by decide +kernel
theorem dX2_twiceEnclosed_14 : decode cX2_twiceEnclosed 14 = .ok (.getfield 39, 3) := by decide +kernel
theorem dX2_twiceEnclosed_17 : decode cX2_twiceEnclosed 17 = .ok (.iload_n 3, 1) := by decide +kernel
theorem dX2_twiceEnclosed_18 : decode cX2_twiceEnclosed 18 = .ok (.iaload, 1) := by decide +kernel
theorem dX2_twiceEnclosed_19 : decode cX2_twiceEnclosed 19 = .ok (.i2l, 1) := by decide +kernel
theorem dX2_twiceEnclosed_20 : decode cX2_twiceEnclosed 20 = .ok (.aload_n 0, 1) := by decide +kernel
theorem dX2_twiceEnclosed_21 : decode cX2_twiceEnclosed 21 = .ok (.getfield 43, 3) := by decide +kernel
theorem dX2_twiceEnclosed_24 : decode cX2_twiceEnclosed 24 = .ok (.iload_n 3, 1) := by decide +kernel
theorem dX2_twiceEnclosed_25 : decode cX2_twiceEnclosed 25 = .ok (.iconst 1, 1) := by decide +kernel
theorem dX2_twiceEnclosed_26 : decode cX2_twiceEnclosed 26 = .ok (.iadd, 1) := by decide +kernel
theorem dX2_twiceEnclosed_27 : decode cX2_twiceEnclosed 27 = .ok (.iaload, 1) := by decide +kernel
theorem dX2_twiceEnclosed_28 : decode cX2_twiceEnclosed 28 = .ok (.i2l, 1) := by decide +kernel
theorem dX2_twiceEnclosed_29 : decode cX2_twiceEnclosed 29 = .ok (.lmul, 1) := by decide +kernel
theorem dX2_twiceEnclosed_30 : decode cX2_twiceEnclosed 30 = .ok (.aload_n 0, 1) := by decide +kernel
theorem dX2_twiceEnclosed_31 : decode cX2_twiceEnclosed 31 = .ok (.getfield 39, 3) := by decide +kernel
theorem dX2_twiceEnclosed_34 : decode cX2_twiceEnclosed 34 = .ok (.iload_n 3, 1) := by decide +kernel
theorem dX2_twiceEnclosed_35 : decode cX2_twiceEnclosed 35 = .ok (.iconst 1, 1) := by decide +kernel
theorem dX2_twiceEnclosed_36 : decode cX2_twiceEnclosed 36 = .ok (.iadd, 1) := by decide +kernel
theorem dX2_twiceEnclosed_37 : decode cX2_twiceEnclosed 37 = .ok (.iaload, 1) := by decide +kernel
theorem dX2_twiceEnclosed_38 : decode cX2_twiceEnclosed 38 = .ok (.i2l, 1) := by decide +kernel
theorem dX2_twiceEnclosed_39 : decode cX2_twiceEnclosed 39 = .ok (.aload_n 0, 1) := by decide +kernel
theorem dX2_twiceEnclosed_40 : decode cX2_twiceEnclosed 40 = .ok (.getfield 43, 3) := by decide +kernel
theorem dX2_twiceEnclosed_43 : decode cX2_twiceEnclosed 43 = .ok (.iload_n 3, 1) := by decide +kernel
theorem dX2_twiceEnclosed_44 : decode cX2_twiceEnclosed 44 = .ok (.iaload, 1) := by decide +kernel
theorem dX2_twiceEnclosed_45 : decode cX2_twiceEnclosed 45 = .ok (.i2l, 1) := by decide +kernel
theorem dX2_twiceEnclosed_46 : decode cX2_twiceEnclosed 46 = .ok (.lmul, 1) := by decide +kernel
theorem dX2_twiceEnclosed_47 : decode cX2_twiceEnclosed 47 = .ok (.lsub, 1) := by decide +kernel
theorem dX2_twiceEnclosed_48 : decode cX2_twiceEnclosed 48 = .ok (.ladd, 1) := by decide +kernel
theorem dX2_twiceEnclosed_49 : decode cX2_twiceEnclosed 49 = .ok (.lstore_n 1, 1) := by decide +kernel
theorem dX2_twiceEnclosed_50 : decode cX2_twiceEnclosed 50 = .ok (.iinc 3 1, 3) := by decide +kernel
theorem dX2_twiceEnclosed_53 : decode cX2_twiceEnclosed 53 = .ok (.goto (-49), 3) := by decide +kernel
theorem dX2_twiceEnclosed_56 : decode cX2_twiceEnclosed 56 = .ok (.lload_n 1, 1) := by decide +kernel
theorem dX2_twiceEnclosed_57 : decode cX2_twiceEnclosed 57 = .ok (.lreturn, 1) := by decide +kernel
set_option maxRecDepth 20000 in
theorem ggX2_whereIs_X2_turn : GoodIn wsX2_whereIs wsX2_turn := goodIn_r _ [8, 2, 3, 19, 20, 21, 22, 23, 24, 25, 26, 27] (by decide +kernel) (by decide +kernel)
set_option maxRecDepth 20000 in
theorem gX2_whereIs_X2_turn : GoodIn wsX2_whereIs (wsV RX2 59 RX2 yX2_turn wsX2_turn) := goodIn_app (goodIn_of _ (by decide +kernel)) ggX2_whereIs_X2_turn
set_option maxRecDepth 20000 in
theorem ggX2_whereIs_X2_overlap : GoodIn wsX2_whereIs wsX2_overlap := goodIn_r _ [11, 12, 13, 14, 15, 16, 17, 18] (by decide +kernel) (by decide +kernel)
set_option maxRecDepth 20000 in
theorem gX2_whereIs_X2_overlap : GoodIn wsX2_whereIs (va_wsS RX2 63 yX2_overlap wsX2_overlap) := goodIn_app (goodIn_of _ (by decide +kernel)) ggX2_whereIs_X2_overlap
theorem dX2_whereIs_0 : decode cX2_whereIs 0 = .ok (.iconst 0, 1) := by decide +kernel
theorem dX2_whereIs_1 : decode cX2_whereIs 1 = .ok (.istore_n 3, 1) := by decide +kernel
theorem dX2_whereIs_2 : decode cX2_whereIs 2 = .ok (.iconst 0, 1) := by decide +kernel
theorem dX2_whereIs_3 : decode cX2_whereIs 3 = .ok (.istore 4, 2) := by decide +kernel
theorem dX2_whereIs_5 : decode cX2_whereIs 5 = .ok (.iload 4, 2) := by decide +kernel
theorem dX2_whereIs_7 : decode cX2_whereIs 7 = .ok (.aload_n 0, 1) := by decide +kernel
theorem dX2_whereIs_8 : decode cX2_whereIs 8 = .ok (.getfield 9, 3) := by decide +kernel
theorem dX2_whereIs_11 : decode cX2_whereIs 11 = .ok (.if_icmp .ge 172, 3) := by decide +kernel
theorem dX2_whereIs_14 : decode cX2_whereIs 14 = .ok (.aload_n 0, 1) := by decide +kernel
theorem dX2_whereIs_15 : decode cX2_whereIs 15 = .ok (.iload 4, 2) := by decide +kernel
theorem dX2_whereIs_17 : decode cX2_whereIs 17 = .ok (.iload_n 1, 1) := by decide +kernel
theorem dX2_whereIs_18 : decode cX2_whereIs 18 = .ok (.iload_n 2, 1) := by decide +kernel
theorem dX2_whereIs_19 : decode cX2_whereIs 19 = .ok (.invokevirtual 59, 3) := by decide +kernel
theorem dX2_whereIs_22 : decode cX2_whereIs 22 = .ok (.lstore 5, 2) := by decide +kernel
theorem dX2_whereIs_24 : decode cX2_whereIs 24 = .ok (.lload 5, 2) := by decide +kernel
theorem dX2_whereIs_26 : decode cX2_whereIs 26 = .ok (.lconst 0, 1) := by decide +kernel
theorem dX2_whereIs_27 : decode cX2_whereIs 27 = .ok (.lcmp, 1) := by decide +kernel
theorem dX2_whereIs_28 : decode cX2_whereIs 28 = .ok (.ifCond .ne 53, 3) := by decide +kernel
theorem dX2_whereIs_31 : decode cX2_whereIs 31 = .ok (.aload_n 0, 1) := by decide +kernel
theorem dX2_whereIs_32 : decode cX2_whereIs 32 = .ok (.getfield 39, 3) := by decide +kernel
theorem dX2_whereIs_35 : decode cX2_whereIs 35 = .ok (.iload 4, 2) := by decide +kernel
theorem dX2_whereIs_37 : decode cX2_whereIs 37 = .ok (.iaload, 1) := by decide +kernel
theorem dX2_whereIs_38 : decode cX2_whereIs 38 = .ok (.aload_n 0, 1) := by decide +kernel
theorem dX2_whereIs_39 : decode cX2_whereIs 39 = .ok (.getfield 39, 3) := by decide +kernel
theorem dX2_whereIs_42 : decode cX2_whereIs 42 = .ok (.iload 4, 2) := by decide +kernel
theorem dX2_whereIs_44 : decode cX2_whereIs 44 = .ok (.iconst 1, 1) := by decide +kernel
theorem dX2_whereIs_45 : decode cX2_whereIs 45 = .ok (.iadd, 1) := by decide +kernel
theorem dX2_whereIs_46 : decode cX2_whereIs 46 = .ok (.iaload, 1) := by decide +kernel
theorem dX2_whereIs_47 : decode cX2_whereIs 47 = .ok (.iload_n 1, 1) := by decide +kernel
theorem dX2_whereIs_48 : decode cX2_whereIs 48 = .ok (.iload_n 1, 1) := by decide +kernel
theorem dX2_whereIs_49 : decode cX2_whereIs 49 = .ok (.invokestatic 63, 3) := by decide +kernel
theorem dX2_whereIs_52 : decode cX2_whereIs 52 = .ok (.ifCond .eq 29, 3) := by decide +kernel
theorem dX2_whereIs_55 : decode cX2_whereIs 55 = .ok (.aload_n 0, 1) := by decide +kernel
theorem dX2_whereIs_56 : decode cX2_whereIs 56 = .ok (.getfield 43, 3) := by decide +kernel
theorem dX2_whereIs_59 : decode cX2_whereIs 59 = .ok (.iload 4, 2) := by decide +kernel
theorem dX2_whereIs_61 : decode cX2_whereIs 61 = .ok (.iaload, 1) := by decide +kernel
theorem dX2_whereIs_62 : decode cX2_whereIs 62 = .ok (.aload_n 0, 1) := by decide +kernel
theorem dX2_whereIs_63 : decode cX2_whereIs 63 = .ok (.getfield 43, 3) := by decide +kernel
theorem dX2_whereIs_66 : decode cX2_whereIs 66 = .ok (.iload 4, 2) := by decide +kernel
theorem dX2_whereIs_68 : decode cX2_whereIs 68 = .ok (.iconst 1, 1) := by decide +kernel
theorem dX2_whereIs_69 : decode cX2_whereIs 69 = .ok (.iadd, 1) := by decide +kernel
theorem dX2_whereIs_70 : decode cX2_whereIs 70 = .ok (.iaload, 1) := by decide +kernel
theorem dX2_whereIs_71 : decode cX2_whereIs 71 = .ok (.iload_n 2, 1) := by decide +kernel
theorem dX2_whereIs_72 : decode cX2_whereIs 72 = .ok (.iload_n 2, 1) := by decide +kernel
theorem dX2_whereIs_73 : decode cX2_whereIs 73 = .ok (.invokestatic 63, 3) := by decide +kernel
theorem dX2_whereIs_76 : decode cX2_whereIs 76 = .ok (.ifCond .eq 5, 3) := by decide +kernel
theorem dX2_whereIs_79 : decode cX2_whereIs 79 = .ok (.iconst 2, 1) := by decide +kernel
theorem dX2_whereIs_80 : decode cX2_whereIs 80 = .ok (.ireturn, 1) := by decide +kernel
theorem dX2_whereIs_81 : decode cX2_whereIs 81 = .ok (.aload_n 0, 1) := by decide +kernel
theorem dX2_whereIs_82 : decode cX2_whereIs 82 = .ok (.getfield 43, 3) := by decide +kernel
theorem dX2_whereIs_85 : decode cX2_whereIs 85 = .ok (.iload 4, 2) := by decide +kernel
theorem dX2_whereIs_87 : decode cX2_whereIs 87 = .ok (.iaload, 1) := by decide +kernel
theorem dX2_whereIs_88 : decode cX2_whereIs 88 = .ok (.iload_n 2, 1) := by decide +kernel
theorem dX2_whereIs_89 : decode cX2_whereIs 89 = .ok (.if_icmp .gt 20, 3) := by decide +kernel
theorem dX2_whereIs_92 : decode cX2_whereIs 92 = .ok (.iload_n 2, 1) := by decide +kernel
theorem dX2_whereIs_93 : decode cX2_whereIs 93 = .ok (.aload_n 0, 1) := by decide +kernel
theorem dX2_whereIs_94 : decode cX2_whereIs 94 = .ok (.getfield 43, 3) := by decide +kernel
theorem dX2_whereIs_97 : decode cX2_whereIs 97 = .ok (.iload 4, 2) := by decide +kernel
theorem dX2_whereIs_99 : decode cX2_whereIs 99 = .ok (.iconst 1, 1) := by decide +kernel
theorem dX2_whereIs_100 : decode cX2_whereIs 100 = .ok (.iadd, 1) := by decide +kernel
theorem dX2_whereIs_101 : decode cX2_whereIs 101 = .ok (.iaload, 1) := by decide +kernel
theorem dX2_whereIs_102 : decode cX2_whereIs 102 = .ok (.if_icmp .ge 7, 3) := by decide +kernel
theorem dX2_whereIs_105 : decode cX2_whereIs 105 = .ok (.iconst 1, 1) := by decide +kernel
theorem dX2_whereIs_106 : decode cX2_whereIs 106 = .ok (.goto 4, 3) := by decide +kernel
theorem dX2_whereIs_109 : decode cX2_whereIs 109 = .ok (.iconst 0, 1) := by decide +kernel
theorem dX2_whereIs_110 : decode cX2_whereIs 110 = .ok (.istore 7, 2) := by decide +kernel
theorem dX2_whereIs_112 : decode cX2_whereIs 112 = .ok (.aload_n 0, 1) := by decide +kernel
theorem dX2_whereIs_113 : decode cX2_whereIs 113 = .ok (.getfield 43, 3) := by decide +kernel
theorem dX2_whereIs_116 : decode cX2_whereIs 116 = .ok (.iload 4, 2) := by decide +kernel
theorem dX2_whereIs_118 : decode cX2_whereIs 118 = .ok (.iconst 1, 1) := by decide +kernel
theorem dX2_whereIs_119 : decode cX2_whereIs 119 = .ok (.iadd, 1) := by decide +kernel
theorem dX2_whereIs_120 : decode cX2_whereIs 120 = .ok (.iaload, 1) := by decide +kernel
theorem dX2_whereIs_121 : decode cX2_whereIs 121 = .ok (.iload_n 2, 1) := by decide +kernel
theorem dX2_whereIs_122 : decode cX2_whereIs 122 = .ok (.if_icmp .gt 18, 3) := by decide +kernel
theorem dX2_whereIs_125 : decode cX2_whereIs 125 = .ok (.iload_n 2, 1) := by decide +kernel
theorem dX2_whereIs_126 : decode cX2_whereIs 126 = .ok (.aload_n 0, 1) := by decide +kernel
theorem dX2_whereIs_127 : decode cX2_whereIs 127 = .ok (.getfield 43, 3) := by decide +kernel
theorem dX2_whereIs_130 : decode cX2_whereIs 130 = .ok (.iload 4, 2) := by decide +kernel
theorem dX2_whereIs_132 : decode cX2_whereIs 132 = .ok (.iaload, 1) := by decide +kernel
theorem dX2_whereIs_133 : decode cX2_whereIs 133 = .ok (.if_icmp .ge 7, 3) := by decide +kernel
theorem dX2_whereIs_136 : decode cX2_whereIs 136 = .ok (.iconst 1, 1) := by decide +kernel
theorem dX2_whereIs_137 : decode cX2_whereIs 137 = .ok (.goto 4, 3) := by decide +kernel
theorem dX2_whereIs_140 : decode cX2_whereIs 140 = .ok (.iconst 0, 1) := by decide +kernel
theorem dX2_whereIs_141 : decode cX2_whereIs 141 = .ok (.istore 8, 2) := by decide +kernel
theorem dX2_whereIs_143 : decode cX2_whereIs 143 = .ok (.iload 7, 2) := by decide +kernel
theorem dX2_whereIs_145 : decode cX2_whereIs 145 = .ok (.ifCond .eq 10, 3) := by decide +kernel
theorem dX2_whereIs_148 : decode cX2_whereIs 148 = .ok (.lload 5, 2) := by decide +kernel
theorem dX2_whereIs_150 : decode cX2_whereIs 150 = .ok (.lconst 0, 1) := by decide +kernel
theorem dX2_whereIs_151 : decode cX2_whereIs 151 = .ok (.lcmp, 1) := by decide +kernel
theorem dX2_whereIs_152 : decode cX2_whereIs 152 = .ok (.ifCond .gt 15, 3) := by decide +kernel
theorem dX2_whereIs_155 : decode cX2_whereIs 155 = .ok (.iload 8, 2) := by decide +kernel
theorem dX2_whereIs_157 : decode cX2_whereIs 157 = .ok (.ifCond .eq 20, 3) := by decide +kernel
theorem dX2_whereIs_160 : decode cX2_whereIs 160 = .ok (.lload 5, 2) := by decide +kernel
theorem dX2_whereIs_162 : decode cX2_whereIs 162 = .ok (.lconst 0, 1) := by decide +kernel
theorem dX2_whereIs_163 : decode cX2_whereIs 163 = .ok (.lcmp, 1) := by decide +kernel
theorem dX2_whereIs_164 : decode cX2_whereIs 164 = .ok (.ifCond .ge 13, 3) := by decide +kernel
theorem dX2_whereIs_167 : decode cX2_whereIs 167 = .ok (.iload_n 3, 1) := by decide +kernel
theorem dX2_whereIs_168 : decode cX2_whereIs 168 = .ok (.ifCond .ne 7, 3) := by decide +kernel
theorem dX2_whereIs_171 : decode cX2_whereIs 171 = .ok (.iconst 1, 1) := by decide +kernel
theorem dX2_whereIs_172 : decode cX2_whereIs 172 = .ok (.goto 4, 3) := by decide +kernel
theorem dX2_whereIs_175 : decode cX2_whereIs 175 = .ok (.iconst 0, 1) := by decide +kernel
theorem dX2_whereIs_176 : decode cX2_whereIs 176 = .ok (.istore_n 3, 1) := by decide +kernel
theorem dX2_whereIs_177 : decode cX2_whereIs 177 = .ok (.iinc 4 1, 3) := by decide +kernel
theorem dX2_whereIs_180 : decode cX2_whereIs 180 = .ok (.goto (-175), 3) := by decide +kernel
theorem dX2_whereIs_183 : decode cX2_whereIs 183 = .ok (.iload_n 3, 1) := by decide +kernel
theorem dX2_whereIs_184 : decode cX2_whereIs 184 = .ok (.ifCond .eq 7, 3) := by decide +kernel
theorem dX2_whereIs_187 : decode cX2_whereIs 187 = .ok (.iconst 1, 1) := by decide +kernel
theorem dX2_whereIs_188 : decode cX2_whereIs 188 = .ok (.goto 4, 3) := by decide +kernel
theorem dX2_whereIs_191 : decode cX2_whereIs 191 = .ok (.iconst 0, 1) := by decide +kernel
theorem dX2_whereIs_192 : decode cX2_whereIs 192 = .ok (.ireturn, 1) := by decide +kernel
set_option maxRecDepth 20000 in
theorem ggX2_touches_X2_sideCount : GoodIn wsX2_touches wsX2_sideCount := goodIn_r _ [7, 8, 9, 10, 38, 39, 40, 41, 42, 43, 44, 45, 46] (by decide +kernel) (by decide +kernel)
set_option maxRecDepth 20000 in
theorem gX2_touches_X2_sideCount : GoodIn wsX2_touches (wsV RX2 67 RX2 yX2_sideCount wsX2_sideCount) := goodIn_app (goodIn_of _ (by decide +kernel)) ggX2_touches_X2_sideCount
set_option maxRecDepth 20000 in
theorem ggX2_touches_X2_sideTouches : GoodIn wsX2_touches wsX2_sideTouches := goodIn_r _ [14, 1, 2, 15, 16, 6, 17, 18, 19, 20, 21, 22, 23, 24, 25, 26, 27, 28, 38, 39, 40, 41, 42, 43, 44, 45, 46] (by decide +kernel) (by decide +kernel)
set_option maxRecDepth 20000 in
theorem gX2_touches_X2_sideTouches : GoodIn wsX2_touches (wsV RX2 70 RX2 yX2_sideTouches wsX2_sideTouches) := goodIn_app (goodIn_of _ (by decide +kernel)) ggX2_touches_X2_sideTouches
set_option maxRecDepth 20000 in
theorem ggX2_touches_X2_holds : GoodIn wsX2_touches wsX2_holds := goodIn_r _ [32, 8, 33, 34, 35, 36, 6, 37, 10, 1, 2, 25, 26, 27, 28, 15, 16, 17, 18, 19, 20, 21, 22, 23, 24, 38, 39, 40, 41, 42, 43, 44, 45, 46] (by decide +kernel) (by decide +kernel)
set_option maxRecDepth 20000 in
theorem gX2_touches_X2_holds : GoodIn wsX2_touches (wsV RX2 74 RX2 yX2_holds wsX2_holds) := goodIn_app (goodIn_of _ (by decide +kernel)) ggX2_touches_X2_holds
theorem dX2_touches_0 : decode cX2_touches 0 = .ok (.iconst 0, 1) := by decide +kernel
theorem dX2_touches_1 : decode cX2_touches 1 = .ok (.istore_n 2, 1) := by decide +kernel
theorem dX2_touches_2 : decode cX2_touches 2 = .ok (.iload_n 2, 1) := by decide +kernel
theorem dX2_touches_3 : decode cX2_touches 3 = .ok (.aload_n 0, 1) := by decide +kernel
theorem dX2_touches_4 : decode cX2_touches 4 = .ok (.invokevirtual 67, 3) := by decide +kernel
theorem dX2_touches_7 : decode cX2_touches 7 = .ok (.if_icmp .ge 37, 3) := by decide +kernel
theorem dX2_touches_10 : decode cX2_touches 10 = .ok (.iconst 0, 1) := by decide +kernel
theorem dX2_touches_11 : decode cX2_touches 11 = .ok (.istore_n 3, 1) := by decide +kernel
theorem dX2_touches_12 : decode cX2_touches 12 = .ok (.iload_n 3, 1) := by decide +kernel
theorem dX2_touches_13 : decode cX2_touches 13 = .ok (.aload_n 1, 1) := by decide +kernel
theorem dX2_touches_14 : decode cX2_touches 14 = .ok (.invokevirtual 67, 3) := by decide +kernel
theorem dX2_touches_17 : decode cX2_touches 17 = .ok (.if_icmp .ge 21, 3) := by decide +kernel
theorem dX2_touches_20 : decode cX2_touches 20 = .ok (.aload_n 0, 1) := by decide +kernel
theorem dX2_touches_21 : decode cX2_touches 21 = .ok (.iload_n 2, 1) := by decide +kernel
theorem dX2_touches_22 : decode cX2_touches 22 = .ok (.aload_n 1, 1) := by decide +kernel
theorem dX2_touches_23 : decode cX2_touches 23 = .ok (.iload_n 3, 1) := by decide +kernel
theorem dX2_touches_24 : decode cX2_touches 24 = .ok (.invokevirtual 70, 3) := by decide +kernel
theorem dX2_touches_27 : decode cX2_touches 27 = .ok (.ifCond .eq 5, 3) := by decide +kernel
theorem dX2_touches_30 : decode cX2_touches 30 = .ok (.iconst 1, 1) := by decide +kernel
theorem dX2_touches_31 : decode cX2_touches 31 = .ok (.ireturn, 1) := by decide +kernel
theorem dX2_touches_32 : decode cX2_touches 32 = .ok (.iinc 3 1, 3) := by decide +kernel
theorem dX2_touches_35 : decode cX2_touches 35 = .ok (.goto (-23), 3) := by decide +kernel
theorem dX2_touches_38 : decode cX2_touches 38 = .ok (.iinc 2 1, 3) := by decide +kernel
theorem dX2_touches_41 : decode cX2_touches 41 = .ok (.goto (-39), 3) := by decide +kernel
theorem dX2_touches_44 : decode cX2_touches 44 = .ok (.aload_n 0, 1) := by decide +kernel
theorem dX2_touches_45 : decode cX2_touches 45 = .ok (.aload_n 1, 1) := by decide +kernel
theorem dX2_touches_46 : decode cX2_touches 46 = .ok (.getfield 39, 3) := by decide +kernel
theorem dX2_touches_49 : decode cX2_touches 49 = .ok (.iconst 0, 1) := by decide +kernel
theorem dX2_touches_50 : decode cX2_touches 50 = .ok (.iaload, 1) := by decide +kernel
theorem dX2_touches_51 : decode cX2_touches 51 = .ok (.aload_n 1, 1) := by decide +kernel
theorem dX2_touches_52 : decode cX2_touches 52 = .ok (.getfield 43, 3) := by decide +kernel
theorem dX2_touches_55 : decode cX2_touches 55 = .ok (.iconst 0, 1) := by decide +kernel
theorem dX2_touches_56 : decode cX2_touches 56 = .ok (.iaload, 1) := by decide +kernel
theorem dX2_touches_57 : decode cX2_touches 57 = .ok (.invokevirtual 74, 3) := by decide +kernel
theorem dX2_touches_60 : decode cX2_touches 60 = .ok (.ifCond .ne 22, 3) := by decide +kernel
theorem dX2_touches_63 : decode cX2_touches 63 = .ok (.aload_n 1, 1) := by decide +kernel
theorem dX2_touches_64 : decode cX2_touches 64 = .ok (.aload_n 0, 1) := by decide +kernel
theorem dX2_touches_65 : decode cX2_touches 65 = .ok (.getfield 39, 3) := by decide +kernel
theorem dX2_touches_68 : decode cX2_touches 68 = .ok (.iconst 0, 1) := by decide +kernel
theorem dX2_touches_69 : decode cX2_touches 69 = .ok (.iaload, 1) := by decide +kernel
theorem dX2_touches_70 : decode cX2_touches 70 = .ok (.aload_n 0, 1) := by decide +kernel
theorem dX2_touches_71 : decode cX2_touches 71 = .ok (.getfield 43, 3) := by decide +kernel
theorem dX2_touches_74 : decode cX2_touches 74 = .ok (.iconst 0, 1) := by decide +kernel
theorem dX2_touches_75 : decode cX2_touches 75 = .ok (.iaload, 1) := by decide +kernel
theorem dX2_touches_76 : decode cX2_touches 76 = .ok (.invokevirtual 74, 3) := by decide +kernel
theorem dX2_touches_79 : decode cX2_touches 79 = .ok (.ifCond .eq 7, 3) := by decide +kernel
theorem dX2_touches_82 : decode cX2_touches 82 = .ok (.iconst 1, 1) := by decide +kernel
theorem dX2_touches_83 : decode cX2_touches 83 = .ok (.goto 4, 3) := by decide +kernel
theorem dX2_touches_86 : decode cX2_touches 86 = .ok (.iconst 0, 1) := by decide +kernel
theorem dX2_touches_87 : decode cX2_touches 87 = .ok (.ireturn, 1) := by decide +kernel
set_option maxRecDepth 20000 in
theorem ggX2_measureTo_X2_touches : GoodIn wsX2_measureTo wsX2_touches := goodIn_r _ [7, 1, 2, 8, 9, 10, 6, 11, 12, 13, 14, 15, 16, 17, 18, 19, 20, 21, 22, 23, 24, 25, 26, 27, 28, 29, 30, 31, 32, 33, 34, 35, 36, 37, 38, 39, 40, 41, 68, 69, 70, 71, 72, 73, 74, 75, 76] (by decide +kernel) (by decide +kernel)
set_option maxRecDepth 20000 in
theorem gX2_measureTo_X2_touches : GoodIn wsX2_measureTo (wsV RX2 78 RX2 yX2_touches wsX2_touches) := goodIn_app (goodIn_of _ (by decide +kernel)) ggX2_measureTo_X2_touches
set_option maxRecDepth 20000 in
theorem ggX2_measureTo_X0_set : GoodIn wsX2_measureTo wsX0_set := goodIn_r _ [46, 47, 48, 77, 78] (by decide +kernel) (by decide +kernel)
set_option maxRecDepth 20000 in
theorem gX2_measureTo_X0_set : GoodIn wsX2_measureTo (wsV RX2 82 RX0 yX0_set wsX0_set) := goodIn_app (goodIn_of _ (by decide +kernel)) ggX2_measureTo_X0_set
set_option maxRecDepth 20000 in
theorem ggX2_measureTo_X2_squareOf : GoodIn wsX2_measureTo wsX2_squareOf := goodIn_r _ [51] (by decide +kernel) (by decide +kernel)
set_option maxRecDepth 20000 in
theorem gX2_measureTo_X2_squareOf : GoodIn wsX2_measureTo (va_wsS RX2 88 yX2_squareOf wsX2_squareOf) := goodIn_app (goodIn_of _ (by decide +kernel)) ggX2_measureTo_X2_squareOf
set_option maxRecDepth 20000 in
theorem ggX2_measureTo_X2_lessenByCorners : GoodIn wsX2_measureTo wsX2_lessenByCorners := goodIn_r _ [55, 14, 1, 2, 8, 9, 10, 6, 11, 12, 13, 56, 57, 58, 59, 49, 50, 51, 60, 61, 62, 45, 63, 47, 48, 64, 65, 66, 67, 43, 44, 46, 29, 30, 31, 32, 68, 69, 70, 71, 72, 73, 74, 75, 76, 77, 78] (by decide +kernel) (by decide +kernel)
set_option maxRecDepth 20000 in
theorem gX2_measureTo_X2_lessenByCorners : GoodIn wsX2_measureTo (wsV RX2 92 RX2 yX2_lessenByCorners wsX2_lessenByCorners) := goodIn_app (goodIn_of _ (by decide +kernel)) ggX2_measureTo_X2_lessenByCorners
theorem dX2_measureTo_0 : decode cX2_measureTo 0 = .ok (.aload_n 0, 1) := by decide +kernel
theorem dX2_measureTo_1 : decode cX2_measureTo 1 = .ok (.aload_n 1, 1) := by decide +kernel
theorem dX2_measureTo_2 : decode cX2_measureTo 2 = .ok (.invokevirtual 78, 3) := by decide +kernel
theorem dX2_measureTo_5 : decode cX2_measureTo 5 = .ok (.ifCond .eq 10, 3) := by decide +kernel
theorem dX2_measureTo_8 : decode cX2_measureTo 8 = .ok (.aload_n 2, 1) := by decide +kernel
theorem dX2_measureTo_9 : decode cX2_measureTo 9 = .ok (.lconst 0, 1) := by decide +kernel
theorem dX2_measureTo_10 : decode cX2_measureTo 10 = .ok (.lconst 1, 1) := by decide +kernel
theorem dX2_measureTo_11 : decode cX2_measureTo 11 = .ok (.invokevirtual 82, 3) := by decide +kernel
theorem dX2_measureTo_14 : decode cX2_measureTo 14 = .ok (.return_, 1) := by decide +kernel
theorem dX2_measureTo_15 : decode cX2_measureTo 15 = .ok (.aload_n 2, 1) := by decide +kernel
theorem dX2_measureTo_16 : decode cX2_measureTo 16 = .ok (.aload_n 1, 1) := by decide +kernel
theorem dX2_measureTo_17 : decode cX2_measureTo 17 = .ok (.getfield 39, 3) := by decide +kernel
theorem dX2_measureTo_20 : decode cX2_measureTo 20 = .ok (.iconst 0, 1) := by decide +kernel
theorem dX2_measureTo_21 : decode cX2_measureTo 21 = .ok (.iaload, 1) := by decide +kernel
theorem dX2_measureTo_22 : decode cX2_measureTo 22 = .ok (.aload_n 0, 1) := by decide +kernel
theorem dX2_measureTo_23 : decode cX2_measureTo 23 = .ok (.getfield 39, 3) := by decide +kernel
theorem dX2_measureTo_26 : decode cX2_measureTo 26 = .ok (.iconst 0, 1) := by decide +kernel
theorem dX2_measureTo_27 : decode cX2_measureTo 27 = .ok (.iaload, 1) := by decide +kernel
theorem dX2_measureTo_28 : decode cX2_measureTo 28 = .ok (.isub, 1) := by decide +kernel
theorem dX2_measureTo_29 : decode cX2_measureTo 29 = .ok (.i2l, 1) := by decide +kernel
theorem dX2_measureTo_30 : decode cX2_measureTo 30 = .ok (.aload_n 1, 1) := by decide +kernel
theorem dX2_measureTo_31 : decode cX2_measureTo 31 = .ok (.getfield 43, 3) := by decide +kernel
theorem dX2_measureTo_34 : decode cX2_measureTo 34 = .ok (.iconst 0, 1) := by decide +kernel
theorem dX2_measureTo_35 : decode cX2_measureTo 35 = .ok (.iaload, 1) := by decide +kernel
theorem dX2_measureTo_36 : decode cX2_measureTo 36 = .ok (.aload_n 0, 1) := by decide +kernel
theorem dX2_measureTo_37 : decode cX2_measureTo 37 = .ok (.getfield 43, 3) := by decide +kernel
theorem dX2_measureTo_40 : decode cX2_measureTo 40 = .ok (.iconst 0, 1) := by decide +kernel
theorem dX2_measureTo_41 : decode cX2_measureTo 41 = .ok (.iaload, 1) := by decide +kernel
theorem dX2_measureTo_42 : decode cX2_measureTo 42 = .ok (.isub, 1) := by decide +kernel
theorem dX2_measureTo_43 : decode cX2_measureTo 43 = .ok (.i2l, 1) := by decide +kernel
theorem dX2_measureTo_44 : decode cX2_measureTo 44 = .ok (.invokestatic 88, 3) := by decide +kernel
theorem dX2_measureTo_47 : decode cX2_measureTo 47 = .ok (.lconst 1, 1) := by decide +kernel
theorem dX2_measureTo_48 : decode cX2_measureTo 48 = .ok (.invokevirtual 82, 3) := by decide +kernel
theorem dX2_measureTo_51 : decode cX2_measureTo 51 = .ok (.aload_n 0, 1) := by decide +kernel
theorem dX2_measureTo_52 : decode cX2_measureTo 52 = .ok (.aload_n 1, 1) := by decide +kernel
theorem dX2_measureTo_53 : decode cX2_measureTo 53 = .ok (.aload_n 2, 1) := by decide +kernel
theorem dX2_measureTo_54 : decode cX2_measureTo 54 = .ok (.invokevirtual 92, 3) := by decide +kernel
theorem dX2_measureTo_57 : decode cX2_measureTo 57 = .ok (.aload_n 1, 1) := by decide +kernel
theorem dX2_measureTo_58 : decode cX2_measureTo 58 = .ok (.aload_n 0, 1) := by decide +kernel
theorem dX2_measureTo_59 : decode cX2_measureTo 59 = .ok (.aload_n 2, 1) := by decide +kernel
theorem dX2_measureTo_60 : decode cX2_measureTo 60 = .ok (.invokevirtual 92, 3) := by decide +kernel
theorem dX2_measureTo_63 : decode cX2_measureTo 63 = .ok (.return_, 1) := by decide +kernel
set_option maxRecDepth 20000 in
theorem ggX2_lessenByCorners_X2_sideCount : GoodIn wsX2_lessenByCorners wsX2_sideCount := goodIn_r _ [8, 9, 10, 1, 36, 37, 38, 39, 40, 41, 42, 43, 44] (by decide +kernel) (by decide +kernel)
set_option maxRecDepth 20000 in
theorem gX2_lessenByCorners_X2_sideCount : GoodIn wsX2_lessenByCorners (wsV RX2 67 RX2 yX2_sideCount wsX2_sideCount) := goodIn_app (goodIn_of _ (by decide +kernel)) ggX2_lessenByCorners_X2_sideCount
set_option maxRecDepth 20000 in
theorem ggX2_lessenByCorners_X2_lessenBySide : GoodIn wsX2_lessenByCorners wsX2_lessenBySide := goodIn_r _ [14, 2, 3, 15, 16, 7, 17, 18, 19, 20, 21, 22, 23, 24, 25, 26, 27, 28, 29, 30, 31, 32, 33, 34, 35, 36, 37, 38, 39, 40, 41, 42, 43, 44, 45, 46] (by decide +kernel) (by decide +kernel)
set_option maxRecDepth 20000 in
theorem gX2_lessenByCorners_X2_lessenBySide : GoodIn wsX2_lessenByCorners (wsV RX2 96 RX2 yX2_lessenBySide wsX2_lessenBySide) := goodIn_app (goodIn_of _ (by decide +kernel)) ggX2_lessenByCorners_X2_lessenBySide
theorem dX2_lessenByCorners_0 : decode cX2_lessenByCorners 0 = .ok (.iconst 0, 1) := by decide +kernel
theorem dX2_lessenByCorners_1 : decode cX2_lessenByCorners 1 = .ok (.istore_n 3, 1) := by decide +kernel
theorem dX2_lessenByCorners_2 : decode cX2_lessenByCorners 2 = .ok (.iload_n 3, 1) := by decide +kernel
theorem dX2_lessenByCorners_3 : decode cX2_lessenByCorners 3 = .ok (.aload_n 0, 1) := by decide +kernel
theorem dX2_lessenByCorners_4 : decode cX2_lessenByCorners 4 = .ok (.getfield 9, 3) := by decide +kernel
theorem dX2_lessenByCorners_7 : decode cX2_lessenByCorners 7 = .ok (.if_icmp .ge 46, 3) := by decide +kernel
theorem dX2_lessenByCorners_10 : decode cX2_lessenByCorners 10 = .ok (.iconst 0, 1) := by decide +kernel
theorem dX2_lessenByCorners_11 : decode cX2_lessenByCorners 11 = .ok (.istore 4, 2) := by decide +kernel
theorem dX2_lessenByCorners_13 : decode cX2_lessenByCorners 13 = .ok (.iload 4, 2) := by decide +kernel
theorem dX2_lessenByCorners_15 : decode cX2_lessenByCorners 15 = .ok (.aload_n 1, 1) := by decide +kernel
theorem dX2_lessenByCorners_16 : decode cX2_lessenByCorners 16 = .ok (.invokevirtual 67, 3) := by decide +kernel
theorem dX2_lessenByCorners_19 : decode cX2_lessenByCorners 19 = .ok (.if_icmp .ge 28, 3) := by decide +kernel
theorem dX2_lessenByCorners_22 : decode cX2_lessenByCorners 22 = .ok (.aload_n 1, 1) := by decide +kernel
theorem dX2_lessenByCorners_23 : decode cX2_lessenByCorners 23 = .ok (.iload 4, 2) := by decide +kernel
theorem dX2_lessenByCorners_25 : decode cX2_lessenByCorners 25 = .ok (.aload_n 0, 1) := by decide +kernel
theorem dX2_lessenByCorners_26 : decode cX2_lessenByCorners 26 = .ok (.getfield 39, 3) := by decide +kernel
theorem dX2_lessenByCorners_29 : decode cX2_lessenByCorners 29 = .ok (.iload_n 3, 1) := by decide +kernel
theorem dX2_lessenByCorners_30 : decode cX2_lessenByCorners 30 = .ok (.iaload, 1) := by decide +kernel
theorem dX2_lessenByCorners_31 : decode cX2_lessenByCorners 31 = .ok (.aload_n 0, 1) := by decide +kernel
theorem dX2_lessenByCorners_32 : decode cX2_lessenByCorners 32 = .ok (.getfield 43, 3) := by decide +kernel
theorem dX2_lessenByCorners_35 : decode cX2_lessenByCorners 35 = .ok (.iload_n 3, 1) := by decide +kernel
theorem dX2_lessenByCorners_36 : decode cX2_lessenByCorners 36 = .ok (.iaload, 1) := by decide +kernel
theorem dX2_lessenByCorners_37 : decode cX2_lessenByCorners 37 = .ok (.aload_n 2, 1) := by decide +kernel
theorem dX2_lessenByCorners_38 : decode cX2_lessenByCorners 38 = .ok (.invokevirtual 96, 3) := by decide +kernel
theorem dX2_lessenByCorners_41 : decode cX2_lessenByCorners 41 = .ok (.iinc 4 1, 3) := by decide +kernel
theorem dX2_lessenByCorners_44 : decode cX2_lessenByCorners 44 = .ok (.goto (-31), 3) := by decide +kernel
theorem dX2_lessenByCorners_47 : decode cX2_lessenByCorners 47 = .ok (.iinc 3 1, 3) := by decide +kernel
theorem dX2_lessenByCorners_50 : decode cX2_lessenByCorners 50 = .ok (.goto (-48), 3) := by decide +kernel
theorem dX2_lessenByCorners_53 : decode cX2_lessenByCorners 53 = .ok (.return_, 1) := by decide +kernel
set_option maxRecDepth 20000 in
theorem ggX2_lessenBySide_X2_squareOf : GoodIn wsX2_lessenBySide wsX2_squareOf := goodIn_r _ [6] (by decide +kernel) (by decide +kernel)
set_option maxRecDepth 20000 in
theorem gX2_lessenBySide_X2_squareOf : GoodIn wsX2_lessenBySide (va_wsS RX2 88 yX2_squareOf wsX2_squareOf) := goodIn_app (goodIn_of _ (by decide +kernel)) ggX2_lessenBySide_X2_squareOf
set_option maxRecDepth 20000 in
theorem ggX2_lessenBySide_X0_lessen : GoodIn wsX2_lessenBySide wsX0_lessen := goodIn_r _ [11, 12, 13, 14, 15, 10, 16, 17, 18, 19, 20, 34, 35] (by decide +kernel) (by decide +kernel)
set_option maxRecDepth 20000 in
theorem gX2_lessenBySide_X0_lessen : GoodIn wsX2_lessenBySide (wsV RX2 100 RX0 yX0_lessen wsX0_lessen) := goodIn_app (goodIn_of _ (by decide +kernel)) ggX2_lessenBySide_X0_lessen
set_option maxRecDepth 20000 in
theorem ggX2_lessenBySide_X2_turn : GoodIn wsX2_lessenBySide wsX2_turn := goodIn_r _ [24, 1, 2, 25, 26, 27, 28, 29, 30, 31, 32, 33] (by decide +kernel) (by decide +kernel)
set_option maxRecDepth 20000 in
theorem gX2_lessenBySide_X2_turn : GoodIn wsX2_lessenBySide (wsV RX2 59 RX2 yX2_turn wsX2_turn) := goodIn_app (goodIn_of _ (by decide +kernel)) ggX2_lessenBySide_X2_turn
theorem dX2_lessenBySide_0 : decode cX2_lessenBySide 0 = .ok (.aload_n 0, 1) := by decide +kernel
theorem dX2_lessenBySide_1 : decode cX2_lessenBySide 1 = .ok (.getfield 39, 3) := by decide +kernel
theorem dX2_lessenBySide_4 : decode cX2_lessenBySide 4 = .ok (.iload_n 1, 1) := by decide +kernel
theorem dX2_lessenBySide_5 : decode cX2_lessenBySide 5 = .ok (.iconst 1, 1) := by decide +kernel
theorem dX2_lessenBySide_6 : decode cX2_lessenBySide 6 = .ok (.iadd, 1) := by decide +kernel
theorem dX2_lessenBySide_7 : decode cX2_lessenBySide 7 = .ok (.iaload, 1) := by decide +kernel
theorem dX2_lessenBySide_8 : decode cX2_lessenBySide 8 = .ok (.aload_n 0, 1) := by decide +kernel
theorem dX2_lessenBySide_9 : decode cX2_lessenBySide 9 = .ok (.getfield 39, 3) := by decide +kernel
theorem dX2_lessenBySide_12 : decode cX2_lessenBySide 12 = .ok (.iload_n 1, 1) := by decide +kernel
theorem dX2_lessenBySide_13 : decode cX2_lessenBySide 13 = .ok (.iaload, 1) := by decide +kernel
theorem dX2_lessenBySide_14 : decode cX2_lessenBySide 14 = .ok (.isub, 1) := by decide +kernel
theorem dX2_lessenBySide_15 : decode cX2_lessenBySide 15 = .ok (.i2l, 1) := by decide +kernel
theorem dX2_lessenBySide_16 : decode cX2_lessenBySide 16 = .ok (.lstore 5, 2) := by decide +kernel
theorem dX2_lessenBySide_18 : decode cX2_lessenBySide 18 = .ok (.aload_n 0, 1) := by decide +kernel
theorem dX2_lessenBySide_19 : decode cX2_lessenBySide 19 = .ok (.getfield 43, 3) := by decide +kernel
theorem dX2_lessenBySide_22 : decode cX2_lessenBySide 22 = .ok (.iload_n 1, 1) := by decide +kernel
theorem dX2_lessenBySide_23 : decode cX2_lessenBySide 23 = .ok (.iconst 1, 1) := by decide +kernel
theorem dX2_lessenBySide_24 : decode cX2_lessenBySide 24 = .ok (.iadd, 1) := by decide +kernel
theorem dX2_lessenBySide_25 : decode cX2_lessenBySide 25 = .ok (.iaload, 1) := by decide +kernel
theorem dX2_lessenBySide_26 : decode cX2_lessenBySide 26 = .ok (.aload_n 0, 1) := by decide +kernel
theorem dX2_lessenBySide_27 : decode cX2_lessenBySide 27 = .ok (.getfield 43, 3) := by decide +kernel
theorem dX2_lessenBySide_30 : decode cX2_lessenBySide 30 = .ok (.iload_n 1, 1) := by decide +kernel
theorem dX2_lessenBySide_31 : decode cX2_lessenBySide 31 = .ok (.iaload, 1) := by decide +kernel
theorem dX2_lessenBySide_32 : decode cX2_lessenBySide 32 = .ok (.isub, 1) := by decide +kernel
theorem dX2_lessenBySide_33 : decode cX2_lessenBySide 33 = .ok (.i2l, 1) := by decide +kernel
theorem dX2_lessenBySide_34 : decode cX2_lessenBySide 34 = .ok (.lstore 7, 2) := by decide +kernel
theorem dX2_lessenBySide_36 : decode cX2_lessenBySide 36 = .ok (.lload 5, 2) := by decide +kernel
theorem dX2_lessenBySide_38 : decode cX2_lessenBySide 38 = .ok (.lload 7, 2) := by decide +kernel
theorem dX2_lessenBySide_40 : decode cX2_lessenBySide 40 = .ok (.invokestatic 88, 3) := by decide +kernel
theorem dX2_lessenBySide_43 : decode cX2_lessenBySide 43 = .ok (.lstore 9, 2) := by decide +kernel
theorem dX2_lessenBySide_45 : decode cX2_lessenBySide 45 = .ok (.lload 5, 2) := by decide +kernel
theorem dX2_lessenBySide_47 : decode cX2_lessenBySide 47 = .ok (.iload_n 2, 1) := by decide +kernel
theorem dX2_lessenBySide_48 : decode cX2_lessenBySide 48 = .ok (.aload_n 0, 1) := by decide +kernel
theorem dX2_lessenBySide_49 : decode cX2_lessenBySide 49 = .ok (.getfield 39, 3) := by decide +kernel
theorem dX2_lessenBySide_52 : decode cX2_lessenBySide 52 = .ok (.iload_n 1, 1) := by decide +kernel
theorem dX2_lessenBySide_53 : decode cX2_lessenBySide 53 = .ok (.iaload, 1) := by decide +kernel
theorem dX2_lessenBySide_54 : decode cX2_lessenBySide 54 = .ok (.isub, 1) := by decide +kernel
theorem dX2_lessenBySide_55 : decode cX2_lessenBySide 55 = .ok (.i2l, 1) := by decide +kernel
theorem dX2_lessenBySide_56 : decode cX2_lessenBySide 56 = .ok (.lmul, 1) := by decide +kernel
theorem dX2_lessenBySide_57 : decode cX2_lessenBySide 57 = .ok (.lload 7, 2) := by decide +kernel
theorem dX2_lessenBySide_59 : decode cX2_lessenBySide 59 = .ok (.iload_n 3, 1) := by decide +kernel
theorem dX2_lessenBySide_60 : decode cX2_lessenBySide 60 = .ok (.aload_n 0, 1) := by decide +kernel
theorem dX2_lessenBySide_61 : decode cX2_lessenBySide 61 = .ok (.getfield 43, 3) := by decide +kernel
theorem dX2_lessenBySide_64 : decode cX2_lessenBySide 64 = .ok (.iload_n 1, 1) := by decide +kernel
theorem dX2_lessenBySide_65 : decode cX2_lessenBySide 65 = .ok (.iaload, 1) := by decide +kernel
theorem dX2_lessenBySide_66 : decode cX2_lessenBySide 66 = .ok (.isub, 1) := by decide +kernel
theorem dX2_lessenBySide_67 : decode cX2_lessenBySide 67 = .ok (.i2l, 1) := by decide +kernel
theorem dX2_lessenBySide_68 : decode cX2_lessenBySide 68 = .ok (.lmul, 1) := by decide +kernel
theorem dX2_lessenBySide_69 : decode cX2_lessenBySide 69 = .ok (.ladd, 1) := by decide +kernel
theorem dX2_lessenBySide_70 : decode cX2_lessenBySide 70 = .ok (.lstore 11, 2) := by decide +kernel
theorem dX2_lessenBySide_72 : decode cX2_lessenBySide 72 = .ok (.lload 11, 2) := by decide +kernel
theorem dX2_lessenBySide_74 : decode cX2_lessenBySide 74 = .ok (.lconst 0, 1) := by decide +kernel
theorem dX2_lessenBySide_75 : decode cX2_lessenBySide 75 = .ok (.lcmp, 1) := by decide +kernel
theorem dX2_lessenBySide_76 : decode cX2_lessenBySide 76 = .ok (.ifCond .gt 33, 3) := by decide +kernel
theorem dX2_lessenBySide_79 : decode cX2_lessenBySide 79 = .ok (.aload 4, 2) := by decide +kernel
theorem dX2_lessenBySide_81 : decode cX2_lessenBySide 81 = .ok (.iload_n 2, 1) := by decide +kernel
theorem dX2_lessenBySide_82 : decode cX2_lessenBySide 82 = .ok (.aload_n 0, 1) := by decide +kernel
theorem dX2_lessenBySide_83 : decode cX2_lessenBySide 83 = .ok (.getfield 39, 3) := by decide +kernel
theorem dX2_lessenBySide_86 : decode cX2_lessenBySide 86 = .ok (.iload_n 1, 1) := by decide +kernel
theorem dX2_lessenBySide_87 : decode cX2_lessenBySide 87 = .ok (.iaload, 1) := by decide +kernel
theorem dX2_lessenBySide_88 : decode cX2_lessenBySide 88 = .ok (.isub, 1) := by decide +kernel
theorem dX2_lessenBySide_89 : decode cX2_lessenBySide 89 = .ok (.i2l, 1) := by decide +kernel
theorem dX2_lessenBySide_90 : decode cX2_lessenBySide 90 = .ok (.iload_n 3, 1) := by decide +kernel
theorem dX2_lessenBySide_91 : decode cX2_lessenBySide 91 = .ok (.aload_n 0, 1) := by decide +kernel
theorem dX2_lessenBySide_92 : decode cX2_lessenBySide 92 = .ok (.getfield 43, 3) := by decide +kernel
theorem dX2_lessenBySide_95 : decode cX2_lessenBySide 95 = .ok (.iload_n 1, 1) := by decide +kernel
theorem dX2_lessenBySide_96 : decode cX2_lessenBySide 96 = .ok (.iaload, 1) := by decide +kernel
theorem dX2_lessenBySide_97 : decode cX2_lessenBySide 97 = .ok (.isub, 1) := by decide +kernel
theorem dX2_lessenBySide_98 : decode cX2_lessenBySide 98 = .ok (.i2l, 1) := by decide +kernel
theorem dX2_lessenBySide_99 : decode cX2_lessenBySide 99 = .ok (.invokestatic 88, 3) := by decide +kernel
theorem dX2_lessenBySide_102 : decode cX2_lessenBySide 102 = .ok (.lconst 1, 1) := by decide +kernel
theorem dX2_lessenBySide_103 : decode cX2_lessenBySide 103 = .ok (.invokevirtual 100, 3) := by decide +kernel
theorem dX2_lessenBySide_106 : decode cX2_lessenBySide 106 = .ok (.goto 66, 3) := by decide +kernel
theorem dX2_lessenBySide_109 : decode cX2_lessenBySide 109 = .ok (.lload 11, 2) := by decide +kernel
theorem dX2_lessenBySide_111 : decode cX2_lessenBySide 111 = .ok (.lload 9, 2) := by decide +kernel
theorem dX2_lessenBySide_113 : decode cX2_lessenBySide 113 = .ok (.lcmp, 1) := by decide +kernel
theorem dX2_lessenBySide_114 : decode cX2_lessenBySide 114 = .ok (.ifCond .lt 37, 3) := by decide +kernel
theorem dX2_lessenBySide_117 : decode cX2_lessenBySide 117 = .ok (.aload 4, 2) := by decide +kernel
theorem dX2_lessenBySide_119 : decode cX2_lessenBySide 119 = .ok (.iload_n 2, 1) := by decide +kernel
theorem dX2_lessenBySide_120 : decode cX2_lessenBySide 120 = .ok (.aload_n 0, 1) := by decide +kernel
theorem dX2_lessenBySide_121 : decode cX2_lessenBySide 121 = .ok (.getfield 39, 3) := by decide +kernel
theorem dX2_lessenBySide_124 : decode cX2_lessenBySide 124 = .ok (.iload_n 1, 1) := by decide +kernel
theorem dX2_lessenBySide_125 : decode cX2_lessenBySide 125 = .ok (.iconst 1, 1) := by decide +kernel
theorem dX2_lessenBySide_126 : decode cX2_lessenBySide 126 = .ok (.iadd, 1) := by decide +kernel
theorem dX2_lessenBySide_127 : decode cX2_lessenBySide 127 = .ok (.iaload, 1) := by decide +kernel
theorem dX2_lessenBySide_128 : decode cX2_lessenBySide 128 = .ok (.isub, 1) := by decide +kernel
theorem dX2_lessenBySide_129 : decode cX2_lessenBySide 129 = .ok (.i2l, 1) := by decide +kernel
theorem dX2_lessenBySide_130 : decode cX2_lessenBySide 130 = .ok (.iload_n 3, 1) := by decide +kernel
theorem dX2_lessenBySide_131 : decode cX2_lessenBySide 131 = .ok (.aload_n 0, 1) := by decide +kernel
theorem dX2_lessenBySide_132 : decode cX2_lessenBySide 132 = .ok (.getfield 43, 3) := by decide +kernel
theorem dX2_lessenBySide_135 : decode cX2_lessenBySide 135 = .ok (.iload_n 1, 1) := by decide +kernel
theorem dX2_lessenBySide_136 : decode cX2_lessenBySide 136 = .ok (.iconst 1, 1) := by decide +kernel
theorem dX2_lessenBySide_137 : decode cX2_lessenBySide 137 = .ok (.iadd, 1) := by decide +kernel
theorem dX2_lessenBySide_138 : decode cX2_lessenBySide 138 = .ok (.iaload, 1) := by decide +kernel
theorem dX2_lessenBySide_139 : decode cX2_lessenBySide 139 = .ok (.isub, 1) := by decide +kernel
theorem dX2_lessenBySide_140 : decode cX2_lessenBySide 140 = .ok (.i2l, 1) := by decide +kernel
theorem dX2_lessenBySide_141 : decode cX2_lessenBySide 141 = .ok (.invokestatic 88, 3) := by decide +kernel
theorem dX2_lessenBySide_144 : decode cX2_lessenBySide 144 = .ok (.lconst 1, 1) := by decide +kernel
theorem dX2_lessenBySide_145 : decode cX2_lessenBySide 145 = .ok (.invokevirtual 100, 3) := by decide +kernel
theorem dX2_lessenBySide_148 : decode cX2_lessenBySide 148 = .ok (.goto 24, 3) := by decide +kernel
theorem dX2_lessenBySide_151 : decode cX2_lessenBySide 151 = .ok (.aload_n 0, 1) := by decide +kernel
theorem dX2_lessenBySide_152 : decode cX2_lessenBySide 152 = .ok (.iload_n 1, 1) := by decide +kernel
theorem dX2_lessenBySide_153 : decode cX2_lessenBySide 153 = .ok (.iload_n 2, 1) := by decide +kernel
theorem dX2_lessenBySide_154 : decode cX2_lessenBySide 154 = .ok (.iload_n 3, 1) := by decide +kernel
theorem dX2_lessenBySide_155 : decode cX2_lessenBySide 155 = .ok (.invokevirtual 59, 3) := by decide +kernel
theorem dX2_lessenBySide_158 : decode cX2_lessenBySide 158 = .ok (.lstore 13, 2) := by decide +kernel
theorem dX2_lessenBySide_160 : decode cX2_lessenBySide 160 = .ok (.aload 4, 2) := by decide +kernel
theorem dX2_lessenBySide_162 : decode cX2_lessenBySide 162 = .ok (.lload 13, 2) := by decide +kernel
theorem dX2_lessenBySide_164 : decode cX2_lessenBySide 164 = .ok (.lload 13, 2) := by decide +kernel
theorem dX2_lessenBySide_166 : decode cX2_lessenBySide 166 = .ok (.lmul, 1) := by decide +kernel
theorem dX2_lessenBySide_167 : decode cX2_lessenBySide 167 = .ok (.lload 9, 2) := by decide +kernel
theorem dX2_lessenBySide_169 : decode cX2_lessenBySide 169 = .ok (.invokevirtual 100, 3) := by decide +kernel
theorem dX2_lessenBySide_172 : decode cX2_lessenBySide 172 = .ok (.return_, 1) := by decide +kernel
set_option maxRecDepth 20000 in
theorem ggX2_holds_X2_whereIs : GoodIn wsX2_holds wsX2_whereIs := goodIn_r _ [7, 8, 9, 10, 11, 12, 13, 6, 14, 15, 16, 17, 18, 19, 20, 21, 22, 23, 24, 25, 26, 27, 28, 29, 30, 31, 32, 33] (by decide +kernel) (by decide +kernel)
set_option maxRecDepth 20000 in
theorem gX2_holds_X2_whereIs : GoodIn wsX2_holds (wsV RX2 106 RX2 yX2_whereIs wsX2_whereIs) := goodIn_app (goodIn_of _ (by decide +kernel)) ggX2_holds_X2_whereIs
theorem dX2_holds_0 : decode cX2_holds 0 = .ok (.aload_n 0, 1) := by decide +kernel
theorem dX2_holds_1 : decode cX2_holds 1 = .ok (.getfield 30, 3) := by decide +kernel
theorem dX2_holds_4 : decode cX2_holds 4 = .ok (.getstatic 103, 3) := by decide +kernel
theorem dX2_holds_7 : decode cX2_holds 7 = .ok (.if_acmp .ne 16, 3) := by decide +kernel
theorem dX2_holds_10 : decode cX2_holds 10 = .ok (.aload_n 0, 1) := by decide +kernel
theorem dX2_holds_11 : decode cX2_holds 11 = .ok (.iload_n 1, 1) := by decide +kernel
theorem dX2_holds_12 : decode cX2_holds 12 = .ok (.iload_n 2, 1) := by decide +kernel
theorem dX2_holds_13 : decode cX2_holds 13 = .ok (.invokevirtual 106, 3) := by decide +kernel
theorem dX2_holds_16 : decode cX2_holds 16 = .ok (.ifCond .eq 7, 3) := by decide +kernel
theorem dX2_holds_19 : decode cX2_holds 19 = .ok (.iconst 1, 1) := by decide +kernel
theorem dX2_holds_20 : decode cX2_holds 20 = .ok (.goto 4, 3) := by decide +kernel
theorem dX2_holds_23 : decode cX2_holds 23 = .ok (.iconst 0, 1) := by decide +kernel
theorem dX2_holds_24 : decode cX2_holds 24 = .ok (.ireturn, 1) := by decide +kernel
theorem dX2_sideCount_0 : decode cX2_sideCount 0 = .ok (.aload_n 0, 1) := by decide +kernel
theorem dX2_sideCount_1 : decode cX2_sideCount 1 = .ok (.getfield 30, 3) := by decide +kernel
theorem dX2_sideCount_4 : decode cX2_sideCount 4 = .ok (.getstatic 109, 3) := by decide +kernel
theorem dX2_sideCount_7 : decode cX2_sideCount 7 = .ok (.if_acmp .ne 12, 3) := by decide +kernel
theorem dX2_sideCount_10 : decode cX2_sideCount 10 = .ok (.aload_n 0, 1) := by decide +kernel
theorem dX2_sideCount_11 : decode cX2_sideCount 11 = .ok (.getfield 9, 3) := by decide +kernel
theorem dX2_sideCount_14 : decode cX2_sideCount 14 = .ok (.iconst 1, 1) := by decide +kernel
theorem dX2_sideCount_15 : decode cX2_sideCount 15 = .ok (.isub, 1) := by decide +kernel
theorem dX2_sideCount_16 : decode cX2_sideCount 16 = .ok (.goto 7, 3) := by decide +kernel
theorem dX2_sideCount_19 : decode cX2_sideCount 19 = .ok (.aload_n 0, 1) := by decide +kernel
theorem dX2_sideCount_20 : decode cX2_sideCount 20 = .ok (.getfield 9, 3) := by decide +kernel
theorem dX2_sideCount_23 : decode cX2_sideCount 23 = .ok (.ireturn, 1) := by decide +kernel
set_option maxRecDepth 20000 in
theorem ggX2_judge_X2_sideCount : GoodIn wsX2_judge wsX2_sideCount := goodIn_r _ [9, 2, 10, 1, 44, 45, 46, 47, 48, 49, 50, 51, 52] (by decide +kernel) (by decide +kernel)
set_option maxRecDepth 20000 in
theorem gX2_judge_X2_sideCount : GoodIn wsX2_judge (wsV RX2 67 RX2 yX2_sideCount wsX2_sideCount) := goodIn_app (goodIn_of _ (by decide +kernel)) ggX2_judge_X2_sideCount
set_option maxRecDepth 20000 in
theorem ggX2_judge_X2_isWrongSide : GoodIn wsX2_judge wsX2_isWrongSide := goodIn_r _ [14, 15, 16, 2, 17, 1, 18, 19, 20, 8, 21, 22, 23, 24, 25, 26, 27, 28, 29, 30, 31, 32, 33, 34, 35, 36, 37, 38, 39, 40, 41, 42, 43, 44, 45, 46, 47, 48, 49, 50, 51, 52] (by decide +kernel) (by decide +kernel)
set_option maxRecDepth 20000 in
theorem gX2_judge_X2_isWrongSide : GoodIn wsX2_judge (wsV RX2 118 RX2 yX2_isWrongSide wsX2_isWrongSide) := goodIn_app (goodIn_of _ (by decide +kernel)) ggX2_judge_X2_isWrongSide
theorem dX2_judge_0 : decode cX2_judge 0 = .ok (.aload_n 0, 1) := by decide +kernel
theorem dX2_judge_1 : decode cX2_judge 1 = .ok (.getfield 9, 3) := by decide +kernel
theorem dX2_judge_4 : decode cX2_judge 4 = .ok (.aload_n 0, 1) := by decide +kernel
theorem dX2_judge_5 : decode cX2_judge 5 = .ok (.getfield 30, 3) := by decide +kernel
theorem dX2_judge_8 : decode cX2_judge 8 = .ok (.getfield 112, 3) := by decide +kernel
theorem dX2_judge_11 : decode cX2_judge 11 = .ok (.if_icmp .ge 5, 3) := by decide +kernel
theorem dX2_judge_14 : decode cX2_judge 14 = .ok (.iconst 0, 1) := by decide +kernel
theorem dX2_judge_15 : decode cX2_judge 15 = .ok (.ireturn, 1) := by decide +kernel
theorem dX2_judge_16 : decode cX2_judge 16 = .ok (.aload_n 0, 1) := by decide +kernel
theorem dX2_judge_17 : decode cX2_judge 17 = .ok (.getfield 30, 3) := by decide +kernel
theorem dX2_judge_20 : decode cX2_judge 20 = .ok (.getstatic 115, 3) := by decide +kernel
theorem dX2_judge_23 : decode cX2_judge 23 = .ok (.if_acmp .ne 5, 3) := by decide +kernel
theorem dX2_judge_26 : decode cX2_judge 26 = .ok (.iconst 1, 1) := by decide +kernel
theorem dX2_judge_27 : decode cX2_judge 27 = .ok (.ireturn, 1) := by decide +kernel
theorem dX2_judge_28 : decode cX2_judge 28 = .ok (.iconst 0, 1) := by decide +kernel
theorem dX2_judge_29 : decode cX2_judge 29 = .ok (.istore_n 1, 1) := by decide +kernel
theorem dX2_judge_30 : decode cX2_judge 30 = .ok (.iload_n 1, 1) := by decide +kernel
theorem dX2_judge_31 : decode cX2_judge 31 = .ok (.aload_n 0, 1) := by decide +kernel
theorem dX2_judge_32 : decode cX2_judge 32 = .ok (.invokevirtual 67, 3) := by decide +kernel
theorem dX2_judge_35 : decode cX2_judge 35 = .ok (.if_icmp .ge 22, 3) := by decide +kernel
theorem dX2_judge_38 : decode cX2_judge 38 = .ok (.aload_n 0, 1) := by decide +kernel
theorem dX2_judge_39 : decode cX2_judge 39 = .ok (.iload_n 1, 1) := by decide +kernel
theorem dX2_judge_40 : decode cX2_judge 40 = .ok (.invokevirtual 118, 3) := by decide +kernel
theorem dX2_judge_43 : decode cX2_judge 43 = .ok (.ifCond .eq 8, 3) := by decide +kernel
theorem dX2_judge_46 : decode cX2_judge 46 = .ok (.bipush (-10), 2) := by decide +kernel
theorem dX2_judge_48 : decode cX2_judge 48 = .ok (.iload_n 1, 1) := by decide +kernel
theorem dX2_judge_49 : decode cX2_judge 49 = .ok (.isub, 1) := by decide +kernel
theorem dX2_judge_50 : decode cX2_judge 50 = .ok (.ireturn, 1) := by decide +kernel
theorem dX2_judge_51 : decode cX2_judge 51 = .ok (.iinc 1 1, 3) := by decide +kernel
theorem dX2_judge_54 : decode cX2_judge 54 = .ok (.goto (-24), 3) := by decide +kernel
theorem dX2_judge_57 : decode cX2_judge 57 = .ok (.iconst 1, 1) := by decide +kernel
theorem dX2_judge_58 : decode cX2_judge 58 = .ok (.ireturn, 1) := by decide +kernel
set_option maxRecDepth 20000 in
theorem ggX2_isWrongSide_X2_clash : GoodIn wsX2_isWrongSide wsX2_clash := goodIn_r _ [10, 5, 11, 12, 13, 9, 14, 1, 2, 15, 16, 17, 18, 19, 20, 21, 22, 23, 24, 25, 26, 27, 28, 29, 30, 31, 32, 33, 34, 35, 36, 37, 38, 39, 40, 41] (by decide +kernel) (by decide +kernel)
set_option maxRecDepth 20000 in
theorem gX2_isWrongSide_X2_clash : GoodIn wsX2_isWrongSide (wsV RX2 122 RX2 yX2_clash wsX2_clash) := goodIn_app (goodIn_of _ (by decide +kernel)) ggX2_isWrongSide_X2_clash
theorem dX2_isWrongSide_0 : decode cX2_isWrongSide 0 = .ok (.aload_n 0, 1) := by decide +kernel
theorem dX2_isWrongSide_1 : decode cX2_isWrongSide 1 = .ok (.getfield 39, 3) := by decide +kernel
theorem dX2_isWrongSide_4 : decode cX2_isWrongSide 4 = .ok (.iload_n 1, 1) := by decide +kernel
theorem dX2_isWrongSide_5 : decode cX2_isWrongSide 5 = .ok (.iaload, 1) := by decide +kernel
theorem dX2_isWrongSide_6 : decode cX2_isWrongSide 6 = .ok (.aload_n 0, 1) := by decide +kernel
theorem dX2_isWrongSide_7 : decode cX2_isWrongSide 7 = .ok (.getfield 39, 3) := by decide +kernel
theorem dX2_isWrongSide_10 : decode cX2_isWrongSide 10 = .ok (.iload_n 1, 1) := by decide +kernel
theorem dX2_isWrongSide_11 : decode cX2_isWrongSide 11 = .ok (.iconst 1, 1) := by decide +kernel
theorem dX2_isWrongSide_12 : decode cX2_isWrongSide 12 = .ok (.iadd, 1) := by decide +kernel
theorem dX2_isWrongSide_13 : decode cX2_isWrongSide 13 = .ok (.iaload, 1) := by decide +kernel
theorem dX2_isWrongSide_14 : decode cX2_isWrongSide 14 = .ok (.if_icmp .ne 22, 3) := by decide +kernel
theorem dX2_isWrongSide_17 : decode cX2_isWrongSide 17 = .ok (.aload_n 0, 1) := by decide +kernel
theorem dX2_isWrongSide_18 : decode cX2_isWrongSide 18 = .ok (.getfield 43, 3) := by decide +kernel
theorem dX2_isWrongSide_21 : decode cX2_isWrongSide 21 = .ok (.iload_n 1, 1) := by decide +kernel
theorem dX2_isWrongSide_22 : decode cX2_isWrongSide 22 = .ok (.iaload, 1) := by decide +kernel
theorem dX2_isWrongSide_23 : decode cX2_isWrongSide 23 = .ok (.aload_n 0, 1) := by decide +kernel
theorem dX2_isWrongSide_24 : decode cX2_isWrongSide 24 = .ok (.getfield 43, 3) := by decide +kernel
theorem dX2_isWrongSide_27 : decode cX2_isWrongSide 27 = .ok (.iload_n 1, 1) := by decide +kernel
theorem dX2_isWrongSide_28 : decode cX2_isWrongSide 28 = .ok (.iconst 1, 1) := by decide +kernel
theorem dX2_isWrongSide_29 : decode cX2_isWrongSide 29 = .ok (.iadd, 1) := by decide +kernel
theorem dX2_isWrongSide_30 : decode cX2_isWrongSide 30 = .ok (.iaload, 1) := by decide +kernel
theorem dX2_isWrongSide_31 : decode cX2_isWrongSide 31 = .ok (.if_icmp .ne 5, 3) := by decide +kernel
theorem dX2_isWrongSide_34 : decode cX2_isWrongSide 34 = .ok (.iconst 1, 1) := by decide +kernel
theorem dX2_isWrongSide_35 : decode cX2_isWrongSide 35 = .ok (.ireturn, 1) := by decide +kernel
theorem dX2_isWrongSide_36 : decode cX2_isWrongSide 36 = .ok (.aload_n 0, 1) := by decide +kernel
theorem dX2_isWrongSide_37 : decode cX2_isWrongSide 37 = .ok (.getfield 30, 3) := by decide +kernel
theorem dX2_isWrongSide_40 : decode cX2_isWrongSide 40 = .ok (.getstatic 103, 3) := by decide +kernel
theorem dX2_isWrongSide_43 : decode cX2_isWrongSide 43 = .ok (.if_acmp .eq 5, 3) := by decide +kernel
theorem dX2_isWrongSide_46 : decode cX2_isWrongSide 46 = .ok (.iconst 0, 1) := by decide +kernel
theorem dX2_isWrongSide_47 : decode cX2_isWrongSide 47 = .ok (.ireturn, 1) := by decide +kernel
theorem dX2_isWrongSide_48 : decode cX2_isWrongSide 48 = .ok (.iload_n 1, 1) := by decide +kernel
theorem dX2_isWrongSide_49 : decode cX2_isWrongSide 49 = .ok (.iconst 1, 1) := by decide +kernel
theorem dX2_isWrongSide_50 : decode cX2_isWrongSide 50 = .ok (.iadd, 1) := by decide +kernel
theorem dX2_isWrongSide_51 : decode cX2_isWrongSide 51 = .ok (.istore_n 2, 1) := by decide +kernel
theorem dX2_isWrongSide_52 : decode cX2_isWrongSide 52 = .ok (.iload_n 2, 1) := by decide +kernel
theorem dX2_isWrongSide_53 : decode cX2_isWrongSide 53 = .ok (.aload_n 0, 1) := by decide +kernel
theorem dX2_isWrongSide_54 : decode cX2_isWrongSide 54 = .ok (.getfield 9, 3) := by decide +kernel
theorem dX2_isWrongSide_57 : decode cX2_isWrongSide 57 = .ok (.if_icmp .ge 20, 3) := by decide +kernel
theorem dX2_isWrongSide_60 : decode cX2_isWrongSide 60 = .ok (.aload_n 0, 1) := by decide +kernel
theorem dX2_isWrongSide_61 : decode cX2_isWrongSide 61 = .ok (.iload_n 1, 1) := by decide +kernel
theorem dX2_isWrongSide_62 : decode cX2_isWrongSide 62 = .ok (.iload_n 2, 1) := by decide +kernel
theorem dX2_isWrongSide_63 : decode cX2_isWrongSide 63 = .ok (.invokevirtual 122, 3) := by decide +kernel
theorem dX2_isWrongSide_66 : decode cX2_isWrongSide 66 = .ok (.ifCond .eq 5, 3) := by decide +kernel
theorem dX2_isWrongSide_69 : decode cX2_isWrongSide 69 = .ok (.iconst 1, 1) := by decide +kernel
theorem dX2_isWrongSide_70 : decode cX2_isWrongSide 70 = .ok (.ireturn, 1) := by decide +kernel
theorem dX2_isWrongSide_71 : decode cX2_isWrongSide 71 = .ok (.iinc 2 1, 3) := by decide +kernel
theorem dX2_isWrongSide_74 : decode cX2_isWrongSide 74 = .ok (.goto (-22), 3) := by decide +kernel
theorem dX2_isWrongSide_77 : decode cX2_isWrongSide 77 = .ok (.iconst 0, 1) := by decide +kernel
theorem dX2_isWrongSide_78 : decode cX2_isWrongSide 78 = .ok (.ireturn, 1) := by decide +kernel
set_option maxRecDepth 20000 in
theorem ggX2_clash_X2_foldsBack : GoodIn wsX2_clash wsX2_foldsBack := goodIn_r _ [6, 7, 8, 27, 28, 29, 30, 31, 32, 33, 34, 35] (by decide +kernel) (by decide +kernel)
set_option maxRecDepth 20000 in
theorem gX2_clash_X2_foldsBack : GoodIn wsX2_clash (wsV RX2 125 RX2 yX2_foldsBack wsX2_foldsBack) := goodIn_app (goodIn_of _ (by decide +kernel)) ggX2_clash_X2_foldsBack
set_option maxRecDepth 20000 in
theorem ggX2_clash_X2_sideTouches : GoodIn wsX2_clash wsX2_sideTouches := goodIn_r _ [12, 7, 8, 13, 14, 5, 15, 16, 17, 18, 19, 20, 21, 22, 23, 24, 25, 26, 27, 28, 29, 30, 31, 32, 33, 34, 35] (by decide +kernel) (by decide +kernel)
set_option maxRecDepth 20000 in
theorem gX2_clash_X2_sideTouches : GoodIn wsX2_clash (wsV RX2 70 RX2 yX2_sideTouches wsX2_sideTouches) := goodIn_app (goodIn_of _ (by decide +kernel)) ggX2_clash_X2_sideTouches
theorem dX2_clash_0 : decode cX2_clash 0 = .ok (.iload_n 2, 1) := by decide +kernel
theorem dX2_clash_1 : decode cX2_clash 1 = .ok (.iload_n 1, 1) := by decide +kernel
theorem dX2_clash_2 : decode cX2_clash 2 = .ok (.iconst 1, 1) := by decide +kernel
theorem dX2_clash_3 : decode cX2_clash 3 = .ok (.iadd, 1) := by decide +kernel
theorem dX2_clash_4 : decode cX2_clash 4 = .ok (.if_icmp .ne 10, 3) := by decide +kernel
theorem dX2_clash_7 : decode cX2_clash 7 = .ok (.aload_n 0, 1) := by decide +kernel
theorem dX2_clash_8 : decode cX2_clash 8 = .ok (.iload_n 1, 1) := by decide +kernel
theorem dX2_clash_9 : decode cX2_clash 9 = .ok (.iload_n 2, 1) := by decide +kernel
theorem dX2_clash_10 : decode cX2_clash 10 = .ok (.invokevirtual 125, 3) := by decide +kernel
theorem dX2_clash_13 : decode cX2_clash 13 = .ok (.ireturn, 1) := by decide +kernel
theorem dX2_clash_14 : decode cX2_clash 14 = .ok (.iload_n 1, 1) := by decide +kernel
theorem dX2_clash_15 : decode cX2_clash 15 = .ok (.ifCond .ne 20, 3) := by decide +kernel
theorem dX2_clash_18 : decode cX2_clash 18 = .ok (.iload_n 2, 1) := by decide +kernel
theorem dX2_clash_19 : decode cX2_clash 19 = .ok (.aload_n 0, 1) := by decide +kernel
theorem dX2_clash_20 : decode cX2_clash 20 = .ok (.getfield 9, 3) := by decide +kernel
theorem dX2_clash_23 : decode cX2_clash 23 = .ok (.iconst 1, 1) := by decide +kernel
theorem dX2_clash_24 : decode cX2_clash 24 = .ok (.isub, 1) := by decide +kernel
theorem dX2_clash_25 : decode cX2_clash 25 = .ok (.if_icmp .ne 10, 3) := by decide +kernel
theorem dX2_clash_28 : decode cX2_clash 28 = .ok (.aload_n 0, 1) := by decide +kernel
theorem dX2_clash_29 : decode cX2_clash 29 = .ok (.iload_n 2, 1) := by decide +kernel
theorem dX2_clash_30 : decode cX2_clash 30 = .ok (.iload_n 1, 1) := by decide +kernel
theorem dX2_clash_31 : decode cX2_clash 31 = .ok (.invokevirtual 125, 3) := by decide +kernel
theorem dX2_clash_34 : decode cX2_clash 34 = .ok (.ireturn, 1) := by decide +kernel
theorem dX2_clash_35 : decode cX2_clash 35 = .ok (.aload_n 0, 1) := by decide +kernel
theorem dX2_clash_36 : decode cX2_clash 36 = .ok (.iload_n 1, 1) := by decide +kernel
theorem dX2_clash_37 : decode cX2_clash 37 = .ok (.aload_n 0, 1) := by decide +kernel
theorem dX2_clash_38 : decode cX2_clash 38 = .ok (.iload_n 2, 1) := by decide +kernel
theorem dX2_clash_39 : decode cX2_clash 39 = .ok (.invokevirtual 70, 3) := by decide +kernel
theorem dX2_clash_42 : decode cX2_clash 42 = .ok (.ireturn, 1) := by decide +kernel
theorem dX2_foldsBack_0 : decode cX2_foldsBack 0 = .ok (.aload_n 0, 1) := by decide +kernel
theorem dX2_foldsBack_1 : decode cX2_foldsBack 1 = .ok (.getfield 39, 3) := by decide +kernel
theorem dX2_foldsBack_4 : decode cX2_foldsBack 4 = .ok (.iload_n 1, 1) := by decide +kernel
theorem dX2_foldsBack_5 : decode cX2_foldsBack 5 = .ok (.iaload, 1) := by decide +kernel
theorem dX2_foldsBack_6 : decode cX2_foldsBack 6 = .ok (.aload_n 0, 1) := by decide +kernel
theorem dX2_foldsBack_7 : decode cX2_foldsBack 7 = .ok (.getfield 39, 3) := by decide +kernel
theorem dX2_foldsBack_10 : decode cX2_foldsBack 10 = .ok (.iload_n 2, 1) := by decide +kernel
theorem dX2_foldsBack_11 : decode cX2_foldsBack 11 = .ok (.iaload, 1) := by decide +kernel
theorem dX2_foldsBack_12 : decode cX2_foldsBack 12 = .ok (.isub, 1) := by decide +kernel
theorem dX2_foldsBack_13 : decode cX2_foldsBack 13 = .ok (.i2l, 1) := by decide +kernel
theorem dX2_foldsBack_14 : decode cX2_foldsBack 14 = .ok (.lstore_n 3, 1) := by decide +kernel
theorem dX2_foldsBack_15 : decode cX2_foldsBack 15 = .ok (.aload_n 0, 1) := by decide +kernel
theorem dX2_foldsBack_16 : decode cX2_foldsBack 16 = .ok (.getfield 43, 3) := by decide +kernel
theorem dX2_foldsBack_19 : decode cX2_foldsBack 19 = .ok (.iload_n 1, 1) := by decide +kernel
theorem dX2_foldsBack_20 : decode cX2_foldsBack 20 = .ok (.iaload, 1) := by decide +kernel
theorem dX2_foldsBack_21 : decode cX2_foldsBack 21 = .ok (.aload_n 0, 1) := by decide +kernel
theorem dX2_foldsBack_22 : decode cX2_foldsBack 22 = .ok (.getfield 43, 3) := by decide +kernel
theorem dX2_foldsBack_25 : decode cX2_foldsBack 25 = .ok (.iload_n 2, 1) := by decide +kernel
theorem dX2_foldsBack_26 : decode cX2_foldsBack 26 = .ok (.iaload, 1) := by decide +kernel
theorem dX2_foldsBack_27 : decode cX2_foldsBack 27 = .ok (.isub, 1) := by decide +kernel
theorem dX2_foldsBack_28 : decode cX2_foldsBack 28 = .ok (.i2l, 1) := by decide +kernel
theorem dX2_foldsBack_29 : decode cX2_foldsBack 29 = .ok (.lstore 5, 2) := by decide +kernel
theorem dX2_foldsBack_31 : decode cX2_foldsBack 31 = .ok (.aload_n 0, 1) := by decide +kernel
theorem dX2_foldsBack_32 : decode cX2_foldsBack 32 = .ok (.getfield 39, 3) := by decide +kernel
theorem dX2_foldsBack_35 : decode cX2_foldsBack 35 = .ok (.iload_n 2, 1) := by decide +kernel
theorem dX2_foldsBack_36 : decode cX2_foldsBack 36 = .ok (.iconst 1, 1) := by decide +kernel
theorem dX2_foldsBack_37 : decode cX2_foldsBack 37 = .ok (.iadd, 1) := by decide +kernel
theorem dX2_foldsBack_38 : decode cX2_foldsBack 38 = .ok (.iaload, 1) := by decide +kernel
theorem dX2_foldsBack_39 : decode cX2_foldsBack 39 = .ok (.aload_n 0, 1) := by decide +kernel
theorem dX2_foldsBack_40 : decode cX2_foldsBack 40 = .ok (.getfield 39, 3) := by decide +kernel
theorem dX2_foldsBack_43 : decode cX2_foldsBack 43 = .ok (.iload_n 2, 1) := by decide +kernel
theorem dX2_foldsBack_44 : decode cX2_foldsBack 44 = .ok (.iaload, 1) := by decide +kernel
theorem dX2_foldsBack_45 : decode cX2_foldsBack 45 = .ok (.isub, 1) := by decide +kernel
theorem dX2_foldsBack_46 : decode cX2_foldsBack 46 = .ok (.i2l, 1) := by decide +kernel
theorem dX2_foldsBack_47 : decode cX2_foldsBack 47 = .ok (.lstore 7, 2) := by decide +kernel
theorem dX2_foldsBack_49 : decode cX2_foldsBack 49 = .ok (.aload_n 0, 1) := by decide +kernel
theorem dX2_foldsBack_50 : decode cX2_foldsBack 50 = .ok (.getfield 43, 3) := by decide +kernel
theorem dX2_foldsBack_53 : decode cX2_foldsBack 53 = .ok (.iload_n 2, 1) := by decide +kernel
theorem dX2_foldsBack_54 : decode cX2_foldsBack 54 = .ok (.iconst 1, 1) := by decide +kernel
theorem dX2_foldsBack_55 : decode cX2_foldsBack 55 = .ok (.iadd, 1) := by decide +kernel
theorem dX2_foldsBack_56 : decode cX2_foldsBack 56 = .ok (.iaload, 1) := by decide +kernel
theorem dX2_foldsBack_57 : decode cX2_foldsBack 57 = .ok (.aload_n 0, 1) := by decide +kernel
theorem dX2_foldsBack_58 : decode cX2_foldsBack 58 = .ok (.getfield 43, 3) := by decide +kernel
theorem dX2_foldsBack_61 : decode cX2_foldsBack 61 = .ok (.iload_n 2, 1) := by decide +kernel
theorem dX2_foldsBack_62 : decode cX2_foldsBack 62 = .ok (.iaload, 1) := by decide +kernel
theorem dX2_foldsBack_63 : decode cX2_foldsBack 63 = .ok (.isub, 1) := by decide +kernel
theorem dX2_foldsBack_64 : decode cX2_foldsBack 64 = .ok (.i2l, 1) := by decide +kernel
theorem dX2_foldsBack_65 : decode cX2_foldsBack 65 = .ok (.lstore 9, 2) := by decide +kernel
theorem dX2_foldsBack_67 : decode cX2_foldsBack 67 = .ok (.lload_n 3, 1) := by decide +kernel
theorem dX2_foldsBack_68 : decode cX2_foldsBack 68 = .ok (.lload 9, 2) := by decide +kernel
theorem dX2_foldsBack_70 : decode cX2_foldsBack 70 = .ok (.lmul, 1) := by decide +kernel
theorem dX2_foldsBack_71 : decode cX2_foldsBack 71 = .ok (.lload 5, 2) := by decide +kernel
theorem dX2_foldsBack_73 : decode cX2_foldsBack 73 = .ok (.lload 7, 2) := by decide +kernel
theorem dX2_foldsBack_75 : decode cX2_foldsBack 75 = .ok (.lmul, 1) := by decide +kernel
theorem dX2_foldsBack_76 : decode cX2_foldsBack 76 = .ok (.lcmp, 1) := by decide +kernel
theorem dX2_foldsBack_77 : decode cX2_foldsBack 77 = .ok (.ifCond .ne 22, 3) := by decide +kernel
theorem dX2_foldsBack_80 : decode cX2_foldsBack 80 = .ok (.lload_n 3, 1) := by decide +kernel
theorem dX2_foldsBack_81 : decode cX2_foldsBack 81 = .ok (.lload 7, 2) := by decide +kernel
theorem dX2_foldsBack_83 : decode cX2_foldsBack 83 = .ok (.lmul, 1) := by decide +kernel
theorem dX2_foldsBack_84 : decode cX2_foldsBack 84 = .ok (.lload 5, 2) := by decide +kernel
theorem dX2_foldsBack_86 : decode cX2_foldsBack 86 = .ok (.lload 9, 2) := by decide +kernel
theorem dX2_foldsBack_88 : decode cX2_foldsBack 88 = .ok (.lmul, 1) := by decide +kernel
theorem dX2_foldsBack_89 : decode cX2_foldsBack 89 = .ok (.ladd, 1) := by decide +kernel
theorem dX2_foldsBack_90 : decode cX2_foldsBack 90 = .ok (.lconst 0, 1) := by decide +kernel
theorem dX2_foldsBack_91 : decode cX2_foldsBack 91 = .ok (.lcmp, 1) := by decide +kernel
theorem dX2_foldsBack_92 : decode cX2_foldsBack 92 = .ok (.ifCond .le 7, 3) := by decide +kernel
theorem dX2_foldsBack_95 : decode cX2_foldsBack 95 = .ok (.iconst 1, 1) := by decide +kernel
theorem dX2_foldsBack_96 : decode cX2_foldsBack 96 = .ok (.goto 4, 3) := by decide +kernel
theorem dX2_foldsBack_99 : decode cX2_foldsBack 99 = .ok (.iconst 0, 1) := by decide +kernel
theorem dX2_foldsBack_100 : decode cX2_foldsBack 100 = .ok (.ireturn, 1) := by decide +kernel
set_option maxRecDepth 20000 in
theorem ggX2_sideTouches_X2_overlap : GoodIn wsX2_sideTouches wsX2_overlap := goodIn_r _ [6, 7, 8, 9, 10, 11, 12, 13] (by decide +kernel) (by decide +kernel)
set_option maxRecDepth 20000 in
theorem gX2_sideTouches_X2_overlap : GoodIn wsX2_sideTouches (va_wsS RX2 63 yX2_overlap wsX2_overlap) := goodIn_app (goodIn_of _ (by decide +kernel)) ggX2_sideTouches_X2_overlap
set_option maxRecDepth 20000 in
theorem ggX2_sideTouches_X2_turn : GoodIn wsX2_sideTouches wsX2_turn := goodIn_r _ [17, 1, 2, 18, 19, 20, 21, 22, 23, 24, 25, 26] (by decide +kernel) (by decide +kernel)
set_option maxRecDepth 20000 in
theorem gX2_sideTouches_X2_turn : GoodIn wsX2_sideTouches (wsV RX2 59 RX2 yX2_turn wsX2_turn) := goodIn_app (goodIn_of _ (by decide +kernel)) ggX2_sideTouches_X2_turn
theorem dX2_sideTouches_0 : decode cX2_sideTouches 0 = .ok (.aload_n 2, 1) := by decide +kernel
theorem dX2_sideTouches_1 : decode cX2_sideTouches 1 = .ok (.getfield 39, 3) := by decide +kernel
theorem dX2_sideTouches_4 : decode cX2_sideTouches 4 = .ok (.astore 4, 2) := by decide +kernel
theorem dX2_sideTouches_6 : decode cX2_sideTouches 6 = .ok (.aload_n 2, 1) := by decide +kernel
theorem dX2_sideTouches_7 : decode cX2_sideTouches 7 = .ok (.getfield 43, 3) := by decide +kernel
theorem dX2_sideTouches_10 : decode cX2_sideTouches 10 = .ok (.astore 5, 2) := by decide +kernel
theorem dX2_sideTouches_12 : decode cX2_sideTouches 12 = .ok (.aload_n 0, 1) := by decide +kernel
theorem dX2_sideTouches_13 : decode cX2_sideTouches 13 = .ok (.getfield 39, 3) := by decide +kernel
theorem dX2_sideTouches_16 : decode cX2_sideTouches 16 = .ok (.iload_n 1, 1) := by decide +kernel
theorem dX2_sideTouches_17 : decode cX2_sideTouches 17 = .ok (.iaload, 1) := by decide +kernel
theorem dX2_sideTouches_18 : decode cX2_sideTouches 18 = .ok (.aload_n 0, 1) := by decide +kernel
theorem dX2_sideTouches_19 : decode cX2_sideTouches 19 = .ok (.getfield 39, 3) := by decide +kernel
theorem dX2_sideTouches_22 : decode cX2_sideTouches 22 = .ok (.iload_n 1, 1) := by decide +kernel
theorem dX2_sideTouches_23 : decode cX2_sideTouches 23 = .ok (.iconst 1, 1) := by decide +kernel
theorem dX2_sideTouches_24 : decode cX2_sideTouches 24 = .ok (.iadd, 1) := by decide +kernel
theorem dX2_sideTouches_25 : decode cX2_sideTouches 25 = .ok (.iaload, 1) := by decide +kernel
theorem dX2_sideTouches_26 : decode cX2_sideTouches 26 = .ok (.aload 4, 2) := by decide +kernel
theorem dX2_sideTouches_28 : decode cX2_sideTouches 28 = .ok (.iload_n 3, 1) := by decide +kernel
theorem dX2_sideTouches_29 : decode cX2_sideTouches 29 = .ok (.iaload, 1) := by decide +kernel
theorem dX2_sideTouches_30 : decode cX2_sideTouches 30 = .ok (.aload 4, 2) := by decide +kernel
theorem dX2_sideTouches_32 : decode cX2_sideTouches 32 = .ok (.iload_n 3, 1) := by decide +kernel
theorem dX2_sideTouches_33 : decode cX2_sideTouches 33 = .ok (.iconst 1, 1) := by decide +kernel
theorem dX2_sideTouches_34 : decode cX2_sideTouches 34 = .ok (.iadd, 1) := by decide +kernel
theorem dX2_sideTouches_35 : decode cX2_sideTouches 35 = .ok (.iaload, 1) := by decide +kernel
theorem dX2_sideTouches_36 : decode cX2_sideTouches 36 = .ok (.invokestatic 63, 3) := by decide +kernel
theorem dX2_sideTouches_39 : decode cX2_sideTouches 39 = .ok (.ifCond .eq 117, 3) := by decide +kernel
theorem dX2_sideTouches_42 : decode cX2_sideTouches 42 = .ok (.aload_n 0, 1) := by decide +kernel
theorem dX2_sideTouches_43 : decode cX2_sideTouches 43 = .ok (.getfield 43, 3) := by decide +kernel
theorem dX2_sideTouches_46 : decode cX2_sideTouches 46 = .ok (.iload_n 1, 1) := by decide +kernel
theorem dX2_sideTouches_47 : decode cX2_sideTouches 47 = .ok (.iaload, 1) := by decide +kernel
theorem dX2_sideTouches_48 : decode cX2_sideTouches 48 = .ok (.aload_n 0, 1) := by decide +kernel
theorem dX2_sideTouches_49 : decode cX2_sideTouches 49 = .ok (.getfield 43, 3) := by decide +kernel
theorem dX2_sideTouches_52 : decode cX2_sideTouches 52 = .ok (.iload_n 1, 1) := by decide +kernel
theorem dX2_sideTouches_53 : decode cX2_sideTouches 53 = .ok (.iconst 1, 1) := by decide +kernel
theorem dX2_sideTouches_54 : decode cX2_sideTouches 54 = .ok (.iadd, 1) := by decide +kernel
theorem dX2_sideTouches_55 : decode cX2_sideTouches 55 = .ok (.iaload, 1) := by decide +kernel
theorem dX2_sideTouches_56 : decode cX2_sideTouches 56 = .ok (.aload 5, 2) := by decide +kernel
theorem dX2_sideTouches_58 : decode cX2_sideTouches 58 = .ok (.iload_n 3, 1) := by decide +kernel
theorem dX2_sideTouches_59 : decode cX2_sideTouches 59 = .ok (.iaload, 1) := by decide +kernel
theorem dX2_sideTouches_60 : decode cX2_sideTouches 60 = .ok (.aload 5, 2) := by decide +kernel
theorem dX2_sideTouches_62 : decode cX2_sideTouches 62 = .ok (.iload_n 3, 1) := by decide +kernel
theorem dX2_sideTouches_63 : decode cX2_sideTouches 63 = .ok (.iconst 1, 1) := by decide +kernel
theorem dX2_sideTouches_64 : decode cX2_sideTouches 64 = .ok (.iadd, 1) := by decide +kernel
theorem dX2_sideTouches_65 : decode cX2_sideTouches 65 = .ok (.iaload, 1) := by decide +kernel
theorem dX2_sideTouches_66 : decode cX2_sideTouches 66 = .ok (.invokestatic 63, 3) := by decide +kernel
theorem dX2_sideTouches_69 : decode cX2_sideTouches 69 = .ok (.ifCond .eq 87, 3) := by decide +kernel
theorem dX2_sideTouches_72 : decode cX2_sideTouches 72 = .ok (.aload_n 0, 1) := by decide +kernel
theorem dX2_sideTouches_73 : decode cX2_sideTouches 73 = .ok (.iload_n 1, 1) := by decide +kernel
theorem dX2_sideTouches_74 : decode cX2_sideTouches 74 = .ok (.aload 4, 2) := by decide +kernel
theorem dX2_sideTouches_76 : decode cX2_sideTouches 76 = .ok (.iload_n 3, 1) := by decide +kernel
theorem dX2_sideTouches_77 : decode cX2_sideTouches 77 = .ok (.iaload, 1) := by decide +kernel
theorem dX2_sideTouches_78 : decode cX2_sideTouches 78 = .ok (.aload 5, 2) := by decide +kernel
theorem dX2_sideTouches_80 : decode cX2_sideTouches 80 = .ok (.iload_n 3, 1) := by decide +kernel
theorem dX2_sideTouches_81 : decode cX2_sideTouches 81 = .ok (.iaload, 1) := by decide +kernel
theorem dX2_sideTouches_82 : decode cX2_sideTouches 82 = .ok (.invokevirtual 59, 3) := by decide +kernel
theorem dX2_sideTouches_85 : decode cX2_sideTouches 85 = .ok (.aload_n 0, 1) := by decide +kernel
theorem dX2_sideTouches_86 : decode cX2_sideTouches 86 = .ok (.iload_n 1, 1) := by decide +kernel
theorem dX2_sideTouches_87 : decode cX2_sideTouches 87 = .ok (.aload 4, 2) := by decide +kernel
theorem dX2_sideTouches_89 : decode cX2_sideTouches 89 = .ok (.iload_n 3, 1) := by decide +kernel
theorem dX2_sideTouches_90 : decode cX2_sideTouches 90 = .ok (.iconst 1, 1) := by decide +kernel
theorem dX2_sideTouches_91 : decode cX2_sideTouches 91 = .ok (.iadd, 1) := by decide +kernel
theorem dX2_sideTouches_92 : decode cX2_sideTouches 92 = .ok (.iaload, 1) := by decide +kernel
theorem dX2_sideTouches_93 : decode cX2_sideTouches 93 = .ok (.aload 5, 2) := by decide +kernel
theorem dX2_sideTouches_95 : decode cX2_sideTouches 95 = .ok (.iload_n 3, 1) := by decide +kernel
theorem dX2_sideTouches_96 : decode cX2_sideTouches 96 = .ok (.iconst 1, 1) := by decide +kernel
theorem dX2_sideTouches_97 : decode cX2_sideTouches 97 = .ok (.iadd, 1) := by decide +kernel
theorem dX2_sideTouches_98 : decode cX2_sideTouches 98 = .ok (.iaload, 1) := by decide +kernel
theorem dX2_sideTouches_99 : decode cX2_sideTouches 99 = .ok (.invokevirtual 59, 3) := by decide +kernel
theorem dX2_sideTouches_102 : decode cX2_sideTouches 102 = .ok (.lmul, 1) := by decide +kernel
theorem dX2_sideTouches_103 : decode cX2_sideTouches 103 = .ok (.lconst 0, 1) := by decide +kernel
theorem dX2_sideTouches_104 : decode cX2_sideTouches 104 = .ok (.lcmp, 1) := by decide +kernel
theorem dX2_sideTouches_105 : decode cX2_sideTouches 105 = .ok (.ifCond .gt 51, 3) := by decide +kernel
theorem dX2_sideTouches_108 : decode cX2_sideTouches 108 = .ok (.aload_n 2, 1) := by decide +kernel
theorem dX2_sideTouches_109 : decode cX2_sideTouches 109 = .ok (.iload_n 3, 1) := by decide +kernel
theorem dX2_sideTouches_110 : decode cX2_sideTouches 110 = .ok (.aload_n 0, 1) := by decide +kernel
theorem dX2_sideTouches_111 : decode cX2_sideTouches 111 = .ok (.getfield 39, 3) := by decide +kernel
theorem dX2_sideTouches_114 : decode cX2_sideTouches 114 = .ok (.iload_n 1, 1) := by decide +kernel
theorem dX2_sideTouches_115 : decode cX2_sideTouches 115 = .ok (.iaload, 1) := by decide +kernel
theorem dX2_sideTouches_116 : decode cX2_sideTouches 116 = .ok (.aload_n 0, 1) := by decide +kernel
theorem dX2_sideTouches_117 : decode cX2_sideTouches 117 = .ok (.getfield 43, 3) := by decide +kernel
theorem dX2_sideTouches_120 : decode cX2_sideTouches 120 = .ok (.iload_n 1, 1) := by decide +kernel
theorem dX2_sideTouches_121 : decode cX2_sideTouches 121 = .ok (.iaload, 1) := by decide +kernel
theorem dX2_sideTouches_122 : decode cX2_sideTouches 122 = .ok (.invokevirtual 59, 3) := by decide +kernel
theorem dX2_sideTouches_125 : decode cX2_sideTouches 125 = .ok (.aload_n 2, 1) := by decide +kernel
theorem dX2_sideTouches_126 : decode cX2_sideTouches 126 = .ok (.iload_n 3, 1) := by decide +kernel
theorem dX2_sideTouches_127 : decode cX2_sideTouches 127 = .ok (.aload_n 0, 1) := by decide +kernel
theorem dX2_sideTouches_128 : decode cX2_sideTouches 128 = .ok (.getfield 39, 3) := by decide +kernel
theorem dX2_sideTouches_131 : decode cX2_sideTouches 131 = .ok (.iload_n 1, 1) := by decide +kernel
theorem dX2_sideTouches_132 : decode cX2_sideTouches 132 = .ok (.iconst 1, 1) := by decide +kernel
theorem dX2_sideTouches_133 : decode cX2_sideTouches 133 = .ok (.iadd, 1) := by decide +kernel
theorem dX2_sideTouches_134 : decode cX2_sideTouches 134 = .ok (.iaload, 1) := by decide +kernel
theorem dX2_sideTouches_135 : decode cX2_sideTouches 135 = .ok (.aload_n 0, 1) := by decide +kernel
theorem dX2_sideTouches_136 : decode cX2_sideTouches 136 = .ok (.getfield 43, 3) := by decide +kernel
theorem dX2_sideTouches_139 : decode cX2_sideTouches 139 = .ok (.iload_n 1, 1) := by decide +kernel
theorem dX2_sideTouches_140 : decode cX2_sideTouches 140 = .ok (.iconst 1, 1) := by decide +kernel
theorem dX2_sideTouches_141 : decode cX2_sideTouches 141 = .ok (.iadd, 1) := by decide +kernel
theorem dX2_sideTouches_142 : decode cX2_sideTouches 142 = .ok (.iaload, 1) := by decide +kernel
theorem dX2_sideTouches_143 : decode cX2_sideTouches 143 = .ok (.invokevirtual 59, 3) := by decide +kernel
theorem dX2_sideTouches_146 : decode cX2_sideTouches 146 = .ok (.lmul, 1) := by decide +kernel
theorem dX2_sideTouches_147 : decode cX2_sideTouches 147 = .ok (.lconst 0, 1) := by decide +kernel
theorem dX2_sideTouches_148 : decode cX2_sideTouches 148 = .ok (.lcmp, 1) := by decide +kernel
theorem dX2_sideTouches_149 : decode cX2_sideTouches 149 = .ok (.ifCond .gt 7, 3) := by decide +kernel
theorem dX2_sideTouches_152 : decode cX2_sideTouches 152 = .ok (.iconst 1, 1) := by decide +kernel
theorem dX2_sideTouches_153 : decode cX2_sideTouches 153 = .ok (.goto 4, 3) := by decide +kernel
theorem dX2_sideTouches_156 : decode cX2_sideTouches 156 = .ok (.iconst 0, 1) := by decide +kernel
theorem dX2_sideTouches_157 : decode cX2_sideTouches 157 = .ok (.ireturn, 1) := by decide +kernel
theorem dX2_turn_0 : decode cX2_turn 0 = .ok (.aload_n 0, 1) := by decide +kernel
theorem dX2_turn_1 : decode cX2_turn 1 = .ok (.getfield 39, 3) := by decide +kernel
theorem dX2_turn_4 : decode cX2_turn 4 = .ok (.iload_n 1, 1) := by decide +kernel
theorem dX2_turn_5 : decode cX2_turn 5 = .ok (.iconst 1, 1) := by decide +kernel
theorem dX2_turn_6 : decode cX2_turn 6 = .ok (.iadd, 1) := by decide +kernel
theorem dX2_turn_7 : decode cX2_turn 7 = .ok (.iaload, 1) := by decide +kernel
theorem dX2_turn_8 : decode cX2_turn 8 = .ok (.aload_n 0, 1) := by decide +kernel
theorem dX2_turn_9 : decode cX2_turn 9 = .ok (.getfield 39, 3) := by decide +kernel
theorem dX2_turn_12 : decode cX2_turn 12 = .ok (.iload_n 1, 1) := by decide +kernel
theorem dX2_turn_13 : decode cX2_turn 13 = .ok (.iaload, 1) := by decide +kernel
theorem dX2_turn_14 : decode cX2_turn 14 = .ok (.isub, 1) := by decide +kernel
theorem dX2_turn_15 : decode cX2_turn 15 = .ok (.i2l, 1) := by decide +kernel
theorem dX2_turn_16 : decode cX2_turn 16 = .ok (.lstore 4, 2) := by decide +kernel
theorem dX2_turn_18 : decode cX2_turn 18 = .ok (.aload_n 0, 1) := by decide +kernel
theorem dX2_turn_19 : decode cX2_turn 19 = .ok (.getfield 43, 3) := by decide +kernel
theorem dX2_turn_22 : decode cX2_turn 22 = .ok (.iload_n 1, 1) := by decide +kernel
theorem dX2_turn_23 : decode cX2_turn 23 = .ok (.iconst 1, 1) := by decide +kernel
theorem dX2_turn_24 : decode cX2_turn 24 = .ok (.iadd, 1) := by decide +kernel
theorem dX2_turn_25 : decode cX2_turn 25 = .ok (.iaload, 1) := by decide +kernel
theorem dX2_turn_26 : decode cX2_turn 26 = .ok (.aload_n 0, 1) := by decide +kernel
theorem dX2_turn_27 : decode cX2_turn 27 = .ok (.getfield 43, 3) := by decide +kernel
theorem dX2_turn_30 : decode cX2_turn 30 = .ok (.iload_n 1, 1) := by decide +kernel
theorem dX2_turn_31 : decode cX2_turn 31 = .ok (.iaload, 1) := by decide +kernel
theorem dX2_turn_32 : decode cX2_turn 32 = .ok (.isub, 1) := by decide +kernel
theorem dX2_turn_33 : decode cX2_turn 33 = .ok (.i2l, 1) := by decide +kernel
theorem dX2_turn_34 : decode cX2_turn 34 = .ok (.lstore 6, 2) := by decide +kernel
theorem dX2_turn_36 : decode cX2_turn 36 = .ok (.lload 4, 2) := by decide +kernel
theorem dX2_turn_38 : decode cX2_turn 38 = .ok (.iload_n 3, 1) := by decide +kernel
theorem dX2_turn_39 : decode cX2_turn 39 = .ok (.aload_n 0, 1) := by decide +kernel
theorem dX2_turn_40 : decode cX2_turn 40 = .ok (.getfield 43, 3) := by decide +kernel
theorem dX2_turn_43 : decode cX2_turn 43 = .ok (.iload_n 1, 1) := by decide +kernel
theorem dX2_turn_44 : decode cX2_turn 44 = .ok (.iaload, 1) := by decide +kernel
theorem dX2_turn_45 : decode cX2_turn 45 = .ok (.isub, 1) := by decide +kernel
theorem dX2_turn_46 : decode cX2_turn 46 = .ok (.i2l, 1) := by decide +kernel
theorem dX2_turn_47 : decode cX2_turn 47 = .ok (.lmul, 1) := by decide +kernel
theorem dX2_turn_48 : decode cX2_turn 48 = .ok (.lload 6, 2) := by decide +kernel
theorem dX2_turn_50 : decode cX2_turn 50 = .ok (.iload_n 2, 1) := by decide +kernel
theorem dX2_turn_51 : decode cX2_turn 51 = .ok (.aload_n 0, 1) := by decide +kernel
theorem dX2_turn_52 : decode cX2_turn 52 = .ok (.getfield 39, 3) := by decide +kernel
theorem dX2_turn_55 : decode cX2_turn 55 = .ok (.iload_n 1, 1) := by decide +kernel
theorem dX2_turn_56 : decode cX2_turn 56 = .ok (.iaload, 1) := by decide +kernel
theorem dX2_turn_57 : decode cX2_turn 57 = .ok (.isub, 1) := by decide +kernel
theorem dX2_turn_58 : decode cX2_turn 58 = .ok (.i2l, 1) := by decide +kernel
theorem dX2_turn_59 : decode cX2_turn 59 = .ok (.lmul, 1) := by decide +kernel
theorem dX2_turn_60 : decode cX2_turn 60 = .ok (.lsub, 1) := by decide +kernel
theorem dX2_turn_61 : decode cX2_turn 61 = .ok (.lreturn, 1) := by decide +kernel
theorem dX2_overlap_0 : decode cX2_overlap 0 = .ok (.iload_n 0, 1) := by decide +kernel
theorem dX2_overlap_1 : decode cX2_overlap 1 = .ok (.iload_n 1, 1) := by decide +kernel
theorem dX2_overlap_2 : decode cX2_overlap 2 = .ok (.invokestatic 52, 3) := by decide +kernel
theorem dX2_overlap_5 : decode cX2_overlap 5 = .ok (.iload_n 2, 1) := by decide +kernel
theorem dX2_overlap_6 : decode cX2_overlap 6 = .ok (.iload_n 3, 1) := by decide +kernel
theorem dX2_overlap_7 : decode cX2_overlap 7 = .ok (.invokestatic 46, 3) := by decide +kernel
theorem dX2_overlap_10 : decode cX2_overlap 10 = .ok (.if_icmp .lt 20, 3) := by decide +kernel
theorem dX2_overlap_13 : decode cX2_overlap 13 = .ok (.iload_n 2, 1) := by decide +kernel
theorem dX2_overlap_14 : decode cX2_overlap 14 = .ok (.iload_n 3, 1) := by decide +kernel
theorem dX2_overlap_15 : decode cX2_overlap 15 = .ok (.invokestatic 52, 3) := by decide +kernel
theorem dX2_overlap_18 : decode cX2_overlap 18 = .ok (.iload_n 0, 1) := by decide +kernel
theorem dX2_overlap_19 : decode cX2_overlap 19 = .ok (.iload_n 1, 1) := by decide +kernel
theorem dX2_overlap_20 : decode cX2_overlap 20 = .ok (.invokestatic 46, 3) := by decide +kernel
theorem dX2_overlap_23 : decode cX2_overlap 23 = .ok (.if_icmp .lt 7, 3) := by decide +kernel
theorem dX2_overlap_26 : decode cX2_overlap 26 = .ok (.iconst 1, 1) := by decide +kernel
theorem dX2_overlap_27 : decode cX2_overlap 27 = .ok (.goto 4, 3) := by decide +kernel
theorem dX2_overlap_30 : decode cX2_overlap 30 = .ok (.iconst 0, 1) := by decide +kernel
theorem dX2_overlap_31 : decode cX2_overlap 31 = .ok (.ireturn, 1) := by decide +kernel
theorem dX2_squareOf_0 : decode cX2_squareOf 0 = .ok (.lload_n 0, 1) := by decide +kernel
theorem dX2_squareOf_1 : decode cX2_squareOf 1 = .ok (.lload_n 0, 1) := by decide +kernel
theorem dX2_squareOf_2 : decode cX2_squareOf 2 = .ok (.lmul, 1) := by decide +kernel
theorem dX2_squareOf_3 : decode cX2_squareOf 3 = .ok (.lload_n 2, 1) := by decide +kernel
theorem dX2_squareOf_4 : decode cX2_squareOf 4 = .ok (.lload_n 2, 1) := by decide +kernel
theorem dX2_squareOf_5 : decode cX2_squareOf 5 = .ok (.lmul, 1) := by decide +kernel
theorem dX2_squareOf_6 : decode cX2_squareOf 6 = .ok (.ladd, 1) := by decide +kernel
theorem dX2_squareOf_7 : decode cX2_squareOf 7 = .ok (.lreturn, 1) := by decide +kernel
set_option maxRecDepth 20000 in
theorem ggX3_init_X0_init : GoodIn wsX3_init wsX0_init := goodIn_r _ [21, 22, 2, 3, 23, 24, 35, 36] (by decide +kernel) (by decide +kernel)
set_option maxRecDepth 20000 in
theorem gX3_init_X0_init_n34 : GoodIn wsX3_init (wsX0_init) := ggX3_init_X0_init
theorem dX3_init_0 : decode cX3_init 0 = .ok (.aload_n 0, 1) := by decide +kernel
theorem dX3_init_1 : decode cX3_init 1 = .ok (.invokespecial 1, 3) := by decide +kernel
theorem dX3_init_4 : decode cX3_init 4 = .ok (.aload_n 0, 1) := by decide +kernel
theorem dX3_init_5 : decode cX3_init 5 = .ok (.bipush 60, 2) := by decide +kernel
theorem dX3_init_7 : decode cX3_init 7 = .ok (.anewarray 9, 3) := by decide +kernel
theorem dX3_init_10 : decode cX3_init 10 = .ok (.putfield 11, 3) := by decide +kernel
theorem dX3_init_13 : decode cX3_init 13 = .ok (.aload_n 0, 1) := by decide +kernel
theorem dX3_init_14 : decode cX3_init 14 = .ok (.iconst 0, 1) := by decide +kernel
theorem dX3_init_15 : decode cX3_init 15 = .ok (.putfield 15, 3) := by decide +kernel
theorem dX3_init_18 : decode cX3_init 18 = .ok (.aload_n 0, 1) := by decide +kernel
theorem dX3_init_19 : decode cX3_init 19 = .ok (.iconst 0, 1) := by decide +kernel
theorem dX3_init_20 : decode cX3_init 20 = .ok (.putfield 19, 3) := by decide +kernel
theorem dX3_init_23 : decode cX3_init 23 = .ok (.aload_n 0, 1) := by decide +kernel
theorem dX3_init_24 : decode cX3_init 24 = .ok (.iconst 0, 1) := by decide +kernel
theorem dX3_init_25 : decode cX3_init 25 = .ok (.putfield 22, 3) := by decide +kernel
theorem dX3_init_28 : decode cX3_init 28 = .ok (.aload_n 0, 1) := by decide +kernel
theorem dX3_init_29 : decode cX3_init 29 = .ok (.bipush 60, 2) := by decide +kernel
theorem dX3_init_31 : decode cX3_init 31 = .ok (.newarray .int, 2) := by decide +kernel
theorem dX3_init_33 : decode cX3_init 33 = .ok (.putfield 25, 3) := by decide +kernel
theorem dX3_init_36 : decode cX3_init 36 = .ok (.aload_n 0, 1) := by decide +kernel
theorem dX3_init_37 : decode cX3_init 37 = .ok (.iconst 0, 1) := by decide +kernel
theorem dX3_init_38 : decode cX3_init 38 = .ok (.putfield 29, 3) := by decide +kernel
theorem dX3_init_41 : decode cX3_init 41 = .ok (.aload_n 0, 1) := by decide +kernel
theorem dX3_init_42 : decode cX3_init 42 = .ok (.new 32, 3) := by decide +kernel
theorem dX3_init_45 : decode cX3_init 45 = .ok (.dup, 1) := by decide +kernel
theorem dX3_init_46 : decode cX3_init 46 = .ok (.invokespecial 34, 3) := by decide +kernel
theorem dX3_init_49 : decode cX3_init 49 = .ok (.putfield 35, 3) := by decide +kernel
theorem dX3_init_52 : decode cX3_init 52 = .ok (.aload_n 0, 1) := by decide +kernel
theorem dX3_init_53 : decode cX3_init 53 = .ok (.bipush 60, 2) := by decide +kernel
theorem dX3_init_55 : decode cX3_init 55 = .ok (.newarray .long, 2) := by decide +kernel
theorem dX3_init_57 : decode cX3_init 57 = .ok (.putfield 39, 3) := by decide +kernel
theorem dX3_init_60 : decode cX3_init 60 = .ok (.aload_n 0, 1) := by decide +kernel
theorem dX3_init_61 : decode cX3_init 61 = .ok (.bipush 60, 2) := by decide +kernel
theorem dX3_init_63 : decode cX3_init 63 = .ok (.newarray .long, 2) := by decide +kernel
theorem dX3_init_65 : decode cX3_init 65 = .ok (.putfield 43, 3) := by decide +kernel
theorem dX3_init_68 : decode cX3_init 68 = .ok (.aload_n 0, 1) := by decide +kernel
theorem dX3_init_69 : decode cX3_init 69 = .ok (.bipush 60, 2) := by decide +kernel
theorem dX3_init_71 : decode cX3_init 71 = .ok (.newarray .int, 2) := by decide +kernel
theorem dX3_init_73 : decode cX3_init 73 = .ok (.putfield 46, 3) := by decide +kernel
theorem dX3_init_76 : decode cX3_init 76 = .ok (.return_, 1) := by decide +kernel
set_option maxRecDepth 20000 in
theorem ggX3_point_X3_isPlace : GoodIn wsX3_point wsX3_isPlace := goodIn_r _ [6] (by decide +kernel) (by decide +kernel)
set_option maxRecDepth 20000 in
theorem gX3_point_X3_isPlace : GoodIn wsX3_point (va_wsS RX3 49 yX3_isPlace wsX3_isPlace) := goodIn_app (goodIn_of _ (by decide +kernel)) ggX3_point_X3_isPlace
set_option maxRecDepth 20000 in
theorem ggX3_point_X3_make : GoodIn wsX3_point wsX3_make := goodIn_r _ [10, 11, 12, 13, 14, 15, 16, 17, 18, 19, 20, 21, 22, 23, 24, 25, 26, 27, 28, 29, 30, 31, 32, 33, 84, 85, 86, 87, 88, 89, 90, 91, 92, 93, 94, 95, 96, 97, 98, 99, 100, 101, 102] (by decide +kernel) (by decide +kernel)
set_option maxRecDepth 20000 in
theorem gX3_point_X3_make : GoodIn wsX3_point (wsV RX3 59 RX3 yX3_make wsX3_make) := goodIn_app (goodIn_of _ (by decide +kernel)) ggX3_point_X3_make
set_option maxRecDepth 20000 in
theorem ggX3_point_X3_standing : GoodIn wsX3_point wsX3_standing := goodIn_r _ [37, 11, 12, 84, 85, 86, 87, 88, 89, 90, 91, 92, 93] (by decide +kernel) (by decide +kernel)
set_option maxRecDepth 20000 in
theorem gX3_point_X3_standing : GoodIn wsX3_point (wsV RX3 63 RX3 yX3_standing wsX3_standing) := goodIn_app (goodIn_of _ (by decide +kernel)) ggX3_point_X3_standing
set_option maxRecDepth 20000 in
theorem ggX3_point_X2_add : GoodIn wsX3_point wsX2_add := goodIn_r _ [41, 23, 29, 30, 32, 33, 25, 42, 43, 44, 45, 26, 27, 46, 47, 48, 28, 24, 49, 50, 51, 15, 52, 53, 54, 55, 56, 57, 58, 59, 60, 61, 62, 63, 64, 65, 66, 67, 68, 69, 70, 71, 72, 73, 74, 75, 76, 77, 78, 79, 80, 81, 82, 83, 94, 95, 96, 97, 98, 99, 100, 101, 102] (by decide +kernel) (by decide +kernel)
set_option maxRecDepth 20000 in
theorem gX3_point_X2_add : GoodIn wsX3_point (wsV RX3 67 RX2 yX2_add wsX2_add) := goodIn_app (goodIn_of _ (by decide +kernel)) ggX3_point_X2_add
theorem dX3_point_0 : decode cX3_point 0 = .ok (.iload_n 1, 1) := by decide +kernel
theorem dX3_point_1 : decode cX3_point 1 = .ok (.iload_n 2, 1) := by decide +kernel
theorem dX3_point_2 : decode cX3_point 2 = .ok (.invokestatic 49, 3) := by decide +kernel
theorem dX3_point_5 : decode cX3_point 5 = .ok (.ifCond .ne 5, 3) := by decide +kernel
theorem dX3_point_8 : decode cX3_point 8 = .ok (.iconst (-1), 1) := by decide +kernel
theorem dX3_point_9 : decode cX3_point 9 = .ok (.ireturn, 1) := by decide +kernel
theorem dX3_point_10 : decode cX3_point 10 = .ok (.aload_n 0, 1) := by decide +kernel
theorem dX3_point_11 : decode cX3_point 11 = .ok (.getfield 22, 3) := by decide +kernel
theorem dX3_point_14 : decode cX3_point 14 = .ok (.sipush 400, 3) := by decide +kernel
theorem dX3_point_17 : decode cX3_point 17 = .ok (.if_icmp .lt 6, 3) := by decide +kernel
theorem dX3_point_20 : decode cX3_point 20 = .ok (.bipush (-2), 2) := by decide +kernel
theorem dX3_point_22 : decode cX3_point 22 = .ok (.ireturn, 1) := by decide +kernel
theorem dX3_point_23 : decode cX3_point 23 = .ok (.aload_n 0, 1) := by decide +kernel
theorem dX3_point_24 : decode cX3_point 24 = .ok (.getstatic 53, 3) := by decide +kernel
theorem dX3_point_27 : decode cX3_point 27 = .ok (.invokevirtual 59, 3) := by decide +kernel
theorem dX3_point_30 : decode cX3_point 30 = .ok (.istore_n 3, 1) := by decide +kernel
theorem dX3_point_31 : decode cX3_point 31 = .ok (.aload_n 0, 1) := by decide +kernel
theorem dX3_point_32 : decode cX3_point 32 = .ok (.iload_n 3, 1) := by decide +kernel
theorem dX3_point_33 : decode cX3_point 33 = .ok (.invokevirtual 63, 3) := by decide +kernel
theorem dX3_point_36 : decode cX3_point 36 = .ok (.astore 4, 2) := by decide +kernel
theorem dX3_point_38 : decode cX3_point 38 = .ok (.aload 4, 2) := by decide +kernel
theorem dX3_point_40 : decode cX3_point 40 = .ok (.ifnull 20, 3) := by decide +kernel
theorem dX3_point_43 : decode cX3_point 43 = .ok (.aload 4, 2) := by decide +kernel
theorem dX3_point_45 : decode cX3_point 45 = .ok (.iload_n 1, 1) := by decide +kernel
theorem dX3_point_46 : decode cX3_point 46 = .ok (.iload_n 2, 1) := by decide +kernel
theorem dX3_point_47 : decode cX3_point 47 = .ok (.invokevirtual 67, 3) := by decide +kernel
theorem dX3_point_50 : decode cX3_point 50 = .ok (.aload_n 0, 1) := by decide +kernel
theorem dX3_point_51 : decode cX3_point 51 = .ok (.dup, 1) := by decide +kernel
theorem dX3_point_52 : decode cX3_point 52 = .ok (.getfield 22, 3) := by decide +kernel
theorem dX3_point_55 : decode cX3_point 55 = .ok (.iconst 1, 1) := by decide +kernel
theorem dX3_point_56 : decode cX3_point 56 = .ok (.iadd, 1) := by decide +kernel
theorem dX3_point_57 : decode cX3_point 57 = .ok (.putfield 22, 3) := by decide +kernel
theorem dX3_point_60 : decode cX3_point 60 = .ok (.iload_n 3, 1) := by decide +kernel
theorem dX3_point_61 : decode cX3_point 61 = .ok (.ireturn, 1) := by decide +kernel
set_option maxRecDepth 20000 in
theorem ggX3_line_X3_make : GoodIn wsX3_line wsX3_make := goodIn_r _ [6, 7, 8, 9, 10, 11, 12, 13, 14, 15, 16, 17, 18, 19, 20, 21, 22, 23, 24, 25, 26, 27, 28, 29, 30, 31, 32, 33, 34, 35, 36, 37, 38, 39, 40, 41, 42, 43, 44, 45, 46, 47, 48] (by decide +kernel) (by decide +kernel)
set_option maxRecDepth 20000 in
theorem gX3_line_X3_make : GoodIn wsX3_line (wsV RX3 59 RX3 yX3_make wsX3_make) := goodIn_app (goodIn_of _ (by decide +kernel)) ggX3_line_X3_make
theorem dX3_line_0 : decode cX3_line 0 = .ok (.aload_n 0, 1) := by decide +kernel
theorem dX3_line_1 : decode cX3_line 1 = .ok (.getstatic 71, 3) := by decide +kernel
theorem dX3_line_4 : decode cX3_line 4 = .ok (.invokevirtual 59, 3) := by decide +kernel
theorem dX3_line_7 : decode cX3_line 7 = .ok (.ireturn, 1) := by decide +kernel
set_option maxRecDepth 20000 in
theorem ggX3_polygon_X3_make : GoodIn wsX3_polygon wsX3_make := goodIn_r _ [6, 7, 8, 9, 10, 11, 12, 13, 14, 15, 16, 17, 18, 19, 20, 21, 22, 23, 24, 25, 26, 27, 28, 29, 30, 31, 32, 33, 34, 35, 36, 37, 38, 39, 40, 41, 42, 43, 44, 45, 46, 47, 48] (by decide +kernel) (by decide +kernel)
set_option maxRecDepth 20000 in
theorem gX3_polygon_X3_make : GoodIn wsX3_polygon (wsV RX3 59 RX3 yX3_make wsX3_make) := goodIn_app (goodIn_of _ (by decide +kernel)) ggX3_polygon_X3_make
theorem dX3_polygon_0 : decode cX3_polygon 0 = .ok (.aload_n 0, 1) := by decide +kernel
theorem dX3_polygon_1 : decode cX3_polygon 1 = .ok (.getstatic 74, 3) := by decide +kernel
theorem dX3_polygon_4 : decode cX3_polygon 4 = .ok (.invokevirtual 59, 3) := by decide +kernel
theorem dX3_polygon_7 : decode cX3_polygon 7 = .ok (.ireturn, 1) := by decide +kernel
set_option maxRecDepth 20000 in
theorem ggX3_corner_X3_standing : GoodIn wsX3_corner wsX3_standing := goodIn_r _ [10, 11, 12, 82, 83, 84, 85, 86, 87, 88, 89, 90, 91] (by decide +kernel) (by decide +kernel)
set_option maxRecDepth 20000 in
theorem gX3_corner_X3_standing : GoodIn wsX3_corner (wsV RX3 63 RX3 yX3_standing wsX3_standing) := goodIn_app (goodIn_of _ (by decide +kernel)) ggX3_corner_X3_standing
set_option maxRecDepth 20000 in
theorem ggX3_corner_X3_isPlace : GoodIn wsX3_corner wsX3_isPlace := goodIn_r _ [15] (by decide +kernel) (by decide +kernel)
set_option maxRecDepth 20000 in
theorem gX3_corner_X3_isPlace : GoodIn wsX3_corner (va_wsS RX3 49 yX3_isPlace wsX3_isPlace) := goodIn_app (goodIn_of _ (by decide +kernel)) ggX3_corner_X3_isPlace
set_option maxRecDepth 20000 in
theorem ggX3_corner_X2_add : GoodIn wsX3_corner wsX2_add := goodIn_r _ [20, 21, 22, 23, 24, 25, 26, 27, 28, 29, 30, 31, 32, 33, 34, 35, 36, 37, 38, 39, 40, 19, 41, 42, 43, 44, 45, 46, 47, 48, 49, 50, 51, 52, 53, 54, 55, 56, 57, 58, 59, 60, 61, 62, 63, 64, 65, 66, 67, 68, 69, 70, 71, 72, 73, 74, 75, 76, 77, 78, 79, 80, 81] (by decide +kernel) (by decide +kernel)
set_option maxRecDepth 20000 in
theorem gX3_corner_X2_add : GoodIn wsX3_corner (wsV RX3 67 RX2 yX2_add wsX2_add) := goodIn_app (goodIn_of _ (by decide +kernel)) ggX3_corner_X2_add
theorem dX3_corner_0 : decode cX3_corner 0 = .ok (.aload_n 0, 1) := by decide +kernel
theorem dX3_corner_1 : decode cX3_corner 1 = .ok (.iload_n 1, 1) := by decide +kernel
theorem dX3_corner_2 : decode cX3_corner 2 = .ok (.invokevirtual 63, 3) := by decide +kernel
theorem dX3_corner_5 : decode cX3_corner 5 = .ok (.astore 4, 2) := by decide +kernel
theorem dX3_corner_7 : decode cX3_corner 7 = .ok (.aload 4, 2) := by decide +kernel
theorem dX3_corner_9 : decode cX3_corner 9 = .ok (.ifnull 22, 3) := by decide +kernel
theorem dX3_corner_12 : decode cX3_corner 12 = .ok (.aload 4, 2) := by decide +kernel
theorem dX3_corner_14 : decode cX3_corner 14 = .ok (.getfield 77, 3) := by decide +kernel
theorem dX3_corner_17 : decode cX3_corner 17 = .ok (.getstatic 53, 3) := by decide +kernel
theorem dX3_corner_20 : decode cX3_corner 20 = .ok (.if_acmp .eq 11, 3) := by decide +kernel
theorem dX3_corner_23 : decode cX3_corner 23 = .ok (.iload_n 2, 1) := by decide +kernel
theorem dX3_corner_24 : decode cX3_corner 24 = .ok (.iload_n 3, 1) := by decide +kernel
theorem dX3_corner_25 : decode cX3_corner 25 = .ok (.invokestatic 49, 3) := by decide +kernel
theorem dX3_corner_28 : decode cX3_corner 28 = .ok (.ifCond .ne 5, 3) := by decide +kernel
theorem dX3_corner_31 : decode cX3_corner 31 = .ok (.iconst (-1), 1) := by decide +kernel
theorem dX3_corner_32 : decode cX3_corner 32 = .ok (.ireturn, 1) := by decide +kernel
theorem dX3_corner_33 : decode cX3_corner 33 = .ok (.aload_n 0, 1) := by decide +kernel
theorem dX3_corner_34 : decode cX3_corner 34 = .ok (.getfield 22, 3) := by decide +kernel
theorem dX3_corner_37 : decode cX3_corner 37 = .ok (.sipush 400, 3) := by decide +kernel
theorem dX3_corner_40 : decode cX3_corner 40 = .ok (.if_icmp .ge 19, 3) := by decide +kernel
theorem dX3_corner_43 : decode cX3_corner 43 = .ok (.aload 4, 2) := by decide +kernel
theorem dX3_corner_45 : decode cX3_corner 45 = .ok (.getfield 80, 3) := by decide +kernel
theorem dX3_corner_48 : decode cX3_corner 48 = .ok (.aload 4, 2) := by decide +kernel
theorem dX3_corner_50 : decode cX3_corner 50 = .ok (.getfield 77, 3) := by decide +kernel
theorem dX3_corner_53 : decode cX3_corner 53 = .ok (.getfield 83, 3) := by decide +kernel
theorem dX3_corner_56 : decode cX3_corner 56 = .ok (.if_icmp .lt 6, 3) := by decide +kernel
theorem dX3_corner_59 : decode cX3_corner 59 = .ok (.bipush (-2), 2) := by decide +kernel
theorem dX3_corner_61 : decode cX3_corner 61 = .ok (.ireturn, 1) := by decide +kernel
theorem dX3_corner_62 : decode cX3_corner 62 = .ok (.aload 4, 2) := by decide +kernel
theorem dX3_corner_64 : decode cX3_corner 64 = .ok (.iload_n 2, 1) := by decide +kernel
theorem dX3_corner_65 : decode cX3_corner 65 = .ok (.iload_n 3, 1) := by decide +kernel
theorem dX3_corner_66 : decode cX3_corner 66 = .ok (.invokevirtual 67, 3) := by decide +kernel
theorem dX3_corner_69 : decode cX3_corner 69 = .ok (.aload_n 0, 1) := by decide +kernel
theorem dX3_corner_70 : decode cX3_corner 70 = .ok (.dup, 1) := by decide +kernel
theorem dX3_corner_71 : decode cX3_corner 71 = .ok (.getfield 22, 3) := by decide +kernel
theorem dX3_corner_74 : decode cX3_corner 74 = .ok (.iconst 1, 1) := by decide +kernel
theorem dX3_corner_75 : decode cX3_corner 75 = .ok (.iadd, 1) := by decide +kernel
theorem dX3_corner_76 : decode cX3_corner 76 = .ok (.putfield 22, 3) := by decide +kernel
theorem dX3_corner_79 : decode cX3_corner 79 = .ok (.aload 4, 2) := by decide +kernel
theorem dX3_corner_81 : decode cX3_corner 81 = .ok (.getfield 80, 3) := by decide +kernel
theorem dX3_corner_84 : decode cX3_corner 84 = .ok (.ireturn, 1) := by decide +kernel
set_option maxRecDepth 20000 in
theorem ggX3_remove_X3_standing : GoodIn wsX3_remove wsX3_standing := goodIn_r _ [7, 8, 1, 9, 10, 11, 12, 13, 14, 15, 16, 17, 18] (by decide +kernel) (by decide +kernel)
set_option maxRecDepth 20000 in
theorem gX3_remove_X3_standing : GoodIn wsX3_remove (wsV RX3 63 RX3 yX3_standing wsX3_standing) := goodIn_app (goodIn_of _ (by decide +kernel)) ggX3_remove_X3_standing
theorem dX3_remove_0 : decode cX3_remove 0 = .ok (.aload_n 0, 1) := by decide +kernel
theorem dX3_remove_1 : decode cX3_remove 1 = .ok (.iload_n 1, 1) := by decide +kernel
theorem dX3_remove_2 : decode cX3_remove 2 = .ok (.invokevirtual 63, 3) := by decide +kernel
theorem dX3_remove_5 : decode cX3_remove 5 = .ok (.ifnonnull 5, 3) := by decide +kernel
theorem dX3_remove_8 : decode cX3_remove 8 = .ok (.iconst (-1), 1) := by decide +kernel
theorem dX3_remove_9 : decode cX3_remove 9 = .ok (.ireturn, 1) := by decide +kernel
theorem dX3_remove_10 : decode cX3_remove 10 = .ok (.aload_n 0, 1) := by decide +kernel
theorem dX3_remove_11 : decode cX3_remove 11 = .ok (.getfield 11, 3) := by decide +kernel
theorem dX3_remove_14 : decode cX3_remove 14 = .ok (.iload_n 1, 1) := by decide +kernel
theorem dX3_remove_15 : decode cX3_remove 15 = .ok (.aconst_null, 1) := by decide +kernel
theorem dX3_remove_16 : decode cX3_remove 16 = .ok (.aastore, 1) := by decide +kernel
theorem dX3_remove_17 : decode cX3_remove 17 = .ok (.aload_n 0, 1) := by decide +kernel
theorem dX3_remove_18 : decode cX3_remove 18 = .ok (.dup, 1) := by decide +kernel
theorem dX3_remove_19 : decode cX3_remove 19 = .ok (.getfield 19, 3) := by decide +kernel
theorem dX3_remove_22 : decode cX3_remove 22 = .ok (.iconst 1, 1) := by decide +kernel
theorem dX3_remove_23 : decode cX3_remove 23 = .ok (.isub, 1) := by decide +kernel
theorem dX3_remove_24 : decode cX3_remove 24 = .ok (.putfield 19, 3) := by decide +kernel
theorem dX3_remove_27 : decode cX3_remove 27 = .ok (.iconst 1, 1) := by decide +kernel
theorem dX3_remove_28 : decode cX3_remove 28 = .ok (.ireturn, 1) := by decide +kernel
set_option maxRecDepth 20000 in
theorem ggX3_check_X3_standing : GoodIn wsX3_check wsX3_standing := goodIn_r _ [6, 7, 8, 18, 19, 20, 21, 22, 23, 24, 25, 26, 27] (by decide +kernel) (by decide +kernel)
set_option maxRecDepth 20000 in
theorem gX3_check_X3_standing : GoodIn wsX3_check (wsV RX3 63 RX3 yX3_standing wsX3_standing) := goodIn_app (goodIn_of _ (by decide +kernel)) ggX3_check_X3_standing
theorem dX3_check_0 : decode cX3_check 0 = .ok (.aload_n 0, 1) := by decide +kernel
theorem dX3_check_1 : decode cX3_check 1 = .ok (.iload_n 1, 1) := by decide +kernel
theorem dX3_check_2 : decode cX3_check 2 = .ok (.invokevirtual 63, 3) := by decide +kernel
theorem dX3_check_5 : decode cX3_check 5 = .ok (.astore_n 2, 1) := by decide +kernel
theorem dX3_check_6 : decode cX3_check 6 = .ok (.aload_n 2, 1) := by decide +kernel
theorem dX3_check_7 : decode cX3_check 7 = .ok (.ifnonnull 7, 3) := by decide +kernel
theorem dX3_check_10 : decode cX3_check 10 = .ok (.iconst (-1), 1) := by decide +kernel
theorem dX3_check_11 : decode cX3_check 11 = .ok (.goto 7, 3) := by decide +kernel
theorem dX3_check_14 : decode cX3_check 14 = .ok (.aload_n 2, 1) := by decide +kernel
theorem dX3_check_15 : decode cX3_check 15 = .ok (.getfield 86, 3) := by decide +kernel
theorem dX3_check_18 : decode cX3_check 18 = .ok (.ireturn, 1) := by decide +kernel
set_option maxRecDepth 20000 in
theorem ggX3_inside_X3_right : GoodIn wsX3_inside wsX3_right := goodIn_r _ [7, 8, 9, 10, 11, 6, 12, 13, 14, 40, 41, 42, 43, 44, 45, 46, 47, 48, 49, 50, 51, 52, 53, 54, 55, 56, 57, 58] (by decide +kernel) (by decide +kernel)
set_option maxRecDepth 20000 in
theorem gX3_inside_X3_right : GoodIn wsX3_inside (wsV RX3 89 RX3 yX3_right wsX3_right) := goodIn_app (goodIn_of _ (by decide +kernel)) ggX3_inside_X3_right
set_option maxRecDepth 20000 in
theorem ggX3_inside_X3_isPlace : GoodIn wsX3_inside wsX3_isPlace := goodIn_r _ [17] (by decide +kernel) (by decide +kernel)
set_option maxRecDepth 20000 in
theorem gX3_inside_X3_isPlace : GoodIn wsX3_inside (va_wsS RX3 49 yX3_isPlace wsX3_isPlace) := goodIn_app (goodIn_of _ (by decide +kernel)) ggX3_inside_X3_isPlace
set_option maxRecDepth 20000 in
theorem ggX3_inside_X2_whereIs : GoodIn wsX3_inside wsX2_whereIs := goodIn_r _ [22, 23, 24, 25, 26, 27, 28, 21, 29, 30, 31, 32, 33, 34, 35, 36, 37, 38, 39, 40, 41, 42, 43, 44, 45, 46, 47, 48] (by decide +kernel) (by decide +kernel)
set_option maxRecDepth 20000 in
theorem gX3_inside_X2_whereIs : GoodIn wsX3_inside (wsV RX3 92 RX2 yX2_whereIs wsX2_whereIs) := goodIn_app (goodIn_of _ (by decide +kernel)) ggX3_inside_X2_whereIs
theorem dX3_inside_0 : decode cX3_inside 0 = .ok (.aload_n 0, 1) := by decide +kernel
theorem dX3_inside_1 : decode cX3_inside 1 = .ok (.iload_n 3, 1) := by decide +kernel
theorem dX3_inside_2 : decode cX3_inside 2 = .ok (.invokevirtual 89, 3) := by decide +kernel
theorem dX3_inside_5 : decode cX3_inside 5 = .ok (.astore 4, 2) := by decide +kernel
theorem dX3_inside_7 : decode cX3_inside 7 = .ok (.aload 4, 2) := by decide +kernel
theorem dX3_inside_9 : decode cX3_inside 9 = .ok (.ifnull 22, 3) := by decide +kernel
theorem dX3_inside_12 : decode cX3_inside 12 = .ok (.aload 4, 2) := by decide +kernel
theorem dX3_inside_14 : decode cX3_inside 14 = .ok (.getfield 77, 3) := by decide +kernel
theorem dX3_inside_17 : decode cX3_inside 17 = .ok (.getstatic 74, 3) := by decide +kernel
theorem dX3_inside_20 : decode cX3_inside 20 = .ok (.if_acmp .ne 11, 3) := by decide +kernel
theorem dX3_inside_23 : decode cX3_inside 23 = .ok (.iload_n 1, 1) := by decide +kernel
theorem dX3_inside_24 : decode cX3_inside 24 = .ok (.iload_n 2, 1) := by decide +kernel
theorem dX3_inside_25 : decode cX3_inside 25 = .ok (.invokestatic 49, 3) := by decide +kernel
theorem dX3_inside_28 : decode cX3_inside 28 = .ok (.ifCond .ne 5, 3) := by decide +kernel
theorem dX3_inside_31 : decode cX3_inside 31 = .ok (.iconst (-1), 1) := by decide +kernel
theorem dX3_inside_32 : decode cX3_inside 32 = .ok (.ireturn, 1) := by decide +kernel
theorem dX3_inside_33 : decode cX3_inside 33 = .ok (.aload 4, 2) := by decide +kernel
theorem dX3_inside_35 : decode cX3_inside 35 = .ok (.iload_n 1, 1) := by decide +kernel
theorem dX3_inside_36 : decode cX3_inside 36 = .ok (.iload_n 2, 1) := by decide +kernel
theorem dX3_inside_37 : decode cX3_inside 37 = .ok (.invokevirtual 92, 3) := by decide +kernel
theorem dX3_inside_40 : decode cX3_inside 40 = .ok (.ireturn, 1) := by decide +kernel
set_option maxRecDepth 20000 in
theorem ggX3_meets_X3_right : GoodIn wsX3_meets wsX3_right := goodIn_r _ [5, 6, 7, 8, 9, 4, 10, 11, 12, 54, 55, 56, 57, 58, 59, 60, 61, 62, 63, 64, 65, 66, 67, 68, 69, 70, 71, 72] (by decide +kernel) (by decide +kernel)
set_option maxRecDepth 20000 in
theorem gX3_meets_X3_right : GoodIn wsX3_meets (wsV RX3 89 RX3 yX3_right wsX3_right) := goodIn_app (goodIn_of _ (by decide +kernel)) ggX3_meets_X3_right
set_option maxRecDepth 20000 in
theorem ggX3_meets_X2_touches : GoodIn wsX3_meets wsX2_touches := goodIn_r _ [17, 18, 19, 20, 21, 22, 16, 23, 24, 25, 26, 27, 28, 29, 30, 31, 32, 33, 34, 35, 36, 37, 38, 39, 40, 41, 42, 43, 44, 45, 46, 47, 48, 49, 50, 51, 52, 53, 54, 55, 56, 57, 58, 59, 60, 61, 62] (by decide +kernel) (by decide +kernel)
set_option maxRecDepth 20000 in
theorem gX3_meets_X2_touches : GoodIn wsX3_meets (wsV RX3 96 RX2 yX2_touches wsX2_touches) := goodIn_app (goodIn_of _ (by decide +kernel)) ggX3_meets_X2_touches
theorem dX3_meets_0 : decode cX3_meets 0 = .ok (.aload_n 0, 1) := by decide +kernel
theorem dX3_meets_1 : decode cX3_meets 1 = .ok (.iload_n 1, 1) := by decide +kernel
theorem dX3_meets_2 : decode cX3_meets 2 = .ok (.invokevirtual 89, 3) := by decide +kernel
theorem dX3_meets_5 : decode cX3_meets 5 = .ok (.astore_n 3, 1) := by decide +kernel
theorem dX3_meets_6 : decode cX3_meets 6 = .ok (.aload_n 0, 1) := by decide +kernel
theorem dX3_meets_7 : decode cX3_meets 7 = .ok (.iload_n 2, 1) := by decide +kernel
theorem dX3_meets_8 : decode cX3_meets 8 = .ok (.invokevirtual 89, 3) := by decide +kernel
theorem dX3_meets_11 : decode cX3_meets 11 = .ok (.astore 4, 2) := by decide +kernel
theorem dX3_meets_13 : decode cX3_meets 13 = .ok (.aload_n 3, 1) := by decide +kernel
theorem dX3_meets_14 : decode cX3_meets 14 = .ok (.ifnull 8, 3) := by decide +kernel
theorem dX3_meets_17 : decode cX3_meets 17 = .ok (.aload 4, 2) := by decide +kernel
theorem dX3_meets_19 : decode cX3_meets 19 = .ok (.ifnonnull 5, 3) := by decide +kernel
theorem dX3_meets_22 : decode cX3_meets 22 = .ok (.iconst (-1), 1) := by decide +kernel
theorem dX3_meets_23 : decode cX3_meets 23 = .ok (.ireturn, 1) := by decide +kernel
theorem dX3_meets_24 : decode cX3_meets 24 = .ok (.aload_n 3, 1) := by decide +kernel
theorem dX3_meets_25 : decode cX3_meets 25 = .ok (.aload 4, 2) := by decide +kernel
theorem dX3_meets_27 : decode cX3_meets 27 = .ok (.invokevirtual 96, 3) := by decide +kernel
theorem dX3_meets_30 : decode cX3_meets 30 = .ok (.ifCond .eq 7, 3) := by decide +kernel
theorem dX3_meets_33 : decode cX3_meets 33 = .ok (.iconst 1, 1) := by decide +kernel
theorem dX3_meets_34 : decode cX3_meets 34 = .ok (.goto 4, 3) := by decide +kernel
theorem dX3_meets_37 : decode cX3_meets 37 = .ok (.iconst 0, 1) := by decide +kernel
theorem dX3_meets_38 : decode cX3_meets 38 = .ok (.ireturn, 1) := by decide +kernel
set_option maxRecDepth 20000 in
theorem ggX3_square_X3_right : GoodIn wsX3_square wsX3_right := goodIn_r _ [9, 10, 11, 12, 13, 8, 14, 15, 16, 107, 108, 109, 110, 111, 112, 113, 114, 115, 95, 96, 97, 98, 99, 100, 101, 102, 103, 104] (by decide +kernel) (by decide +kernel)
set_option maxRecDepth 20000 in
theorem gX3_square_X3_right : GoodIn wsX3_square (wsV RX3 89 RX3 yX3_right wsX3_right) := goodIn_app (goodIn_of _ (by decide +kernel)) ggX3_square_X3_right
set_option maxRecDepth 20000 in
theorem ggX3_square_X2_measureTo : GoodIn wsX3_square wsX2_measureTo := goodIn_r _ [21, 22, 23, 24, 25, 26, 20, 27, 28, 29, 30, 31, 32, 33, 34, 35, 36, 37, 38, 39, 40, 41, 42, 43, 44, 45, 46, 47, 48, 49, 50, 51, 52, 53, 54, 55, 56, 57, 58, 59, 60, 61, 62, 63, 64, 65, 66, 67, 68, 69, 70, 71, 72, 73, 74, 75, 76, 77, 78, 79, 80, 81, 82, 83, 84, 85, 86, 87, 107, 108, 109, 110, 111, 112, 113, 114, 115, 105, 106] (by decide +kernel) (by decide +kernel)
set_option maxRecDepth 20000 in
theorem gX3_square_X2_measureTo : GoodIn wsX3_square (wsV RX3 102 RX2 yX2_measureTo wsX2_measureTo) := goodIn_app (goodIn_of _ (by decide +kernel)) ggX3_square_X2_measureTo
set_option maxRecDepth 20000 in
theorem ggX3_square_X0_reduce : GoodIn wsX3_square wsX0_reduce := goodIn_r _ [91, 67, 68, 92, 93, 65, 94, 105, 106] (by decide +kernel) (by decide +kernel)
set_option maxRecDepth 20000 in
theorem gX3_square_X0_reduce : GoodIn wsX3_square (wsV RX3 106 RX0 yX0_reduce wsX0_reduce) := goodIn_app (goodIn_of _ (by decide +kernel)) ggX3_square_X0_reduce
theorem dX3_square_0 : decode cX3_square 0 = .ok (.aload_n 0, 1) := by decide +kernel
theorem dX3_square_1 : decode cX3_square 1 = .ok (.iload_n 1, 1) := by decide +kernel
theorem dX3_square_2 : decode cX3_square 2 = .ok (.invokevirtual 89, 3) := by decide +kernel
theorem dX3_square_5 : decode cX3_square 5 = .ok (.astore 4, 2) := by decide +kernel
theorem dX3_square_7 : decode cX3_square 7 = .ok (.aload_n 0, 1) := by decide +kernel
theorem dX3_square_8 : decode cX3_square 8 = .ok (.iload_n 2, 1) := by decide +kernel
theorem dX3_square_9 : decode cX3_square 9 = .ok (.invokevirtual 89, 3) := by decide +kernel
theorem dX3_square_12 : decode cX3_square 12 = .ok (.astore 5, 2) := by decide +kernel
theorem dX3_square_14 : decode cX3_square 14 = .ok (.aload 4, 2) := by decide +kernel
theorem dX3_square_16 : decode cX3_square 16 = .ok (.ifnull 8, 3) := by decide +kernel
theorem dX3_square_19 : decode cX3_square 19 = .ok (.aload 5, 2) := by decide +kernel
theorem dX3_square_21 : decode cX3_square 21 = .ok (.ifnonnull 7, 3) := by decide +kernel
theorem dX3_square_24 : decode cX3_square 24 = .ok (.ldc2_w 100, 3) := by decide +kernel
theorem dX3_square_27 : decode cX3_square 27 = .ok (.lreturn, 1) := by decide +kernel
theorem dX3_square_28 : decode cX3_square 28 = .ok (.aload 4, 2) := by decide +kernel
theorem dX3_square_30 : decode cX3_square 30 = .ok (.aload 5, 2) := by decide +kernel
theorem dX3_square_32 : decode cX3_square 32 = .ok (.aload_n 0, 1) := by decide +kernel
theorem dX3_square_33 : decode cX3_square 33 = .ok (.getfield 35, 3) := by decide +kernel
theorem dX3_square_36 : decode cX3_square 36 = .ok (.invokevirtual 102, 3) := by decide +kernel
theorem dX3_square_39 : decode cX3_square 39 = .ok (.aload_n 0, 1) := by decide +kernel
theorem dX3_square_40 : decode cX3_square 40 = .ok (.getfield 35, 3) := by decide +kernel
theorem dX3_square_43 : decode cX3_square 43 = .ok (.invokevirtual 106, 3) := by decide +kernel
theorem dX3_square_46 : decode cX3_square 46 = .ok (.iload_n 3, 1) := by decide +kernel
theorem dX3_square_47 : decode cX3_square 47 = .ok (.ifCond .ne 13, 3) := by decide +kernel
theorem dX3_square_50 : decode cX3_square 50 = .ok (.aload_n 0, 1) := by decide +kernel
theorem dX3_square_51 : decode cX3_square 51 = .ok (.getfield 35, 3) := by decide +kernel
theorem dX3_square_54 : decode cX3_square 54 = .ok (.getfield 109, 3) := by decide +kernel
theorem dX3_square_57 : decode cX3_square 57 = .ok (.goto 10, 3) := by decide +kernel
theorem dX3_square_60 : decode cX3_square 60 = .ok (.aload_n 0, 1) := by decide +kernel
theorem dX3_square_61 : decode cX3_square 61 = .ok (.getfield 35, 3) := by decide +kernel
theorem dX3_square_64 : decode cX3_square 64 = .ok (.getfield 113, 3) := by decide +kernel
theorem dX3_square_67 : decode cX3_square 67 = .ok (.lreturn, 1) := by decide +kernel
set_option maxRecDepth 20000 in
theorem ggX3_near_X3_isPlace : GoodIn wsX3_near wsX3_isPlace := goodIn_r _ [5] (by decide +kernel) (by decide +kernel)
set_option maxRecDepth 20000 in
theorem gX3_near_X3_isPlace : GoodIn wsX3_near (va_wsS RX3 49 yX3_isPlace wsX3_isPlace) := goodIn_app (goodIn_of _ (by decide +kernel)) ggX3_near_X3_isPlace
set_option maxRecDepth 20000 in
theorem ggX3_near_X3_sortByGapTo : GoodIn wsX3_near wsX3_sortByGapTo := goodIn_r _ [9, 10, 11, 12, 13, 14, 15, 16, 17, 18, 19, 20, 21, 22, 23, 24, 25, 26, 27, 28, 29, 30, 31, 32, 33, 34, 35, 36, 37, 38, 39, 40, 41, 42, 43, 44, 45, 46, 47, 48, 49, 50, 51, 52, 53, 54, 55, 56, 57, 58, 59, 60, 61, 62, 63, 64, 65, 66, 67, 68, 69, 70, 71, 72, 73, 74, 75, 76, 77, 78, 79, 80, 81, 82, 83, 84, 85, 4, 86, 87, 88, 89, 90, 91, 92, 93, 94, 95, 96, 97, 98, 99, 100, 101, 102, 103, 104, 105, 106, 107, 108, 109, 110, 111, 112, 113, 114, 115, 116, 117, 118, 119, 120, 121, 122, 123, 124, 125, 126, 127, 128, 129, 130, 131, 132, 133, 134, 135, 136, 137, 138, 1, 139, 140, 141, 142, 143, 154, 155, 156, 157, 158, 159, 160, 161, 162, 144, 145, 146, 147, 148, 149, 150, 151, 152, 153, 163, 164] (by decide +kernel) (by decide +kernel)
set_option maxRecDepth 20000 in
theorem gX3_near_X3_sortByGapTo : GoodIn wsX3_near (wsV RX3 116 RX3 yX3_sortByGapTo wsX3_sortByGapTo) := goodIn_app (goodIn_of _ (by decide +kernel)) ggX3_near_X3_sortByGapTo
theorem dX3_near_0 : decode cX3_near 0 = .ok (.iload_n 1, 1) := by decide +kernel
theorem dX3_near_1 : decode cX3_near 1 = .ok (.iload_n 2, 1) := by decide +kernel
theorem dX3_near_2 : decode cX3_near 2 = .ok (.invokestatic 49, 3) := by decide +kernel
theorem dX3_near_5 : decode cX3_near 5 = .ok (.ifCond .ne 5, 3) := by decide +kernel
theorem dX3_near_8 : decode cX3_near 8 = .ok (.iconst (-1), 1) := by decide +kernel
theorem dX3_near_9 : decode cX3_near 9 = .ok (.ireturn, 1) := by decide +kernel
theorem dX3_near_10 : decode cX3_near 10 = .ok (.aload_n 0, 1) := by decide +kernel
theorem dX3_near_11 : decode cX3_near 11 = .ok (.iload_n 1, 1) := by decide +kernel
theorem dX3_near_12 : decode cX3_near 12 = .ok (.iload_n 2, 1) := by decide +kernel
theorem dX3_near_13 : decode cX3_near 13 = .ok (.invokevirtual 116, 3) := by decide +kernel
theorem dX3_near_16 : decode cX3_near 16 = .ok (.istore 4, 2) := by decide +kernel
theorem dX3_near_18 : decode cX3_near 18 = .ok (.iload_n 3, 1) := by decide +kernel
theorem dX3_near_19 : decode cX3_near 19 = .ok (.ifCond .lt 9, 3) := by decide +kernel
theorem dX3_near_22 : decode cX3_near 22 = .ok (.iload_n 3, 1) := by decide +kernel
theorem dX3_near_23 : decode cX3_near 23 = .ok (.iload 4, 2) := by decide +kernel
theorem dX3_near_25 : decode cX3_near 25 = .ok (.if_icmp .lt 7, 3) := by decide +kernel
theorem dX3_near_28 : decode cX3_near 28 = .ok (.iconst (-1), 1) := by decide +kernel
theorem dX3_near_29 : decode cX3_near 29 = .ok (.goto 9, 3) := by decide +kernel
theorem dX3_near_32 : decode cX3_near 32 = .ok (.aload_n 0, 1) := by decide +kernel
theorem dX3_near_33 : decode cX3_near 33 = .ok (.getfield 46, 3) := by decide +kernel
theorem dX3_near_36 : decode cX3_near 36 = .ok (.iload_n 3, 1) := by decide +kernel
theorem dX3_near_37 : decode cX3_near 37 = .ok (.iaload, 1) := by decide +kernel
theorem dX3_near_38 : decode cX3_near 38 = .ok (.ireturn, 1) := by decide +kernel
set_option maxRecDepth 20000 in
theorem ggX3_area_X3_right : GoodIn wsX3_area wsX3_right := goodIn_r _ [7, 8, 9, 10, 11, 6, 12, 13, 14, 23, 24, 25, 26, 27, 28, 29, 30, 31, 32, 33, 34, 35, 36, 37, 38, 39, 40, 41] (by decide +kernel) (by decide +kernel)
set_option maxRecDepth 20000 in
theorem gX3_area_X3_right : GoodIn wsX3_area (wsV RX3 89 RX3 yX3_right wsX3_right) := goodIn_app (goodIn_of _ (by decide +kernel)) ggX3_area_X3_right
set_option maxRecDepth 20000 in
theorem ggX3_area_X2_twiceEnclosed : GoodIn wsX3_area wsX2_twiceEnclosed := goodIn_r _ [19, 20, 21, 22, 23, 24, 25, 26, 27, 28, 29, 30, 31] (by decide +kernel) (by decide +kernel)
set_option maxRecDepth 20000 in
theorem gX3_area_X2_twiceEnclosed : GoodIn wsX3_area (wsV RX3 119 RX2 yX2_twiceEnclosed wsX2_twiceEnclosed) := goodIn_app (goodIn_of _ (by decide +kernel)) ggX3_area_X2_twiceEnclosed
theorem dX3_area_0 : decode cX3_area 0 = .ok (.aload_n 0, 1) := by decide +kernel
theorem dX3_area_1 : decode cX3_area 1 = .ok (.iload_n 1, 1) := by decide +kernel
theorem dX3_area_2 : decode cX3_area 2 = .ok (.invokevirtual 89, 3) := by decide +kernel
theorem dX3_area_5 : decode cX3_area 5 = .ok (.astore_n 2, 1) := by decide +kernel
theorem dX3_area_6 : decode cX3_area 6 = .ok (.aload_n 2, 1) := by decide +kernel
theorem dX3_area_7 : decode cX3_area 7 = .ok (.ifnull 13, 3) := by decide +kernel
theorem dX3_area_10 : decode cX3_area 10 = .ok (.aload_n 2, 1) := by decide +kernel
theorem dX3_area_11 : decode cX3_area 11 = .ok (.getfield 77, 3) := by decide +kernel
theorem dX3_area_14 : decode cX3_area 14 = .ok (.getstatic 74, 3) := by decide +kernel
theorem dX3_area_17 : decode cX3_area 17 = .ok (.if_acmp .eq 7, 3) := by decide +kernel
theorem dX3_area_20 : decode cX3_area 20 = .ok (.lconst 0, 1) := by decide +kernel
theorem dX3_area_21 : decode cX3_area 21 = .ok (.goto 7, 3) := by decide +kernel
theorem dX3_area_24 : decode cX3_area 24 = .ok (.aload_n 2, 1) := by decide +kernel
theorem dX3_area_25 : decode cX3_area 25 = .ok (.invokevirtual 119, 3) := by decide +kernel
theorem dX3_area_28 : decode cX3_area 28 = .ok (.lreturn, 1) := by decide +kernel
set_option maxRecDepth 20000 in
theorem ggX3_boxed_X3_right : GoodIn wsX3_boxed wsX3_right := goodIn_r _ [8, 9, 10, 11, 12, 7, 13, 2, 14, 34, 35, 36, 37, 38, 39, 40, 41, 42, 24, 25, 26, 27, 28, 29, 30, 31, 32, 33] (by decide +kernel) (by decide +kernel)
set_option maxRecDepth 20000 in
theorem gX3_boxed_X3_right : GoodIn wsX3_boxed (wsV RX3 89 RX3 yX3_right wsX3_right) := goodIn_app (goodIn_of _ (by decide +kernel)) ggX3_boxed_X3_right
set_option maxRecDepth 20000 in
theorem ggX3_boxed_X2_boxMeets : GoodIn wsX3_boxed wsX2_boxMeets := goodIn_r _ [19, 20, 21, 22, 23, 34, 35, 36, 37, 38, 39, 40, 41, 42] (by decide +kernel) (by decide +kernel)
set_option maxRecDepth 20000 in
theorem gX3_boxed_X2_boxMeets : GoodIn wsX3_boxed (wsV RX3 123 RX2 yX2_boxMeets wsX2_boxMeets) := goodIn_app (goodIn_of _ (by decide +kernel)) ggX3_boxed_X2_boxMeets
theorem dX3_boxed_0 : decode cX3_boxed 0 = .ok (.aload_n 0, 1) := by decide +kernel
theorem dX3_boxed_1 : decode cX3_boxed 1 = .ok (.iconst 0, 1) := by decide +kernel
theorem dX3_boxed_2 : decode cX3_boxed 2 = .ok (.putfield 29, 3) := by decide +kernel
theorem dX3_boxed_5 : decode cX3_boxed 5 = .ok (.iload_n 1, 1) := by decide +kernel
theorem dX3_boxed_6 : decode cX3_boxed 6 = .ok (.iload_n 3, 1) := by decide +kernel
theorem dX3_boxed_7 : decode cX3_boxed 7 = .ok (.if_icmp .gt 9, 3) := by decide +kernel
theorem dX3_boxed_10 : decode cX3_boxed 10 = .ok (.iload_n 2, 1) := by decide +kernel
theorem dX3_boxed_11 : decode cX3_boxed 11 = .ok (.iload 4, 2) := by decide +kernel
theorem dX3_boxed_13 : decode cX3_boxed 13 = .ok (.if_icmp .le 5, 3) := by decide +kernel
theorem dX3_boxed_16 : decode cX3_boxed 16 = .ok (.iconst 0, 1) := by decide +kernel
theorem dX3_boxed_17 : decode cX3_boxed 17 = .ok (.ireturn, 1) := by decide +kernel
theorem dX3_boxed_18 : decode cX3_boxed 18 = .ok (.iconst 0, 1) := by decide +kernel
theorem dX3_boxed_19 : decode cX3_boxed 19 = .ok (.istore 5, 2) := by decide +kernel
theorem dX3_boxed_21 : decode cX3_boxed 21 = .ok (.iload 5, 2) := by decide +kernel
theorem dX3_boxed_23 : decode cX3_boxed 23 = .ok (.aload_n 0, 1) := by decide +kernel
theorem dX3_boxed_24 : decode cX3_boxed 24 = .ok (.getfield 15, 3) := by decide +kernel
theorem dX3_boxed_27 : decode cX3_boxed 27 = .ok (.if_icmp .ge 56, 3) := by decide +kernel
theorem dX3_boxed_30 : decode cX3_boxed 30 = .ok (.aload_n 0, 1) := by decide +kernel
theorem dX3_boxed_31 : decode cX3_boxed 31 = .ok (.iload 5, 2) := by decide +kernel
theorem dX3_boxed_33 : decode cX3_boxed 33 = .ok (.invokevirtual 89, 3) := by decide +kernel
theorem dX3_boxed_36 : decode cX3_boxed 36 = .ok (.astore 6, 2) := by decide +kernel
theorem dX3_boxed_38 : decode cX3_boxed 38 = .ok (.aload 6, 2) := by decide +kernel
theorem dX3_boxed_40 : decode cX3_boxed 40 = .ok (.ifnull 37, 3) := by decide +kernel
theorem dX3_boxed_43 : decode cX3_boxed 43 = .ok (.aload 6, 2) := by decide +kernel
theorem dX3_boxed_45 : decode cX3_boxed 45 = .ok (.iload_n 1, 1) := by decide +kernel
theorem dX3_boxed_46 : decode cX3_boxed 46 = .ok (.iload_n 2, 1) := by decide +kernel
theorem dX3_boxed_47 : decode cX3_boxed 47 = .ok (.iload_n 3, 1) := by decide +kernel
theorem dX3_boxed_48 : decode cX3_boxed 48 = .ok (.iload 4, 2) := by decide +kernel
theorem dX3_boxed_50 : decode cX3_boxed 50 = .ok (.invokevirtual 123, 3) := by decide +kernel
theorem dX3_boxed_53 : decode cX3_boxed 53 = .ok (.ifCond .eq 24, 3) := by decide +kernel
theorem dX3_boxed_56 : decode cX3_boxed 56 = .ok (.aload_n 0, 1) := by decide +kernel
theorem dX3_boxed_57 : decode cX3_boxed 57 = .ok (.getfield 25, 3) := by decide +kernel
theorem dX3_boxed_60 : decode cX3_boxed 60 = .ok (.aload_n 0, 1) := by decide +kernel
theorem dX3_boxed_61 : decode cX3_boxed 61 = .ok (.getfield 29, 3) := by decide +kernel
theorem dX3_boxed_64 : decode cX3_boxed 64 = .ok (.iload 5, 2) := by decide +kernel
theorem dX3_boxed_66 : decode cX3_boxed 66 = .ok (.iastore, 1) := by decide +kernel
theorem dX3_boxed_67 : decode cX3_boxed 67 = .ok (.aload_n 0, 1) := by decide +kernel
theorem dX3_boxed_68 : decode cX3_boxed 68 = .ok (.dup, 1) := by decide +kernel
theorem dX3_boxed_69 : decode cX3_boxed 69 = .ok (.getfield 29, 3) := by decide +kernel
theorem dX3_boxed_72 : decode cX3_boxed 72 = .ok (.iconst 1, 1) := by decide +kernel
theorem dX3_boxed_73 : decode cX3_boxed 73 = .ok (.iadd, 1) := by decide +kernel
theorem dX3_boxed_74 : decode cX3_boxed 74 = .ok (.putfield 29, 3) := by decide +kernel
theorem dX3_boxed_77 : decode cX3_boxed 77 = .ok (.iinc 5 1, 3) := by decide +kernel
theorem dX3_boxed_80 : decode cX3_boxed 80 = .ok (.goto (-59), 3) := by decide +kernel
theorem dX3_boxed_83 : decode cX3_boxed 83 = .ok (.aload_n 0, 1) := by decide +kernel
theorem dX3_boxed_84 : decode cX3_boxed 84 = .ok (.getfield 29, 3) := by decide +kernel
theorem dX3_boxed_87 : decode cX3_boxed 87 = .ok (.ireturn, 1) := by decide +kernel
theorem dX3_found_0 : decode cX3_found 0 = .ok (.iload_n 1, 1) := by decide +kernel
theorem dX3_found_1 : decode cX3_found 1 = .ok (.ifCond .lt 11, 3) := by decide +kernel
theorem dX3_found_4 : decode cX3_found 4 = .ok (.iload_n 1, 1) := by decide +kernel
theorem dX3_found_5 : decode cX3_found 5 = .ok (.aload_n 0, 1) := by decide +kernel
theorem dX3_found_6 : decode cX3_found 6 = .ok (.getfield 29, 3) := by decide +kernel
theorem dX3_found_9 : decode cX3_found 9 = .ok (.if_icmp .lt 11, 3) := by decide +kernel
theorem dX3_found_12 : decode cX3_found 12 = .ok (.new 127, 3) := by decide +kernel
theorem dX3_found_15 : decode cX3_found 15 = .ok (.dup, 1) := by decide +kernel
theorem dX3_found_16 : decode cX3_found 16 = .ok (.invokespecial 129, 3) := by decide +kernel
theorem dX3_found_19 : decode cX3_found 19 = .ok (.athrow, 1) := by decide +kernel
theorem dX3_found_20 : decode cX3_found 20 = .ok (.aload_n 0, 1) := by decide +kernel
theorem dX3_found_21 : decode cX3_found 21 = .ok (.getfield 25, 3) := by decide +kernel
theorem dX3_found_24 : decode cX3_found 24 = .ok (.iload_n 1, 1) := by decide +kernel
theorem dX3_found_25 : decode cX3_found 25 = .ok (.iaload, 1) := by decide +kernel
theorem dX3_found_26 : decode cX3_found 26 = .ok (.ireturn, 1) := by decide +kernel
theorem dX3_shapes_0 : decode cX3_shapes 0 = .ok (.aload_n 0, 1) := by decide +kernel
theorem dX3_shapes_1 : decode cX3_shapes 1 = .ok (.getfield 19, 3) := by decide +kernel
theorem dX3_shapes_4 : decode cX3_shapes 4 = .ok (.ireturn, 1) := by decide +kernel
theorem dX3_isPlace_0 : decode cX3_isPlace 0 = .ok (.iload_n 0, 1) := by decide +kernel
theorem dX3_isPlace_1 : decode cX3_isPlace 1 = .ok (.sipush (-10000), 3) := by decide +kernel
theorem dX3_isPlace_4 : decode cX3_isPlace 4 = .ok (.if_icmp .lt 28, 3) := by decide +kernel
theorem dX3_isPlace_7 : decode cX3_isPlace 7 = .ok (.iload_n 0, 1) := by decide +kernel
theorem dX3_isPlace_8 : decode cX3_isPlace 8 = .ok (.sipush 10000, 3) := by decide +kernel
theorem dX3_isPlace_11 : decode cX3_isPlace 11 = .ok (.if_icmp .gt 21, 3) := by decide +kernel
theorem dX3_isPlace_14 : decode cX3_isPlace 14 = .ok (.iload_n 1, 1) := by decide +kernel
theorem dX3_isPlace_15 : decode cX3_isPlace 15 = .ok (.sipush (-10000), 3) := by decide +kernel
theorem dX3_isPlace_18 : decode cX3_isPlace 18 = .ok (.if_icmp .lt 14, 3) := by decide +kernel
theorem dX3_isPlace_21 : decode cX3_isPlace 21 = .ok (.iload_n 1, 1) := by decide +kernel
theorem dX3_isPlace_22 : decode cX3_isPlace 22 = .ok (.sipush 10000, 3) := by decide +kernel
theorem dX3_isPlace_25 : decode cX3_isPlace 25 = .ok (.if_icmp .gt 7, 3) := by decide +kernel
theorem dX3_isPlace_28 : decode cX3_isPlace 28 = .ok (.iconst 1, 1) := by decide +kernel
theorem dX3_isPlace_29 : decode cX3_isPlace 29 = .ok (.goto 4, 3) := by decide +kernel
theorem dX3_isPlace_32 : decode cX3_isPlace 32 = .ok (.iconst 0, 1) := by decide +kernel
theorem dX3_isPlace_33 : decode cX3_isPlace 33 = .ok (.ireturn, 1) := by decide +kernel
set_option maxRecDepth 20000 in
theorem ggX3_make_X2_init : GoodIn wsX3_make wsX2_init := goodIn_r _ [9, 10, 11, 12, 13, 14, 15, 16, 17, 18, 19, 20, 21, 22, 23, 34, 35, 36, 37, 38, 39, 40, 41, 42] (by decide +kernel) (by decide +kernel)
set_option maxRecDepth 20000 in
theorem gX3_make_X2_init : GoodIn wsX3_make (wsX2_init) := ggX3_make_X2_init
theorem dX3_make_0 : decode cX3_make 0 = .ok (.aload_n 0, 1) := by decide +kernel
theorem dX3_make_1 : decode cX3_make 1 = .ok (.getfield 15, 3) := by decide +kernel
theorem dX3_make_4 : decode cX3_make 4 = .ok (.bipush 60, 2) := by decide +kernel
theorem dX3_make_6 : decode cX3_make 6 = .ok (.if_icmp .lt 6, 3) := by decide +kernel
theorem dX3_make_9 : decode cX3_make 9 = .ok (.bipush (-2), 2) := by decide +kernel
theorem dX3_make_11 : decode cX3_make 11 = .ok (.ireturn, 1) := by decide +kernel
theorem dX3_make_12 : decode cX3_make 12 = .ok (.aload_n 0, 1) := by decide +kernel
theorem dX3_make_13 : decode cX3_make 13 = .ok (.getfield 15, 3) := by decide +kernel
theorem dX3_make_16 : decode cX3_make 16 = .ok (.istore_n 2, 1) := by decide +kernel
theorem dX3_make_17 : decode cX3_make 17 = .ok (.aload_n 0, 1) := by decide +kernel
theorem dX3_make_18 : decode cX3_make 18 = .ok (.getfield 11, 3) := by decide +kernel
theorem dX3_make_21 : decode cX3_make 21 = .ok (.iload_n 2, 1) := by decide +kernel
theorem dX3_make_22 : decode cX3_make 22 = .ok (.new 9, 3) := by decide +kernel
theorem dX3_make_25 : decode cX3_make 25 = .ok (.dup, 1) := by decide +kernel
theorem dX3_make_26 : decode cX3_make 26 = .ok (.aload_n 1, 1) := by decide +kernel
theorem dX3_make_27 : decode cX3_make 27 = .ok (.invokespecial 130, 3) := by decide +kernel
theorem dX3_make_30 : decode cX3_make 30 = .ok (.aastore, 1) := by decide +kernel
theorem dX3_make_31 : decode cX3_make 31 = .ok (.aload_n 0, 1) := by decide +kernel
theorem dX3_make_32 : decode cX3_make 32 = .ok (.dup, 1) := by decide +kernel
theorem dX3_make_33 : decode cX3_make 33 = .ok (.getfield 15, 3) := by decide +kernel
theorem dX3_make_36 : decode cX3_make 36 = .ok (.iconst 1, 1) := by decide +kernel
theorem dX3_make_37 : decode cX3_make 37 = .ok (.iadd, 1) := by decide +kernel
theorem dX3_make_38 : decode cX3_make 38 = .ok (.putfield 15, 3) := by decide +kernel
theorem dX3_make_41 : decode cX3_make 41 = .ok (.aload_n 0, 1) := by decide +kernel
theorem dX3_make_42 : decode cX3_make 42 = .ok (.dup, 1) := by decide +kernel
theorem dX3_make_43 : decode cX3_make 43 = .ok (.getfield 19, 3) := by decide +kernel
theorem dX3_make_46 : decode cX3_make 46 = .ok (.iconst 1, 1) := by decide +kernel
theorem dX3_make_47 : decode cX3_make 47 = .ok (.iadd, 1) := by decide +kernel
theorem dX3_make_48 : decode cX3_make 48 = .ok (.putfield 19, 3) := by decide +kernel
theorem dX3_make_51 : decode cX3_make 51 = .ok (.iload_n 2, 1) := by decide +kernel
theorem dX3_make_52 : decode cX3_make 52 = .ok (.ireturn, 1) := by decide +kernel
theorem dX3_standing_0 : decode cX3_standing 0 = .ok (.iload_n 1, 1) := by decide +kernel
theorem dX3_standing_1 : decode cX3_standing 1 = .ok (.ifCond .lt 11, 3) := by decide +kernel
theorem dX3_standing_4 : decode cX3_standing 4 = .ok (.iload_n 1, 1) := by decide +kernel
theorem dX3_standing_5 : decode cX3_standing 5 = .ok (.aload_n 0, 1) := by decide +kernel
theorem dX3_standing_6 : decode cX3_standing 6 = .ok (.getfield 15, 3) := by decide +kernel
theorem dX3_standing_9 : decode cX3_standing 9 = .ok (.if_icmp .lt 7, 3) := by decide +kernel
theorem dX3_standing_12 : decode cX3_standing 12 = .ok (.aconst_null, 1) := by decide +kernel
theorem dX3_standing_13 : decode cX3_standing 13 = .ok (.goto 9, 3) := by decide +kernel
theorem dX3_standing_16 : decode cX3_standing 16 = .ok (.aload_n 0, 1) := by decide +kernel
theorem dX3_standing_17 : decode cX3_standing 17 = .ok (.getfield 11, 3) := by decide +kernel
theorem dX3_standing_20 : decode cX3_standing 20 = .ok (.iload_n 1, 1) := by decide +kernel
theorem dX3_standing_21 : decode cX3_standing 21 = .ok (.aaload, 1) := by decide +kernel
theorem dX3_standing_22 : decode cX3_standing 22 = .ok (.areturn, 1) := by decide +kernel
set_option maxRecDepth 20000 in
theorem ggX3_right_X3_standing : GoodIn wsX3_right wsX3_standing := goodIn_r _ [6, 7, 8, 18, 19, 20, 21, 22, 23, 24, 25, 26, 27] (by decide +kernel) (by decide +kernel)
set_option maxRecDepth 20000 in
theorem gX3_right_X3_standing : GoodIn wsX3_right (wsV RX3 63 RX3 yX3_standing wsX3_standing) := goodIn_app (goodIn_of _ (by decide +kernel)) ggX3_right_X3_standing
theorem dX3_right_0 : decode cX3_right 0 = .ok (.aload_n 0, 1) := by decide +kernel
theorem dX3_right_1 : decode cX3_right 1 = .ok (.iload_n 1, 1) := by decide +kernel
theorem dX3_right_2 : decode cX3_right 2 = .ok (.invokevirtual 63, 3) := by decide +kernel
theorem dX3_right_5 : decode cX3_right 5 = .ok (.astore_n 2, 1) := by decide +kernel
theorem dX3_right_6 : decode cX3_right 6 = .ok (.aload_n 2, 1) := by decide +kernel
theorem dX3_right_7 : decode cX3_right 7 = .ok (.ifnull 11, 3) := by decide +kernel
theorem dX3_right_10 : decode cX3_right 10 = .ok (.aload_n 2, 1) := by decide +kernel
theorem dX3_right_11 : decode cX3_right 11 = .ok (.getfield 86, 3) := by decide +kernel
theorem dX3_right_14 : decode cX3_right 14 = .ok (.iconst 1, 1) := by decide +kernel
theorem dX3_right_15 : decode cX3_right 15 = .ok (.if_icmp .eq 7, 3) := by decide +kernel
theorem dX3_right_18 : decode cX3_right 18 = .ok (.aconst_null, 1) := by decide +kernel
theorem dX3_right_19 : decode cX3_right 19 = .ok (.goto 4, 3) := by decide +kernel
theorem dX3_right_22 : decode cX3_right 22 = .ok (.aload_n 2, 1) := by decide +kernel
theorem dX3_right_23 : decode cX3_right 23 = .ok (.areturn, 1) := by decide +kernel
set_option maxRecDepth 20000 in
theorem ggX3_sortByGapTo_X2_init : GoodIn wsX3_sortByGapTo wsX2_init := goodIn_r _ [13, 14, 15, 16, 17, 18, 19, 20, 21, 22, 23, 24, 25, 26, 27, 137, 138, 139, 140, 141, 142, 143, 144, 145] (by decide +kernel) (by decide +kernel)
set_option maxRecDepth 20000 in
theorem gX3_sortByGapTo_X2_init : GoodIn wsX3_sortByGapTo (wsX2_init) := ggX3_sortByGapTo_X2_init
set_option maxRecDepth 20000 in
theorem ggX3_sortByGapTo_X2_add : GoodIn wsX3_sortByGapTo wsX2_add := goodIn_r _ [31, 17, 23, 24, 26, 27, 19, 32, 33, 34, 35, 20, 21, 36, 37, 38, 22, 18, 39, 40, 41, 3, 42, 43, 44, 45, 46, 47, 48, 49, 50, 51, 52, 53, 54, 55, 56, 57, 58, 59, 60, 61, 62, 63, 64, 65, 66, 67, 68, 69, 70, 71, 72, 73, 137, 138, 139, 140, 141, 142, 143, 144, 145] (by decide +kernel) (by decide +kernel)
set_option maxRecDepth 20000 in
theorem gX3_sortByGapTo_X2_add : GoodIn wsX3_sortByGapTo (wsV RX3 67 RX2 yX2_add wsX2_add) := goodIn_app (goodIn_of _ (by decide +kernel)) ggX3_sortByGapTo_X2_add
set_option maxRecDepth 20000 in
theorem ggX3_sortByGapTo_X3_right : GoodIn wsX3_sortByGapTo wsX3_right := goodIn_r _ [78, 79, 80, 81, 82, 77, 83, 5, 84, 137, 138, 139, 140, 141, 142, 143, 144, 145, 146, 147, 148, 149, 150, 151, 152, 153, 154, 155] (by decide +kernel) (by decide +kernel)
set_option maxRecDepth 20000 in
theorem gX3_sortByGapTo_X3_right : GoodIn wsX3_sortByGapTo (wsV RX3 89 RX3 yX3_right wsX3_right) := goodIn_app (goodIn_of _ (by decide +kernel)) ggX3_sortByGapTo_X3_right
set_option maxRecDepth 20000 in
theorem ggX3_sortByGapTo_X2_measureTo : GoodIn wsX3_sortByGapTo wsX2_measureTo := goodIn_r _ [88, 26, 27, 89, 90, 91, 3, 92, 45, 46, 47, 48, 23, 49, 17, 63, 64, 65, 66, 67, 68, 69, 36, 37, 34, 38, 32, 33, 35, 70, 71, 72, 73, 93, 94, 95, 96, 54, 97, 98, 99, 100, 101, 102, 103, 104, 105, 106, 107, 108, 109, 110, 111, 112, 113, 114, 115, 116, 117, 118, 119, 120, 121, 122, 123, 124, 125, 126, 137, 138, 139, 140, 141, 142, 143, 144, 145, 156, 157] (by decide +kernel) (by decide +kernel)
set_option maxRecDepth 20000 in
theorem gX3_sortByGapTo_X2_measureTo : GoodIn wsX3_sortByGapTo (wsV RX3 102 RX2 yX2_measureTo wsX2_measureTo) := goodIn_app (goodIn_of _ (by decide +kernel)) ggX3_sortByGapTo_X2_measureTo
set_option maxRecDepth 20000 in
theorem ggX3_sortByGapTo_X3_insertByGap : GoodIn wsX3_sortByGapTo wsX3_insertByGap := goodIn_r _ [130, 131, 132, 133, 134, 77, 135, 7, 9, 136, 124, 104, 125, 146, 147, 148, 149, 150, 151, 152, 153, 154, 155] (by decide +kernel) (by decide +kernel)
set_option maxRecDepth 20000 in
theorem gX3_sortByGapTo_X3_insertByGap : GoodIn wsX3_sortByGapTo (wsV RX3 133 RX3 yX3_insertByGap wsX3_insertByGap) := goodIn_app (goodIn_of _ (by decide +kernel)) ggX3_sortByGapTo_X3_insertByGap
theorem dX3_sortByGapTo_0 : decode cX3_sortByGapTo 0 = .ok (.new 9, 3) := by decide +kernel
theorem dX3_sortByGapTo_3 : decode cX3_sortByGapTo 3 = .ok (.dup, 1) := by decide +kernel
theorem dX3_sortByGapTo_4 : decode cX3_sortByGapTo 4 = .ok (.getstatic 53, 3) := by decide +kernel
theorem dX3_sortByGapTo_7 : decode cX3_sortByGapTo 7 = .ok (.invokespecial 130, 3) := by decide +kernel
theorem dX3_sortByGapTo_10 : decode cX3_sortByGapTo 10 = .ok (.astore_n 3, 1) := by decide +kernel
theorem dX3_sortByGapTo_11 : decode cX3_sortByGapTo 11 = .ok (.aload_n 3, 1) := by decide +kernel
theorem dX3_sortByGapTo_12 : decode cX3_sortByGapTo 12 = .ok (.iload_n 1, 1) := by decide +kernel
theorem dX3_sortByGapTo_13 : decode cX3_sortByGapTo 13 = .ok (.iload_n 2, 1) := by decide +kernel
theorem dX3_sortByGapTo_14 : decode cX3_sortByGapTo 14 = .ok (.invokevirtual 67, 3) := by decide +kernel
theorem dX3_sortByGapTo_17 : decode cX3_sortByGapTo 17 = .ok (.iconst 0, 1) := by decide +kernel
theorem dX3_sortByGapTo_18 : decode cX3_sortByGapTo 18 = .ok (.istore 4, 2) := by decide +kernel
theorem dX3_sortByGapTo_20 : decode cX3_sortByGapTo 20 = .ok (.iconst 0, 1) := by decide +kernel
theorem dX3_sortByGapTo_21 : decode cX3_sortByGapTo 21 = .ok (.istore 5, 2) := by decide +kernel
theorem dX3_sortByGapTo_23 : decode cX3_sortByGapTo 23 = .ok (.iload 5, 2) := by decide +kernel
theorem dX3_sortByGapTo_25 : decode cX3_sortByGapTo 25 = .ok (.aload_n 0, 1) := by decide +kernel
theorem dX3_sortByGapTo_26 : decode cX3_sortByGapTo 26 = .ok (.getfield 15, 3) := by decide +kernel
theorem dX3_sortByGapTo_29 : decode cX3_sortByGapTo 29 = .ok (.if_icmp .ge 71, 3) := by decide +kernel
theorem dX3_sortByGapTo_32 : decode cX3_sortByGapTo 32 = .ok (.aload_n 0, 1) := by decide +kernel
theorem dX3_sortByGapTo_33 : decode cX3_sortByGapTo 33 = .ok (.iload 5, 2) := by decide +kernel
theorem dX3_sortByGapTo_35 : decode cX3_sortByGapTo 35 = .ok (.invokevirtual 89, 3) := by decide +kernel
theorem dX3_sortByGapTo_38 : decode cX3_sortByGapTo 38 = .ok (.astore 6, 2) := by decide +kernel
theorem dX3_sortByGapTo_40 : decode cX3_sortByGapTo 40 = .ok (.aload 6, 2) := by decide +kernel
theorem dX3_sortByGapTo_42 : decode cX3_sortByGapTo 42 = .ok (.ifnull 52, 3) := by decide +kernel
theorem dX3_sortByGapTo_45 : decode cX3_sortByGapTo 45 = .ok (.aload 6, 2) := by decide +kernel
theorem dX3_sortByGapTo_47 : decode cX3_sortByGapTo 47 = .ok (.aload_n 3, 1) := by decide +kernel
theorem dX3_sortByGapTo_48 : decode cX3_sortByGapTo 48 = .ok (.aload_n 0, 1) := by decide +kernel
theorem dX3_sortByGapTo_49 : decode cX3_sortByGapTo 49 = .ok (.getfield 35, 3) := by decide +kernel
theorem dX3_sortByGapTo_52 : decode cX3_sortByGapTo 52 = .ok (.invokevirtual 102, 3) := by decide +kernel
theorem dX3_sortByGapTo_55 : decode cX3_sortByGapTo 55 = .ok (.aload_n 0, 1) := by decide +kernel
theorem dX3_sortByGapTo_56 : decode cX3_sortByGapTo 56 = .ok (.getfield 39, 3) := by decide +kernel
theorem dX3_sortByGapTo_59 : decode cX3_sortByGapTo 59 = .ok (.iload 5, 2) := by decide +kernel
theorem dX3_sortByGapTo_61 : decode cX3_sortByGapTo 61 = .ok (.aload_n 0, 1) := by decide +kernel
theorem dX3_sortByGapTo_62 : decode cX3_sortByGapTo 62 = .ok (.getfield 35, 3) := by decide +kernel
theorem dX3_sortByGapTo_65 : decode cX3_sortByGapTo 65 = .ok (.getfield 109, 3) := by decide +kernel
theorem dX3_sortByGapTo_68 : decode cX3_sortByGapTo 68 = .ok (.lastore, 1) := by decide +kernel
theorem dX3_sortByGapTo_69 : decode cX3_sortByGapTo 69 = .ok (.aload_n 0, 1) := by decide +kernel
theorem dX3_sortByGapTo_70 : decode cX3_sortByGapTo 70 = .ok (.getfield 43, 3) := by decide +kernel
theorem dX3_sortByGapTo_73 : decode cX3_sortByGapTo 73 = .ok (.iload 5, 2) := by decide +kernel
theorem dX3_sortByGapTo_75 : decode cX3_sortByGapTo 75 = .ok (.aload_n 0, 1) := by decide +kernel
theorem dX3_sortByGapTo_76 : decode cX3_sortByGapTo 76 = .ok (.getfield 35, 3) := by decide +kernel
theorem dX3_sortByGapTo_79 : decode cX3_sortByGapTo 79 = .ok (.getfield 113, 3) := by decide +kernel
theorem dX3_sortByGapTo_82 : decode cX3_sortByGapTo 82 = .ok (.lastore, 1) := by decide +kernel
theorem dX3_sortByGapTo_83 : decode cX3_sortByGapTo 83 = .ok (.aload_n 0, 1) := by decide +kernel
theorem dX3_sortByGapTo_84 : decode cX3_sortByGapTo 84 = .ok (.iload 5, 2) := by decide +kernel
theorem dX3_sortByGapTo_86 : decode cX3_sortByGapTo 86 = .ok (.iload 4, 2) := by decide +kernel
theorem dX3_sortByGapTo_88 : decode cX3_sortByGapTo 88 = .ok (.invokevirtual 133, 3) := by decide +kernel
theorem dX3_sortByGapTo_91 : decode cX3_sortByGapTo 91 = .ok (.iinc 4 1, 3) := by decide +kernel
theorem dX3_sortByGapTo_94 : decode cX3_sortByGapTo 94 = .ok (.iinc 5 1, 3) := by decide +kernel
theorem dX3_sortByGapTo_97 : decode cX3_sortByGapTo 97 = .ok (.goto (-74), 3) := by decide +kernel
theorem dX3_sortByGapTo_100 : decode cX3_sortByGapTo 100 = .ok (.iload 4, 2) := by decide +kernel
theorem dX3_sortByGapTo_102 : decode cX3_sortByGapTo 102 = .ok (.ireturn, 1) := by decide +kernel
set_option maxRecDepth 20000 in
theorem ggX3_insertByGap_X3_isFarther : GoodIn wsX3_insertByGap wsX3_isFarther := goodIn_r _ [6, 7, 8, 9, 10, 11, 12, 13, 14, 15, 16, 17, 18, 19, 20, 21, 22] (by decide +kernel) (by decide +kernel)
set_option maxRecDepth 20000 in
theorem gX3_insertByGap_X3_isFarther : GoodIn wsX3_insertByGap (wsV RX3 136 RX3 yX3_isFarther wsX3_isFarther) := goodIn_app (goodIn_of _ (by decide +kernel)) ggX3_insertByGap_X3_isFarther
theorem dX3_insertByGap_0 : decode cX3_insertByGap 0 = .ok (.iload_n 2, 1) := by decide +kernel
theorem dX3_insertByGap_1 : decode cX3_insertByGap 1 = .ok (.istore_n 3, 1) := by decide +kernel
theorem dX3_insertByGap_2 : decode cX3_insertByGap 2 = .ok (.iload_n 3, 1) := by decide +kernel
theorem dX3_insertByGap_3 : decode cX3_insertByGap 3 = .ok (.ifCond .le 39, 3) := by decide +kernel
theorem dX3_insertByGap_6 : decode cX3_insertByGap 6 = .ok (.aload_n 0, 1) := by decide +kernel
theorem dX3_insertByGap_7 : decode cX3_insertByGap 7 = .ok (.aload_n 0, 1) := by decide +kernel
theorem dX3_insertByGap_8 : decode cX3_insertByGap 8 = .ok (.getfield 46, 3) := by decide +kernel
theorem dX3_insertByGap_11 : decode cX3_insertByGap 11 = .ok (.iload_n 3, 1) := by decide +kernel
theorem dX3_insertByGap_12 : decode cX3_insertByGap 12 = .ok (.iconst 1, 1) := by decide +kernel
theorem dX3_insertByGap_13 : decode cX3_insertByGap 13 = .ok (.isub, 1) := by decide +kernel
theorem dX3_insertByGap_14 : decode cX3_insertByGap 14 = .ok (.iaload, 1) := by decide +kernel
theorem dX3_insertByGap_15 : decode cX3_insertByGap 15 = .ok (.iload_n 1, 1) := by decide +kernel
theorem dX3_insertByGap_16 : decode cX3_insertByGap 16 = .ok (.invokevirtual 136, 3) := by decide +kernel
theorem dX3_insertByGap_19 : decode cX3_insertByGap 19 = .ok (.ifCond .eq 23, 3) := by decide +kernel
theorem dX3_insertByGap_22 : decode cX3_insertByGap 22 = .ok (.aload_n 0, 1) := by decide +kernel
theorem dX3_insertByGap_23 : decode cX3_insertByGap 23 = .ok (.getfield 46, 3) := by decide +kernel
theorem dX3_insertByGap_26 : decode cX3_insertByGap 26 = .ok (.iload_n 3, 1) := by decide +kernel
theorem dX3_insertByGap_27 : decode cX3_insertByGap 27 = .ok (.aload_n 0, 1) := by decide +kernel
theorem dX3_insertByGap_28 : decode cX3_insertByGap 28 = .ok (.getfield 46, 3) := by decide +kernel
theorem dX3_insertByGap_31 : decode cX3_insertByGap 31 = .ok (.iload_n 3, 1) := by decide +kernel
theorem dX3_insertByGap_32 : decode cX3_insertByGap 32 = .ok (.iconst 1, 1) := by decide +kernel
theorem dX3_insertByGap_33 : decode cX3_insertByGap 33 = .ok (.isub, 1) := by decide +kernel
theorem dX3_insertByGap_34 : decode cX3_insertByGap 34 = .ok (.iaload, 1) := by decide +kernel
theorem dX3_insertByGap_35 : decode cX3_insertByGap 35 = .ok (.iastore, 1) := by decide +kernel
theorem dX3_insertByGap_36 : decode cX3_insertByGap 36 = .ok (.iinc 3 (-1), 3) := by decide +kernel
theorem dX3_insertByGap_39 : decode cX3_insertByGap 39 = .ok (.goto (-37), 3) := by decide +kernel
theorem dX3_insertByGap_42 : decode cX3_insertByGap 42 = .ok (.aload_n 0, 1) := by decide +kernel
theorem dX3_insertByGap_43 : decode cX3_insertByGap 43 = .ok (.getfield 46, 3) := by decide +kernel
theorem dX3_insertByGap_46 : decode cX3_insertByGap 46 = .ok (.iload_n 3, 1) := by decide +kernel
theorem dX3_insertByGap_47 : decode cX3_insertByGap 47 = .ok (.iload_n 1, 1) := by decide +kernel
theorem dX3_insertByGap_48 : decode cX3_insertByGap 48 = .ok (.iastore, 1) := by decide +kernel
theorem dX3_insertByGap_49 : decode cX3_insertByGap 49 = .ok (.return_, 1) := by decide +kernel
set_option maxRecDepth 20000 in
theorem ggX3_isFarther_X0_isAbove : GoodIn wsX3_isFarther wsX0_isAbove := goodIn_r _ [6] (by decide +kernel) (by decide +kernel)
set_option maxRecDepth 20000 in
theorem gX3_isFarther_X0_isAbove : GoodIn wsX3_isFarther (va_wsS RX3 139 yX0_isAbove wsX0_isAbove) := goodIn_app (goodIn_of _ (by decide +kernel)) ggX3_isFarther_X0_isAbove
theorem dX3_isFarther_0 : decode cX3_isFarther 0 = .ok (.aload_n 0, 1) := by decide +kernel
theorem dX3_isFarther_1 : decode cX3_isFarther 1 = .ok (.getfield 39, 3) := by decide +kernel
theorem dX3_isFarther_4 : decode cX3_isFarther 4 = .ok (.iload_n 1, 1) := by decide +kernel
theorem dX3_isFarther_5 : decode cX3_isFarther 5 = .ok (.laload, 1) := by decide +kernel
theorem dX3_isFarther_6 : decode cX3_isFarther 6 = .ok (.aload_n 0, 1) := by decide +kernel
theorem dX3_isFarther_7 : decode cX3_isFarther 7 = .ok (.getfield 43, 3) := by decide +kernel
theorem dX3_isFarther_10 : decode cX3_isFarther 10 = .ok (.iload_n 1, 1) := by decide +kernel
theorem dX3_isFarther_11 : decode cX3_isFarther 11 = .ok (.laload, 1) := by decide +kernel
theorem dX3_isFarther_12 : decode cX3_isFarther 12 = .ok (.aload_n 0, 1) := by decide +kernel
theorem dX3_isFarther_13 : decode cX3_isFarther 13 = .ok (.getfield 39, 3) := by decide +kernel
theorem dX3_isFarther_16 : decode cX3_isFarther 16 = .ok (.iload_n 2, 1) := by decide +kernel
theorem dX3_isFarther_17 : decode cX3_isFarther 17 = .ok (.laload, 1) := by decide +kernel
theorem dX3_isFarther_18 : decode cX3_isFarther 18 = .ok (.aload_n 0, 1) := by decide +kernel
theorem dX3_isFarther_19 : decode cX3_isFarther 19 = .ok (.getfield 43, 3) := by decide +kernel
theorem dX3_isFarther_22 : decode cX3_isFarther 22 = .ok (.iload_n 2, 1) := by decide +kernel
theorem dX3_isFarther_23 : decode cX3_isFarther 23 = .ok (.laload, 1) := by decide +kernel
theorem dX3_isFarther_24 : decode cX3_isFarther 24 = .ok (.invokestatic 139, 3) := by decide +kernel
theorem dX3_isFarther_27 : decode cX3_isFarther 27 = .ok (.ireturn, 1) := by decide +kernel
