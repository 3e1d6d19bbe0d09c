theorem dX4_thrown_0 : decode cX4_thrown 0 = .ok (.aload_n 0, 1) := by decide +kernel
theorem dX4_thrown_1 : decode cX4_thrown 1 = .ok (.getfield 1, 3) := by decide +kernel
theorem dX4_thrown_4 : decode cX4_thrown 4 = .ok (.ireturn, 1) := by decide +kernel
theorem dX4_init_0 : decode cX4_init 0 = .ok (.aload_n 0, 1) := by decide +kernel
theorem dX4_init_1 : decode cX4_init 1 = .ok (.invokespecial 7, 3) := by decide +kernel
theorem dX4_init_4 : decode cX4_init 4 = .ok (.aload_n 0, 1) := by decide +kernel
theorem dX4_init_5 : decode cX4_init 5 = .ok (.bipush 60, 2) := by decide +kernel
theorem dX4_init_7 : decode cX4_init 7 = .ok (.newarray .int, 2) := by decide +kernel
theorem dX4_init_9 : decode cX4_init 9 = .ok (.putfield 13, 3) := by decide +kernel
theorem dX4_init_12 : decode cX4_init 12 = .ok (.aload_n 0, 1) := by decide +kernel
theorem dX4_init_13 : decode cX4_init 13 = .ok (.bipush 60, 2) := by decide +kernel
theorem dX4_init_15 : decode cX4_init 15 = .ok (.newarray .int, 2) := by decide +kernel
theorem dX4_init_17 : decode cX4_init 17 = .ok (.putfield 17, 3) := by decide +kernel
theorem dX4_init_20 : decode cX4_init 20 = .ok (.aload_n 0, 1) := by decide +kernel
theorem dX4_init_21 : decode cX4_init 21 = .ok (.sipush 1500, 3) := by decide +kernel
theorem dX4_init_24 : decode cX4_init 24 = .ok (.newarray .long, 2) := by decide +kernel
theorem dX4_init_26 : decode cX4_init 26 = .ok (.putfield 20, 3) := by decide +kernel
theorem dX4_init_29 : decode cX4_init 29 = .ok (.aload_n 0, 1) := by decide +kernel
theorem dX4_init_30 : decode cX4_init 30 = .ok (.sipush 1500, 3) := by decide +kernel
theorem dX4_init_33 : decode cX4_init 33 = .ok (.newarray .long, 2) := by decide +kernel
theorem dX4_init_35 : decode cX4_init 35 = .ok (.putfield 24, 3) := by decide +kernel
theorem dX4_init_38 : decode cX4_init 38 = .ok (.aload_n 0, 1) := by decide +kernel
theorem dX4_init_39 : decode cX4_init 39 = .ok (.bipush 60, 2) := by decide +kernel
theorem dX4_init_41 : decode cX4_init 41 = .ok (.newarray .int, 2) := by decide +kernel
theorem dX4_init_43 : decode cX4_init 43 = .ok (.putfield 27, 3) := by decide +kernel
theorem dX4_init_46 : decode cX4_init 46 = .ok (.aload_n 0, 1) := by decide +kernel
theorem dX4_init_47 : decode cX4_init 47 = .ok (.bipush 60, 2) := by decide +kernel
theorem dX4_init_49 : decode cX4_init 49 = .ok (.newarray .long, 2) := by decide +kernel
theorem dX4_init_51 : decode cX4_init 51 = .ok (.putfield 30, 3) := by decide +kernel
theorem dX4_init_54 : decode cX4_init 54 = .ok (.aload_n 0, 1) := by decide +kernel
theorem dX4_init_55 : decode cX4_init 55 = .ok (.bipush 60, 2) := by decide +kernel
theorem dX4_init_57 : decode cX4_init 57 = .ok (.newarray .long, 2) := by decide +kernel
theorem dX4_init_59 : decode cX4_init 59 = .ok (.putfield 33, 3) := by decide +kernel
theorem dX4_init_62 : decode cX4_init 62 = .ok (.aload_n 0, 1) := by decide +kernel
theorem dX4_init_63 : decode cX4_init 63 = .ok (.bipush 60, 2) := by decide +kernel
theorem dX4_init_65 : decode cX4_init 65 = .ok (.newarray .boolean, 2) := by decide +kernel
theorem dX4_init_67 : decode cX4_init 67 = .ok (.putfield 36, 3) := by decide +kernel
theorem dX4_init_70 : decode cX4_init 70 = .ok (.return_, 1) := by decide +kernel
theorem dX4_isPlace_0 : decode cX4_isPlace 0 = .ok (.iload_n 0, 1) := by decide +kernel
theorem dX4_isPlace_1 : decode cX4_isPlace 1 = .ok (.sipush (-10000), 3) := by decide +kernel
theorem dX4_isPlace_4 : decode cX4_isPlace 4 = .ok (.if_icmp .lt 28, 3) := by decide +kernel
theorem dX4_isPlace_7 : decode cX4_isPlace 7 = .ok (.iload_n 0, 1) := by decide +kernel
theorem dX4_isPlace_8 : decode cX4_isPlace 8 = .ok (.sipush 10000, 3) := by decide +kernel
theorem dX4_isPlace_11 : decode cX4_isPlace 11 = .ok (.if_icmp .gt 21, 3) := by decide +kernel
theorem dX4_isPlace_14 : decode cX4_isPlace 14 = .ok (.iload_n 1, 1) := by decide +kernel
theorem dX4_isPlace_15 : decode cX4_isPlace 15 = .ok (.sipush (-10000), 3) := by decide +kernel
theorem dX4_isPlace_18 : decode cX4_isPlace 18 = .ok (.if_icmp .lt 14, 3) := by decide +kernel
theorem dX4_isPlace_21 : decode cX4_isPlace 21 = .ok (.iload_n 1, 1) := by decide +kernel
theorem dX4_isPlace_22 : decode cX4_isPlace 22 = .ok (.sipush 10000, 3) := by decide +kernel
theorem dX4_isPlace_25 : decode cX4_isPlace 25 = .ok (.if_icmp .gt 7, 3) := by decide +kernel
theorem dX4_isPlace_28 : decode cX4_isPlace 28 = .ok (.iconst 1, 1) := by decide +kernel
theorem dX4_isPlace_29 : decode cX4_isPlace 29 = .ok (.goto 4, 3) := by decide +kernel
theorem dX4_isPlace_32 : decode cX4_isPlace 32 = .ok (.iconst 0, 1) := by decide +kernel
theorem dX4_isPlace_33 : decode cX4_isPlace 33 = .ok (.ireturn, 1) := by decide +kernel
theorem dX4_begin_0 : decode cX4_begin 0 = .ok (.aload_n 0, 1) := by decide +kernel
theorem dX4_begin_1 : decode cX4_begin 1 = .ok (.getfield 40, 3) := by decide +kernel
theorem dX4_begin_4 : decode cX4_begin 4 = .ok (.bipush 60, 2) := by decide +kernel
theorem dX4_begin_6 : decode cX4_begin 6 = .ok (.if_icmp .ne 6, 3) := by decide +kernel
theorem dX4_begin_9 : decode cX4_begin 9 = .ok (.bipush (-2), 2) := by decide +kernel
theorem dX4_begin_11 : decode cX4_begin 11 = .ok (.ireturn, 1) := by decide +kernel
theorem dX4_begin_12 : decode cX4_begin 12 = .ok (.aload_n 0, 1) := by decide +kernel
theorem dX4_begin_13 : decode cX4_begin 13 = .ok (.getfield 13, 3) := by decide +kernel
theorem dX4_begin_16 : decode cX4_begin 16 = .ok (.aload_n 0, 1) := by decide +kernel
theorem dX4_begin_17 : decode cX4_begin 17 = .ok (.getfield 40, 3) := by decide +kernel
theorem dX4_begin_20 : decode cX4_begin 20 = .ok (.iload_n 1, 1) := by decide +kernel
theorem dX4_begin_21 : decode cX4_begin 21 = .ok (.iastore, 1) := by decide +kernel
theorem dX4_begin_22 : decode cX4_begin 22 = .ok (.aload_n 0, 1) := by decide +kernel
theorem dX4_begin_23 : decode cX4_begin 23 = .ok (.getfield 17, 3) := by decide +kernel
theorem dX4_begin_26 : decode cX4_begin 26 = .ok (.aload_n 0, 1) := by decide +kernel
theorem dX4_begin_27 : decode cX4_begin 27 = .ok (.getfield 40, 3) := by decide +kernel
theorem dX4_begin_30 : decode cX4_begin 30 = .ok (.iconst 0, 1) := by decide +kernel
theorem dX4_begin_31 : decode cX4_begin 31 = .ok (.iastore, 1) := by decide +kernel
theorem dX4_begin_32 : decode cX4_begin 32 = .ok (.aload_n 0, 1) := by decide +kernel
theorem dX4_begin_33 : decode cX4_begin 33 = .ok (.dup, 1) := by decide +kernel
theorem dX4_begin_34 : decode cX4_begin 34 = .ok (.getfield 40, 3) := by decide +kernel
theorem dX4_begin_37 : decode cX4_begin 37 = .ok (.iconst 1, 1) := by decide +kernel
theorem dX4_begin_38 : decode cX4_begin 38 = .ok (.iadd, 1) := by decide +kernel
theorem dX4_begin_39 : decode cX4_begin 39 = .ok (.putfield 40, 3) := by decide +kernel
theorem dX4_begin_42 : decode cX4_begin 42 = .ok (.aload_n 0, 1) := by decide +kernel
theorem dX4_begin_43 : decode cX4_begin 43 = .ok (.getfield 40, 3) := by decide +kernel
theorem dX4_begin_46 : decode cX4_begin 46 = .ok (.iconst 1, 1) := by decide +kernel
theorem dX4_begin_47 : decode cX4_begin 47 = .ok (.isub, 1) := by decide +kernel
theorem dX4_begin_48 : decode cX4_begin 48 = .ok (.ireturn, 1) := by decide +kernel
theorem dX4_lay_0 : decode cX4_lay 0 = .ok (.bipush 24, 2) := by decide +kernel
theorem dX4_lay_2 : decode cX4_lay 2 = .ok (.iload_n 1, 1) := by decide +kernel
theorem dX4_lay_3 : decode cX4_lay 3 = .ok (.imul, 1) := by decide +kernel
theorem dX4_lay_4 : decode cX4_lay 4 = .ok (.aload_n 0, 1) := by decide +kernel
theorem dX4_lay_5 : decode cX4_lay 5 = .ok (.getfield 17, 3) := by decide +kernel
theorem dX4_lay_8 : decode cX4_lay 8 = .ok (.iload_n 1, 1) := by decide +kernel
theorem dX4_lay_9 : decode cX4_lay 9 = .ok (.iaload, 1) := by decide +kernel
theorem dX4_lay_10 : decode cX4_lay 10 = .ok (.iadd, 1) := by decide +kernel
theorem dX4_lay_11 : decode cX4_lay 11 = .ok (.istore 4, 2) := by decide +kernel
theorem dX4_lay_13 : decode cX4_lay 13 = .ok (.aload_n 0, 1) := by decide +kernel
theorem dX4_lay_14 : decode cX4_lay 14 = .ok (.getfield 20, 3) := by decide +kernel
theorem dX4_lay_17 : decode cX4_lay 17 = .ok (.iload 4, 2) := by decide +kernel
theorem dX4_lay_19 : decode cX4_lay 19 = .ok (.iload_n 2, 1) := by decide +kernel
theorem dX4_lay_20 : decode cX4_lay 20 = .ok (.i2l, 1) := by decide +kernel
theorem dX4_lay_21 : decode cX4_lay 21 = .ok (.lastore, 1) := by decide +kernel
theorem dX4_lay_22 : decode cX4_lay 22 = .ok (.aload_n 0, 1) := by decide +kernel
theorem dX4_lay_23 : decode cX4_lay 23 = .ok (.getfield 24, 3) := by decide +kernel
theorem dX4_lay_26 : decode cX4_lay 26 = .ok (.iload 4, 2) := by decide +kernel
theorem dX4_lay_28 : decode cX4_lay 28 = .ok (.iload_n 3, 1) := by decide +kernel
theorem dX4_lay_29 : decode cX4_lay 29 = .ok (.i2l, 1) := by decide +kernel
theorem dX4_lay_30 : decode cX4_lay 30 = .ok (.lastore, 1) := by decide +kernel
theorem dX4_lay_31 : decode cX4_lay 31 = .ok (.aload_n 0, 1) := by decide +kernel
theorem dX4_lay_32 : decode cX4_lay 32 = .ok (.getfield 17, 3) := by decide +kernel
theorem dX4_lay_35 : decode cX4_lay 35 = .ok (.iload_n 1, 1) := by decide +kernel
theorem dX4_lay_36 : decode cX4_lay 36 = .ok (.dup2, 1) := by decide +kernel
theorem dX4_lay_37 : decode cX4_lay 37 = .ok (.iaload, 1) := by decide +kernel
theorem dX4_lay_38 : decode cX4_lay 38 = .ok (.iconst 1, 1) := by decide +kernel
theorem dX4_lay_39 : decode cX4_lay 39 = .ok (.iadd, 1) := by decide +kernel
theorem dX4_lay_40 : decode cX4_lay 40 = .ok (.iastore, 1) := by decide +kernel
theorem dX4_lay_41 : decode cX4_lay 41 = .ok (.aload_n 0, 1) := by decide +kernel
theorem dX4_lay_42 : decode cX4_lay 42 = .ok (.dup, 1) := by decide +kernel
theorem dX4_lay_43 : decode cX4_lay 43 = .ok (.getfield 43, 3) := by decide +kernel
theorem dX4_lay_46 : decode cX4_lay 46 = .ok (.iconst 1, 1) := by decide +kernel
theorem dX4_lay_47 : decode cX4_lay 47 = .ok (.iadd, 1) := by decide +kernel
theorem dX4_lay_48 : decode cX4_lay 48 = .ok (.putfield 43, 3) := by decide +kernel
theorem dX4_lay_51 : decode cX4_lay 51 = .ok (.return_, 1) := by decide +kernel
set_option maxRecDepth 20000 in
theorem ggX4_point_X4_isPlace : GoodIn wsX4_point wsX4_isPlace := goodIn_r _ [7] (by decide +kernel) (by decide +kernel)
set_option maxRecDepth 20000 in
theorem gX4_point_X4_isPlace : GoodIn wsX4_point (va_wsS RX4 46 yX4_isPlace wsX4_isPlace) := goodIn_app (goodIn_of _ (by decide +kernel)) ggX4_point_X4_isPlace
set_option maxRecDepth 20000 in
theorem ggX4_point_X4_begin : GoodIn wsX4_point wsX4_begin := goodIn_r _ [11, 2, 12, 13, 20, 21, 22, 23, 24, 25, 26, 27, 28, 29, 30, 31, 32, 33, 34] (by decide +kernel) (by decide +kernel)
set_option maxRecDepth 20000 in
theorem gX4_point_X4_begin : GoodIn wsX4_point (wsV RX4 50 RX4 yX4_begin wsX4_begin) := goodIn_app (goodIn_of _ (by decide +kernel)) ggX4_point_X4_begin
set_option maxRecDepth 20000 in
theorem ggX4_point_X4_lay : GoodIn wsX4_point wsX4_lay := goodIn_r _ [17, 13, 18, 19, 3, 20, 21, 22, 23, 24, 25, 26, 27, 28, 29, 30, 31, 32, 33, 34] (by decide +kernel) (by decide +kernel)
set_option maxRecDepth 20000 in
theorem gX4_point_X4_lay : GoodIn wsX4_point (wsV RX4 54 RX4 yX4_lay wsX4_lay) := goodIn_app (goodIn_of _ (by decide +kernel)) ggX4_point_X4_lay
theorem dX4_point_0 : decode cX4_point 0 = .ok (.aload_n 0, 1) := by decide +kernel
theorem dX4_point_1 : decode cX4_point 1 = .ok (.iconst 0, 1) := by decide +kernel
theorem dX4_point_2 : decode cX4_point 2 = .ok (.putfield 1, 3) := by decide +kernel
theorem dX4_point_5 : decode cX4_point 5 = .ok (.iload_n 1, 1) := by decide +kernel
theorem dX4_point_6 : decode cX4_point 6 = .ok (.iload_n 2, 1) := by decide +kernel
theorem dX4_point_7 : decode cX4_point 7 = .ok (.invokestatic 46, 3) := by decide +kernel
theorem dX4_point_10 : decode cX4_point 10 = .ok (.ifCond .ne 5, 3) := by decide +kernel
theorem dX4_point_13 : decode cX4_point 13 = .ok (.iconst (-1), 1) := by decide +kernel
theorem dX4_point_14 : decode cX4_point 14 = .ok (.ireturn, 1) := by decide +kernel
theorem dX4_point_15 : decode cX4_point 15 = .ok (.aload_n 0, 1) := by decide +kernel
theorem dX4_point_16 : decode cX4_point 16 = .ok (.getfield 40, 3) := by decide +kernel
theorem dX4_point_19 : decode cX4_point 19 = .ok (.bipush 60, 2) := by decide +kernel
theorem dX4_point_21 : decode cX4_point 21 = .ok (.if_icmp .eq 13, 3) := by decide +kernel
theorem dX4_point_24 : decode cX4_point 24 = .ok (.aload_n 0, 1) := by decide +kernel
theorem dX4_point_25 : decode cX4_point 25 = .ok (.getfield 43, 3) := by decide +kernel
theorem dX4_point_28 : decode cX4_point 28 = .ok (.sipush 400, 3) := by decide +kernel
theorem dX4_point_31 : decode cX4_point 31 = .ok (.if_icmp .ne 6, 3) := by decide +kernel
theorem dX4_point_34 : decode cX4_point 34 = .ok (.bipush (-2), 2) := by decide +kernel
theorem dX4_point_36 : decode cX4_point 36 = .ok (.ireturn, 1) := by decide +kernel
theorem dX4_point_37 : decode cX4_point 37 = .ok (.aload_n 0, 1) := by decide +kernel
theorem dX4_point_38 : decode cX4_point 38 = .ok (.iconst 1, 1) := by decide +kernel
theorem dX4_point_39 : decode cX4_point 39 = .ok (.invokevirtual 50, 3) := by decide +kernel
theorem dX4_point_42 : decode cX4_point 42 = .ok (.istore_n 3, 1) := by decide +kernel
theorem dX4_point_43 : decode cX4_point 43 = .ok (.aload_n 0, 1) := by decide +kernel
theorem dX4_point_44 : decode cX4_point 44 = .ok (.iload_n 3, 1) := by decide +kernel
theorem dX4_point_45 : decode cX4_point 45 = .ok (.iload_n 1, 1) := by decide +kernel
theorem dX4_point_46 : decode cX4_point 46 = .ok (.iload_n 2, 1) := by decide +kernel
theorem dX4_point_47 : decode cX4_point 47 = .ok (.invokevirtual 54, 3) := by decide +kernel
theorem dX4_point_50 : decode cX4_point 50 = .ok (.iload_n 3, 1) := by decide +kernel
theorem dX4_point_51 : decode cX4_point 51 = .ok (.ireturn, 1) := by decide +kernel
set_option maxRecDepth 20000 in
theorem ggX4_line_X4_begin : GoodIn wsX4_line wsX4_begin := goodIn_r _ [6, 7, 8, 9, 10, 11, 12, 13, 14, 15, 16, 17, 18, 19, 20, 21, 22, 23, 24] (by decide +kernel) (by decide +kernel)
set_option maxRecDepth 20000 in
theorem gX4_line_X4_begin : GoodIn wsX4_line (wsV RX4 50 RX4 yX4_begin wsX4_begin) := goodIn_app (goodIn_of _ (by decide +kernel)) ggX4_line_X4_begin
theorem dX4_line_0 : decode cX4_line 0 = .ok (.aload_n 0, 1) := by decide +kernel
theorem dX4_line_1 : decode cX4_line 1 = .ok (.iconst 0, 1) := by decide +kernel
theorem dX4_line_2 : decode cX4_line 2 = .ok (.putfield 1, 3) := by decide +kernel
theorem dX4_line_5 : decode cX4_line 5 = .ok (.aload_n 0, 1) := by decide +kernel
theorem dX4_line_6 : decode cX4_line 6 = .ok (.iconst 2, 1) := by decide +kernel
theorem dX4_line_7 : decode cX4_line 7 = .ok (.invokevirtual 50, 3) := by decide +kernel
theorem dX4_line_10 : decode cX4_line 10 = .ok (.ireturn, 1) := by decide +kernel
set_option maxRecDepth 20000 in
theorem ggX4_polygon_X4_begin : GoodIn wsX4_polygon wsX4_begin := goodIn_r _ [6, 7, 8, 9, 10, 11, 12, 13, 14, 15, 16, 17, 18, 19, 20, 21, 22, 23, 24] (by decide +kernel) (by decide +kernel)
set_option maxRecDepth 20000 in
theorem gX4_polygon_X4_begin : GoodIn wsX4_polygon (wsV RX4 50 RX4 yX4_begin wsX4_begin) := goodIn_app (goodIn_of _ (by decide +kernel)) ggX4_polygon_X4_begin
theorem dX4_polygon_0 : decode cX4_polygon 0 = .ok (.aload_n 0, 1) := by decide +kernel
theorem dX4_polygon_1 : decode cX4_polygon 1 = .ok (.iconst 0, 1) := by decide +kernel
theorem dX4_polygon_2 : decode cX4_polygon 2 = .ok (.putfield 1, 3) := by decide +kernel
theorem dX4_polygon_5 : decode cX4_polygon 5 = .ok (.aload_n 0, 1) := by decide +kernel
theorem dX4_polygon_6 : decode cX4_polygon 6 = .ok (.iconst 3, 1) := by decide +kernel
theorem dX4_polygon_7 : decode cX4_polygon 7 = .ok (.invokevirtual 50, 3) := by decide +kernel
theorem dX4_polygon_10 : decode cX4_polygon 10 = .ok (.ireturn, 1) := by decide +kernel
theorem dX4_isShape_0 : decode cX4_isShape 0 = .ok (.iload_n 1, 1) := by decide +kernel
theorem dX4_isShape_1 : decode cX4_isShape 1 = .ok (.ifCond .lt 24, 3) := by decide +kernel
theorem dX4_isShape_4 : decode cX4_isShape 4 = .ok (.iload_n 1, 1) := by decide +kernel
theorem dX4_isShape_5 : decode cX4_isShape 5 = .ok (.aload_n 0, 1) := by decide +kernel
theorem dX4_isShape_6 : decode cX4_isShape 6 = .ok (.getfield 40, 3) := by decide +kernel
theorem dX4_isShape_9 : decode cX4_isShape 9 = .ok (.if_icmp .ge 16, 3) := by decide +kernel
theorem dX4_isShape_12 : decode cX4_isShape 12 = .ok (.aload_n 0, 1) := by decide +kernel
theorem dX4_isShape_13 : decode cX4_isShape 13 = .ok (.getfield 13, 3) := by decide +kernel
theorem dX4_isShape_16 : decode cX4_isShape 16 = .ok (.iload_n 1, 1) := by decide +kernel
theorem dX4_isShape_17 : decode cX4_isShape 17 = .ok (.iaload, 1) := by decide +kernel
theorem dX4_isShape_18 : decode cX4_isShape 18 = .ok (.ifCond .eq 7, 3) := by decide +kernel
theorem dX4_isShape_21 : decode cX4_isShape 21 = .ok (.iconst 1, 1) := by decide +kernel
theorem dX4_isShape_22 : decode cX4_isShape 22 = .ok (.goto 4, 3) := by decide +kernel
theorem dX4_isShape_25 : decode cX4_isShape 25 = .ok (.iconst 0, 1) := by decide +kernel
theorem dX4_isShape_26 : decode cX4_isShape 26 = .ok (.ireturn, 1) := by decide +kernel
set_option maxRecDepth 20000 in
theorem ggX4_corner_X4_isShape : GoodIn wsX4_corner wsX4_isShape := goodIn_r _ [9, 10, 2, 20, 21, 22, 23, 24, 25, 26, 27, 28, 29, 30, 31, 32, 33, 34] (by decide +kernel) (by decide +kernel)
set_option maxRecDepth 20000 in
theorem gX4_corner_X4_isShape : GoodIn wsX4_corner (wsV RX4 58 RX4 yX4_isShape wsX4_isShape) := goodIn_app (goodIn_of _ (by decide +kernel)) ggX4_corner_X4_isShape
set_option maxRecDepth 20000 in
theorem ggX4_corner_X4_isPlace : GoodIn wsX4_corner wsX4_isPlace := goodIn_r _ [13] (by decide +kernel) (by decide +kernel)
set_option maxRecDepth 20000 in
theorem gX4_corner_X4_isPlace : GoodIn wsX4_corner (va_wsS RX4 46 yX4_isPlace wsX4_isPlace) := goodIn_app (goodIn_of _ (by decide +kernel)) ggX4_corner_X4_isPlace
set_option maxRecDepth 20000 in
theorem ggX4_corner_X4_lay : GoodIn wsX4_corner wsX4_lay := goodIn_r _ [17, 3, 18, 19, 4, 20, 21, 22, 23, 24, 25, 26, 27, 28, 29, 30, 31, 32, 33, 34] (by decide +kernel) (by decide +kernel)
set_option maxRecDepth 20000 in
theorem gX4_corner_X4_lay : GoodIn wsX4_corner (wsV RX4 54 RX4 yX4_lay wsX4_lay) := goodIn_app (goodIn_of _ (by decide +kernel)) ggX4_corner_X4_lay
theorem dX4_corner_0 : decode cX4_corner 0 = .ok (.aload_n 0, 1) := by decide +kernel
theorem dX4_corner_1 : decode cX4_corner 1 = .ok (.iconst 0, 1) := by decide +kernel
theorem dX4_corner_2 : decode cX4_corner 2 = .ok (.putfield 1, 3) := by decide +kernel
theorem dX4_corner_5 : decode cX4_corner 5 = .ok (.aload_n 0, 1) := by decide +kernel
theorem dX4_corner_6 : decode cX4_corner 6 = .ok (.iload_n 1, 1) := by decide +kernel
theorem dX4_corner_7 : decode cX4_corner 7 = .ok (.invokevirtual 58, 3) := by decide +kernel
theorem dX4_corner_10 : decode cX4_corner 10 = .ok (.ifCond .eq 21, 3) := by decide +kernel
theorem dX4_corner_13 : decode cX4_corner 13 = .ok (.aload_n 0, 1) := by decide +kernel
theorem dX4_corner_14 : decode cX4_corner 14 = .ok (.getfield 13, 3) := by decide +kernel
theorem dX4_corner_17 : decode cX4_corner 17 = .ok (.iload_n 1, 1) := by decide +kernel
theorem dX4_corner_18 : decode cX4_corner 18 = .ok (.iaload, 1) := by decide +kernel
theorem dX4_corner_19 : decode cX4_corner 19 = .ok (.iconst 1, 1) := by decide +kernel
theorem dX4_corner_20 : decode cX4_corner 20 = .ok (.if_icmp .eq 11, 3) := by decide +kernel
theorem dX4_corner_23 : decode cX4_corner 23 = .ok (.iload_n 2, 1) := by decide +kernel
theorem dX4_corner_24 : decode cX4_corner 24 = .ok (.iload_n 3, 1) := by decide +kernel
theorem dX4_corner_25 : decode cX4_corner 25 = .ok (.invokestatic 46, 3) := by decide +kernel
theorem dX4_corner_28 : decode cX4_corner 28 = .ok (.ifCond .ne 5, 3) := by decide +kernel
theorem dX4_corner_31 : decode cX4_corner 31 = .ok (.iconst (-1), 1) := by decide +kernel
theorem dX4_corner_32 : decode cX4_corner 32 = .ok (.ireturn, 1) := by decide +kernel
theorem dX4_corner_33 : decode cX4_corner 33 = .ok (.aload_n 0, 1) := by decide +kernel
theorem dX4_corner_34 : decode cX4_corner 34 = .ok (.getfield 17, 3) := by decide +kernel
theorem dX4_corner_37 : decode cX4_corner 37 = .ok (.iload_n 1, 1) := by decide +kernel
theorem dX4_corner_38 : decode cX4_corner 38 = .ok (.iaload, 1) := by decide +kernel
theorem dX4_corner_39 : decode cX4_corner 39 = .ok (.bipush 24, 2) := by decide +kernel
theorem dX4_corner_41 : decode cX4_corner 41 = .ok (.if_icmp .eq 13, 3) := by decide +kernel
theorem dX4_corner_44 : decode cX4_corner 44 = .ok (.aload_n 0, 1) := by decide +kernel
theorem dX4_corner_45 : decode cX4_corner 45 = .ok (.getfield 43, 3) := by decide +kernel
theorem dX4_corner_48 : decode cX4_corner 48 = .ok (.sipush 400, 3) := by decide +kernel
theorem dX4_corner_51 : decode cX4_corner 51 = .ok (.if_icmp .ne 6, 3) := by decide +kernel
theorem dX4_corner_54 : decode cX4_corner 54 = .ok (.bipush (-2), 2) := by decide +kernel
theorem dX4_corner_56 : decode cX4_corner 56 = .ok (.ireturn, 1) := by decide +kernel
theorem dX4_corner_57 : decode cX4_corner 57 = .ok (.aload_n 0, 1) := by decide +kernel
theorem dX4_corner_58 : decode cX4_corner 58 = .ok (.iload_n 1, 1) := by decide +kernel
theorem dX4_corner_59 : decode cX4_corner 59 = .ok (.iload_n 2, 1) := by decide +kernel
theorem dX4_corner_60 : decode cX4_corner 60 = .ok (.iload_n 3, 1) := by decide +kernel
theorem dX4_corner_61 : decode cX4_corner 61 = .ok (.invokevirtual 54, 3) := by decide +kernel
theorem dX4_corner_64 : decode cX4_corner 64 = .ok (.aload_n 0, 1) := by decide +kernel
theorem dX4_corner_65 : decode cX4_corner 65 = .ok (.getfield 17, 3) := by decide +kernel
theorem dX4_corner_68 : decode cX4_corner 68 = .ok (.iload_n 1, 1) := by decide +kernel
theorem dX4_corner_69 : decode cX4_corner 69 = .ok (.iaload, 1) := by decide +kernel
theorem dX4_corner_70 : decode cX4_corner 70 = .ok (.ireturn, 1) := by decide +kernel
set_option maxRecDepth 20000 in
theorem ggX4_remove_X4_isShape : GoodIn wsX4_remove wsX4_isShape := goodIn_r _ [8, 9, 2, 10, 11, 12, 13, 14, 15, 16, 17, 18, 19, 20, 21, 22, 23, 24] (by decide +kernel) (by decide +kernel)
set_option maxRecDepth 20000 in
theorem gX4_remove_X4_isShape : GoodIn wsX4_remove (wsV RX4 58 RX4 yX4_isShape wsX4_isShape) := goodIn_app (goodIn_of _ (by decide +kernel)) ggX4_remove_X4_isShape
theorem dX4_remove_0 : decode cX4_remove 0 = .ok (.aload_n 0, 1) := by decide +kernel
theorem dX4_remove_1 : decode cX4_remove 1 = .ok (.iconst 0, 1) := by decide +kernel
theorem dX4_remove_2 : decode cX4_remove 2 = .ok (.putfield 1, 3) := by decide +kernel
theorem dX4_remove_5 : decode cX4_remove 5 = .ok (.aload_n 0, 1) := by decide +kernel
theorem dX4_remove_6 : decode cX4_remove 6 = .ok (.iload_n 1, 1) := by decide +kernel
theorem dX4_remove_7 : decode cX4_remove 7 = .ok (.invokevirtual 58, 3) := by decide +kernel
theorem dX4_remove_10 : decode cX4_remove 10 = .ok (.ifCond .ne 5, 3) := by decide +kernel
theorem dX4_remove_13 : decode cX4_remove 13 = .ok (.iconst (-1), 1) := by decide +kernel
theorem dX4_remove_14 : decode cX4_remove 14 = .ok (.ireturn, 1) := by decide +kernel
theorem dX4_remove_15 : decode cX4_remove 15 = .ok (.aload_n 0, 1) := by decide +kernel
theorem dX4_remove_16 : decode cX4_remove 16 = .ok (.getfield 13, 3) := by decide +kernel
theorem dX4_remove_19 : decode cX4_remove 19 = .ok (.iload_n 1, 1) := by decide +kernel
theorem dX4_remove_20 : decode cX4_remove 20 = .ok (.iconst 0, 1) := by decide +kernel
theorem dX4_remove_21 : decode cX4_remove 21 = .ok (.iastore, 1) := by decide +kernel
theorem dX4_remove_22 : decode cX4_remove 22 = .ok (.aload_n 0, 1) := by decide +kernel
theorem dX4_remove_23 : decode cX4_remove 23 = .ok (.dup, 1) := by decide +kernel
theorem dX4_remove_24 : decode cX4_remove 24 = .ok (.getfield 62, 3) := by decide +kernel
theorem dX4_remove_27 : decode cX4_remove 27 = .ok (.iconst 1, 1) := by decide +kernel
theorem dX4_remove_28 : decode cX4_remove 28 = .ok (.iadd, 1) := by decide +kernel
theorem dX4_remove_29 : decode cX4_remove 29 = .ok (.putfield 62, 3) := by decide +kernel
theorem dX4_remove_32 : decode cX4_remove 32 = .ok (.iconst 1, 1) := by decide +kernel
theorem dX4_remove_33 : decode cX4_remove 33 = .ok (.ireturn, 1) := by decide +kernel
theorem dX4_shapes_0 : decode cX4_shapes 0 = .ok (.aload_n 0, 1) := by decide +kernel
theorem dX4_shapes_1 : decode cX4_shapes 1 = .ok (.iconst 0, 1) := by decide +kernel
theorem dX4_shapes_2 : decode cX4_shapes 2 = .ok (.putfield 1, 3) := by decide +kernel
theorem dX4_shapes_5 : decode cX4_shapes 5 = .ok (.aload_n 0, 1) := by decide +kernel
theorem dX4_shapes_6 : decode cX4_shapes 6 = .ok (.getfield 40, 3) := by decide +kernel
theorem dX4_shapes_9 : decode cX4_shapes 9 = .ok (.aload_n 0, 1) := by decide +kernel
theorem dX4_shapes_10 : decode cX4_shapes 10 = .ok (.getfield 62, 3) := by decide +kernel
theorem dX4_shapes_13 : decode cX4_shapes 13 = .ok (.isub, 1) := by decide +kernel
theorem dX4_shapes_14 : decode cX4_shapes 14 = .ok (.ireturn, 1) := by decide +kernel
theorem dX4_cross_0 : decode cX4_cross 0 = .ok (.lload_n 0, 1) := by decide +kernel
theorem dX4_cross_1 : decode cX4_cross 1 = .ok (.lload 6, 2) := by decide +kernel
theorem dX4_cross_3 : decode cX4_cross 3 = .ok (.lmul, 1) := by decide +kernel
theorem dX4_cross_4 : decode cX4_cross 4 = .ok (.lload_n 2, 1) := by decide +kernel
theorem dX4_cross_5 : decode cX4_cross 5 = .ok (.lload 4, 2) := by decide +kernel
theorem dX4_cross_7 : decode cX4_cross 7 = .ok (.lmul, 1) := by decide +kernel
theorem dX4_cross_8 : decode cX4_cross 8 = .ok (.lsub, 1) := by decide +kernel
theorem dX4_cross_9 : decode cX4_cross 9 = .ok (.lreturn, 1) := by decide +kernel
set_option maxRecDepth 20000 in
theorem ggX4_hand_X4_cross : GoodIn wsX4_hand wsX4_cross := goodIn_r _ [4] (by decide +kernel) (by decide +kernel)
set_option maxRecDepth 20000 in
theorem gX4_hand_X4_cross : GoodIn wsX4_hand (va_wsS RX4 65 yX4_cross wsX4_cross) := goodIn_app (goodIn_of _ (by decide +kernel)) ggX4_hand_X4_cross
theorem dX4_hand_0 : decode cX4_hand 0 = .ok (.lload 4, 2) := by decide +kernel
theorem dX4_hand_2 : decode cX4_hand 2 = .ok (.lload_n 0, 1) := by decide +kernel
theorem dX4_hand_3 : decode cX4_hand 3 = .ok (.lsub, 1) := by decide +kernel
theorem dX4_hand_4 : decode cX4_hand 4 = .ok (.lload 6, 2) := by decide +kernel
theorem dX4_hand_6 : decode cX4_hand 6 = .ok (.lload_n 2, 1) := by decide +kernel
theorem dX4_hand_7 : decode cX4_hand 7 = .ok (.lsub, 1) := by decide +kernel
theorem dX4_hand_8 : decode cX4_hand 8 = .ok (.lload 8, 2) := by decide +kernel
theorem dX4_hand_10 : decode cX4_hand 10 = .ok (.lload_n 0, 1) := by decide +kernel
theorem dX4_hand_11 : decode cX4_hand 11 = .ok (.lsub, 1) := by decide +kernel
theorem dX4_hand_12 : decode cX4_hand 12 = .ok (.lload 10, 2) := by decide +kernel
theorem dX4_hand_14 : decode cX4_hand 14 = .ok (.lload_n 2, 1) := by decide +kernel
theorem dX4_hand_15 : decode cX4_hand 15 = .ok (.lsub, 1) := by decide +kernel
theorem dX4_hand_16 : decode cX4_hand 16 = .ok (.invokestatic 65, 3) := by decide +kernel
theorem dX4_hand_19 : decode cX4_hand 19 = .ok (.lstore 12, 2) := by decide +kernel
theorem dX4_hand_21 : decode cX4_hand 21 = .ok (.lload 12, 2) := by decide +kernel
theorem dX4_hand_23 : decode cX4_hand 23 = .ok (.lconst 0, 1) := by decide +kernel
theorem dX4_hand_24 : decode cX4_hand 24 = .ok (.lcmp, 1) := by decide +kernel
theorem dX4_hand_25 : decode cX4_hand 25 = .ok (.ifCond .ge 7, 3) := by decide +kernel
theorem dX4_hand_28 : decode cX4_hand 28 = .ok (.iconst (-1), 1) := by decide +kernel
theorem dX4_hand_29 : decode cX4_hand 29 = .ok (.goto 15, 3) := by decide +kernel
theorem dX4_hand_32 : decode cX4_hand 32 = .ok (.lload 12, 2) := by decide +kernel
theorem dX4_hand_34 : decode cX4_hand 34 = .ok (.lconst 0, 1) := by decide +kernel
theorem dX4_hand_35 : decode cX4_hand 35 = .ok (.lcmp, 1) := by decide +kernel
theorem dX4_hand_36 : decode cX4_hand 36 = .ok (.ifCond .le 7, 3) := by decide +kernel
theorem dX4_hand_39 : decode cX4_hand 39 = .ok (.iconst 1, 1) := by decide +kernel
theorem dX4_hand_40 : decode cX4_hand 40 = .ok (.goto 4, 3) := by decide +kernel
theorem dX4_hand_43 : decode cX4_hand 43 = .ok (.iconst 0, 1) := by decide +kernel
theorem dX4_hand_44 : decode cX4_hand 44 = .ok (.ireturn, 1) := by decide +kernel
theorem dX4_isBetween_0 : decode cX4_isBetween 0 = .ok (.lload_n 0, 1) := by decide +kernel
theorem dX4_isBetween_1 : decode cX4_isBetween 1 = .ok (.lload 4, 2) := by decide +kernel
theorem dX4_isBetween_3 : decode cX4_isBetween 3 = .ok (.lcmp, 1) := by decide +kernel
theorem dX4_isBetween_4 : decode cX4_isBetween 4 = .ok (.ifCond .gt 10, 3) := by decide +kernel
theorem dX4_isBetween_7 : decode cX4_isBetween 7 = .ok (.lload 4, 2) := by decide +kernel
theorem dX4_isBetween_9 : decode cX4_isBetween 9 = .ok (.lload_n 2, 1) := by decide +kernel
theorem dX4_isBetween_10 : decode cX4_isBetween 10 = .ok (.lcmp, 1) := by decide +kernel
theorem dX4_isBetween_11 : decode cX4_isBetween 11 = .ok (.ifCond .le 17, 3) := by decide +kernel
theorem dX4_isBetween_14 : decode cX4_isBetween 14 = .ok (.lload_n 2, 1) := by decide +kernel
theorem dX4_isBetween_15 : decode cX4_isBetween 15 = .ok (.lload 4, 2) := by decide +kernel
theorem dX4_isBetween_17 : decode cX4_isBetween 17 = .ok (.lcmp, 1) := by decide +kernel
theorem dX4_isBetween_18 : decode cX4_isBetween 18 = .ok (.ifCond .gt 14, 3) := by decide +kernel
theorem dX4_isBetween_21 : decode cX4_isBetween 21 = .ok (.lload 4, 2) := by decide +kernel
theorem dX4_isBetween_23 : decode cX4_isBetween 23 = .ok (.lload_n 0, 1) := by decide +kernel
theorem dX4_isBetween_24 : decode cX4_isBetween 24 = .ok (.lcmp, 1) := by decide +kernel
theorem dX4_isBetween_25 : decode cX4_isBetween 25 = .ok (.ifCond .gt 7, 3) := by decide +kernel
theorem dX4_isBetween_28 : decode cX4_isBetween 28 = .ok (.iconst 1, 1) := by decide +kernel
theorem dX4_isBetween_29 : decode cX4_isBetween 29 = .ok (.goto 4, 3) := by decide +kernel
theorem dX4_isBetween_32 : decode cX4_isBetween 32 = .ok (.iconst 0, 1) := by decide +kernel
theorem dX4_isBetween_33 : decode cX4_isBetween 33 = .ok (.ireturn, 1) := by decide +kernel
set_option maxRecDepth 20000 in
theorem ggX4_isOn_X4_hand : GoodIn wsX4_isOn wsX4_hand := goodIn_r _ [4, 5, 6, 3, 7] (by decide +kernel) (by decide +kernel)
set_option maxRecDepth 20000 in
theorem gX4_isOn_X4_hand : GoodIn wsX4_isOn (va_wsS RX4 69 yX4_hand wsX4_hand) := goodIn_app (goodIn_of _ (by decide +kernel)) ggX4_isOn_X4_hand
set_option maxRecDepth 20000 in
theorem ggX4_isOn_X4_isBetween : GoodIn wsX4_isOn wsX4_isBetween := goodIn_r _ [10] (by decide +kernel) (by decide +kernel)
set_option maxRecDepth 20000 in
theorem gX4_isOn_X4_isBetween : GoodIn wsX4_isOn (va_wsS RX4 73 yX4_isBetween wsX4_isBetween) := goodIn_app (goodIn_of _ (by decide +kernel)) ggX4_isOn_X4_isBetween
theorem dX4_isOn_0 : decode cX4_isOn 0 = .ok (.lload_n 0, 1) := by decide +kernel
theorem dX4_isOn_1 : decode cX4_isOn 1 = .ok (.lload_n 2, 1) := by decide +kernel
theorem dX4_isOn_2 : decode cX4_isOn 2 = .ok (.lload 4, 2) := by decide +kernel
theorem dX4_isOn_4 : decode cX4_isOn 4 = .ok (.lload 6, 2) := by decide +kernel
theorem dX4_isOn_6 : decode cX4_isOn 6 = .ok (.lload 8, 2) := by decide +kernel
theorem dX4_isOn_8 : decode cX4_isOn 8 = .ok (.lload 10, 2) := by decide +kernel
theorem dX4_isOn_10 : decode cX4_isOn 10 = .ok (.invokestatic 69, 3) := by decide +kernel
theorem dX4_isOn_13 : decode cX4_isOn 13 = .ok (.ifCond .ne 29, 3) := by decide +kernel
theorem dX4_isOn_16 : decode cX4_isOn 16 = .ok (.lload_n 0, 1) := by decide +kernel
theorem dX4_isOn_17 : decode cX4_isOn 17 = .ok (.lload 4, 2) := by decide +kernel
theorem dX4_isOn_19 : decode cX4_isOn 19 = .ok (.lload 8, 2) := by decide +kernel
theorem dX4_isOn_21 : decode cX4_isOn 21 = .ok (.invokestatic 73, 3) := by decide +kernel
theorem dX4_isOn_24 : decode cX4_isOn 24 = .ok (.ifCond .eq 18, 3) := by decide +kernel
theorem dX4_isOn_27 : decode cX4_isOn 27 = .ok (.lload_n 2, 1) := by decide +kernel
theorem dX4_isOn_28 : decode cX4_isOn 28 = .ok (.lload 6, 2) := by decide +kernel
theorem dX4_isOn_30 : decode cX4_isOn 30 = .ok (.lload 10, 2) := by decide +kernel
theorem dX4_isOn_32 : decode cX4_isOn 32 = .ok (.invokestatic 73, 3) := by decide +kernel
theorem dX4_isOn_35 : decode cX4_isOn 35 = .ok (.ifCond .eq 7, 3) := by decide +kernel
theorem dX4_isOn_38 : decode cX4_isOn 38 = .ok (.iconst 1, 1) := by decide +kernel
theorem dX4_isOn_39 : decode cX4_isOn 39 = .ok (.goto 4, 3) := by decide +kernel
theorem dX4_isOn_42 : decode cX4_isOn 42 = .ok (.iconst 0, 1) := by decide +kernel
theorem dX4_isOn_43 : decode cX4_isOn 43 = .ok (.ireturn, 1) := by decide +kernel
theorem dX4_sides_0 : decode cX4_sides 0 = .ok (.aload_n 0, 1) := by decide +kernel
theorem dX4_sides_1 : decode cX4_sides 1 = .ok (.getfield 13, 3) := by decide +kernel
theorem dX4_sides_4 : decode cX4_sides 4 = .ok (.iload_n 1, 1) := by decide +kernel
theorem dX4_sides_5 : decode cX4_sides 5 = .ok (.iaload, 1) := by decide +kernel
theorem dX4_sides_6 : decode cX4_sides 6 = .ok (.iconst 2, 1) := by decide +kernel
theorem dX4_sides_7 : decode cX4_sides 7 = .ok (.if_icmp .ne 14, 3) := by decide +kernel
theorem dX4_sides_10 : decode cX4_sides 10 = .ok (.aload_n 0, 1) := by decide +kernel
theorem dX4_sides_11 : decode cX4_sides 11 = .ok (.getfield 17, 3) := by decide +kernel
theorem dX4_sides_14 : decode cX4_sides 14 = .ok (.iload_n 1, 1) := by decide +kernel
theorem dX4_sides_15 : decode cX4_sides 15 = .ok (.iaload, 1) := by decide +kernel
theorem dX4_sides_16 : decode cX4_sides 16 = .ok (.iconst 1, 1) := by decide +kernel
theorem dX4_sides_17 : decode cX4_sides 17 = .ok (.isub, 1) := by decide +kernel
theorem dX4_sides_18 : decode cX4_sides 18 = .ok (.goto 9, 3) := by decide +kernel
theorem dX4_sides_21 : decode cX4_sides 21 = .ok (.aload_n 0, 1) := by decide +kernel
theorem dX4_sides_22 : decode cX4_sides 22 = .ok (.getfield 17, 3) := by decide +kernel
theorem dX4_sides_25 : decode cX4_sides 25 = .ok (.iload_n 1, 1) := by decide +kernel
theorem dX4_sides_26 : decode cX4_sides 26 = .ok (.iaload, 1) := by decide +kernel
theorem dX4_sides_27 : decode cX4_sides 27 = .ok (.ireturn, 1) := by decide +kernel
theorem dX4_from_0 : decode cX4_from 0 = .ok (.bipush 24, 2) := by decide +kernel
theorem dX4_from_2 : decode cX4_from 2 = .ok (.iload_n 1, 1) := by decide +kernel
theorem dX4_from_3 : decode cX4_from 3 = .ok (.imul, 1) := by decide +kernel
theorem dX4_from_4 : decode cX4_from 4 = .ok (.iload_n 2, 1) := by decide +kernel
theorem dX4_from_5 : decode cX4_from 5 = .ok (.iadd, 1) := by decide +kernel
theorem dX4_from_6 : decode cX4_from 6 = .ok (.ireturn, 1) := by decide +kernel
theorem dX4_to_0 : decode cX4_to 0 = .ok (.bipush 24, 2) := by decide +kernel
theorem dX4_to_2 : decode cX4_to 2 = .ok (.iload_n 1, 1) := by decide +kernel
theorem dX4_to_3 : decode cX4_to 3 = .ok (.imul, 1) := by decide +kernel
theorem dX4_to_4 : decode cX4_to 4 = .ok (.aload_n 0, 1) := by decide +kernel
theorem dX4_to_5 : decode cX4_to 5 = .ok (.getfield 13, 3) := by decide +kernel
theorem dX4_to_8 : decode cX4_to 8 = .ok (.iload_n 1, 1) := by decide +kernel
theorem dX4_to_9 : decode cX4_to 9 = .ok (.iaload, 1) := by decide +kernel
theorem dX4_to_10 : decode cX4_to 10 = .ok (.iconst 1, 1) := by decide +kernel
theorem dX4_to_11 : decode cX4_to 11 = .ok (.if_icmp .ne 7, 3) := by decide +kernel
theorem dX4_to_14 : decode cX4_to 14 = .ok (.iconst 0, 1) := by decide +kernel
theorem dX4_to_15 : decode cX4_to 15 = .ok (.goto 13, 3) := by decide +kernel
theorem dX4_to_18 : decode cX4_to 18 = .ok (.iload_n 2, 1) := by decide +kernel
theorem dX4_to_19 : decode cX4_to 19 = .ok (.iconst 1, 1) := by decide +kernel
theorem dX4_to_20 : decode cX4_to 20 = .ok (.iadd, 1) := by decide +kernel
theorem dX4_to_21 : decode cX4_to 21 = .ok (.aload_n 0, 1) := by decide +kernel
theorem dX4_to_22 : decode cX4_to 22 = .ok (.getfield 17, 3) := by decide +kernel
theorem dX4_to_25 : decode cX4_to 25 = .ok (.iload_n 1, 1) := by decide +kernel
theorem dX4_to_26 : decode cX4_to 26 = .ok (.iaload, 1) := by decide +kernel
theorem dX4_to_27 : decode cX4_to 27 = .ok (.irem, 1) := by decide +kernel
theorem dX4_to_28 : decode cX4_to 28 = .ok (.iadd, 1) := by decide +kernel
theorem dX4_to_29 : decode cX4_to 29 = .ok (.ireturn, 1) := by decide +kernel
set_option maxRecDepth 20000 in
theorem ggX4_cut_X4_isOn : GoodIn wsX4_cut wsX4_isOn := goodIn_r _ [6, 7, 8, 5, 9, 10, 11, 12, 13, 14, 15] (by decide +kernel) (by decide +kernel)
set_option maxRecDepth 20000 in
theorem gX4_cut_X4_isOn : GoodIn wsX4_cut (va_wsS RX4 77 yX4_isOn wsX4_isOn) := goodIn_app (goodIn_of _ (by decide +kernel)) ggX4_cut_X4_isOn
set_option maxRecDepth 20000 in
theorem ggX4_cut_X4_hand : GoodIn wsX4_cut wsX4_hand := goodIn_r _ [9, 10, 11, 5, 12] (by decide +kernel) (by decide +kernel)
set_option maxRecDepth 20000 in
theorem gX4_cut_X4_hand : GoodIn wsX4_cut (va_wsS RX4 69 yX4_hand wsX4_hand) := goodIn_app (goodIn_of _ (by decide +kernel)) ggX4_cut_X4_hand
theorem dX4_cut_0 : decode cX4_cut 0 = .ok (.aload_n 0, 1) := by decide +kernel
theorem dX4_cut_1 : decode cX4_cut 1 = .ok (.getfield 20, 3) := by decide +kernel
theorem dX4_cut_4 : decode cX4_cut 4 = .ok (.iload_n 1, 1) := by decide +kernel
theorem dX4_cut_5 : decode cX4_cut 5 = .ok (.laload, 1) := by decide +kernel
theorem dX4_cut_6 : decode cX4_cut 6 = .ok (.aload_n 0, 1) := by decide +kernel
theorem dX4_cut_7 : decode cX4_cut 7 = .ok (.getfield 24, 3) := by decide +kernel
theorem dX4_cut_10 : decode cX4_cut 10 = .ok (.iload_n 1, 1) := by decide +kernel
theorem dX4_cut_11 : decode cX4_cut 11 = .ok (.laload, 1) := by decide +kernel
theorem dX4_cut_12 : decode cX4_cut 12 = .ok (.aload_n 0, 1) := by decide +kernel
theorem dX4_cut_13 : decode cX4_cut 13 = .ok (.getfield 20, 3) := by decide +kernel
theorem dX4_cut_16 : decode cX4_cut 16 = .ok (.iload_n 2, 1) := by decide +kernel
theorem dX4_cut_17 : decode cX4_cut 17 = .ok (.laload, 1) := by decide +kernel
theorem dX4_cut_18 : decode cX4_cut 18 = .ok (.aload_n 0, 1) := by decide +kernel
theorem dX4_cut_19 : decode cX4_cut 19 = .ok (.getfield 24, 3) := by decide +kernel
theorem dX4_cut_22 : decode cX4_cut 22 = .ok (.iload_n 2, 1) := by decide +kernel
theorem dX4_cut_23 : decode cX4_cut 23 = .ok (.laload, 1) := by decide +kernel
theorem dX4_cut_24 : decode cX4_cut 24 = .ok (.aload_n 0, 1) := by decide +kernel
theorem dX4_cut_25 : decode cX4_cut 25 = .ok (.getfield 20, 3) := by decide +kernel
theorem dX4_cut_28 : decode cX4_cut 28 = .ok (.iload_n 3, 1) := by decide +kernel
theorem dX4_cut_29 : decode cX4_cut 29 = .ok (.laload, 1) := by decide +kernel
theorem dX4_cut_30 : decode cX4_cut 30 = .ok (.aload_n 0, 1) := by decide +kernel
theorem dX4_cut_31 : decode cX4_cut 31 = .ok (.getfield 24, 3) := by decide +kernel
theorem dX4_cut_34 : decode cX4_cut 34 = .ok (.iload_n 3, 1) := by decide +kernel
theorem dX4_cut_35 : decode cX4_cut 35 = .ok (.laload, 1) := by decide +kernel
theorem dX4_cut_36 : decode cX4_cut 36 = .ok (.invokestatic 77, 3) := by decide +kernel
theorem dX4_cut_39 : decode cX4_cut 39 = .ok (.ifCond .ne 135, 3) := by decide +kernel
theorem dX4_cut_42 : decode cX4_cut 42 = .ok (.aload_n 0, 1) := by decide +kernel
theorem dX4_cut_43 : decode cX4_cut 43 = .ok (.getfield 20, 3) := by decide +kernel
theorem dX4_cut_46 : decode cX4_cut 46 = .ok (.iload_n 1, 1) := by decide +kernel
theorem dX4_cut_47 : decode cX4_cut 47 = .ok (.laload, 1) := by decide +kernel
theorem dX4_cut_48 : decode cX4_cut 48 = .ok (.aload_n 0, 1) := by decide +kernel
theorem dX4_cut_49 : decode cX4_cut 49 = .ok (.getfield 24, 3) := by decide +kernel
theorem dX4_cut_52 : decode cX4_cut 52 = .ok (.iload_n 1, 1) := by decide +kernel
theorem dX4_cut_53 : decode cX4_cut 53 = .ok (.laload, 1) := by decide +kernel
theorem dX4_cut_54 : decode cX4_cut 54 = .ok (.aload_n 0, 1) := by decide +kernel
theorem dX4_cut_55 : decode cX4_cut 55 = .ok (.getfield 20, 3) := by decide +kernel
theorem dX4_cut_58 : decode cX4_cut 58 = .ok (.iload_n 2, 1) := by decide +kernel
theorem dX4_cut_59 : decode cX4_cut 59 = .ok (.laload, 1) := by decide +kernel
theorem dX4_cut_60 : decode cX4_cut 60 = .ok (.aload_n 0, 1) := by decide +kernel
theorem dX4_cut_61 : decode cX4_cut 61 = .ok (.getfield 24, 3) := by decide +kernel
theorem dX4_cut_64 : decode cX4_cut 64 = .ok (.iload_n 2, 1) := by decide +kernel
theorem dX4_cut_65 : decode cX4_cut 65 = .ok (.laload, 1) := by decide +kernel
theorem dX4_cut_66 : decode cX4_cut 66 = .ok (.aload_n 0, 1) := by decide +kernel
theorem dX4_cut_67 : decode cX4_cut 67 = .ok (.getfield 20, 3) := by decide +kernel
theorem dX4_cut_70 : decode cX4_cut 70 = .ok (.iload 4, 2) := by decide +kernel
theorem dX4_cut_72 : decode cX4_cut 72 = .ok (.laload, 1) := by decide +kernel
theorem dX4_cut_73 : decode cX4_cut 73 = .ok (.aload_n 0, 1) := by decide +kernel
theorem dX4_cut_74 : decode cX4_cut 74 = .ok (.getfield 24, 3) := by decide +kernel
theorem dX4_cut_77 : decode cX4_cut 77 = .ok (.iload 4, 2) := by decide +kernel
theorem dX4_cut_79 : decode cX4_cut 79 = .ok (.laload, 1) := by decide +kernel
theorem dX4_cut_80 : decode cX4_cut 80 = .ok (.invokestatic 77, 3) := by decide +kernel
theorem dX4_cut_83 : decode cX4_cut 83 = .ok (.ifCond .ne 91, 3) := by decide +kernel
theorem dX4_cut_86 : decode cX4_cut 86 = .ok (.aload_n 0, 1) := by decide +kernel
theorem dX4_cut_87 : decode cX4_cut 87 = .ok (.getfield 20, 3) := by decide +kernel
theorem dX4_cut_90 : decode cX4_cut 90 = .ok (.iload_n 3, 1) := by decide +kernel
theorem dX4_cut_91 : decode cX4_cut 91 = .ok (.laload, 1) := by decide +kernel
theorem dX4_cut_92 : decode cX4_cut 92 = .ok (.aload_n 0, 1) := by decide +kernel
theorem dX4_cut_93 : decode cX4_cut 93 = .ok (.getfield 24, 3) := by decide +kernel
theorem dX4_cut_96 : decode cX4_cut 96 = .ok (.iload_n 3, 1) := by decide +kernel
theorem dX4_cut_97 : decode cX4_cut 97 = .ok (.laload, 1) := by decide +kernel
theorem dX4_cut_98 : decode cX4_cut 98 = .ok (.aload_n 0, 1) := by decide +kernel
theorem dX4_cut_99 : decode cX4_cut 99 = .ok (.getfield 20, 3) := by decide +kernel
theorem dX4_cut_102 : decode cX4_cut 102 = .ok (.iload 4, 2) := by decide +kernel
theorem dX4_cut_104 : decode cX4_cut 104 = .ok (.laload, 1) := by decide +kernel
theorem dX4_cut_105 : decode cX4_cut 105 = .ok (.aload_n 0, 1) := by decide +kernel
theorem dX4_cut_106 : decode cX4_cut 106 = .ok (.getfield 24, 3) := by decide +kernel
theorem dX4_cut_109 : decode cX4_cut 109 = .ok (.iload 4, 2) := by decide +kernel
theorem dX4_cut_111 : decode cX4_cut 111 = .ok (.laload, 1) := by decide +kernel
theorem dX4_cut_112 : decode cX4_cut 112 = .ok (.aload_n 0, 1) := by decide +kernel
theorem dX4_cut_113 : decode cX4_cut 113 = .ok (.getfield 20, 3) := by decide +kernel
theorem dX4_cut_116 : decode cX4_cut 116 = .ok (.iload_n 1, 1) := by decide +kernel
theorem dX4_cut_117 : decode cX4_cut 117 = .ok (.laload, 1) := by decide +kernel
theorem dX4_cut_118 : decode cX4_cut 118 = .ok (.aload_n 0, 1) := by decide +kernel
theorem dX4_cut_119 : decode cX4_cut 119 = .ok (.getfield 24, 3) := by decide +kernel
theorem dX4_cut_122 : decode cX4_cut 122 = .ok (.iload_n 1, 1) := by decide +kernel
theorem dX4_cut_123 : decode cX4_cut 123 = .ok (.laload, 1) := by decide +kernel
theorem dX4_cut_124 : decode cX4_cut 124 = .ok (.invokestatic 77, 3) := by decide +kernel
theorem dX4_cut_127 : decode cX4_cut 127 = .ok (.ifCond .ne 47, 3) := by decide +kernel
theorem dX4_cut_130 : decode cX4_cut 130 = .ok (.aload_n 0, 1) := by decide +kernel
theorem dX4_cut_131 : decode cX4_cut 131 = .ok (.getfield 20, 3) := by decide +kernel
theorem dX4_cut_134 : decode cX4_cut 134 = .ok (.iload_n 3, 1) := by decide +kernel
theorem dX4_cut_135 : decode cX4_cut 135 = .ok (.laload, 1) := by decide +kernel
theorem dX4_cut_136 : decode cX4_cut 136 = .ok (.aload_n 0, 1) := by decide +kernel
theorem dX4_cut_137 : decode cX4_cut 137 = .ok (.getfield 24, 3) := by decide +kernel
theorem dX4_cut_140 : decode cX4_cut 140 = .ok (.iload_n 3, 1) := by decide +kernel
theorem dX4_cut_141 : decode cX4_cut 141 = .ok (.laload, 1) := by decide +kernel
theorem dX4_cut_142 : decode cX4_cut 142 = .ok (.aload_n 0, 1) := by decide +kernel
theorem dX4_cut_143 : decode cX4_cut 143 = .ok (.getfield 20, 3) := by decide +kernel
theorem dX4_cut_146 : decode cX4_cut 146 = .ok (.iload 4, 2) := by decide +kernel
theorem dX4_cut_148 : decode cX4_cut 148 = .ok (.laload, 1) := by decide +kernel
theorem dX4_cut_149 : decode cX4_cut 149 = .ok (.aload_n 0, 1) := by decide +kernel
theorem dX4_cut_150 : decode cX4_cut 150 = .ok (.getfield 24, 3) := by decide +kernel
theorem dX4_cut_153 : decode cX4_cut 153 = .ok (.iload 4, 2) := by decide +kernel
theorem dX4_cut_155 : decode cX4_cut 155 = .ok (.laload, 1) := by decide +kernel
theorem dX4_cut_156 : decode cX4_cut 156 = .ok (.aload_n 0, 1) := by decide +kernel
theorem dX4_cut_157 : decode cX4_cut 157 = .ok (.getfield 20, 3) := by decide +kernel
theorem dX4_cut_160 : decode cX4_cut 160 = .ok (.iload_n 2, 1) := by decide +kernel
theorem dX4_cut_161 : decode cX4_cut 161 = .ok (.laload, 1) := by decide +kernel
theorem dX4_cut_162 : decode cX4_cut 162 = .ok (.aload_n 0, 1) := by decide +kernel
theorem dX4_cut_163 : decode cX4_cut 163 = .ok (.getfield 24, 3) := by decide +kernel
theorem dX4_cut_166 : decode cX4_cut 166 = .ok (.iload_n 2, 1) := by decide +kernel
theorem dX4_cut_167 : decode cX4_cut 167 = .ok (.laload, 1) := by decide +kernel
theorem dX4_cut_168 : decode cX4_cut 168 = .ok (.invokestatic 77, 3) := by decide +kernel
theorem dX4_cut_171 : decode cX4_cut 171 = .ok (.ifCond .eq 5, 3) := by decide +kernel
theorem dX4_cut_174 : decode cX4_cut 174 = .ok (.iconst 1, 1) := by decide +kernel
theorem dX4_cut_175 : decode cX4_cut 175 = .ok (.ireturn, 1) := by decide +kernel
theorem dX4_cut_176 : decode cX4_cut 176 = .ok (.aload_n 0, 1) := by decide +kernel
theorem dX4_cut_177 : decode cX4_cut 177 = .ok (.getfield 20, 3) := by decide +kernel
theorem dX4_cut_180 : decode cX4_cut 180 = .ok (.iload_n 1, 1) := by decide +kernel
theorem dX4_cut_181 : decode cX4_cut 181 = .ok (.laload, 1) := by decide +kernel
theorem dX4_cut_182 : decode cX4_cut 182 = .ok (.aload_n 0, 1) := by decide +kernel
theorem dX4_cut_183 : decode cX4_cut 183 = .ok (.getfield 24, 3) := by decide +kernel
theorem dX4_cut_186 : decode cX4_cut 186 = .ok (.iload_n 1, 1) := by decide +kernel
theorem dX4_cut_187 : decode cX4_cut 187 = .ok (.laload, 1) := by decide +kernel
theorem dX4_cut_188 : decode cX4_cut 188 = .ok (.aload_n 0, 1) := by decide +kernel
theorem dX4_cut_189 : decode cX4_cut 189 = .ok (.getfield 20, 3) := by decide +kernel
theorem dX4_cut_192 : decode cX4_cut 192 = .ok (.iload_n 2, 1) := by decide +kernel
theorem dX4_cut_193 : decode cX4_cut 193 = .ok (.laload, 1) := by decide +kernel
theorem dX4_cut_194 : decode cX4_cut 194 = .ok (.aload_n 0, 1) := by decide +kernel
theorem dX4_cut_195 : decode cX4_cut 195 = .ok (.getfield 24, 3) := by decide +kernel
theorem dX4_cut_198 : decode cX4_cut 198 = .ok (.iload_n 2, 1) := by decide +kernel
theorem dX4_cut_199 : decode cX4_cut 199 = .ok (.laload, 1) := by decide +kernel
theorem dX4_cut_200 : decode cX4_cut 200 = .ok (.aload_n 0, 1) := by decide +kernel
theorem dX4_cut_201 : decode cX4_cut 201 = .ok (.getfield 20, 3) := by decide +kernel
theorem dX4_cut_204 : decode cX4_cut 204 = .ok (.iload_n 3, 1) := by decide +kernel
theorem dX4_cut_205 : decode cX4_cut 205 = .ok (.laload, 1) := by decide +kernel
theorem dX4_cut_206 : decode cX4_cut 206 = .ok (.aload_n 0, 1) := by decide +kernel
theorem dX4_cut_207 : decode cX4_cut 207 = .ok (.getfield 24, 3) := by decide +kernel
theorem dX4_cut_210 : decode cX4_cut 210 = .ok (.iload_n 3, 1) := by decide +kernel
theorem dX4_cut_211 : decode cX4_cut 211 = .ok (.laload, 1) := by decide +kernel
theorem dX4_cut_212 : decode cX4_cut 212 = .ok (.invokestatic 69, 3) := by decide +kernel
theorem dX4_cut_215 : decode cX4_cut 215 = .ok (.aload_n 0, 1) := by decide +kernel
theorem dX4_cut_216 : decode cX4_cut 216 = .ok (.getfield 20, 3) := by decide +kernel
theorem dX4_cut_219 : decode cX4_cut 219 = .ok (.iload_n 1, 1) := by decide +kernel
theorem dX4_cut_220 : decode cX4_cut 220 = .ok (.laload, 1) := by decide +kernel
theorem dX4_cut_221 : decode cX4_cut 221 = .ok (.aload_n 0, 1) := by decide +kernel
theorem dX4_cut_222 : decode cX4_cut 222 = .ok (.getfield 24, 3) := by decide +kernel
theorem dX4_cut_225 : decode cX4_cut 225 = .ok (.iload_n 1, 1) := by decide +kernel
theorem dX4_cut_226 : decode cX4_cut 226 = .ok (.laload, 1) := by decide +kernel
theorem dX4_cut_227 : decode cX4_cut 227 = .ok (.aload_n 0, 1) := by decide +kernel
theorem dX4_cut_228 : decode cX4_cut 228 = .ok (.getfield 20, 3) := by decide +kernel
theorem dX4_cut_231 : decode cX4_cut 231 = .ok (.iload_n 2, 1) := by decide +kernel
theorem dX4_cut_232 : decode cX4_cut 232 = .ok (.laload, 1) := by decide +kernel
theorem dX4_cut_233 : decode cX4_cut 233 = .ok (.aload_n 0, 1) := by decide +kernel
theorem dX4_cut_234 : decode cX4_cut 234 = .ok (.getfield 24, 3) := by decide +kernel
theorem dX4_cut_237 : decode cX4_cut 237 = .ok (.iload_n 2, 1) := by decide +kernel
theorem dX4_cut_238 : decode cX4_cut 238 = .ok (.laload, 1) := by decide +kernel
theorem dX4_cut_239 : decode cX4_cut 239 = .ok (.aload_n 0, 1) := by decide +kernel
theorem dX4_cut_240 : decode cX4_cut 240 = .ok (.getfield 20, 3) := by decide +kernel
theorem dX4_cut_243 : decode cX4_cut 243 = .ok (.iload 4, 2) := by decide +kernel
theorem dX4_cut_245 : decode cX4_cut 245 = .ok (.laload, 1) := by decide +kernel
theorem dX4_cut_246 : decode cX4_cut 246 = .ok (.aload_n 0, 1) := by decide +kernel
theorem dX4_cut_247 : decode cX4_cut 247 = .ok (.getfield 24, 3) := by decide +kernel
theorem dX4_cut_250 : decode cX4_cut 250 = .ok (.iload 4, 2) := by decide +kernel
theorem dX4_cut_252 : decode cX4_cut 252 = .ok (.laload, 1) := by decide +kernel
theorem dX4_cut_253 : decode cX4_cut 253 = .ok (.invokestatic 69, 3) := by decide +kernel
theorem dX4_cut_256 : decode cX4_cut 256 = .ok (.imul, 1) := by decide +kernel
theorem dX4_cut_257 : decode cX4_cut 257 = .ok (.istore 5, 2) := by decide +kernel
theorem dX4_cut_259 : decode cX4_cut 259 = .ok (.aload_n 0, 1) := by decide +kernel
theorem dX4_cut_260 : decode cX4_cut 260 = .ok (.getfield 20, 3) := by decide +kernel
theorem dX4_cut_263 : decode cX4_cut 263 = .ok (.iload_n 3, 1) := by decide +kernel
theorem dX4_cut_264 : decode cX4_cut 264 = .ok (.laload, 1) := by decide +kernel
theorem dX4_cut_265 : decode cX4_cut 265 = .ok (.aload_n 0, 1) := by decide +kernel
theorem dX4_cut_266 : decode cX4_cut 266 = .ok (.getfield 24, 3) := by decide +kernel
theorem dX4_cut_269 : decode cX4_cut 269 = .ok (.iload_n 3, 1) := by decide +kernel
theorem dX4_cut_270 : decode cX4_cut 270 = .ok (.laload, 1) := by decide +kernel
theorem dX4_cut_271 : decode cX4_cut 271 = .ok (.aload_n 0, 1) := by decide +kernel
theorem dX4_cut_272 : decode cX4_cut 272 = .ok (.getfield 20, 3) := by decide +kernel
theorem dX4_cut_275 : decode cX4_cut 275 = .ok (.iload 4, 2) := by decide +kernel
theorem dX4_cut_277 : decode cX4_cut 277 = .ok (.laload, 1) := by decide +kernel
theorem dX4_cut_278 : decode cX4_cut 278 = .ok (.aload_n 0, 1) := by decide +kernel
theorem dX4_cut_279 : decode cX4_cut 279 = .ok (.getfield 24, 3) := by decide +kernel
theorem dX4_cut_282 : decode cX4_cut 282 = .ok (.iload 4, 2) := by decide +kernel
theorem dX4_cut_284 : decode cX4_cut 284 = .ok (.laload, 1) := by decide +kernel
theorem dX4_cut_285 : decode cX4_cut 285 = .ok (.aload_n 0, 1) := by decide +kernel
theorem dX4_cut_286 : decode cX4_cut 286 = .ok (.getfield 20, 3) := by decide +kernel
theorem dX4_cut_289 : decode cX4_cut 289 = .ok (.iload_n 1, 1) := by decide +kernel
theorem dX4_cut_290 : decode cX4_cut 290 = .ok (.laload, 1) := by decide +kernel
theorem dX4_cut_291 : decode cX4_cut 291 = .ok (.aload_n 0, 1) := by decide +kernel
theorem dX4_cut_292 : decode cX4_cut 292 = .ok (.getfield 24, 3) := by decide +kernel
theorem dX4_cut_295 : decode cX4_cut 295 = .ok (.iload_n 1, 1) := by decide +kernel
theorem dX4_cut_296 : decode cX4_cut 296 = .ok (.laload, 1) := by decide +kernel
theorem dX4_cut_297 : decode cX4_cut 297 = .ok (.invokestatic 69, 3) := by decide +kernel
theorem dX4_cut_300 : decode cX4_cut 300 = .ok (.aload_n 0, 1) := by decide +kernel
theorem dX4_cut_301 : decode cX4_cut 301 = .ok (.getfield 20, 3) := by decide +kernel
theorem dX4_cut_304 : decode cX4_cut 304 = .ok (.iload_n 3, 1) := by decide +kernel
theorem dX4_cut_305 : decode cX4_cut 305 = .ok (.laload, 1) := by decide +kernel
theorem dX4_cut_306 : decode cX4_cut 306 = .ok (.aload_n 0, 1) := by decide +kernel
theorem dX4_cut_307 : decode cX4_cut 307 = .ok (.getfield 24, 3) := by decide +kernel
theorem dX4_cut_310 : decode cX4_cut 310 = .ok (.iload_n 3, 1) := by decide +kernel
theorem dX4_cut_311 : decode cX4_cut 311 = .ok (.laload, 1) := by decide +kernel
theorem dX4_cut_312 : decode cX4_cut 312 = .ok (.aload_n 0, 1) := by decide +kernel
theorem dX4_cut_313 : decode cX4_cut 313 = .ok (.getfield 20, 3) := by decide +kernel
theorem dX4_cut_316 : decode cX4_cut 316 = .ok (.iload 4, 2) := by decide +kernel
theorem dX4_cut_318 : decode cX4_cut 318 = .ok (.laload, 1) := by decide +kernel
theorem dX4_cut_319 : decode cX4_cut 319 = .ok (.aload_n 0, 1) := by decide +kernel
theorem dX4_cut_320 : decode cX4_cut 320 = .ok (.getfield 24, 3) := by decide +kernel
theorem dX4_cut_323 : decode cX4_cut 323 = .ok (.iload 4, 2) := by decide +kernel
theorem dX4_cut_325 : decode cX4_cut 325 = .ok (.laload, 1) := by decide +kernel
theorem dX4_cut_326 : decode cX4_cut 326 = .ok (.aload_n 0, 1) := by decide +kernel
theorem dX4_cut_327 : decode cX4_cut 327 = .ok (.getfield 20, 3) := by decide +kernel
theorem dX4_cut_330 : decode cX4_cut 330 = .ok (.iload_n 2, 1) := by decide +kernel
theorem dX4_cut_331 : decode cX4_cut 331 = .ok (.laload, 1) := by decide +kernel
theorem dX4_cut_332 : decode cX4_cut 332 = .ok (.aload_n 0, 1) := by decide +kernel
theorem dX4_cut_333 : decode cX4_cut 333 = .ok (.getfield 24, 3) := by decide +kernel
theorem dX4_cut_336 : decode cX4_cut 336 = .ok (.iload_n 2, 1) := by decide +kernel
theorem dX4_cut_337 : decode cX4_cut 337 = .ok (.laload, 1) := by decide +kernel
theorem dX4_cut_338 : decode cX4_cut 338 = .ok (.invokestatic 69, 3) := by decide +kernel
theorem dX4_cut_341 : decode cX4_cut 341 = .ok (.imul, 1) := by decide +kernel
theorem dX4_cut_342 : decode cX4_cut 342 = .ok (.istore 6, 2) := by decide +kernel
theorem dX4_cut_344 : decode cX4_cut 344 = .ok (.iload 5, 2) := by decide +kernel
theorem dX4_cut_346 : decode cX4_cut 346 = .ok (.ifCond .ge 12, 3) := by decide +kernel
theorem dX4_cut_349 : decode cX4_cut 349 = .ok (.iload 6, 2) := by decide +kernel
theorem dX4_cut_351 : decode cX4_cut 351 = .ok (.ifCond .ge 7, 3) := by decide +kernel
theorem dX4_cut_354 : decode cX4_cut 354 = .ok (.iconst 1, 1) := by decide +kernel
theorem dX4_cut_355 : decode cX4_cut 355 = .ok (.goto 4, 3) := by decide +kernel
theorem dX4_cut_358 : decode cX4_cut 358 = .ok (.iconst 0, 1) := by decide +kernel
theorem dX4_cut_359 : decode cX4_cut 359 = .ok (.ireturn, 1) := by decide +kernel
set_option maxRecDepth 20000 in
theorem ggX4_folds_X4_cross : GoodIn wsX4_folds wsX4_cross := goodIn_r _ [6] (by decide +kernel) (by decide +kernel)
set_option maxRecDepth 20000 in
theorem gX4_folds_X4_cross : GoodIn wsX4_folds (va_wsS RX4 65 yX4_cross wsX4_cross) := goodIn_app (goodIn_of _ (by decide +kernel)) ggX4_folds_X4_cross
theorem dX4_folds_0 : decode cX4_folds 0 = .ok (.aload_n 0, 1) := by decide +kernel
theorem dX4_folds_1 : decode cX4_folds 1 = .ok (.getfield 20, 3) := by decide +kernel
theorem dX4_folds_4 : decode cX4_folds 4 = .ok (.iload_n 1, 1) := by decide +kernel
theorem dX4_folds_5 : decode cX4_folds 5 = .ok (.laload, 1) := by decide +kernel
theorem dX4_folds_6 : decode cX4_folds 6 = .ok (.aload_n 0, 1) := by decide +kernel
theorem dX4_folds_7 : decode cX4_folds 7 = .ok (.getfield 20, 3) := by decide +kernel
theorem dX4_folds_10 : decode cX4_folds 10 = .ok (.iload_n 2, 1) := by decide +kernel
theorem dX4_folds_11 : decode cX4_folds 11 = .ok (.laload, 1) := by decide +kernel
theorem dX4_folds_12 : decode cX4_folds 12 = .ok (.lsub, 1) := by decide +kernel
theorem dX4_folds_13 : decode cX4_folds 13 = .ok (.lstore 4, 2) := by decide +kernel
theorem dX4_folds_15 : decode cX4_folds 15 = .ok (.aload_n 0, 1) := by decide +kernel
theorem dX4_folds_16 : decode cX4_folds 16 = .ok (.getfield 24, 3) := by decide +kernel
theorem dX4_folds_19 : decode cX4_folds 19 = .ok (.iload_n 1, 1) := by decide +kernel
theorem dX4_folds_20 : decode cX4_folds 20 = .ok (.laload, 1) := by decide +kernel
theorem dX4_folds_21 : decode cX4_folds 21 = .ok (.aload_n 0, 1) := by decide +kernel
theorem dX4_folds_22 : decode cX4_folds 22 = .ok (.getfield 24, 3) := by decide +kernel
theorem dX4_folds_25 : decode cX4_folds 25 = .ok (.iload_n 2, 1) := by decide +kernel
theorem dX4_folds_26 : decode cX4_folds 26 = .ok (.laload, 1) := by decide +kernel
theorem dX4_folds_27 : decode cX4_folds 27 = .ok (.lsub, 1) := by decide +kernel
theorem dX4_folds_28 : decode cX4_folds 28 = .ok (.lstore 6, 2) := by decide +kernel
theorem dX4_folds_30 : decode cX4_folds 30 = .ok (.aload_n 0, 1) := by decide +kernel
theorem dX4_folds_31 : decode cX4_folds 31 = .ok (.getfield 20, 3) := by decide +kernel
theorem dX4_folds_34 : decode cX4_folds 34 = .ok (.iload_n 3, 1) := by decide +kernel
theorem dX4_folds_35 : decode cX4_folds 35 = .ok (.laload, 1) := by decide +kernel
theorem dX4_folds_36 : decode cX4_folds 36 = .ok (.aload_n 0, 1) := by decide +kernel
theorem dX4_folds_37 : decode cX4_folds 37 = .ok (.getfield 20, 3) := by decide +kernel
theorem dX4_folds_40 : decode cX4_folds 40 = .ok (.iload_n 2, 1) := by decide +kernel
theorem dX4_folds_41 : decode cX4_folds 41 = .ok (.laload, 1) := by decide +kernel
theorem dX4_folds_42 : decode cX4_folds 42 = .ok (.lsub, 1) := by decide +kernel
theorem dX4_folds_43 : decode cX4_folds 43 = .ok (.lstore 8, 2) := by decide +kernel
theorem dX4_folds_45 : decode cX4_folds 45 = .ok (.aload_n 0, 1) := by decide +kernel
theorem dX4_folds_46 : decode cX4_folds 46 = .ok (.getfield 24, 3) := by decide +kernel
theorem dX4_folds_49 : decode cX4_folds 49 = .ok (.iload_n 3, 1) := by decide +kernel
theorem dX4_folds_50 : decode cX4_folds 50 = .ok (.laload, 1) := by decide +kernel
theorem dX4_folds_51 : decode cX4_folds 51 = .ok (.aload_n 0, 1) := by decide +kernel
theorem dX4_folds_52 : decode cX4_folds 52 = .ok (.getfield 24, 3) := by decide +kernel
theorem dX4_folds_55 : decode cX4_folds 55 = .ok (.iload_n 2, 1) := by decide +kernel
theorem dX4_folds_56 : decode cX4_folds 56 = .ok (.laload, 1) := by decide +kernel
theorem dX4_folds_57 : decode cX4_folds 57 = .ok (.lsub, 1) := by decide +kernel
theorem dX4_folds_58 : decode cX4_folds 58 = .ok (.lstore 10, 2) := by decide +kernel
theorem dX4_folds_60 : decode cX4_folds 60 = .ok (.lload 4, 2) := by decide +kernel
theorem dX4_folds_62 : decode cX4_folds 62 = .ok (.lload 6, 2) := by decide +kernel
theorem dX4_folds_64 : decode cX4_folds 64 = .ok (.lload 8, 2) := by decide +kernel
theorem dX4_folds_66 : decode cX4_folds 66 = .ok (.lload 10, 2) := by decide +kernel
theorem dX4_folds_68 : decode cX4_folds 68 = .ok (.invokestatic 65, 3) := by decide +kernel
theorem dX4_folds_71 : decode cX4_folds 71 = .ok (.lconst 0, 1) := by decide +kernel
theorem dX4_folds_72 : decode cX4_folds 72 = .ok (.lcmp, 1) := by decide +kernel
theorem dX4_folds_73 : decode cX4_folds 73 = .ok (.ifCond .ne 23, 3) := by decide +kernel
theorem dX4_folds_76 : decode cX4_folds 76 = .ok (.lload 4, 2) := by decide +kernel
theorem dX4_folds_78 : decode cX4_folds 78 = .ok (.lload 8, 2) := by decide +kernel
theorem dX4_folds_80 : decode cX4_folds 80 = .ok (.lmul, 1) := by decide +kernel
theorem dX4_folds_81 : decode cX4_folds 81 = .ok (.lload 6, 2) := by decide +kernel
theorem dX4_folds_83 : decode cX4_folds 83 = .ok (.lload 10, 2) := by decide +kernel
theorem dX4_folds_85 : decode cX4_folds 85 = .ok (.lmul, 1) := by decide +kernel
theorem dX4_folds_86 : decode cX4_folds 86 = .ok (.ladd, 1) := by decide +kernel
theorem dX4_folds_87 : decode cX4_folds 87 = .ok (.lconst 0, 1) := by decide +kernel
theorem dX4_folds_88 : decode cX4_folds 88 = .ok (.lcmp, 1) := by decide +kernel
theorem dX4_folds_89 : decode cX4_folds 89 = .ok (.ifCond .le 7, 3) := by decide +kernel
theorem dX4_folds_92 : decode cX4_folds 92 = .ok (.iconst 1, 1) := by decide +kernel
theorem dX4_folds_93 : decode cX4_folds 93 = .ok (.goto 4, 3) := by decide +kernel
theorem dX4_folds_96 : decode cX4_folds 96 = .ok (.iconst 0, 1) := by decide +kernel
theorem dX4_folds_97 : decode cX4_folds 97 = .ok (.ireturn, 1) := by decide +kernel
set_option maxRecDepth 20000 in
theorem ggX4_isWrong_X4_from : GoodIn wsX4_isWrong wsX4_from := goodIn_r _ [9] (by decide +kernel) (by decide +kernel)
set_option maxRecDepth 20000 in
theorem gX4_isWrong_X4_from : GoodIn wsX4_isWrong (wsV RX4 81 RX4 yX4_from wsX4_from) := goodIn_app (goodIn_of _ (by decide +kernel)) ggX4_isWrong_X4_from
set_option maxRecDepth 20000 in
theorem ggX4_isWrong_X4_to : GoodIn wsX4_isWrong wsX4_to := goodIn_r _ [13, 3, 4, 34, 35, 36, 37, 38, 39, 40, 41, 42, 43, 44, 45, 46, 47, 48] (by decide +kernel) (by decide +kernel)
set_option maxRecDepth 20000 in
theorem gX4_isWrong_X4_to : GoodIn wsX4_isWrong (wsV RX4 85 RX4 yX4_to wsX4_to) := goodIn_app (goodIn_of _ (by decide +kernel)) ggX4_isWrong_X4_to
set_option maxRecDepth 20000 in
theorem ggX4_isWrong_X4_folds : GoodIn wsX4_isWrong wsX4_folds := goodIn_r _ [17, 1, 2, 18, 19, 8, 20, 34, 35, 36, 37, 38, 39, 40, 41, 42, 43, 44, 45, 46, 47, 48] (by decide +kernel) (by decide +kernel)
set_option maxRecDepth 20000 in
theorem gX4_isWrong_X4_folds : GoodIn wsX4_isWrong (wsV RX4 88 RX4 yX4_folds wsX4_folds) := goodIn_app (goodIn_of _ (by decide +kernel)) ggX4_isWrong_X4_folds
set_option maxRecDepth 20000 in
theorem ggX4_isWrong_X4_cut : GoodIn wsX4_isWrong wsX4_cut := goodIn_r _ [24, 1, 2, 25, 26, 8, 27, 28, 29, 30, 18, 19, 20, 31, 32, 33, 34, 35, 36, 37, 38, 39, 40, 41, 42, 43, 44, 45, 46, 47, 48] (by decide +kernel) (by decide +kernel)
set_option maxRecDepth 20000 in
theorem gX4_isWrong_X4_cut : GoodIn wsX4_isWrong (wsV RX4 92 RX4 yX4_cut wsX4_cut) := goodIn_app (goodIn_of _ (by decide +kernel)) ggX4_isWrong_X4_cut
theorem dX4_isWrong_0 : decode cX4_isWrong 0 = .ok (.aload_n 0, 1) := by decide +kernel
theorem dX4_isWrong_1 : decode cX4_isWrong 1 = .ok (.iload_n 1, 1) := by decide +kernel
theorem dX4_isWrong_2 : decode cX4_isWrong 2 = .ok (.iload_n 2, 1) := by decide +kernel
theorem dX4_isWrong_3 : decode cX4_isWrong 3 = .ok (.invokevirtual 81, 3) := by decide +kernel
theorem dX4_isWrong_6 : decode cX4_isWrong 6 = .ok (.istore_n 3, 1) := by decide +kernel
theorem dX4_isWrong_7 : decode cX4_isWrong 7 = .ok (.aload_n 0, 1) := by decide +kernel
theorem dX4_isWrong_8 : decode cX4_isWrong 8 = .ok (.iload_n 1, 1) := by decide +kernel
theorem dX4_isWrong_9 : decode cX4_isWrong 9 = .ok (.iload_n 2, 1) := by decide +kernel
theorem dX4_isWrong_10 : decode cX4_isWrong 10 = .ok (.invokevirtual 85, 3) := by decide +kernel
theorem dX4_isWrong_13 : decode cX4_isWrong 13 = .ok (.istore 4, 2) := by decide +kernel
theorem dX4_isWrong_15 : decode cX4_isWrong 15 = .ok (.aload_n 0, 1) := by decide +kernel
theorem dX4_isWrong_16 : decode cX4_isWrong 16 = .ok (.getfield 20, 3) := by decide +kernel
theorem dX4_isWrong_19 : decode cX4_isWrong 19 = .ok (.iload_n 3, 1) := by decide +kernel
theorem dX4_isWrong_20 : decode cX4_isWrong 20 = .ok (.laload, 1) := by decide +kernel
theorem dX4_isWrong_21 : decode cX4_isWrong 21 = .ok (.aload_n 0, 1) := by decide +kernel
theorem dX4_isWrong_22 : decode cX4_isWrong 22 = .ok (.getfield 20, 3) := by decide +kernel
theorem dX4_isWrong_25 : decode cX4_isWrong 25 = .ok (.iload 4, 2) := by decide +kernel
theorem dX4_isWrong_27 : decode cX4_isWrong 27 = .ok (.laload, 1) := by decide +kernel
theorem dX4_isWrong_28 : decode cX4_isWrong 28 = .ok (.lcmp, 1) := by decide +kernel
theorem dX4_isWrong_29 : decode cX4_isWrong 29 = .ok (.ifCond .ne 22, 3) := by decide +kernel
theorem dX4_isWrong_32 : decode cX4_isWrong 32 = .ok (.aload_n 0, 1) := by decide +kernel
theorem dX4_isWrong_33 : decode cX4_isWrong 33 = .ok (.getfield 24, 3) := by decide +kernel
theorem dX4_isWrong_36 : decode cX4_isWrong 36 = .ok (.iload_n 3, 1) := by decide +kernel
theorem dX4_isWrong_37 : decode cX4_isWrong 37 = .ok (.laload, 1) := by decide +kernel
theorem dX4_isWrong_38 : decode cX4_isWrong 38 = .ok (.aload_n 0, 1) := by decide +kernel
theorem dX4_isWrong_39 : decode cX4_isWrong 39 = .ok (.getfield 24, 3) := by decide +kernel
theorem dX4_isWrong_42 : decode cX4_isWrong 42 = .ok (.iload 4, 2) := by decide +kernel
theorem dX4_isWrong_44 : decode cX4_isWrong 44 = .ok (.laload, 1) := by decide +kernel
theorem dX4_isWrong_45 : decode cX4_isWrong 45 = .ok (.lcmp, 1) := by decide +kernel
theorem dX4_isWrong_46 : decode cX4_isWrong 46 = .ok (.ifCond .ne 5, 3) := by decide +kernel
theorem dX4_isWrong_49 : decode cX4_isWrong 49 = .ok (.iconst 1, 1) := by decide +kernel
theorem dX4_isWrong_50 : decode cX4_isWrong 50 = .ok (.ireturn, 1) := by decide +kernel
theorem dX4_isWrong_51 : decode cX4_isWrong 51 = .ok (.aload_n 0, 1) := by decide +kernel
theorem dX4_isWrong_52 : decode cX4_isWrong 52 = .ok (.getfield 13, 3) := by decide +kernel
theorem dX4_isWrong_55 : decode cX4_isWrong 55 = .ok (.iload_n 1, 1) := by decide +kernel
theorem dX4_isWrong_56 : decode cX4_isWrong 56 = .ok (.iaload, 1) := by decide +kernel
theorem dX4_isWrong_57 : decode cX4_isWrong 57 = .ok (.iconst 2, 1) := by decide +kernel
theorem dX4_isWrong_58 : decode cX4_isWrong 58 = .ok (.if_icmp .ne 5, 3) := by decide +kernel
theorem dX4_isWrong_61 : decode cX4_isWrong 61 = .ok (.iconst 0, 1) := by decide +kernel
theorem dX4_isWrong_62 : decode cX4_isWrong 62 = .ok (.ireturn, 1) := by decide +kernel
theorem dX4_isWrong_63 : decode cX4_isWrong 63 = .ok (.aload_n 0, 1) := by decide +kernel
theorem dX4_isWrong_64 : decode cX4_isWrong 64 = .ok (.getfield 17, 3) := by decide +kernel
theorem dX4_isWrong_67 : decode cX4_isWrong 67 = .ok (.iload_n 1, 1) := by decide +kernel
theorem dX4_isWrong_68 : decode cX4_isWrong 68 = .ok (.iaload, 1) := by decide +kernel
theorem dX4_isWrong_69 : decode cX4_isWrong 69 = .ok (.istore 5, 2) := by decide +kernel
theorem dX4_isWrong_71 : decode cX4_isWrong 71 = .ok (.iconst 0, 1) := by decide +kernel
theorem dX4_isWrong_72 : decode cX4_isWrong 72 = .ok (.istore 6, 2) := by decide +kernel
theorem dX4_isWrong_74 : decode cX4_isWrong 74 = .ok (.iload 6, 2) := by decide +kernel
theorem dX4_isWrong_76 : decode cX4_isWrong 76 = .ok (.iload 5, 2) := by decide +kernel
theorem dX4_isWrong_78 : decode cX4_isWrong 78 = .ok (.if_icmp .ge 128, 3) := by decide +kernel
theorem dX4_isWrong_81 : decode cX4_isWrong 81 = .ok (.iload 6, 2) := by decide +kernel
theorem dX4_isWrong_83 : decode cX4_isWrong 83 = .ok (.iload_n 2, 1) := by decide +kernel
theorem dX4_isWrong_84 : decode cX4_isWrong 84 = .ok (.if_icmp .ne 6, 3) := by decide +kernel
theorem dX4_isWrong_87 : decode cX4_isWrong 87 = .ok (.goto 113, 3) := by decide +kernel
theorem dX4_isWrong_90 : decode cX4_isWrong 90 = .ok (.iload_n 2, 1) := by decide +kernel
theorem dX4_isWrong_91 : decode cX4_isWrong 91 = .ok (.iconst 1, 1) := by decide +kernel
theorem dX4_isWrong_92 : decode cX4_isWrong 92 = .ok (.iadd, 1) := by decide +kernel
theorem dX4_isWrong_93 : decode cX4_isWrong 93 = .ok (.iload 5, 2) := by decide +kernel
theorem dX4_isWrong_95 : decode cX4_isWrong 95 = .ok (.irem, 1) := by decide +kernel
theorem dX4_isWrong_96 : decode cX4_isWrong 96 = .ok (.iload 6, 2) := by decide +kernel
theorem dX4_isWrong_98 : decode cX4_isWrong 98 = .ok (.if_icmp .ne 7, 3) := by decide +kernel
theorem dX4_isWrong_101 : decode cX4_isWrong 101 = .ok (.iconst 1, 1) := by decide +kernel
theorem dX4_isWrong_102 : decode cX4_isWrong 102 = .ok (.goto 4, 3) := by decide +kernel
theorem dX4_isWrong_105 : decode cX4_isWrong 105 = .ok (.iconst 0, 1) := by decide +kernel
theorem dX4_isWrong_106 : decode cX4_isWrong 106 = .ok (.istore 7, 2) := by decide +kernel
theorem dX4_isWrong_108 : decode cX4_isWrong 108 = .ok (.iload 6, 2) := by decide +kernel
theorem dX4_isWrong_110 : decode cX4_isWrong 110 = .ok (.iconst 1, 1) := by decide +kernel
theorem dX4_isWrong_111 : decode cX4_isWrong 111 = .ok (.iadd, 1) := by decide +kernel
theorem dX4_isWrong_112 : decode cX4_isWrong 112 = .ok (.iload 5, 2) := by decide +kernel
theorem dX4_isWrong_114 : decode cX4_isWrong 114 = .ok (.irem, 1) := by decide +kernel
theorem dX4_isWrong_115 : decode cX4_isWrong 115 = .ok (.iload_n 2, 1) := by decide +kernel
theorem dX4_isWrong_116 : decode cX4_isWrong 116 = .ok (.if_icmp .ne 7, 3) := by decide +kernel
theorem dX4_isWrong_119 : decode cX4_isWrong 119 = .ok (.iconst 1, 1) := by decide +kernel
theorem dX4_isWrong_120 : decode cX4_isWrong 120 = .ok (.goto 4, 3) := by decide +kernel
theorem dX4_isWrong_123 : decode cX4_isWrong 123 = .ok (.iconst 0, 1) := by decide +kernel
theorem dX4_isWrong_124 : decode cX4_isWrong 124 = .ok (.istore 8, 2) := by decide +kernel
theorem dX4_isWrong_126 : decode cX4_isWrong 126 = .ok (.iload 7, 2) := by decide +kernel
theorem dX4_isWrong_128 : decode cX4_isWrong 128 = .ok (.ifCond .eq 20, 3) := by decide +kernel
theorem dX4_isWrong_131 : decode cX4_isWrong 131 = .ok (.aload_n 0, 1) := by decide +kernel
theorem dX4_isWrong_132 : decode cX4_isWrong 132 = .ok (.iload_n 3, 1) := by decide +kernel
theorem dX4_isWrong_133 : decode cX4_isWrong 133 = .ok (.iload 4, 2) := by decide +kernel
theorem dX4_isWrong_135 : decode cX4_isWrong 135 = .ok (.aload_n 0, 1) := by decide +kernel
theorem dX4_isWrong_136 : decode cX4_isWrong 136 = .ok (.iload_n 1, 1) := by decide +kernel
theorem dX4_isWrong_137 : decode cX4_isWrong 137 = .ok (.iload 6, 2) := by decide +kernel
theorem dX4_isWrong_139 : decode cX4_isWrong 139 = .ok (.invokevirtual 85, 3) := by decide +kernel
theorem dX4_isWrong_142 : decode cX4_isWrong 142 = .ok (.invokevirtual 88, 3) := by decide +kernel
theorem dX4_isWrong_145 : decode cX4_isWrong 145 = .ok (.goto 46, 3) := by decide +kernel
theorem dX4_isWrong_148 : decode cX4_isWrong 148 = .ok (.iload 8, 2) := by decide +kernel
theorem dX4_isWrong_150 : decode cX4_isWrong 150 = .ok (.ifCond .eq 20, 3) := by decide +kernel
theorem dX4_isWrong_153 : decode cX4_isWrong 153 = .ok (.aload_n 0, 1) := by decide +kernel
theorem dX4_isWrong_154 : decode cX4_isWrong 154 = .ok (.aload_n 0, 1) := by decide +kernel
theorem dX4_isWrong_155 : decode cX4_isWrong 155 = .ok (.iload_n 1, 1) := by decide +kernel
theorem dX4_isWrong_156 : decode cX4_isWrong 156 = .ok (.iload 6, 2) := by decide +kernel
theorem dX4_isWrong_158 : decode cX4_isWrong 158 = .ok (.invokevirtual 81, 3) := by decide +kernel
theorem dX4_isWrong_161 : decode cX4_isWrong 161 = .ok (.iload_n 3, 1) := by decide +kernel
theorem dX4_isWrong_162 : decode cX4_isWrong 162 = .ok (.iload 4, 2) := by decide +kernel
theorem dX4_isWrong_164 : decode cX4_isWrong 164 = .ok (.invokevirtual 88, 3) := by decide +kernel
theorem dX4_isWrong_167 : decode cX4_isWrong 167 = .ok (.goto 24, 3) := by decide +kernel
theorem dX4_isWrong_170 : decode cX4_isWrong 170 = .ok (.aload_n 0, 1) := by decide +kernel
theorem dX4_isWrong_171 : decode cX4_isWrong 171 = .ok (.iload_n 3, 1) := by decide +kernel
theorem dX4_isWrong_172 : decode cX4_isWrong 172 = .ok (.iload 4, 2) := by decide +kernel
theorem dX4_isWrong_174 : decode cX4_isWrong 174 = .ok (.aload_n 0, 1) := by decide +kernel
theorem dX4_isWrong_175 : decode cX4_isWrong 175 = .ok (.iload_n 1, 1) := by decide +kernel
theorem dX4_isWrong_176 : decode cX4_isWrong 176 = .ok (.iload 6, 2) := by decide +kernel
theorem dX4_isWrong_178 : decode cX4_isWrong 178 = .ok (.invokevirtual 81, 3) := by decide +kernel
theorem dX4_isWrong_181 : decode cX4_isWrong 181 = .ok (.aload_n 0, 1) := by decide +kernel
theorem dX4_isWrong_182 : decode cX4_isWrong 182 = .ok (.iload_n 1, 1) := by decide +kernel
theorem dX4_isWrong_183 : decode cX4_isWrong 183 = .ok (.iload 6, 2) := by decide +kernel
theorem dX4_isWrong_185 : decode cX4_isWrong 185 = .ok (.invokevirtual 85, 3) := by decide +kernel
theorem dX4_isWrong_188 : decode cX4_isWrong 188 = .ok (.invokevirtual 92, 3) := by decide +kernel
theorem dX4_isWrong_191 : decode cX4_isWrong 191 = .ok (.istore 9, 2) := by decide +kernel
theorem dX4_isWrong_193 : decode cX4_isWrong 193 = .ok (.iload 9, 2) := by decide +kernel
theorem dX4_isWrong_195 : decode cX4_isWrong 195 = .ok (.ifCond .eq 5, 3) := by decide +kernel
theorem dX4_isWrong_198 : decode cX4_isWrong 198 = .ok (.iconst 1, 1) := by decide +kernel
theorem dX4_isWrong_199 : decode cX4_isWrong 199 = .ok (.ireturn, 1) := by decide +kernel
theorem dX4_isWrong_200 : decode cX4_isWrong 200 = .ok (.iinc 6 1, 3) := by decide +kernel
theorem dX4_isWrong_203 : decode cX4_isWrong 203 = .ok (.goto (-129), 3) := by decide +kernel
theorem dX4_isWrong_206 : decode cX4_isWrong 206 = .ok (.iconst 0, 1) := by decide +kernel
theorem dX4_isWrong_207 : decode cX4_isWrong 207 = .ok (.ireturn, 1) := by decide +kernel
set_option maxRecDepth 20000 in
theorem ggX4_check_X4_isShape : GoodIn wsX4_check wsX4_isShape := goodIn_r _ [8, 9, 2, 48, 49, 50, 51, 52, 53, 54, 55, 56, 57, 58, 59, 60, 61, 62] (by decide +kernel) (by decide +kernel)
set_option maxRecDepth 20000 in
theorem gX4_check_X4_isShape : GoodIn wsX4_check (wsV RX4 58 RX4 yX4_isShape wsX4_isShape) := goodIn_app (goodIn_of _ (by decide +kernel)) ggX4_check_X4_isShape
set_option maxRecDepth 20000 in
theorem ggX4_check_X4_sides : GoodIn wsX4_check wsX4_sides := goodIn_r _ [13, 2, 3, 48, 49, 50, 51, 52, 53, 54, 55, 56, 57, 58, 59, 60, 61, 62] (by decide +kernel) (by decide +kernel)
set_option maxRecDepth 20000 in
theorem gX4_check_X4_sides : GoodIn wsX4_check (wsV RX4 96 RX4 yX4_sides wsX4_sides) := goodIn_app (goodIn_of _ (by decide +kernel)) ggX4_check_X4_sides
set_option maxRecDepth 20000 in
theorem ggX4_check_X4_isWrong : GoodIn wsX4_check wsX4_isWrong := goodIn_r _ [17, 18, 19, 2, 3, 20, 21, 22, 7, 23, 24, 25, 26, 27, 28, 29, 30, 31, 32, 33, 34, 35, 36, 37, 38, 39, 40, 41, 42, 43, 44, 45, 46, 47, 48, 49, 50, 51, 52, 53, 54, 55, 56, 57, 58, 59, 60, 61, 62] (by decide +kernel) (by decide +kernel)
set_option maxRecDepth 20000 in
theorem gX4_check_X4_isWrong : GoodIn wsX4_check (wsV RX4 99 RX4 yX4_isWrong wsX4_isWrong) := goodIn_app (goodIn_of _ (by decide +kernel)) ggX4_check_X4_isWrong
theorem dX4_check_0 : decode cX4_check 0 = .ok (.aload_n 0, 1) := by decide +kernel
theorem dX4_check_1 : decode cX4_check 1 = .ok (.iconst 0, 1) := by decide +kernel
theorem dX4_check_2 : decode cX4_check 2 = .ok (.putfield 1, 3) := by decide +kernel
theorem dX4_check_5 : decode cX4_check 5 = .ok (.aload_n 0, 1) := by decide +kernel
theorem dX4_check_6 : decode cX4_check 6 = .ok (.iload_n 1, 1) := by decide +kernel
theorem dX4_check_7 : decode cX4_check 7 = .ok (.invokevirtual 58, 3) := by decide +kernel
theorem dX4_check_10 : decode cX4_check 10 = .ok (.ifCond .ne 5, 3) := by decide +kernel
theorem dX4_check_13 : decode cX4_check 13 = .ok (.iconst (-1), 1) := by decide +kernel
theorem dX4_check_14 : decode cX4_check 14 = .ok (.ireturn, 1) := by decide +kernel
theorem dX4_check_15 : decode cX4_check 15 = .ok (.aload_n 0, 1) := by decide +kernel
theorem dX4_check_16 : decode cX4_check 16 = .ok (.getfield 13, 3) := by decide +kernel
theorem dX4_check_19 : decode cX4_check 19 = .ok (.iload_n 1, 1) := by decide +kernel
theorem dX4_check_20 : decode cX4_check 20 = .ok (.iaload, 1) := by decide +kernel
theorem dX4_check_21 : decode cX4_check 21 = .ok (.iconst 1, 1) := by decide +kernel
theorem dX4_check_22 : decode cX4_check 22 = .ok (.if_icmp .ne 5, 3) := by decide +kernel
theorem dX4_check_25 : decode cX4_check 25 = .ok (.iconst 1, 1) := by decide +kernel
theorem dX4_check_26 : decode cX4_check 26 = .ok (.ireturn, 1) := by decide +kernel
theorem dX4_check_27 : decode cX4_check 27 = .ok (.aload_n 0, 1) := by decide +kernel
theorem dX4_check_28 : decode cX4_check 28 = .ok (.getfield 17, 3) := by decide +kernel
theorem dX4_check_31 : decode cX4_check 31 = .ok (.iload_n 1, 1) := by decide +kernel
theorem dX4_check_32 : decode cX4_check 32 = .ok (.iaload, 1) := by decide +kernel
theorem dX4_check_33 : decode cX4_check 33 = .ok (.aload_n 0, 1) := by decide +kernel
theorem dX4_check_34 : decode cX4_check 34 = .ok (.getfield 13, 3) := by decide +kernel
theorem dX4_check_37 : decode cX4_check 37 = .ok (.iload_n 1, 1) := by decide +kernel
theorem dX4_check_38 : decode cX4_check 38 = .ok (.iaload, 1) := by decide +kernel
theorem dX4_check_39 : decode cX4_check 39 = .ok (.if_icmp .ge 5, 3) := by decide +kernel
theorem dX4_check_42 : decode cX4_check 42 = .ok (.iconst 0, 1) := by decide +kernel
theorem dX4_check_43 : decode cX4_check 43 = .ok (.ireturn, 1) := by decide +kernel
theorem dX4_check_44 : decode cX4_check 44 = .ok (.iconst 0, 1) := by decide +kernel
theorem dX4_check_45 : decode cX4_check 45 = .ok (.istore_n 2, 1) := by decide +kernel
theorem dX4_check_46 : decode cX4_check 46 = .ok (.iload_n 2, 1) := by decide +kernel
theorem dX4_check_47 : decode cX4_check 47 = .ok (.aload_n 0, 1) := by decide +kernel
theorem dX4_check_48 : decode cX4_check 48 = .ok (.iload_n 1, 1) := by decide +kernel
theorem dX4_check_49 : decode cX4_check 49 = .ok (.invokevirtual 96, 3) := by decide +kernel
theorem dX4_check_52 : decode cX4_check 52 = .ok (.if_icmp .ge 23, 3) := by decide +kernel
theorem dX4_check_55 : decode cX4_check 55 = .ok (.aload_n 0, 1) := by decide +kernel
theorem dX4_check_56 : decode cX4_check 56 = .ok (.iload_n 1, 1) := by decide +kernel
theorem dX4_check_57 : decode cX4_check 57 = .ok (.iload_n 2, 1) := by decide +kernel
theorem dX4_check_58 : decode cX4_check 58 = .ok (.invokevirtual 99, 3) := by decide +kernel
theorem dX4_check_61 : decode cX4_check 61 = .ok (.ifCond .eq 8, 3) := by decide +kernel
theorem dX4_check_64 : decode cX4_check 64 = .ok (.bipush (-10), 2) := by decide +kernel
theorem dX4_check_66 : decode cX4_check 66 = .ok (.iload_n 2, 1) := by decide +kernel
theorem dX4_check_67 : decode cX4_check 67 = .ok (.isub, 1) := by decide +kernel
theorem dX4_check_68 : decode cX4_check 68 = .ok (.ireturn, 1) := by decide +kernel
theorem dX4_check_69 : decode cX4_check 69 = .ok (.iinc 2 1, 3) := by decide +kernel
theorem dX4_check_72 : decode cX4_check 72 = .ok (.goto (-26), 3) := by decide +kernel
theorem dX4_check_75 : decode cX4_check 75 = .ok (.iconst 1, 1) := by decide +kernel
theorem dX4_check_76 : decode cX4_check 76 = .ok (.ireturn, 1) := by decide +kernel
set_option maxRecDepth 20000 in
theorem ggX4_isRight_X4_isShape : GoodIn wsX4_isRight wsX4_isShape := goodIn_r _ [5, 6, 7, 52, 53, 54, 55, 56, 57, 58, 59, 60, 61, 62, 63, 64, 65, 66] (by decide +kernel) (by decide +kernel)
set_option maxRecDepth 20000 in
theorem gX4_isRight_X4_isShape : GoodIn wsX4_isRight (wsV RX4 58 RX4 yX4_isShape wsX4_isShape) := goodIn_app (goodIn_of _ (by decide +kernel)) ggX4_isRight_X4_isShape
set_option maxRecDepth 20000 in
theorem ggX4_isRight_X4_check : GoodIn wsX4_isRight wsX4_check := goodIn_r _ [11, 12, 7, 13, 1, 2, 3, 4, 5, 6, 14, 15, 16, 17, 18, 19, 20, 21, 22, 23, 24, 25, 26, 27, 28, 29, 30, 31, 32, 33, 34, 35, 36, 37, 38, 39, 40, 41, 42, 43, 44, 45, 46, 47, 48, 49, 50, 51, 52, 53, 54, 55, 56, 57, 58, 59, 60, 61, 62, 63, 64, 65, 66] (by decide +kernel) (by decide +kernel)
set_option maxRecDepth 20000 in
theorem gX4_isRight_X4_check : GoodIn wsX4_isRight (wsV RX4 102 RX4 yX4_check wsX4_check) := goodIn_app (goodIn_of _ (by decide +kernel)) ggX4_isRight_X4_check
theorem dX4_isRight_0 : decode cX4_isRight 0 = .ok (.aload_n 0, 1) := by decide +kernel
theorem dX4_isRight_1 : decode cX4_isRight 1 = .ok (.iload_n 1, 1) := by decide +kernel
theorem dX4_isRight_2 : decode cX4_isRight 2 = .ok (.invokevirtual 58, 3) := by decide +kernel
theorem dX4_isRight_5 : decode cX4_isRight 5 = .ok (.ifCond .eq 16, 3) := by decide +kernel
theorem dX4_isRight_8 : decode cX4_isRight 8 = .ok (.aload_n 0, 1) := by decide +kernel
theorem dX4_isRight_9 : decode cX4_isRight 9 = .ok (.iload_n 1, 1) := by decide +kernel
theorem dX4_isRight_10 : decode cX4_isRight 10 = .ok (.invokevirtual 102, 3) := by decide +kernel
theorem dX4_isRight_13 : decode cX4_isRight 13 = .ok (.iconst 1, 1) := by decide +kernel
theorem dX4_isRight_14 : decode cX4_isRight 14 = .ok (.if_icmp .ne 7, 3) := by decide +kernel
theorem dX4_isRight_17 : decode cX4_isRight 17 = .ok (.iconst 1, 1) := by decide +kernel
theorem dX4_isRight_18 : decode cX4_isRight 18 = .ok (.goto 4, 3) := by decide +kernel
theorem dX4_isRight_21 : decode cX4_isRight 21 = .ok (.iconst 0, 1) := by decide +kernel
theorem dX4_isRight_22 : decode cX4_isRight 22 = .ok (.ireturn, 1) := by decide +kernel
set_option maxRecDepth 20000 in
theorem ggX4_stands_X4_from : GoodIn wsX4_stands wsX4_from := goodIn_r _ [8] (by decide +kernel) (by decide +kernel)
set_option maxRecDepth 20000 in
theorem gX4_stands_X4_from : GoodIn wsX4_stands (wsV RX4 81 RX4 yX4_from wsX4_from) := goodIn_app (goodIn_of _ (by decide +kernel)) ggX4_stands_X4_from
set_option maxRecDepth 20000 in
theorem ggX4_stands_X4_to : GoodIn wsX4_stands wsX4_to := goodIn_r _ [12, 13, 1, 26, 27, 28, 29, 30, 31, 32, 33, 34, 35, 36, 37, 38, 39, 40] (by decide +kernel) (by decide +kernel)
set_option maxRecDepth 20000 in
theorem gX4_stands_X4_to : GoodIn wsX4_stands (wsV RX4 85 RX4 yX4_to wsX4_to) := goodIn_app (goodIn_of _ (by decide +kernel)) ggX4_stands_X4_to
set_option maxRecDepth 20000 in
theorem ggX4_stands_X4_isOn : GoodIn wsX4_stands wsX4_isOn := goodIn_r _ [16, 17, 18, 7, 19, 20, 21, 22, 23, 24, 25] (by decide +kernel) (by decide +kernel)
set_option maxRecDepth 20000 in
theorem gX4_stands_X4_isOn : GoodIn wsX4_stands (va_wsS RX4 77 yX4_isOn wsX4_isOn) := goodIn_app (goodIn_of _ (by decide +kernel)) ggX4_stands_X4_isOn
set_option maxRecDepth 20000 in
theorem ggX4_stands_X4_hand : GoodIn wsX4_stands wsX4_hand := goodIn_r _ [19, 20, 21, 7, 22] (by decide +kernel) (by decide +kernel)
set_option maxRecDepth 20000 in
theorem gX4_stands_X4_hand : GoodIn wsX4_stands (va_wsS RX4 69 yX4_hand wsX4_hand) := goodIn_app (goodIn_of _ (by decide +kernel)) ggX4_stands_X4_hand
theorem dX4_stands_0 : decode cX4_stands 0 = .ok (.iconst 0, 1) := by decide +kernel
theorem dX4_stands_1 : decode cX4_stands 1 = .ok (.istore 6, 2) := by decide +kernel
theorem dX4_stands_3 : decode cX4_stands 3 = .ok (.iconst 0, 1) := by decide +kernel
theorem dX4_stands_4 : decode cX4_stands 4 = .ok (.istore 7, 2) := by decide +kernel
theorem dX4_stands_6 : decode cX4_stands 6 = .ok (.iload 7, 2) := by decide +kernel
theorem dX4_stands_8 : decode cX4_stands 8 = .ok (.aload_n 0, 1) := by decide +kernel
theorem dX4_stands_9 : decode cX4_stands 9 = .ok (.getfield 17, 3) := by decide +kernel
theorem dX4_stands_12 : decode cX4_stands 12 = .ok (.iload 5, 2) := by decide +kernel
theorem dX4_stands_14 : decode cX4_stands 14 = .ok (.iaload, 1) := by decide +kernel
theorem dX4_stands_15 : decode cX4_stands 15 = .ok (.if_icmp .ge 198, 3) := by decide +kernel
theorem dX4_stands_18 : decode cX4_stands 18 = .ok (.aload_n 0, 1) := by decide +kernel
theorem dX4_stands_19 : decode cX4_stands 19 = .ok (.iload 5, 2) := by decide +kernel
theorem dX4_stands_21 : decode cX4_stands 21 = .ok (.iload 7, 2) := by decide +kernel
theorem dX4_stands_23 : decode cX4_stands 23 = .ok (.invokevirtual 81, 3) := by decide +kernel
theorem dX4_stands_26 : decode cX4_stands 26 = .ok (.istore 8, 2) := by decide +kernel
theorem dX4_stands_28 : decode cX4_stands 28 = .ok (.aload_n 0, 1) := by decide +kernel
theorem dX4_stands_29 : decode cX4_stands 29 = .ok (.iload 5, 2) := by decide +kernel
theorem dX4_stands_31 : decode cX4_stands 31 = .ok (.iload 7, 2) := by decide +kernel
theorem dX4_stands_33 : decode cX4_stands 33 = .ok (.invokevirtual 85, 3) := by decide +kernel
theorem dX4_stands_36 : decode cX4_stands 36 = .ok (.istore 9, 2) := by decide +kernel
theorem dX4_stands_38 : decode cX4_stands 38 = .ok (.aload_n 0, 1) := by decide +kernel
theorem dX4_stands_39 : decode cX4_stands 39 = .ok (.getfield 20, 3) := by decide +kernel
theorem dX4_stands_42 : decode cX4_stands 42 = .ok (.iload 8, 2) := by decide +kernel
theorem dX4_stands_44 : decode cX4_stands 44 = .ok (.laload, 1) := by decide +kernel
theorem dX4_stands_45 : decode cX4_stands 45 = .ok (.aload_n 0, 1) := by decide +kernel
theorem dX4_stands_46 : decode cX4_stands 46 = .ok (.getfield 24, 3) := by decide +kernel
theorem dX4_stands_49 : decode cX4_stands 49 = .ok (.iload 8, 2) := by decide +kernel
theorem dX4_stands_51 : decode cX4_stands 51 = .ok (.laload, 1) := by decide +kernel
theorem dX4_stands_52 : decode cX4_stands 52 = .ok (.aload_n 0, 1) := by decide +kernel
theorem dX4_stands_53 : decode cX4_stands 53 = .ok (.getfield 20, 3) := by decide +kernel
theorem dX4_stands_56 : decode cX4_stands 56 = .ok (.iload 9, 2) := by decide +kernel
theorem dX4_stands_58 : decode cX4_stands 58 = .ok (.laload, 1) := by decide +kernel
theorem dX4_stands_59 : decode cX4_stands 59 = .ok (.aload_n 0, 1) := by decide +kernel
theorem dX4_stands_60 : decode cX4_stands 60 = .ok (.getfield 24, 3) := by decide +kernel
theorem dX4_stands_63 : decode cX4_stands 63 = .ok (.iload 9, 2) := by decide +kernel
theorem dX4_stands_65 : decode cX4_stands 65 = .ok (.laload, 1) := by decide +kernel
theorem dX4_stands_66 : decode cX4_stands 66 = .ok (.lload_n 1, 1) := by decide +kernel
theorem dX4_stands_67 : decode cX4_stands 67 = .ok (.lload_n 3, 1) := by decide +kernel
theorem dX4_stands_68 : decode cX4_stands 68 = .ok (.invokestatic 77, 3) := by decide +kernel
theorem dX4_stands_71 : decode cX4_stands 71 = .ok (.ifCond .eq 5, 3) := by decide +kernel
theorem dX4_stands_74 : decode cX4_stands 74 = .ok (.iconst 2, 1) := by decide +kernel
theorem dX4_stands_75 : decode cX4_stands 75 = .ok (.ireturn, 1) := by decide +kernel
theorem dX4_stands_76 : decode cX4_stands 76 = .ok (.aload_n 0, 1) := by decide +kernel
theorem dX4_stands_77 : decode cX4_stands 77 = .ok (.getfield 24, 3) := by decide +kernel
theorem dX4_stands_80 : decode cX4_stands 80 = .ok (.iload 8, 2) := by decide +kernel
theorem dX4_stands_82 : decode cX4_stands 82 = .ok (.laload, 1) := by decide +kernel
theorem dX4_stands_83 : decode cX4_stands 83 = .ok (.lload_n 3, 1) := by decide +kernel
theorem dX4_stands_84 : decode cX4_stands 84 = .ok (.lcmp, 1) := by decide +kernel
theorem dX4_stands_85 : decode cX4_stands 85 = .ok (.ifCond .le 7, 3) := by decide +kernel
theorem dX4_stands_88 : decode cX4_stands 88 = .ok (.iconst 1, 1) := by decide +kernel
theorem dX4_stands_89 : decode cX4_stands 89 = .ok (.goto 4, 3) := by decide +kernel
theorem dX4_stands_92 : decode cX4_stands 92 = .ok (.iconst 0, 1) := by decide +kernel
theorem dX4_stands_93 : decode cX4_stands 93 = .ok (.aload_n 0, 1) := by decide +kernel
theorem dX4_stands_94 : decode cX4_stands 94 = .ok (.getfield 24, 3) := by decide +kernel
theorem dX4_stands_97 : decode cX4_stands 97 = .ok (.iload 9, 2) := by decide +kernel
theorem dX4_stands_99 : decode cX4_stands 99 = .ok (.laload, 1) := by decide +kernel
theorem dX4_stands_100 : decode cX4_stands 100 = .ok (.lload_n 3, 1) := by decide +kernel
theorem dX4_stands_101 : decode cX4_stands 101 = .ok (.lcmp, 1) := by decide +kernel
theorem dX4_stands_102 : decode cX4_stands 102 = .ok (.ifCond .le 7, 3) := by decide +kernel
theorem dX4_stands_105 : decode cX4_stands 105 = .ok (.iconst 1, 1) := by decide +kernel
theorem dX4_stands_106 : decode cX4_stands 106 = .ok (.goto 4, 3) := by decide +kernel
theorem dX4_stands_109 : decode cX4_stands 109 = .ok (.iconst 0, 1) := by decide +kernel
theorem dX4_stands_110 : decode cX4_stands 110 = .ok (.if_icmp .ne 6, 3) := by decide +kernel
theorem dX4_stands_113 : decode cX4_stands 113 = .ok (.goto 94, 3) := by decide +kernel
theorem dX4_stands_116 : decode cX4_stands 116 = .ok (.aload_n 0, 1) := by decide +kernel
theorem dX4_stands_117 : decode cX4_stands 117 = .ok (.getfield 24, 3) := by decide +kernel
theorem dX4_stands_120 : decode cX4_stands 120 = .ok (.iload 8, 2) := by decide +kernel
theorem dX4_stands_122 : decode cX4_stands 122 = .ok (.laload, 1) := by decide +kernel
theorem dX4_stands_123 : decode cX4_stands 123 = .ok (.aload_n 0, 1) := by decide +kernel
theorem dX4_stands_124 : decode cX4_stands 124 = .ok (.getfield 24, 3) := by decide +kernel
theorem dX4_stands_127 : decode cX4_stands 127 = .ok (.iload 9, 2) := by decide +kernel
theorem dX4_stands_129 : decode cX4_stands 129 = .ok (.laload, 1) := by decide +kernel
theorem dX4_stands_130 : decode cX4_stands 130 = .ok (.lcmp, 1) := by decide +kernel
theorem dX4_stands_131 : decode cX4_stands 131 = .ok (.ifCond .ge 8, 3) := by decide +kernel
theorem dX4_stands_134 : decode cX4_stands 134 = .ok (.iload 8, 2) := by decide +kernel
theorem dX4_stands_136 : decode cX4_stands 136 = .ok (.goto 5, 3) := by decide +kernel
theorem dX4_stands_139 : decode cX4_stands 139 = .ok (.iload 9, 2) := by decide +kernel
theorem dX4_stands_141 : decode cX4_stands 141 = .ok (.istore 10, 2) := by decide +kernel
theorem dX4_stands_143 : decode cX4_stands 143 = .ok (.iload 10, 2) := by decide +kernel
theorem dX4_stands_145 : decode cX4_stands 145 = .ok (.iload 8, 2) := by decide +kernel
theorem dX4_stands_147 : decode cX4_stands 147 = .ok (.if_icmp .ne 8, 3) := by decide +kernel
theorem dX4_stands_150 : decode cX4_stands 150 = .ok (.iload 9, 2) := by decide +kernel
theorem dX4_stands_152 : decode cX4_stands 152 = .ok (.goto 5, 3) := by decide +kernel
theorem dX4_stands_155 : decode cX4_stands 155 = .ok (.iload 8, 2) := by decide +kernel
theorem dX4_stands_157 : decode cX4_stands 157 = .ok (.istore 11, 2) := by decide +kernel
theorem dX4_stands_159 : decode cX4_stands 159 = .ok (.aload_n 0, 1) := by decide +kernel
theorem dX4_stands_160 : decode cX4_stands 160 = .ok (.getfield 20, 3) := by decide +kernel
theorem dX4_stands_163 : decode cX4_stands 163 = .ok (.iload 10, 2) := by decide +kernel
theorem dX4_stands_165 : decode cX4_stands 165 = .ok (.laload, 1) := by decide +kernel
theorem dX4_stands_166 : decode cX4_stands 166 = .ok (.aload_n 0, 1) := by decide +kernel
theorem dX4_stands_167 : decode cX4_stands 167 = .ok (.getfield 24, 3) := by decide +kernel
theorem dX4_stands_170 : decode cX4_stands 170 = .ok (.iload 10, 2) := by decide +kernel
theorem dX4_stands_172 : decode cX4_stands 172 = .ok (.laload, 1) := by decide +kernel
theorem dX4_stands_173 : decode cX4_stands 173 = .ok (.aload_n 0, 1) := by decide +kernel
theorem dX4_stands_174 : decode cX4_stands 174 = .ok (.getfield 20, 3) := by decide +kernel
theorem dX4_stands_177 : decode cX4_stands 177 = .ok (.iload 11, 2) := by decide +kernel
theorem dX4_stands_179 : decode cX4_stands 179 = .ok (.laload, 1) := by decide +kernel
theorem dX4_stands_180 : decode cX4_stands 180 = .ok (.aload_n 0, 1) := by decide +kernel
theorem dX4_stands_181 : decode cX4_stands 181 = .ok (.getfield 24, 3) := by decide +kernel
theorem dX4_stands_184 : decode cX4_stands 184 = .ok (.iload 11, 2) := by decide +kernel
theorem dX4_stands_186 : decode cX4_stands 186 = .ok (.laload, 1) := by decide +kernel
theorem dX4_stands_187 : decode cX4_stands 187 = .ok (.lload_n 1, 1) := by decide +kernel
theorem dX4_stands_188 : decode cX4_stands 188 = .ok (.lload_n 3, 1) := by decide +kernel
theorem dX4_stands_189 : decode cX4_stands 189 = .ok (.invokestatic 69, 3) := by decide +kernel
theorem dX4_stands_192 : decode cX4_stands 192 = .ok (.ifCond .le 15, 3) := by decide +kernel
theorem dX4_stands_195 : decode cX4_stands 195 = .ok (.iload 6, 2) := by decide +kernel
theorem dX4_stands_197 : decode cX4_stands 197 = .ok (.ifCond .ne 7, 3) := by decide +kernel
theorem dX4_stands_200 : decode cX4_stands 200 = .ok (.iconst 1, 1) := by decide +kernel
theorem dX4_stands_201 : decode cX4_stands 201 = .ok (.goto 4, 3) := by decide +kernel
theorem dX4_stands_204 : decode cX4_stands 204 = .ok (.iconst 0, 1) := by decide +kernel
theorem dX4_stands_205 : decode cX4_stands 205 = .ok (.istore 6, 2) := by decide +kernel
theorem dX4_stands_207 : decode cX4_stands 207 = .ok (.iinc 7 1, 3) := by decide +kernel
theorem dX4_stands_210 : decode cX4_stands 210 = .ok (.goto (-204), 3) := by decide +kernel
theorem dX4_stands_213 : decode cX4_stands 213 = .ok (.iload 6, 2) := by decide +kernel
theorem dX4_stands_215 : decode cX4_stands 215 = .ok (.ifCond .eq 7, 3) := by decide +kernel
theorem dX4_stands_218 : decode cX4_stands 218 = .ok (.iconst 1, 1) := by decide +kernel
theorem dX4_stands_219 : decode cX4_stands 219 = .ok (.goto 4, 3) := by decide +kernel
theorem dX4_stands_222 : decode cX4_stands 222 = .ok (.iconst 0, 1) := by decide +kernel
theorem dX4_stands_223 : decode cX4_stands 223 = .ok (.ireturn, 1) := by decide +kernel
set_option maxRecDepth 20000 in
theorem ggX4_inside_X4_isPlace : GoodIn wsX4_inside wsX4_isPlace := goodIn_r _ [6] (by decide +kernel) (by decide +kernel)
set_option maxRecDepth 20000 in
theorem gX4_inside_X4_isPlace : GoodIn wsX4_inside (va_wsS RX4 46 yX4_isPlace wsX4_isPlace) := goodIn_app (goodIn_of _ (by decide +kernel)) ggX4_inside_X4_isPlace
set_option maxRecDepth 20000 in
theorem ggX4_inside_X4_isRight : GoodIn wsX4_inside wsX4_isRight := goodIn_r _ [10, 11, 12, 13, 5, 14, 15, 2, 16, 17, 18, 19, 1, 20, 21, 22, 23, 24, 25, 26, 27, 28, 29, 30, 31, 32, 33, 34, 35, 36, 37, 38, 39, 40, 41, 42, 43, 44, 45, 46, 47, 48, 49, 50, 51, 52, 53, 54, 55, 56, 57, 58, 63, 64, 65, 66, 67, 68, 69, 70, 71, 72, 73, 74, 75, 76, 77] (by decide +kernel) (by decide +kernel)
set_option maxRecDepth 20000 in
theorem gX4_inside_X4_isRight : GoodIn wsX4_inside (wsV RX4 105 RX4 yX4_isRight wsX4_isRight) := goodIn_app (goodIn_of _ (by decide +kernel)) ggX4_inside_X4_isRight
set_option maxRecDepth 20000 in
theorem ggX4_inside_X4_stands : GoodIn wsX4_inside wsX4_stands := goodIn_r _ [62, 20, 29, 30, 31, 32, 33, 5, 34, 35, 36, 37, 38, 2, 50, 51, 52, 53, 54, 55, 43, 44, 45, 56, 57, 58, 63, 64, 65, 66, 67, 68, 69, 70, 71, 72, 73, 74, 75, 76, 77] (by decide +kernel) (by decide +kernel)
set_option maxRecDepth 20000 in
theorem gX4_inside_X4_stands : GoodIn wsX4_inside (wsV RX4 108 RX4 yX4_stands wsX4_stands) := goodIn_app (goodIn_of _ (by decide +kernel)) ggX4_inside_X4_stands
theorem dX4_inside_0 : decode cX4_inside 0 = .ok (.aload_n 0, 1) := by decide +kernel
theorem dX4_inside_1 : decode cX4_inside 1 = .ok (.iconst 0, 1) := by decide +kernel
theorem dX4_inside_2 : decode cX4_inside 2 = .ok (.putfield 1, 3) := by decide +kernel
theorem dX4_inside_5 : decode cX4_inside 5 = .ok (.iload_n 1, 1) := by decide +kernel
theorem dX4_inside_6 : decode cX4_inside 6 = .ok (.iload_n 2, 1) := by decide +kernel
theorem dX4_inside_7 : decode cX4_inside 7 = .ok (.invokestatic 46, 3) := by decide +kernel
theorem dX4_inside_10 : decode cX4_inside 10 = .ok (.ifCond .eq 21, 3) := by decide +kernel
theorem dX4_inside_13 : decode cX4_inside 13 = .ok (.aload_n 0, 1) := by decide +kernel
theorem dX4_inside_14 : decode cX4_inside 14 = .ok (.iload_n 3, 1) := by decide +kernel
theorem dX4_inside_15 : decode cX4_inside 15 = .ok (.invokevirtual 105, 3) := by decide +kernel
theorem dX4_inside_18 : decode cX4_inside 18 = .ok (.ifCond .eq 13, 3) := by decide +kernel
theorem dX4_inside_21 : decode cX4_inside 21 = .ok (.aload_n 0, 1) := by decide +kernel
theorem dX4_inside_22 : decode cX4_inside 22 = .ok (.getfield 13, 3) := by decide +kernel
theorem dX4_inside_25 : decode cX4_inside 25 = .ok (.iload_n 3, 1) := by decide +kernel
theorem dX4_inside_26 : decode cX4_inside 26 = .ok (.iaload, 1) := by decide +kernel
theorem dX4_inside_27 : decode cX4_inside 27 = .ok (.iconst 3, 1) := by decide +kernel
theorem dX4_inside_28 : decode cX4_inside 28 = .ok (.if_icmp .eq 7, 3) := by decide +kernel
theorem dX4_inside_31 : decode cX4_inside 31 = .ok (.iconst (-1), 1) := by decide +kernel
theorem dX4_inside_32 : decode cX4_inside 32 = .ok (.goto 12, 3) := by decide +kernel
theorem dX4_inside_35 : decode cX4_inside 35 = .ok (.aload_n 0, 1) := by decide +kernel
theorem dX4_inside_36 : decode cX4_inside 36 = .ok (.iload_n 1, 1) := by decide +kernel
theorem dX4_inside_37 : decode cX4_inside 37 = .ok (.i2l, 1) := by decide +kernel
theorem dX4_inside_38 : decode cX4_inside 38 = .ok (.iload_n 2, 1) := by decide +kernel
theorem dX4_inside_39 : decode cX4_inside 39 = .ok (.i2l, 1) := by decide +kernel
theorem dX4_inside_40 : decode cX4_inside 40 = .ok (.iload_n 3, 1) := by decide +kernel
theorem dX4_inside_41 : decode cX4_inside 41 = .ok (.invokevirtual 108, 3) := by decide +kernel
theorem dX4_inside_44 : decode cX4_inside 44 = .ok (.ireturn, 1) := by decide +kernel
set_option maxRecDepth 20000 in
theorem ggX4_have_X4_sides : GoodIn wsX4_have wsX4_sides := goodIn_r _ [8, 1, 9, 38, 39, 40, 41, 42, 43, 44, 45, 46, 47, 48, 49, 50, 51, 52] (by decide +kernel) (by decide +kernel)
set_option maxRecDepth 20000 in
theorem gX4_have_X4_sides : GoodIn wsX4_have (wsV RX4 96 RX4 yX4_sides wsX4_sides) := goodIn_app (goodIn_of _ (by decide +kernel)) ggX4_have_X4_sides
set_option maxRecDepth 20000 in
theorem ggX4_have_X4_from : GoodIn wsX4_have wsX4_from := goodIn_r _ [13] (by decide +kernel) (by decide +kernel)
set_option maxRecDepth 20000 in
theorem gX4_have_X4_from : GoodIn wsX4_have (wsV RX4 81 RX4 yX4_from wsX4_from) := goodIn_app (goodIn_of _ (by decide +kernel)) ggX4_have_X4_from
set_option maxRecDepth 20000 in
theorem ggX4_have_X4_to : GoodIn wsX4_have wsX4_to := goodIn_r _ [17, 1, 9, 38, 39, 40, 41, 42, 43, 44, 45, 46, 47, 48, 49, 50, 51, 52] (by decide +kernel) (by decide +kernel)
set_option maxRecDepth 20000 in
theorem gX4_have_X4_to : GoodIn wsX4_have (wsV RX4 85 RX4 yX4_to wsX4_to) := goodIn_app (goodIn_of _ (by decide +kernel)) ggX4_have_X4_to
set_option maxRecDepth 20000 in
theorem ggX4_have_X4_cut : GoodIn wsX4_have wsX4_cut := goodIn_r _ [21, 2, 3, 22, 23, 7, 24, 25, 26, 27, 28, 29, 30, 31, 32, 33, 38, 39, 40, 41, 42, 43, 44, 45, 46, 47, 48, 49, 50, 51, 52] (by decide +kernel) (by decide +kernel)
set_option maxRecDepth 20000 in
theorem gX4_have_X4_cut : GoodIn wsX4_have (wsV RX4 92 RX4 yX4_cut wsX4_cut) := goodIn_app (goodIn_of _ (by decide +kernel)) ggX4_have_X4_cut
set_option maxRecDepth 20000 in
theorem ggX4_have_X4_stands : GoodIn wsX4_have wsX4_stands := goodIn_r _ [37, 9, 2, 3, 10, 11, 12, 7, 13, 14, 15, 16, 17, 1, 22, 23, 24, 25, 26, 27, 28, 29, 30, 31, 32, 33, 38, 39, 40, 41, 42, 43, 44, 45, 46, 47, 48, 49, 50, 51, 52] (by decide +kernel) (by decide +kernel)
set_option maxRecDepth 20000 in
theorem gX4_have_X4_stands : GoodIn wsX4_have (wsV RX4 108 RX4 yX4_stands wsX4_stands) := goodIn_app (goodIn_of _ (by decide +kernel)) ggX4_have_X4_stands
theorem dX4_have_0 : decode cX4_have 0 = .ok (.iconst 0, 1) := by decide +kernel
theorem dX4_have_1 : decode cX4_have 1 = .ok (.istore_n 3, 1) := by decide +kernel
theorem dX4_have_2 : decode cX4_have 2 = .ok (.iload_n 3, 1) := by decide +kernel
theorem dX4_have_3 : decode cX4_have 3 = .ok (.aload_n 0, 1) := by decide +kernel
theorem dX4_have_4 : decode cX4_have 4 = .ok (.iload_n 1, 1) := by decide +kernel
theorem dX4_have_5 : decode cX4_have 5 = .ok (.invokevirtual 96, 3) := by decide +kernel
theorem dX4_have_8 : decode cX4_have 8 = .ok (.if_icmp .ge 63, 3) := by decide +kernel
theorem dX4_have_11 : decode cX4_have 11 = .ok (.iconst 0, 1) := by decide +kernel
theorem dX4_have_12 : decode cX4_have 12 = .ok (.istore 4, 2) := by decide +kernel
theorem dX4_have_14 : decode cX4_have 14 = .ok (.iload 4, 2) := by decide +kernel
theorem dX4_have_16 : decode cX4_have 16 = .ok (.aload_n 0, 1) := by decide +kernel
theorem dX4_have_17 : decode cX4_have 17 = .ok (.iload_n 2, 1) := by decide +kernel
theorem dX4_have_18 : decode cX4_have 18 = .ok (.invokevirtual 96, 3) := by decide +kernel
theorem dX4_have_21 : decode cX4_have 21 = .ok (.if_icmp .ge 44, 3) := by decide +kernel
theorem dX4_have_24 : decode cX4_have 24 = .ok (.aload_n 0, 1) := by decide +kernel
theorem dX4_have_25 : decode cX4_have 25 = .ok (.aload_n 0, 1) := by decide +kernel
theorem dX4_have_26 : decode cX4_have 26 = .ok (.iload_n 1, 1) := by decide +kernel
theorem dX4_have_27 : decode cX4_have 27 = .ok (.iload_n 3, 1) := by decide +kernel
theorem dX4_have_28 : decode cX4_have 28 = .ok (.invokevirtual 81, 3) := by decide +kernel
theorem dX4_have_31 : decode cX4_have 31 = .ok (.aload_n 0, 1) := by decide +kernel
theorem dX4_have_32 : decode cX4_have 32 = .ok (.iload_n 1, 1) := by decide +kernel
theorem dX4_have_33 : decode cX4_have 33 = .ok (.iload_n 3, 1) := by decide +kernel
theorem dX4_have_34 : decode cX4_have 34 = .ok (.invokevirtual 85, 3) := by decide +kernel
theorem dX4_have_37 : decode cX4_have 37 = .ok (.aload_n 0, 1) := by decide +kernel
theorem dX4_have_38 : decode cX4_have 38 = .ok (.iload_n 2, 1) := by decide +kernel
theorem dX4_have_39 : decode cX4_have 39 = .ok (.iload 4, 2) := by decide +kernel
theorem dX4_have_41 : decode cX4_have 41 = .ok (.invokevirtual 81, 3) := by decide +kernel
theorem dX4_have_44 : decode cX4_have 44 = .ok (.aload_n 0, 1) := by decide +kernel
theorem dX4_have_45 : decode cX4_have 45 = .ok (.iload_n 2, 1) := by decide +kernel
theorem dX4_have_46 : decode cX4_have 46 = .ok (.iload 4, 2) := by decide +kernel
theorem dX4_have_48 : decode cX4_have 48 = .ok (.invokevirtual 85, 3) := by decide +kernel
theorem dX4_have_51 : decode cX4_have 51 = .ok (.invokevirtual 92, 3) := by decide +kernel
theorem dX4_have_54 : decode cX4_have 54 = .ok (.ifCond .eq 5, 3) := by decide +kernel
theorem dX4_have_57 : decode cX4_have 57 = .ok (.iconst 1, 1) := by decide +kernel
theorem dX4_have_58 : decode cX4_have 58 = .ok (.ireturn, 1) := by decide +kernel
theorem dX4_have_59 : decode cX4_have 59 = .ok (.iinc 4 1, 3) := by decide +kernel
theorem dX4_have_62 : decode cX4_have 62 = .ok (.goto (-48), 3) := by decide +kernel
theorem dX4_have_65 : decode cX4_have 65 = .ok (.iinc 3 1, 3) := by decide +kernel
theorem dX4_have_68 : decode cX4_have 68 = .ok (.goto (-66), 3) := by decide +kernel
theorem dX4_have_71 : decode cX4_have 71 = .ok (.aload_n 0, 1) := by decide +kernel
theorem dX4_have_72 : decode cX4_have 72 = .ok (.getfield 13, 3) := by decide +kernel
theorem dX4_have_75 : decode cX4_have 75 = .ok (.iload_n 1, 1) := by decide +kernel
theorem dX4_have_76 : decode cX4_have 76 = .ok (.iaload, 1) := by decide +kernel
theorem dX4_have_77 : decode cX4_have 77 = .ok (.iconst 3, 1) := by decide +kernel
theorem dX4_have_78 : decode cX4_have 78 = .ok (.if_icmp .ne 33, 3) := by decide +kernel
theorem dX4_have_81 : decode cX4_have 81 = .ok (.aload_n 0, 1) := by decide +kernel
theorem dX4_have_82 : decode cX4_have 82 = .ok (.aload_n 0, 1) := by decide +kernel
theorem dX4_have_83 : decode cX4_have 83 = .ok (.getfield 20, 3) := by decide +kernel
theorem dX4_have_86 : decode cX4_have 86 = .ok (.aload_n 0, 1) := by decide +kernel
theorem dX4_have_87 : decode cX4_have 87 = .ok (.iload_n 2, 1) := by decide +kernel
theorem dX4_have_88 : decode cX4_have 88 = .ok (.iconst 0, 1) := by decide +kernel
theorem dX4_have_89 : decode cX4_have 89 = .ok (.invokevirtual 81, 3) := by decide +kernel
theorem dX4_have_92 : decode cX4_have 92 = .ok (.laload, 1) := by decide +kernel
theorem dX4_have_93 : decode cX4_have 93 = .ok (.aload_n 0, 1) := by decide +kernel
theorem dX4_have_94 : decode cX4_have 94 = .ok (.getfield 24, 3) := by decide +kernel
theorem dX4_have_97 : decode cX4_have 97 = .ok (.aload_n 0, 1) := by decide +kernel
theorem dX4_have_98 : decode cX4_have 98 = .ok (.iload_n 2, 1) := by decide +kernel
theorem dX4_have_99 : decode cX4_have 99 = .ok (.iconst 0, 1) := by decide +kernel
theorem dX4_have_100 : decode cX4_have 100 = .ok (.invokevirtual 81, 3) := by decide +kernel
theorem dX4_have_103 : decode cX4_have 103 = .ok (.laload, 1) := by decide +kernel
theorem dX4_have_104 : decode cX4_have 104 = .ok (.iload_n 1, 1) := by decide +kernel
theorem dX4_have_105 : decode cX4_have 105 = .ok (.invokevirtual 108, 3) := by decide +kernel
theorem dX4_have_108 : decode cX4_have 108 = .ok (.ifCond .gt 43, 3) := by decide +kernel
theorem dX4_have_111 : decode cX4_have 111 = .ok (.aload_n 0, 1) := by decide +kernel
theorem dX4_have_112 : decode cX4_have 112 = .ok (.getfield 13, 3) := by decide +kernel
theorem dX4_have_115 : decode cX4_have 115 = .ok (.iload_n 2, 1) := by decide +kernel
theorem dX4_have_116 : decode cX4_have 116 = .ok (.iaload, 1) := by decide +kernel
theorem dX4_have_117 : decode cX4_have 117 = .ok (.iconst 3, 1) := by decide +kernel
theorem dX4_have_118 : decode cX4_have 118 = .ok (.if_icmp .ne 37, 3) := by decide +kernel
theorem dX4_have_121 : decode cX4_have 121 = .ok (.aload_n 0, 1) := by decide +kernel
theorem dX4_have_122 : decode cX4_have 122 = .ok (.aload_n 0, 1) := by decide +kernel
theorem dX4_have_123 : decode cX4_have 123 = .ok (.getfield 20, 3) := by decide +kernel
theorem dX4_have_126 : decode cX4_have 126 = .ok (.aload_n 0, 1) := by decide +kernel
theorem dX4_have_127 : decode cX4_have 127 = .ok (.iload_n 1, 1) := by decide +kernel
theorem dX4_have_128 : decode cX4_have 128 = .ok (.iconst 0, 1) := by decide +kernel
theorem dX4_have_129 : decode cX4_have 129 = .ok (.invokevirtual 81, 3) := by decide +kernel
theorem dX4_have_132 : decode cX4_have 132 = .ok (.laload, 1) := by decide +kernel
theorem dX4_have_133 : decode cX4_have 133 = .ok (.aload_n 0, 1) := by decide +kernel
theorem dX4_have_134 : decode cX4_have 134 = .ok (.getfield 24, 3) := by decide +kernel
theorem dX4_have_137 : decode cX4_have 137 = .ok (.aload_n 0, 1) := by decide +kernel
theorem dX4_have_138 : decode cX4_have 138 = .ok (.iload_n 1, 1) := by decide +kernel
theorem dX4_have_139 : decode cX4_have 139 = .ok (.iconst 0, 1) := by decide +kernel
theorem dX4_have_140 : decode cX4_have 140 = .ok (.invokevirtual 81, 3) := by decide +kernel
theorem dX4_have_143 : decode cX4_have 143 = .ok (.laload, 1) := by decide +kernel
theorem dX4_have_144 : decode cX4_have 144 = .ok (.iload_n 2, 1) := by decide +kernel
theorem dX4_have_145 : decode cX4_have 145 = .ok (.invokevirtual 108, 3) := by decide +kernel
theorem dX4_have_148 : decode cX4_have 148 = .ok (.ifCond .le 7, 3) := by decide +kernel
theorem dX4_have_151 : decode cX4_have 151 = .ok (.iconst 1, 1) := by decide +kernel
theorem dX4_have_152 : decode cX4_have 152 = .ok (.goto 4, 3) := by decide +kernel
theorem dX4_have_155 : decode cX4_have 155 = .ok (.iconst 0, 1) := by decide +kernel
theorem dX4_have_156 : decode cX4_have 156 = .ok (.ireturn, 1) := by decide +kernel
set_option maxRecDepth 20000 in
theorem ggX4_meets_X4_isRight : GoodIn wsX4_meets wsX4_isRight := goodIn_r _ [6, 7, 8, 9, 5, 10, 11, 12, 13, 14, 15, 16, 1, 17, 18, 19, 20, 21, 22, 23, 24, 25, 26, 27, 28, 29, 30, 31, 32, 33, 34, 35, 36, 37, 38, 39, 40, 41, 42, 43, 44, 45, 46, 47, 48, 49, 50, 51, 52, 53, 54, 55, 64, 65, 66, 67, 68, 69, 70, 71, 72, 73, 74, 75, 76, 77, 78] (by decide +kernel) (by decide +kernel)
set_option maxRecDepth 20000 in
theorem gX4_meets_X4_isRight : GoodIn wsX4_meets (wsV RX4 105 RX4 yX4_isRight wsX4_isRight) := goodIn_app (goodIn_of _ (by decide +kernel)) ggX4_meets_X4_isRight
set_option maxRecDepth 20000 in
theorem ggX4_meets_X4_have : GoodIn wsX4_meets wsX4_have := goodIn_r _ [59, 12, 26, 27, 18, 19, 20, 5, 21, 17, 28, 29, 30, 31, 32, 33, 34, 35, 43, 44, 45, 46, 47, 48, 49, 50, 51, 52, 40, 41, 42, 53, 54, 55, 60, 61, 62, 63, 64, 65, 66, 67, 68, 69, 70, 71, 72, 73, 74, 75, 76, 77, 78] (by decide +kernel) (by decide +kernel)
set_option maxRecDepth 20000 in
theorem gX4_meets_X4_have : GoodIn wsX4_meets (wsV RX4 112 RX4 yX4_have wsX4_have) := goodIn_app (goodIn_of _ (by decide +kernel)) ggX4_meets_X4_have
theorem dX4_meets_0 : decode cX4_meets 0 = .ok (.aload_n 0, 1) := by decide +kernel
theorem dX4_meets_1 : decode cX4_meets 1 = .ok (.iconst 0, 1) := by decide +kernel
theorem dX4_meets_2 : decode cX4_meets 2 = .ok (.putfield 1, 3) := by decide +kernel
theorem dX4_meets_5 : decode cX4_meets 5 = .ok (.aload_n 0, 1) := by decide +kernel
theorem dX4_meets_6 : decode cX4_meets 6 = .ok (.iload_n 1, 1) := by decide +kernel
theorem dX4_meets_7 : decode cX4_meets 7 = .ok (.invokevirtual 105, 3) := by decide +kernel
theorem dX4_meets_10 : decode cX4_meets 10 = .ok (.ifCond .eq 11, 3) := by decide +kernel
theorem dX4_meets_13 : decode cX4_meets 13 = .ok (.aload_n 0, 1) := by decide +kernel
theorem dX4_meets_14 : decode cX4_meets 14 = .ok (.iload_n 2, 1) := by decide +kernel
theorem dX4_meets_15 : decode cX4_meets 15 = .ok (.invokevirtual 105, 3) := by decide +kernel
theorem dX4_meets_18 : decode cX4_meets 18 = .ok (.ifCond .ne 7, 3) := by decide +kernel
theorem dX4_meets_21 : decode cX4_meets 21 = .ok (.iconst (-1), 1) := by decide +kernel
theorem dX4_meets_22 : decode cX4_meets 22 = .ok (.goto 17, 3) := by decide +kernel
theorem dX4_meets_25 : decode cX4_meets 25 = .ok (.aload_n 0, 1) := by decide +kernel
theorem dX4_meets_26 : decode cX4_meets 26 = .ok (.iload_n 1, 1) := by decide +kernel
theorem dX4_meets_27 : decode cX4_meets 27 = .ok (.iload_n 2, 1) := by decide +kernel
theorem dX4_meets_28 : decode cX4_meets 28 = .ok (.invokevirtual 112, 3) := by decide +kernel
theorem dX4_meets_31 : decode cX4_meets 31 = .ok (.ifCond .eq 7, 3) := by decide +kernel
theorem dX4_meets_34 : decode cX4_meets 34 = .ok (.iconst 1, 1) := by decide +kernel
theorem dX4_meets_35 : decode cX4_meets 35 = .ok (.goto 4, 3) := by decide +kernel
theorem dX4_meets_38 : decode cX4_meets 38 = .ok (.iconst 0, 1) := by decide +kernel
theorem dX4_meets_39 : decode cX4_meets 39 = .ok (.ireturn, 1) := by decide +kernel
theorem dX4_divisor_0 : decode cX4_divisor 0 = .ok (.lload_n 0, 1) := by decide +kernel
theorem dX4_divisor_1 : decode cX4_divisor 1 = .ok (.lstore 4, 2) := by decide +kernel
theorem dX4_divisor_3 : decode cX4_divisor 3 = .ok (.lload_n 2, 1) := by decide +kernel
theorem dX4_divisor_4 : decode cX4_divisor 4 = .ok (.lstore 6, 2) := by decide +kernel
theorem dX4_divisor_6 : decode cX4_divisor 6 = .ok (.lload 6, 2) := by decide +kernel
theorem dX4_divisor_8 : decode cX4_divisor 8 = .ok (.lconst 0, 1) := by decide +kernel
theorem dX4_divisor_9 : decode cX4_divisor 9 = .ok (.lcmp, 1) := by decide +kernel
theorem dX4_divisor_10 : decode cX4_divisor 10 = .ok (.ifCond .eq 21, 3) := by decide +kernel
theorem dX4_divisor_13 : decode cX4_divisor 13 = .ok (.lload 4, 2) := by decide +kernel
theorem dX4_divisor_15 : decode cX4_divisor 15 = .ok (.lload 6, 2) := by decide +kernel
theorem dX4_divisor_17 : decode cX4_divisor 17 = .ok (.lrem, 1) := by decide +kernel
theorem dX4_divisor_18 : decode cX4_divisor 18 = .ok (.lstore 8, 2) := by decide +kernel
theorem dX4_divisor_20 : decode cX4_divisor 20 = .ok (.lload 6, 2) := by decide +kernel
theorem dX4_divisor_22 : decode cX4_divisor 22 = .ok (.lstore 4, 2) := by decide +kernel
theorem dX4_divisor_24 : decode cX4_divisor 24 = .ok (.lload 8, 2) := by decide +kernel
theorem dX4_divisor_26 : decode cX4_divisor 26 = .ok (.lstore 6, 2) := by decide +kernel
theorem dX4_divisor_28 : decode cX4_divisor 28 = .ok (.goto (-22), 3) := by decide +kernel
theorem dX4_divisor_31 : decode cX4_divisor 31 = .ok (.lload 4, 2) := by decide +kernel
theorem dX4_divisor_33 : decode cX4_divisor 33 = .ok (.lreturn, 1) := by decide +kernel
theorem dX4_isLess_0 : decode cX4_isLess 0 = .ok (.lload_n 0, 1) := by decide +kernel
theorem dX4_isLess_1 : decode cX4_isLess 1 = .ok (.lstore 8, 2) := by decide +kernel
theorem dX4_isLess_3 : decode cX4_isLess 3 = .ok (.lload_n 2, 1) := by decide +kernel
theorem dX4_isLess_4 : decode cX4_isLess 4 = .ok (.lstore 10, 2) := by decide +kernel
theorem dX4_isLess_6 : decode cX4_isLess 6 = .ok (.lload 4, 2) := by decide +kernel
theorem dX4_isLess_8 : decode cX4_isLess 8 = .ok (.lstore 12, 2) := by decide +kernel
theorem dX4_isLess_10 : decode cX4_isLess 10 = .ok (.lload 6, 2) := by decide +kernel
theorem dX4_isLess_12 : decode cX4_isLess 12 = .ok (.lstore 14, 2) := by decide +kernel
theorem dX4_isLess_14 : decode cX4_isLess 14 = .ok (.iconst 0, 1) := by decide +kernel
theorem dX4_isLess_15 : decode cX4_isLess 15 = .ok (.istore 16, 2) := by decide +kernel
theorem dX4_isLess_17 : decode cX4_isLess 17 = .ok (.lload 10, 2) := by decide +kernel
theorem dX4_isLess_19 : decode cX4_isLess 19 = .ok (.lconst 0, 1) := by decide +kernel
theorem dX4_isLess_20 : decode cX4_isLess 20 = .ok (.lcmp, 1) := by decide +kernel
theorem dX4_isLess_21 : decode cX4_isLess 21 = .ok (.ifCond .eq 10, 3) := by decide +kernel
theorem dX4_isLess_24 : decode cX4_isLess 24 = .ok (.lload 14, 2) := by decide +kernel
theorem dX4_isLess_26 : decode cX4_isLess 26 = .ok (.lconst 0, 1) := by decide +kernel
theorem dX4_isLess_27 : decode cX4_isLess 27 = .ok (.lcmp, 1) := by decide +kernel
theorem dX4_isLess_28 : decode cX4_isLess 28 = .ok (.ifCond .ne 54, 3) := by decide +kernel
theorem dX4_isLess_31 : decode cX4_isLess 31 = .ok (.lload 14, 2) := by decide +kernel
theorem dX4_isLess_33 : decode cX4_isLess 33 = .ok (.lconst 0, 1) := by decide +kernel
theorem dX4_isLess_34 : decode cX4_isLess 34 = .ok (.lcmp, 1) := by decide +kernel
theorem dX4_isLess_35 : decode cX4_isLess 35 = .ok (.ifCond .ne 14, 3) := by decide +kernel
theorem dX4_isLess_38 : decode cX4_isLess 38 = .ok (.lload 10, 2) := by decide +kernel
theorem dX4_isLess_40 : decode cX4_isLess 40 = .ok (.lconst 0, 1) := by decide +kernel
theorem dX4_isLess_41 : decode cX4_isLess 41 = .ok (.lcmp, 1) := by decide +kernel
theorem dX4_isLess_42 : decode cX4_isLess 42 = .ok (.ifCond .eq 7, 3) := by decide +kernel
theorem dX4_isLess_45 : decode cX4_isLess 45 = .ok (.iconst 1, 1) := by decide +kernel
theorem dX4_isLess_46 : decode cX4_isLess 46 = .ok (.goto 4, 3) := by decide +kernel
theorem dX4_isLess_49 : decode cX4_isLess 49 = .ok (.iconst 0, 1) := by decide +kernel
theorem dX4_isLess_50 : decode cX4_isLess 50 = .ok (.istore 17, 2) := by decide +kernel
theorem dX4_isLess_52 : decode cX4_isLess 52 = .ok (.iload 16, 2) := by decide +kernel
theorem dX4_isLess_54 : decode cX4_isLess 54 = .ok (.ifCond .eq 25, 3) := by decide +kernel
theorem dX4_isLess_57 : decode cX4_isLess 57 = .ok (.lload 10, 2) := by decide +kernel
theorem dX4_isLess_59 : decode cX4_isLess 59 = .ok (.lconst 0, 1) := by decide +kernel
theorem dX4_isLess_60 : decode cX4_isLess 60 = .ok (.lcmp, 1) := by decide +kernel
theorem dX4_isLess_61 : decode cX4_isLess 61 = .ok (.ifCond .ne 14, 3) := by decide +kernel
theorem dX4_isLess_64 : decode cX4_isLess 64 = .ok (.lload 14, 2) := by decide +kernel
theorem dX4_isLess_66 : decode cX4_isLess 66 = .ok (.lconst 0, 1) := by decide +kernel
theorem dX4_isLess_67 : decode cX4_isLess 67 = .ok (.lcmp, 1) := by decide +kernel
theorem dX4_isLess_68 : decode cX4_isLess 68 = .ok (.ifCond .eq 7, 3) := by decide +kernel
theorem dX4_isLess_71 : decode cX4_isLess 71 = .ok (.iconst 1, 1) := by decide +kernel
theorem dX4_isLess_72 : decode cX4_isLess 72 = .ok (.goto 9, 3) := by decide +kernel
theorem dX4_isLess_75 : decode cX4_isLess 75 = .ok (.iconst 0, 1) := by decide +kernel
theorem dX4_isLess_76 : decode cX4_isLess 76 = .ok (.goto 5, 3) := by decide +kernel
theorem dX4_isLess_79 : decode cX4_isLess 79 = .ok (.iload 17, 2) := by decide +kernel
theorem dX4_isLess_81 : decode cX4_isLess 81 = .ok (.ireturn, 1) := by decide +kernel
theorem dX4_isLess_82 : decode cX4_isLess 82 = .ok (.lload 8, 2) := by decide +kernel
theorem dX4_isLess_84 : decode cX4_isLess 84 = .ok (.lload 10, 2) := by decide +kernel
theorem dX4_isLess_86 : decode cX4_isLess 86 = .ok (.ldiv, 1) := by decide +kernel
theorem dX4_isLess_87 : decode cX4_isLess 87 = .ok (.lload 12, 2) := by decide +kernel
theorem dX4_isLess_89 : decode cX4_isLess 89 = .ok (.lload 14, 2) := by decide +kernel
theorem dX4_isLess_91 : decode cX4_isLess 91 = .ok (.ldiv, 1) := by decide +kernel
theorem dX4_isLess_92 : decode cX4_isLess 92 = .ok (.lcmp, 1) := by decide +kernel
theorem dX4_isLess_93 : decode cX4_isLess 93 = .ok (.ifCond .eq 33, 3) := by decide +kernel
theorem dX4_isLess_96 : decode cX4_isLess 96 = .ok (.lload 8, 2) := by decide +kernel
theorem dX4_isLess_98 : decode cX4_isLess 98 = .ok (.lload 10, 2) := by decide +kernel
theorem dX4_isLess_100 : decode cX4_isLess 100 = .ok (.ldiv, 1) := by decide +kernel
theorem dX4_isLess_101 : decode cX4_isLess 101 = .ok (.lload 12, 2) := by decide +kernel
theorem dX4_isLess_103 : decode cX4_isLess 103 = .ok (.lload 14, 2) := by decide +kernel
theorem dX4_isLess_105 : decode cX4_isLess 105 = .ok (.ldiv, 1) := by decide +kernel
theorem dX4_isLess_106 : decode cX4_isLess 106 = .ok (.lcmp, 1) := by decide +kernel
theorem dX4_isLess_107 : decode cX4_isLess 107 = .ok (.ifCond .ge 7, 3) := by decide +kernel
theorem dX4_isLess_110 : decode cX4_isLess 110 = .ok (.iconst 1, 1) := by decide +kernel
theorem dX4_isLess_111 : decode cX4_isLess 111 = .ok (.goto 4, 3) := by decide +kernel
theorem dX4_isLess_114 : decode cX4_isLess 114 = .ok (.iconst 0, 1) := by decide +kernel
theorem dX4_isLess_115 : decode cX4_isLess 115 = .ok (.iload 16, 2) := by decide +kernel
theorem dX4_isLess_117 : decode cX4_isLess 117 = .ok (.if_icmp .eq 7, 3) := by decide +kernel
theorem dX4_isLess_120 : decode cX4_isLess 120 = .ok (.iconst 1, 1) := by decide +kernel
theorem dX4_isLess_121 : decode cX4_isLess 121 = .ok (.goto 4, 3) := by decide +kernel
theorem dX4_isLess_124 : decode cX4_isLess 124 = .ok (.iconst 0, 1) := by decide +kernel
theorem dX4_isLess_125 : decode cX4_isLess 125 = .ok (.ireturn, 1) := by decide +kernel
theorem dX4_isLess_126 : decode cX4_isLess 126 = .ok (.lload 8, 2) := by decide +kernel
theorem dX4_isLess_128 : decode cX4_isLess 128 = .ok (.lload 10, 2) := by decide +kernel
theorem dX4_isLess_130 : decode cX4_isLess 130 = .ok (.lrem, 1) := by decide +kernel
theorem dX4_isLess_131 : decode cX4_isLess 131 = .ok (.lstore 17, 2) := by decide +kernel
theorem dX4_isLess_133 : decode cX4_isLess 133 = .ok (.lload 12, 2) := by decide +kernel
theorem dX4_isLess_135 : decode cX4_isLess 135 = .ok (.lload 14, 2) := by decide +kernel
theorem dX4_isLess_137 : decode cX4_isLess 137 = .ok (.lrem, 1) := by decide +kernel
theorem dX4_isLess_138 : decode cX4_isLess 138 = .ok (.lstore 19, 2) := by decide +kernel
theorem dX4_isLess_140 : decode cX4_isLess 140 = .ok (.lload 10, 2) := by decide +kernel
theorem dX4_isLess_142 : decode cX4_isLess 142 = .ok (.lstore 8, 2) := by decide +kernel
theorem dX4_isLess_144 : decode cX4_isLess 144 = .ok (.lload 17, 2) := by decide +kernel
theorem dX4_isLess_146 : decode cX4_isLess 146 = .ok (.lstore 10, 2) := by decide +kernel
theorem dX4_isLess_148 : decode cX4_isLess 148 = .ok (.lload 14, 2) := by decide +kernel
theorem dX4_isLess_150 : decode cX4_isLess 150 = .ok (.lstore 12, 2) := by decide +kernel
theorem dX4_isLess_152 : decode cX4_isLess 152 = .ok (.lload 19, 2) := by decide +kernel
theorem dX4_isLess_154 : decode cX4_isLess 154 = .ok (.lstore 14, 2) := by decide +kernel
theorem dX4_isLess_156 : decode cX4_isLess 156 = .ok (.iload 16, 2) := by decide +kernel
theorem dX4_isLess_158 : decode cX4_isLess 158 = .ok (.ifCond .ne 7, 3) := by decide +kernel
theorem dX4_isLess_161 : decode cX4_isLess 161 = .ok (.iconst 1, 1) := by decide +kernel
theorem dX4_isLess_162 : decode cX4_isLess 162 = .ok (.goto 4, 3) := by decide +kernel
theorem dX4_isLess_165 : decode cX4_isLess 165 = .ok (.iconst 0, 1) := by decide +kernel
theorem dX4_isLess_166 : decode cX4_isLess 166 = .ok (.istore 16, 2) := by decide +kernel
theorem dX4_isLess_168 : decode cX4_isLess 168 = .ok (.goto (-151), 3) := by decide +kernel
set_option maxRecDepth 20000 in
theorem ggX4_weigh_X4_isLess : GoodIn wsX4_weigh wsX4_isLess := goodIn_r _ [6] (by decide +kernel) (by decide +kernel)
set_option maxRecDepth 20000 in
theorem gX4_weigh_X4_isLess : GoodIn wsX4_weigh (va_wsS RX4 122 yX4_isLess wsX4_isLess) := goodIn_app (goodIn_of _ (by decide +kernel)) ggX4_weigh_X4_isLess
theorem dX4_weigh_0 : decode cX4_weigh 0 = .ok (.aload_n 0, 1) := by decide +kernel
theorem dX4_weigh_1 : decode cX4_weigh 1 = .ok (.getfield 115, 3) := by decide +kernel
theorem dX4_weigh_4 : decode cX4_weigh 4 = .ok (.lconst 0, 1) := by decide +kernel
theorem dX4_weigh_5 : decode cX4_weigh 5 = .ok (.lcmp, 1) := by decide +kernel
theorem dX4_weigh_6 : decode cX4_weigh 6 = .ok (.ifCond .eq 20, 3) := by decide +kernel
theorem dX4_weigh_9 : decode cX4_weigh 9 = .ok (.lload_n 1, 1) := by decide +kernel
theorem dX4_weigh_10 : decode cX4_weigh 10 = .ok (.lload_n 3, 1) := by decide +kernel
theorem dX4_weigh_11 : decode cX4_weigh 11 = .ok (.aload_n 0, 1) := by decide +kernel
theorem dX4_weigh_12 : decode cX4_weigh 12 = .ok (.getfield 119, 3) := by decide +kernel
theorem dX4_weigh_15 : decode cX4_weigh 15 = .ok (.aload_n 0, 1) := by decide +kernel
theorem dX4_weigh_16 : decode cX4_weigh 16 = .ok (.getfield 115, 3) := by decide +kernel
theorem dX4_weigh_19 : decode cX4_weigh 19 = .ok (.invokestatic 122, 3) := by decide +kernel
theorem dX4_weigh_22 : decode cX4_weigh 22 = .ok (.ifCond .ne 4, 3) := by decide +kernel
theorem dX4_weigh_25 : decode cX4_weigh 25 = .ok (.return_, 1) := by decide +kernel
theorem dX4_weigh_26 : decode cX4_weigh 26 = .ok (.aload_n 0, 1) := by decide +kernel
theorem dX4_weigh_27 : decode cX4_weigh 27 = .ok (.lload_n 1, 1) := by decide +kernel
theorem dX4_weigh_28 : decode cX4_weigh 28 = .ok (.putfield 119, 3) := by decide +kernel
theorem dX4_weigh_31 : decode cX4_weigh 31 = .ok (.aload_n 0, 1) := by decide +kernel
theorem dX4_weigh_32 : decode cX4_weigh 32 = .ok (.lload_n 3, 1) := by decide +kernel
theorem dX4_weigh_33 : decode cX4_weigh 33 = .ok (.putfield 115, 3) := by decide +kernel
theorem dX4_weigh_36 : decode cX4_weigh 36 = .ok (.return_, 1) := by decide +kernel
set_option maxRecDepth 20000 in
theorem ggX4_weighSide_X4_weigh : GoodIn wsX4_weighSide wsX4_weigh := goodIn_r _ [7, 8, 9, 10, 11, 6, 12, 19, 20, 21, 22, 23, 24, 25, 26, 27, 28, 29, 30, 31, 32, 33] (by decide +kernel) (by decide +kernel)
set_option maxRecDepth 20000 in
theorem gX4_weighSide_X4_weigh : GoodIn wsX4_weighSide (wsV RX4 126 RX4 yX4_weigh wsX4_weigh) := goodIn_app (goodIn_of _ (by decide +kernel)) ggX4_weighSide_X4_weigh
set_option maxRecDepth 20000 in
theorem ggX4_weighSide_X4_cross : GoodIn wsX4_weighSide wsX4_cross := goodIn_r _ [15] (by decide +kernel) (by decide +kernel)
set_option maxRecDepth 20000 in
theorem gX4_weighSide_X4_cross : GoodIn wsX4_weighSide (va_wsS RX4 65 yX4_cross wsX4_cross) := goodIn_app (goodIn_of _ (by decide +kernel)) ggX4_weighSide_X4_cross
set_option maxRecDepth 20000 in
theorem ggX4_weighSide_X4_divisor : GoodIn wsX4_weighSide wsX4_divisor := goodIn_r _ [18] (by decide +kernel) (by decide +kernel)
set_option maxRecDepth 20000 in
theorem gX4_weighSide_X4_divisor : GoodIn wsX4_weighSide (va_wsS RX4 130 yX4_divisor wsX4_divisor) := goodIn_app (goodIn_of _ (by decide +kernel)) ggX4_weighSide_X4_divisor
theorem dX4_weighSide_0 : decode cX4_weighSide 0 = .ok (.aload_n 0, 1) := by decide +kernel
theorem dX4_weighSide_1 : decode cX4_weighSide 1 = .ok (.getfield 20, 3) := by decide +kernel
theorem dX4_weighSide_4 : decode cX4_weighSide 4 = .ok (.iload 6, 2) := by decide +kernel
theorem dX4_weighSide_6 : decode cX4_weighSide 6 = .ok (.laload, 1) := by decide +kernel
theorem dX4_weighSide_7 : decode cX4_weighSide 7 = .ok (.aload_n 0, 1) := by decide +kernel
theorem dX4_weighSide_8 : decode cX4_weighSide 8 = .ok (.getfield 20, 3) := by decide +kernel
theorem dX4_weighSide_11 : decode cX4_weighSide 11 = .ok (.iload 5, 2) := by decide +kernel
theorem dX4_weighSide_13 : decode cX4_weighSide 13 = .ok (.laload, 1) := by decide +kernel
theorem dX4_weighSide_14 : decode cX4_weighSide 14 = .ok (.lsub, 1) := by decide +kernel
theorem dX4_weighSide_15 : decode cX4_weighSide 15 = .ok (.lstore 7, 2) := by decide +kernel
theorem dX4_weighSide_17 : decode cX4_weighSide 17 = .ok (.aload_n 0, 1) := by decide +kernel
theorem dX4_weighSide_18 : decode cX4_weighSide 18 = .ok (.getfield 24, 3) := by decide +kernel
theorem dX4_weighSide_21 : decode cX4_weighSide 21 = .ok (.iload 6, 2) := by decide +kernel
theorem dX4_weighSide_23 : decode cX4_weighSide 23 = .ok (.laload, 1) := by decide +kernel
theorem dX4_weighSide_24 : decode cX4_weighSide 24 = .ok (.aload_n 0, 1) := by decide +kernel
theorem dX4_weighSide_25 : decode cX4_weighSide 25 = .ok (.getfield 24, 3) := by decide +kernel
theorem dX4_weighSide_28 : decode cX4_weighSide 28 = .ok (.iload 5, 2) := by decide +kernel
theorem dX4_weighSide_30 : decode cX4_weighSide 30 = .ok (.laload, 1) := by decide +kernel
theorem dX4_weighSide_31 : decode cX4_weighSide 31 = .ok (.lsub, 1) := by decide +kernel
theorem dX4_weighSide_32 : decode cX4_weighSide 32 = .ok (.lstore 9, 2) := by decide +kernel
theorem dX4_weighSide_34 : decode cX4_weighSide 34 = .ok (.lload_n 1, 1) := by decide +kernel
theorem dX4_weighSide_35 : decode cX4_weighSide 35 = .ok (.aload_n 0, 1) := by decide +kernel
theorem dX4_weighSide_36 : decode cX4_weighSide 36 = .ok (.getfield 20, 3) := by decide +kernel
theorem dX4_weighSide_39 : decode cX4_weighSide 39 = .ok (.iload 5, 2) := by decide +kernel
theorem dX4_weighSide_41 : decode cX4_weighSide 41 = .ok (.laload, 1) := by decide +kernel
theorem dX4_weighSide_42 : decode cX4_weighSide 42 = .ok (.lsub, 1) := by decide +kernel
theorem dX4_weighSide_43 : decode cX4_weighSide 43 = .ok (.lstore 11, 2) := by decide +kernel
theorem dX4_weighSide_45 : decode cX4_weighSide 45 = .ok (.lload_n 3, 1) := by decide +kernel
theorem dX4_weighSide_46 : decode cX4_weighSide 46 = .ok (.aload_n 0, 1) := by decide +kernel
theorem dX4_weighSide_47 : decode cX4_weighSide 47 = .ok (.getfield 24, 3) := by decide +kernel
theorem dX4_weighSide_50 : decode cX4_weighSide 50 = .ok (.iload 5, 2) := by decide +kernel
theorem dX4_weighSide_52 : decode cX4_weighSide 52 = .ok (.laload, 1) := by decide +kernel
theorem dX4_weighSide_53 : decode cX4_weighSide 53 = .ok (.lsub, 1) := by decide +kernel
theorem dX4_weighSide_54 : decode cX4_weighSide 54 = .ok (.lstore 13, 2) := by decide +kernel
theorem dX4_weighSide_56 : decode cX4_weighSide 56 = .ok (.lload 11, 2) := by decide +kernel
theorem dX4_weighSide_58 : decode cX4_weighSide 58 = .ok (.lload 7, 2) := by decide +kernel
theorem dX4_weighSide_60 : decode cX4_weighSide 60 = .ok (.lmul, 1) := by decide +kernel
theorem dX4_weighSide_61 : decode cX4_weighSide 61 = .ok (.lload 13, 2) := by decide +kernel
theorem dX4_weighSide_63 : decode cX4_weighSide 63 = .ok (.lload 9, 2) := by decide +kernel
theorem dX4_weighSide_65 : decode cX4_weighSide 65 = .ok (.lmul, 1) := by decide +kernel
theorem dX4_weighSide_66 : decode cX4_weighSide 66 = .ok (.ladd, 1) := by decide +kernel
theorem dX4_weighSide_67 : decode cX4_weighSide 67 = .ok (.lstore 15, 2) := by decide +kernel
theorem dX4_weighSide_69 : decode cX4_weighSide 69 = .ok (.lload 7, 2) := by decide +kernel
theorem dX4_weighSide_71 : decode cX4_weighSide 71 = .ok (.lload 7, 2) := by decide +kernel
theorem dX4_weighSide_73 : decode cX4_weighSide 73 = .ok (.lmul, 1) := by decide +kernel
theorem dX4_weighSide_74 : decode cX4_weighSide 74 = .ok (.lload 9, 2) := by decide +kernel
theorem dX4_weighSide_76 : decode cX4_weighSide 76 = .ok (.lload 9, 2) := by decide +kernel
theorem dX4_weighSide_78 : decode cX4_weighSide 78 = .ok (.lmul, 1) := by decide +kernel
theorem dX4_weighSide_79 : decode cX4_weighSide 79 = .ok (.ladd, 1) := by decide +kernel
theorem dX4_weighSide_80 : decode cX4_weighSide 80 = .ok (.lstore 17, 2) := by decide +kernel
theorem dX4_weighSide_82 : decode cX4_weighSide 82 = .ok (.lload 15, 2) := by decide +kernel
theorem dX4_weighSide_84 : decode cX4_weighSide 84 = .ok (.lconst 0, 1) := by decide +kernel
theorem dX4_weighSide_85 : decode cX4_weighSide 85 = .ok (.lcmp, 1) := by decide +kernel
theorem dX4_weighSide_86 : decode cX4_weighSide 86 = .ok (.ifCond .gt 22, 3) := by decide +kernel
theorem dX4_weighSide_89 : decode cX4_weighSide 89 = .ok (.aload_n 0, 1) := by decide +kernel
theorem dX4_weighSide_90 : decode cX4_weighSide 90 = .ok (.lload 11, 2) := by decide +kernel
theorem dX4_weighSide_92 : decode cX4_weighSide 92 = .ok (.lload 11, 2) := by decide +kernel
theorem dX4_weighSide_94 : decode cX4_weighSide 94 = .ok (.lmul, 1) := by decide +kernel
theorem dX4_weighSide_95 : decode cX4_weighSide 95 = .ok (.lload 13, 2) := by decide +kernel
theorem dX4_weighSide_97 : decode cX4_weighSide 97 = .ok (.lload 13, 2) := by decide +kernel
theorem dX4_weighSide_99 : decode cX4_weighSide 99 = .ok (.lmul, 1) := by decide +kernel
theorem dX4_weighSide_100 : decode cX4_weighSide 100 = .ok (.ladd, 1) := by decide +kernel
theorem dX4_weighSide_101 : decode cX4_weighSide 101 = .ok (.lconst 1, 1) := by decide +kernel
theorem dX4_weighSide_102 : decode cX4_weighSide 102 = .ok (.invokevirtual 126, 3) := by decide +kernel
theorem dX4_weighSide_105 : decode cX4_weighSide 105 = .ok (.goto 100, 3) := by decide +kernel
theorem dX4_weighSide_108 : decode cX4_weighSide 108 = .ok (.lload 15, 2) := by decide +kernel
theorem dX4_weighSide_110 : decode cX4_weighSide 110 = .ok (.lload 17, 2) := by decide +kernel
theorem dX4_weighSide_112 : decode cX4_weighSide 112 = .ok (.lcmp, 1) := by decide +kernel
theorem dX4_weighSide_113 : decode cX4_weighSide 113 = .ok (.ifCond .lt 50, 3) := by decide +kernel
theorem dX4_weighSide_116 : decode cX4_weighSide 116 = .ok (.aload_n 0, 1) := by decide +kernel
theorem dX4_weighSide_117 : decode cX4_weighSide 117 = .ok (.lload_n 1, 1) := by decide +kernel
theorem dX4_weighSide_118 : decode cX4_weighSide 118 = .ok (.aload_n 0, 1) := by decide +kernel
theorem dX4_weighSide_119 : decode cX4_weighSide 119 = .ok (.getfield 20, 3) := by decide +kernel
theorem dX4_weighSide_122 : decode cX4_weighSide 122 = .ok (.iload 6, 2) := by decide +kernel
theorem dX4_weighSide_124 : decode cX4_weighSide 124 = .ok (.laload, 1) := by decide +kernel
theorem dX4_weighSide_125 : decode cX4_weighSide 125 = .ok (.lsub, 1) := by decide +kernel
theorem dX4_weighSide_126 : decode cX4_weighSide 126 = .ok (.lload_n 1, 1) := by decide +kernel
theorem dX4_weighSide_127 : decode cX4_weighSide 127 = .ok (.aload_n 0, 1) := by decide +kernel
theorem dX4_weighSide_128 : decode cX4_weighSide 128 = .ok (.getfield 20, 3) := by decide +kernel
theorem dX4_weighSide_131 : decode cX4_weighSide 131 = .ok (.iload 6, 2) := by decide +kernel
theorem dX4_weighSide_133 : decode cX4_weighSide 133 = .ok (.laload, 1) := by decide +kernel
theorem dX4_weighSide_134 : decode cX4_weighSide 134 = .ok (.lsub, 1) := by decide +kernel
theorem dX4_weighSide_135 : decode cX4_weighSide 135 = .ok (.lmul, 1) := by decide +kernel
theorem dX4_weighSide_136 : decode cX4_weighSide 136 = .ok (.lload_n 3, 1) := by decide +kernel
theorem dX4_weighSide_137 : decode cX4_weighSide 137 = .ok (.aload_n 0, 1) := by decide +kernel
theorem dX4_weighSide_138 : decode cX4_weighSide 138 = .ok (.getfield 24, 3) := by decide +kernel
theorem dX4_weighSide_141 : decode cX4_weighSide 141 = .ok (.iload 6, 2) := by decide +kernel
theorem dX4_weighSide_143 : decode cX4_weighSide 143 = .ok (.laload, 1) := by decide +kernel
theorem dX4_weighSide_144 : decode cX4_weighSide 144 = .ok (.lsub, 1) := by decide +kernel
theorem dX4_weighSide_145 : decode cX4_weighSide 145 = .ok (.lload_n 3, 1) := by decide +kernel
theorem dX4_weighSide_146 : decode cX4_weighSide 146 = .ok (.aload_n 0, 1) := by decide +kernel
theorem dX4_weighSide_147 : decode cX4_weighSide 147 = .ok (.getfield 24, 3) := by decide +kernel
theorem dX4_weighSide_150 : decode cX4_weighSide 150 = .ok (.iload 6, 2) := by decide +kernel
theorem dX4_weighSide_152 : decode cX4_weighSide 152 = .ok (.laload, 1) := by decide +kernel
theorem dX4_weighSide_153 : decode cX4_weighSide 153 = .ok (.lsub, 1) := by decide +kernel
theorem dX4_weighSide_154 : decode cX4_weighSide 154 = .ok (.lmul, 1) := by decide +kernel
theorem dX4_weighSide_155 : decode cX4_weighSide 155 = .ok (.ladd, 1) := by decide +kernel
theorem dX4_weighSide_156 : decode cX4_weighSide 156 = .ok (.lconst 1, 1) := by decide +kernel
theorem dX4_weighSide_157 : decode cX4_weighSide 157 = .ok (.invokevirtual 126, 3) := by decide +kernel
theorem dX4_weighSide_160 : decode cX4_weighSide 160 = .ok (.goto 45, 3) := by decide +kernel
theorem dX4_weighSide_163 : decode cX4_weighSide 163 = .ok (.lload 7, 2) := by decide +kernel
theorem dX4_weighSide_165 : decode cX4_weighSide 165 = .ok (.lload 9, 2) := by decide +kernel
theorem dX4_weighSide_167 : decode cX4_weighSide 167 = .ok (.lload 11, 2) := by decide +kernel
theorem dX4_weighSide_169 : decode cX4_weighSide 169 = .ok (.lload 13, 2) := by decide +kernel
theorem dX4_weighSide_171 : decode cX4_weighSide 171 = .ok (.invokestatic 65, 3) := by decide +kernel
theorem dX4_weighSide_174 : decode cX4_weighSide 174 = .ok (.lstore 19, 2) := by decide +kernel
theorem dX4_weighSide_176 : decode cX4_weighSide 176 = .ok (.lload 19, 2) := by decide +kernel
theorem dX4_weighSide_178 : decode cX4_weighSide 178 = .ok (.lload 19, 2) := by decide +kernel
theorem dX4_weighSide_180 : decode cX4_weighSide 180 = .ok (.lmul, 1) := by decide +kernel
theorem dX4_weighSide_181 : decode cX4_weighSide 181 = .ok (.lload 17, 2) := by decide +kernel
theorem dX4_weighSide_183 : decode cX4_weighSide 183 = .ok (.invokestatic 130, 3) := by decide +kernel
theorem dX4_weighSide_186 : decode cX4_weighSide 186 = .ok (.lstore 21, 2) := by decide +kernel
theorem dX4_weighSide_188 : decode cX4_weighSide 188 = .ok (.aload_n 0, 1) := by decide +kernel
theorem dX4_weighSide_189 : decode cX4_weighSide 189 = .ok (.lload 19, 2) := by decide +kernel
theorem dX4_weighSide_191 : decode cX4_weighSide 191 = .ok (.lload 19, 2) := by decide +kernel
theorem dX4_weighSide_193 : decode cX4_weighSide 193 = .ok (.lmul, 1) := by decide +kernel
theorem dX4_weighSide_194 : decode cX4_weighSide 194 = .ok (.lload 21, 2) := by decide +kernel
theorem dX4_weighSide_196 : decode cX4_weighSide 196 = .ok (.ldiv, 1) := by decide +kernel
theorem dX4_weighSide_197 : decode cX4_weighSide 197 = .ok (.lload 17, 2) := by decide +kernel
theorem dX4_weighSide_199 : decode cX4_weighSide 199 = .ok (.lload 21, 2) := by decide +kernel
theorem dX4_weighSide_201 : decode cX4_weighSide 201 = .ok (.ldiv, 1) := by decide +kernel
theorem dX4_weighSide_202 : decode cX4_weighSide 202 = .ok (.invokevirtual 126, 3) := by decide +kernel
theorem dX4_weighSide_205 : decode cX4_weighSide 205 = .ok (.return_, 1) := by decide +kernel
set_option maxRecDepth 20000 in
theorem ggX4_weighCorners_X4_sides : GoodIn wsX4_weighCorners wsX4_sides := goodIn_r _ [8, 9, 1, 37, 38, 39, 40, 41, 42, 43, 44, 45, 46, 47, 48, 49, 50, 51] (by decide +kernel) (by decide +kernel)
set_option maxRecDepth 20000 in
theorem gX4_weighCorners_X4_sides : GoodIn wsX4_weighCorners (wsV RX4 96 RX4 yX4_sides wsX4_sides) := goodIn_app (goodIn_of _ (by decide +kernel)) ggX4_weighCorners_X4_sides
set_option maxRecDepth 20000 in
theorem ggX4_weighCorners_X4_from : GoodIn wsX4_weighCorners wsX4_from := goodIn_r _ [13] (by decide +kernel) (by decide +kernel)
set_option maxRecDepth 20000 in
theorem gX4_weighCorners_X4_from : GoodIn wsX4_weighCorners (wsV RX4 81 RX4 yX4_from wsX4_from) := goodIn_app (goodIn_of _ (by decide +kernel)) ggX4_weighCorners_X4_from
set_option maxRecDepth 20000 in
theorem ggX4_weighCorners_X4_to : GoodIn wsX4_weighCorners wsX4_to := goodIn_r _ [17, 9, 1, 37, 38, 39, 40, 41, 42, 43, 44, 45, 46, 47, 48, 49, 50, 51] (by decide +kernel) (by decide +kernel)
set_option maxRecDepth 20000 in
theorem gX4_weighCorners_X4_to : GoodIn wsX4_weighCorners (wsV RX4 85 RX4 yX4_to wsX4_to) := goodIn_app (goodIn_of _ (by decide +kernel)) ggX4_weighCorners_X4_to
set_option maxRecDepth 20000 in
theorem ggX4_weighCorners_X4_weighSide : GoodIn wsX4_weighCorners wsX4_weighSide := goodIn_r _ [21, 2, 3, 22, 23, 24, 7, 25, 26, 27, 28, 29, 30, 31, 32, 33, 34, 35, 36, 37, 38, 39, 40, 41, 42, 43, 44, 45, 46, 47, 48, 49, 50, 51] (by decide +kernel) (by decide +kernel)
set_option maxRecDepth 20000 in
theorem gX4_weighCorners_X4_weighSide : GoodIn wsX4_weighCorners (wsV RX4 134 RX4 yX4_weighSide wsX4_weighSide) := goodIn_app (goodIn_of _ (by decide +kernel)) ggX4_weighCorners_X4_weighSide
theorem dX4_weighCorners_0 : decode cX4_weighCorners 0 = .ok (.iconst 0, 1) := by decide +kernel
theorem dX4_weighCorners_1 : decode cX4_weighCorners 1 = .ok (.istore_n 3, 1) := by decide +kernel
theorem dX4_weighCorners_2 : decode cX4_weighCorners 2 = .ok (.iload_n 3, 1) := by decide +kernel
theorem dX4_weighCorners_3 : decode cX4_weighCorners 3 = .ok (.aload_n 0, 1) := by decide +kernel
theorem dX4_weighCorners_4 : decode cX4_weighCorners 4 = .ok (.getfield 17, 3) := by decide +kernel
theorem dX4_weighCorners_7 : decode cX4_weighCorners 7 = .ok (.iload_n 1, 1) := by decide +kernel
theorem dX4_weighCorners_8 : decode cX4_weighCorners 8 = .ok (.iaload, 1) := by decide +kernel
theorem dX4_weighCorners_9 : decode cX4_weighCorners 9 = .ok (.if_icmp .ge 68, 3) := by decide +kernel
theorem dX4_weighCorners_12 : decode cX4_weighCorners 12 = .ok (.iconst 0, 1) := by decide +kernel
theorem dX4_weighCorners_13 : decode cX4_weighCorners 13 = .ok (.istore 4, 2) := by decide +kernel
theorem dX4_weighCorners_15 : decode cX4_weighCorners 15 = .ok (.iload 4, 2) := by decide +kernel
theorem dX4_weighCorners_17 : decode cX4_weighCorners 17 = .ok (.aload_n 0, 1) := by decide +kernel
theorem dX4_weighCorners_18 : decode cX4_weighCorners 18 = .ok (.iload_n 2, 1) := by decide +kernel
theorem dX4_weighCorners_19 : decode cX4_weighCorners 19 = .ok (.invokevirtual 96, 3) := by decide +kernel
theorem dX4_weighCorners_22 : decode cX4_weighCorners 22 = .ok (.if_icmp .ge 49, 3) := by decide +kernel
theorem dX4_weighCorners_25 : decode cX4_weighCorners 25 = .ok (.aload_n 0, 1) := by decide +kernel
theorem dX4_weighCorners_26 : decode cX4_weighCorners 26 = .ok (.aload_n 0, 1) := by decide +kernel
theorem dX4_weighCorners_27 : decode cX4_weighCorners 27 = .ok (.getfield 20, 3) := by decide +kernel
theorem dX4_weighCorners_30 : decode cX4_weighCorners 30 = .ok (.aload_n 0, 1) := by decide +kernel
theorem dX4_weighCorners_31 : decode cX4_weighCorners 31 = .ok (.iload_n 1, 1) := by decide +kernel
theorem dX4_weighCorners_32 : decode cX4_weighCorners 32 = .ok (.iload_n 3, 1) := by decide +kernel
theorem dX4_weighCorners_33 : decode cX4_weighCorners 33 = .ok (.invokevirtual 81, 3) := by decide +kernel
theorem dX4_weighCorners_36 : decode cX4_weighCorners 36 = .ok (.laload, 1) := by decide +kernel
theorem dX4_weighCorners_37 : decode cX4_weighCorners 37 = .ok (.aload_n 0, 1) := by decide +kernel
theorem dX4_weighCorners_38 : decode cX4_weighCorners 38 = .ok (.getfield 24, 3) := by decide +kernel
theorem dX4_weighCorners_41 : decode cX4_weighCorners 41 = .ok (.aload_n 0, 1) := by decide +kernel
theorem dX4_weighCorners_42 : decode cX4_weighCorners 42 = .ok (.iload_n 1, 1) := by decide +kernel
theorem dX4_weighCorners_43 : decode cX4_weighCorners 43 = .ok (.iload_n 3, 1) := by decide +kernel
theorem dX4_weighCorners_44 : decode cX4_weighCorners 44 = .ok (.invokevirtual 81, 3) := by decide +kernel
theorem dX4_weighCorners_47 : decode cX4_weighCorners 47 = .ok (.laload, 1) := by decide +kernel
theorem dX4_weighCorners_48 : decode cX4_weighCorners 48 = .ok (.aload_n 0, 1) := by decide +kernel
theorem dX4_weighCorners_49 : decode cX4_weighCorners 49 = .ok (.iload_n 2, 1) := by decide +kernel
theorem dX4_weighCorners_50 : decode cX4_weighCorners 50 = .ok (.iload 4, 2) := by decide +kernel
theorem dX4_weighCorners_52 : decode cX4_weighCorners 52 = .ok (.invokevirtual 81, 3) := by decide +kernel
theorem dX4_weighCorners_55 : decode cX4_weighCorners 55 = .ok (.aload_n 0, 1) := by decide +kernel
theorem dX4_weighCorners_56 : decode cX4_weighCorners 56 = .ok (.iload_n 2, 1) := by decide +kernel
theorem dX4_weighCorners_57 : decode cX4_weighCorners 57 = .ok (.iload 4, 2) := by decide +kernel
theorem dX4_weighCorners_59 : decode cX4_weighCorners 59 = .ok (.invokevirtual 85, 3) := by decide +kernel
theorem dX4_weighCorners_62 : decode cX4_weighCorners 62 = .ok (.invokevirtual 134, 3) := by decide +kernel
theorem dX4_weighCorners_65 : decode cX4_weighCorners 65 = .ok (.iinc 4 1, 3) := by decide +kernel
theorem dX4_weighCorners_68 : decode cX4_weighCorners 68 = .ok (.goto (-53), 3) := by decide +kernel
theorem dX4_weighCorners_71 : decode cX4_weighCorners 71 = .ok (.iinc 3 1, 3) := by decide +kernel
theorem dX4_weighCorners_74 : decode cX4_weighCorners 74 = .ok (.goto (-72), 3) := by decide +kernel
theorem dX4_weighCorners_77 : decode cX4_weighCorners 77 = .ok (.return_, 1) := by decide +kernel
set_option maxRecDepth 20000 in
theorem ggX4_least_X4_have : GoodIn wsX4_least wsX4_have := goodIn_r _ [7, 8, 9, 10, 11, 12, 13, 6, 14, 15, 16, 17, 18, 19, 20, 21, 22, 23, 24, 25, 26, 27, 28, 29, 30, 31, 32, 33, 34, 35, 36, 37, 38, 39, 40, 41, 42, 43, 62, 63, 64, 65, 66, 67, 68, 69, 70, 71, 72, 73, 74, 75, 76] (by decide +kernel) (by decide +kernel)
set_option maxRecDepth 20000 in
theorem gX4_least_X4_have : GoodIn wsX4_least (wsV RX4 112 RX4 yX4_have wsX4_have) := goodIn_app (goodIn_of _ (by decide +kernel)) ggX4_least_X4_have
set_option maxRecDepth 20000 in
theorem ggX4_least_X4_weighCorners : GoodIn wsX4_least wsX4_weighCorners := goodIn_r _ [47, 15, 9, 10, 11, 12, 13, 6, 14, 8, 16, 17, 18, 19, 20, 21, 22, 23, 48, 49, 50, 51, 52, 53, 54, 55, 2, 1, 56, 57, 58, 34, 35, 36, 59, 60, 61, 62, 63, 64, 65, 66, 67, 68, 69, 70, 71, 72, 73, 74, 75, 76] (by decide +kernel) (by decide +kernel)
set_option maxRecDepth 20000 in
theorem gX4_least_X4_weighCorners : GoodIn wsX4_least (wsV RX4 138 RX4 yX4_weighCorners wsX4_weighCorners) := goodIn_app (goodIn_of _ (by decide +kernel)) ggX4_least_X4_weighCorners
theorem dX4_least_0 : decode cX4_least 0 = .ok (.aload_n 0, 1) := by decide +kernel
theorem dX4_least_1 : decode cX4_least 1 = .ok (.lconst 0, 1) := by decide +kernel
theorem dX4_least_2 : decode cX4_least 2 = .ok (.putfield 119, 3) := by decide +kernel
theorem dX4_least_5 : decode cX4_least 5 = .ok (.aload_n 0, 1) := by decide +kernel
theorem dX4_least_6 : decode cX4_least 6 = .ok (.lconst 1, 1) := by decide +kernel
theorem dX4_least_7 : decode cX4_least 7 = .ok (.putfield 115, 3) := by decide +kernel
theorem dX4_least_10 : decode cX4_least 10 = .ok (.aload_n 0, 1) := by decide +kernel
theorem dX4_least_11 : decode cX4_least 11 = .ok (.iload_n 1, 1) := by decide +kernel
theorem dX4_least_12 : decode cX4_least 12 = .ok (.iload_n 2, 1) := by decide +kernel
theorem dX4_least_13 : decode cX4_least 13 = .ok (.invokevirtual 112, 3) := by decide +kernel
theorem dX4_least_16 : decode cX4_least 16 = .ok (.ifCond .eq 4, 3) := by decide +kernel
theorem dX4_least_19 : decode cX4_least 19 = .ok (.return_, 1) := by decide +kernel
theorem dX4_least_20 : decode cX4_least 20 = .ok (.aload_n 0, 1) := by decide +kernel
theorem dX4_least_21 : decode cX4_least 21 = .ok (.lconst 0, 1) := by decide +kernel
theorem dX4_least_22 : decode cX4_least 22 = .ok (.putfield 115, 3) := by decide +kernel
theorem dX4_least_25 : decode cX4_least 25 = .ok (.aload_n 0, 1) := by decide +kernel
theorem dX4_least_26 : decode cX4_least 26 = .ok (.iload_n 1, 1) := by decide +kernel
theorem dX4_least_27 : decode cX4_least 27 = .ok (.iload_n 2, 1) := by decide +kernel
theorem dX4_least_28 : decode cX4_least 28 = .ok (.invokevirtual 138, 3) := by decide +kernel
theorem dX4_least_31 : decode cX4_least 31 = .ok (.aload_n 0, 1) := by decide +kernel
theorem dX4_least_32 : decode cX4_least 32 = .ok (.iload_n 2, 1) := by decide +kernel
theorem dX4_least_33 : decode cX4_least 33 = .ok (.iload_n 1, 1) := by decide +kernel
theorem dX4_least_34 : decode cX4_least 34 = .ok (.invokevirtual 138, 3) := by decide +kernel
theorem dX4_least_37 : decode cX4_least 37 = .ok (.return_, 1) := by decide +kernel
set_option maxRecDepth 20000 in
theorem ggX4_square_X4_isRight : GoodIn wsX4_square wsX4_isRight := goodIn_r _ [9, 10, 11, 12, 8, 13, 14, 15, 16, 17, 18, 19, 1, 20, 21, 22, 23, 24, 25, 26, 27, 28, 29, 30, 31, 32, 33, 34, 35, 36, 37, 38, 39, 40, 41, 42, 43, 44, 45, 46, 47, 48, 49, 50, 51, 52, 53, 54, 55, 56, 57, 58, 89, 90, 91, 92, 93, 94, 95, 96, 97, 98, 99, 100, 101, 102, 103] (by decide +kernel) (by decide +kernel)
set_option maxRecDepth 20000 in
theorem gX4_square_X4_isRight : GoodIn wsX4_square (wsV RX4 105 RX4 yX4_isRight wsX4_isRight) := goodIn_app (goodIn_of _ (by decide +kernel)) ggX4_square_X4_isRight
set_option maxRecDepth 20000 in
theorem ggX4_square_X4_least : GoodIn wsX4_square wsX4_least := goodIn_r _ [62, 3, 4, 63, 64, 65, 8, 66, 15, 29, 30, 21, 22, 23, 24, 20, 31, 32, 33, 34, 35, 36, 37, 38, 46, 47, 48, 49, 50, 51, 52, 53, 54, 55, 43, 44, 45, 56, 57, 58, 67, 68, 69, 70, 71, 72, 73, 74, 75, 76, 77, 78, 79, 80, 81, 82, 83, 84, 85, 86, 87, 88, 89, 90, 91, 92, 93, 94, 95, 96, 97, 98, 99, 100, 101, 102, 103] (by decide +kernel) (by decide +kernel)
set_option maxRecDepth 20000 in
theorem gX4_square_X4_least : GoodIn wsX4_square (wsV RX4 144 RX4 yX4_least wsX4_least) := goodIn_app (goodIn_of _ (by decide +kernel)) ggX4_square_X4_least
theorem dX4_square_0 : decode cX4_square 0 = .ok (.aload_n 0, 1) := by decide +kernel
theorem dX4_square_1 : decode cX4_square 1 = .ok (.iconst 0, 1) := by decide +kernel
theorem dX4_square_2 : decode cX4_square 2 = .ok (.putfield 1, 3) := by decide +kernel
theorem dX4_square_5 : decode cX4_square 5 = .ok (.aload_n 0, 1) := by decide +kernel
theorem dX4_square_6 : decode cX4_square 6 = .ok (.iload_n 1, 1) := by decide +kernel
theorem dX4_square_7 : decode cX4_square 7 = .ok (.invokevirtual 105, 3) := by decide +kernel
theorem dX4_square_10 : decode cX4_square 10 = .ok (.ifCond .eq 11, 3) := by decide +kernel
theorem dX4_square_13 : decode cX4_square 13 = .ok (.aload_n 0, 1) := by decide +kernel
theorem dX4_square_14 : decode cX4_square 14 = .ok (.iload_n 2, 1) := by decide +kernel
theorem dX4_square_15 : decode cX4_square 15 = .ok (.invokevirtual 105, 3) := by decide +kernel
theorem dX4_square_18 : decode cX4_square 18 = .ok (.ifCond .ne 7, 3) := by decide +kernel
theorem dX4_square_21 : decode cX4_square 21 = .ok (.ldc2_w 142, 3) := by decide +kernel
theorem dX4_square_24 : decode cX4_square 24 = .ok (.lreturn, 1) := by decide +kernel
theorem dX4_square_25 : decode cX4_square 25 = .ok (.aload_n 0, 1) := by decide +kernel
theorem dX4_square_26 : decode cX4_square 26 = .ok (.iload_n 1, 1) := by decide +kernel
theorem dX4_square_27 : decode cX4_square 27 = .ok (.iload_n 2, 1) := by decide +kernel
theorem dX4_square_28 : decode cX4_square 28 = .ok (.invokevirtual 144, 3) := by decide +kernel
theorem dX4_square_31 : decode cX4_square 31 = .ok (.iload_n 3, 1) := by decide +kernel
theorem dX4_square_32 : decode cX4_square 32 = .ok (.ifCond .ne 10, 3) := by decide +kernel
theorem dX4_square_35 : decode cX4_square 35 = .ok (.aload_n 0, 1) := by decide +kernel
theorem dX4_square_36 : decode cX4_square 36 = .ok (.getfield 119, 3) := by decide +kernel
theorem dX4_square_39 : decode cX4_square 39 = .ok (.goto 7, 3) := by decide +kernel
theorem dX4_square_42 : decode cX4_square 42 = .ok (.aload_n 0, 1) := by decide +kernel
theorem dX4_square_43 : decode cX4_square 43 = .ok (.getfield 115, 3) := by decide +kernel
theorem dX4_square_46 : decode cX4_square 46 = .ok (.lreturn, 1) := by decide +kernel
set_option maxRecDepth 20000 in
theorem ggX4_toPlace_X4_stands : GoodIn wsX4_toPlace wsX4_stands := goodIn_r _ [8, 9, 10, 11, 12, 13, 14, 7, 15, 16, 17, 18, 19, 3, 20, 21, 22, 23, 24, 25, 26, 27, 28, 29, 30, 31, 50, 51, 52, 53, 54, 55, 56, 57, 58, 59, 60, 61, 62, 63, 64] (by decide +kernel) (by decide +kernel)
set_option maxRecDepth 20000 in
theorem gX4_toPlace_X4_stands : GoodIn wsX4_toPlace (wsV RX4 108 RX4 yX4_stands wsX4_stands) := goodIn_app (goodIn_of _ (by decide +kernel)) ggX4_toPlace_X4_stands
set_option maxRecDepth 20000 in
theorem ggX4_toPlace_X4_sides : GoodIn wsX4_toPlace wsX4_sides := goodIn_r _ [35, 3, 9, 50, 51, 52, 53, 54, 55, 56, 57, 58, 59, 60, 61, 62, 63, 64] (by decide +kernel) (by decide +kernel)
set_option maxRecDepth 20000 in
theorem gX4_toPlace_X4_sides : GoodIn wsX4_toPlace (wsV RX4 96 RX4 yX4_sides wsX4_sides) := goodIn_app (goodIn_of _ (by decide +kernel)) ggX4_toPlace_X4_sides
set_option maxRecDepth 20000 in
theorem ggX4_toPlace_X4_from : GoodIn wsX4_toPlace wsX4_from := goodIn_r _ [15] (by decide +kernel) (by decide +kernel)
set_option maxRecDepth 20000 in
theorem gX4_toPlace_X4_from : GoodIn wsX4_toPlace (wsV RX4 81 RX4 yX4_from wsX4_from) := goodIn_app (goodIn_of _ (by decide +kernel)) ggX4_toPlace_X4_from
set_option maxRecDepth 20000 in
theorem ggX4_toPlace_X4_to : GoodIn wsX4_toPlace wsX4_to := goodIn_r _ [19, 3, 9, 50, 51, 52, 53, 54, 55, 56, 57, 58, 59, 60, 61, 62, 63, 64] (by decide +kernel) (by decide +kernel)
set_option maxRecDepth 20000 in
theorem gX4_toPlace_X4_to : GoodIn wsX4_toPlace (wsV RX4 85 RX4 yX4_to wsX4_to) := goodIn_app (goodIn_of _ (by decide +kernel)) ggX4_toPlace_X4_to
set_option maxRecDepth 20000 in
theorem ggX4_toPlace_X4_weighSide : GoodIn wsX4_toPlace wsX4_weighSide := goodIn_r _ [39, 10, 11, 40, 41, 42, 7, 43, 2, 1, 44, 45, 46, 26, 27, 28, 47, 48, 49, 50, 51, 52, 53, 54, 55, 56, 57, 58, 59, 60, 61, 62, 63, 64] (by decide +kernel) (by decide +kernel)
set_option maxRecDepth 20000 in
theorem gX4_toPlace_X4_weighSide : GoodIn wsX4_toPlace (wsV RX4 134 RX4 yX4_weighSide wsX4_weighSide) := goodIn_app (goodIn_of _ (by decide +kernel)) ggX4_toPlace_X4_weighSide
theorem dX4_toPlace_0 : decode cX4_toPlace 0 = .ok (.aload_n 0, 1) := by decide +kernel
theorem dX4_toPlace_1 : decode cX4_toPlace 1 = .ok (.lconst 0, 1) := by decide +kernel
theorem dX4_toPlace_2 : decode cX4_toPlace 2 = .ok (.putfield 119, 3) := by decide +kernel
theorem dX4_toPlace_5 : decode cX4_toPlace 5 = .ok (.aload_n 0, 1) := by decide +kernel
theorem dX4_toPlace_6 : decode cX4_toPlace 6 = .ok (.lconst 1, 1) := by decide +kernel
theorem dX4_toPlace_7 : decode cX4_toPlace 7 = .ok (.putfield 115, 3) := by decide +kernel
theorem dX4_toPlace_10 : decode cX4_toPlace 10 = .ok (.aload_n 0, 1) := by decide +kernel
theorem dX4_toPlace_11 : decode cX4_toPlace 11 = .ok (.getfield 13, 3) := by decide +kernel
theorem dX4_toPlace_14 : decode cX4_toPlace 14 = .ok (.iload_n 3, 1) := by decide +kernel
theorem dX4_toPlace_15 : decode cX4_toPlace 15 = .ok (.iaload, 1) := by decide +kernel
theorem dX4_toPlace_16 : decode cX4_toPlace 16 = .ok (.iconst 3, 1) := by decide +kernel
theorem dX4_toPlace_17 : decode cX4_toPlace 17 = .ok (.if_icmp .ne 16, 3) := by decide +kernel
theorem dX4_toPlace_20 : decode cX4_toPlace 20 = .ok (.aload_n 0, 1) := by decide +kernel
theorem dX4_toPlace_21 : decode cX4_toPlace 21 = .ok (.iload_n 1, 1) := by decide +kernel
theorem dX4_toPlace_22 : decode cX4_toPlace 22 = .ok (.i2l, 1) := by decide +kernel
theorem dX4_toPlace_23 : decode cX4_toPlace 23 = .ok (.iload_n 2, 1) := by decide +kernel
theorem dX4_toPlace_24 : decode cX4_toPlace 24 = .ok (.i2l, 1) := by decide +kernel
theorem dX4_toPlace_25 : decode cX4_toPlace 25 = .ok (.iload_n 3, 1) := by decide +kernel
theorem dX4_toPlace_26 : decode cX4_toPlace 26 = .ok (.invokevirtual 108, 3) := by decide +kernel
theorem dX4_toPlace_29 : decode cX4_toPlace 29 = .ok (.ifCond .le 4, 3) := by decide +kernel
theorem dX4_toPlace_32 : decode cX4_toPlace 32 = .ok (.return_, 1) := by decide +kernel
theorem dX4_toPlace_33 : decode cX4_toPlace 33 = .ok (.aload_n 0, 1) := by decide +kernel
theorem dX4_toPlace_34 : decode cX4_toPlace 34 = .ok (.lconst 0, 1) := by decide +kernel
theorem dX4_toPlace_35 : decode cX4_toPlace 35 = .ok (.putfield 115, 3) := by decide +kernel
theorem dX4_toPlace_38 : decode cX4_toPlace 38 = .ok (.iconst 0, 1) := by decide +kernel
theorem dX4_toPlace_39 : decode cX4_toPlace 39 = .ok (.istore 4, 2) := by decide +kernel
theorem dX4_toPlace_41 : decode cX4_toPlace 41 = .ok (.iload 4, 2) := by decide +kernel
theorem dX4_toPlace_43 : decode cX4_toPlace 43 = .ok (.aload_n 0, 1) := by decide +kernel
theorem dX4_toPlace_44 : decode cX4_toPlace 44 = .ok (.iload_n 3, 1) := by decide +kernel
theorem dX4_toPlace_45 : decode cX4_toPlace 45 = .ok (.invokevirtual 96, 3) := by decide +kernel
theorem dX4_toPlace_48 : decode cX4_toPlace 48 = .ok (.if_icmp .ge 31, 3) := by decide +kernel
theorem dX4_toPlace_51 : decode cX4_toPlace 51 = .ok (.aload_n 0, 1) := by decide +kernel
theorem dX4_toPlace_52 : decode cX4_toPlace 52 = .ok (.iload_n 1, 1) := by decide +kernel
theorem dX4_toPlace_53 : decode cX4_toPlace 53 = .ok (.i2l, 1) := by decide +kernel
theorem dX4_toPlace_54 : decode cX4_toPlace 54 = .ok (.iload_n 2, 1) := by decide +kernel
theorem dX4_toPlace_55 : decode cX4_toPlace 55 = .ok (.i2l, 1) := by decide +kernel
theorem dX4_toPlace_56 : decode cX4_toPlace 56 = .ok (.aload_n 0, 1) := by decide +kernel
theorem dX4_toPlace_57 : decode cX4_toPlace 57 = .ok (.iload_n 3, 1) := by decide +kernel
theorem dX4_toPlace_58 : decode cX4_toPlace 58 = .ok (.iload 4, 2) := by decide +kernel
theorem dX4_toPlace_60 : decode cX4_toPlace 60 = .ok (.invokevirtual 81, 3) := by decide +kernel
theorem dX4_toPlace_63 : decode cX4_toPlace 63 = .ok (.aload_n 0, 1) := by decide +kernel
theorem dX4_toPlace_64 : decode cX4_toPlace 64 = .ok (.iload_n 3, 1) := by decide +kernel
theorem dX4_toPlace_65 : decode cX4_toPlace 65 = .ok (.iload 4, 2) := by decide +kernel
theorem dX4_toPlace_67 : decode cX4_toPlace 67 = .ok (.invokevirtual 85, 3) := by decide +kernel
theorem dX4_toPlace_70 : decode cX4_toPlace 70 = .ok (.invokevirtual 134, 3) := by decide +kernel
theorem dX4_toPlace_73 : decode cX4_toPlace 73 = .ok (.iinc 4 1, 3) := by decide +kernel
theorem dX4_toPlace_76 : decode cX4_toPlace 76 = .ok (.goto (-35), 3) := by decide +kernel
theorem dX4_toPlace_79 : decode cX4_toPlace 79 = .ok (.return_, 1) := by decide +kernel
set_option maxRecDepth 20000 in
theorem ggX4_near_X4_isPlace : GoodIn wsX4_near wsX4_isPlace := goodIn_r _ [11] (by decide +kernel) (by decide +kernel)
set_option maxRecDepth 20000 in
theorem gX4_near_X4_isPlace : GoodIn wsX4_near (va_wsS RX4 46 yX4_isPlace wsX4_isPlace) := goodIn_app (goodIn_of _ (by decide +kernel)) ggX4_near_X4_isPlace
set_option maxRecDepth 20000 in
theorem ggX4_near_X4_isRight : GoodIn wsX4_near wsX4_isRight := goodIn_r _ [15, 16, 17, 18, 10, 19, 2, 20, 21, 22, 23, 24, 1, 25, 26, 27, 28, 29, 30, 31, 32, 33, 34, 35, 36, 37, 38, 39, 40, 41, 42, 43, 44, 45, 46, 47, 48, 49, 50, 51, 52, 53, 54, 55, 56, 57, 58, 59, 60, 61, 62, 63, 86, 87, 88, 89, 90, 91, 92, 93, 94, 95, 96, 97, 98, 99, 100] (by decide +kernel) (by decide +kernel)
set_option maxRecDepth 20000 in
theorem gX4_near_X4_isRight : GoodIn wsX4_near (wsV RX4 105 RX4 yX4_isRight wsX4_isRight) := goodIn_app (goodIn_of _ (by decide +kernel)) ggX4_near_X4_isRight
set_option maxRecDepth 20000 in
theorem ggX4_near_X4_toPlace : GoodIn wsX4_near wsX4_toPlace := goodIn_r _ [67, 5, 7, 20, 68, 69, 70, 10, 71, 25, 34, 35, 36, 37, 38, 39, 40, 41, 42, 43, 55, 56, 57, 58, 59, 60, 48, 49, 50, 61, 62, 63, 26, 27, 28, 29, 72, 73, 74, 75, 76, 77, 78, 79, 80, 81, 82, 83, 84, 85, 86, 87, 88, 89, 90, 91, 92, 93, 94, 95, 96, 97, 98, 99, 100] (by decide +kernel) (by decide +kernel)
set_option maxRecDepth 20000 in
theorem gX4_near_X4_toPlace : GoodIn wsX4_near (wsV RX4 147 RX4 yX4_toPlace wsX4_toPlace) := goodIn_app (goodIn_of _ (by decide +kernel)) ggX4_near_X4_toPlace
set_option maxRecDepth 20000 in
theorem ggX4_near_X4_isLess : GoodIn wsX4_near wsX4_isLess := goodIn_r _ [82] (by decide +kernel) (by decide +kernel)
set_option maxRecDepth 20000 in
theorem gX4_near_X4_isLess : GoodIn wsX4_near (va_wsS RX4 122 yX4_isLess wsX4_isLess) := goodIn_app (goodIn_of _ (by decide +kernel)) ggX4_near_X4_isLess
theorem dX4_near_0 : decode cX4_near 0 = .ok (.aload_n 0, 1) := by decide +kernel
theorem dX4_near_1 : decode cX4_near 1 = .ok (.iconst 0, 1) := by decide +kernel
theorem dX4_near_2 : decode cX4_near 2 = .ok (.putfield 1, 3) := by decide +kernel
theorem dX4_near_5 : decode cX4_near 5 = .ok (.iload_n 1, 1) := by decide +kernel
theorem dX4_near_6 : decode cX4_near 6 = .ok (.iload_n 2, 1) := by decide +kernel
theorem dX4_near_7 : decode cX4_near 7 = .ok (.invokestatic 46, 3) := by decide +kernel
theorem dX4_near_10 : decode cX4_near 10 = .ok (.ifCond .eq 7, 3) := by decide +kernel
theorem dX4_near_13 : decode cX4_near 13 = .ok (.iload_n 3, 1) := by decide +kernel
theorem dX4_near_14 : decode cX4_near 14 = .ok (.ifCond .ge 5, 3) := by decide +kernel
theorem dX4_near_17 : decode cX4_near 17 = .ok (.iconst (-1), 1) := by decide +kernel
theorem dX4_near_18 : decode cX4_near 18 = .ok (.ireturn, 1) := by decide +kernel
theorem dX4_near_19 : decode cX4_near 19 = .ok (.iconst 0, 1) := by decide +kernel
theorem dX4_near_20 : decode cX4_near 20 = .ok (.istore 4, 2) := by decide +kernel
theorem dX4_near_22 : decode cX4_near 22 = .ok (.iload 4, 2) := by decide +kernel
theorem dX4_near_24 : decode cX4_near 24 = .ok (.aload_n 0, 1) := by decide +kernel
theorem dX4_near_25 : decode cX4_near 25 = .ok (.getfield 40, 3) := by decide +kernel
theorem dX4_near_28 : decode cX4_near 28 = .ok (.if_icmp .ge 73, 3) := by decide +kernel
theorem dX4_near_31 : decode cX4_near 31 = .ok (.aload_n 0, 1) := by decide +kernel
theorem dX4_near_32 : decode cX4_near 32 = .ok (.getfield 36, 3) := by decide +kernel
theorem dX4_near_35 : decode cX4_near 35 = .ok (.iload 4, 2) := by decide +kernel
theorem dX4_near_37 : decode cX4_near 37 = .ok (.aload_n 0, 1) := by decide +kernel
theorem dX4_near_38 : decode cX4_near 38 = .ok (.iload 4, 2) := by decide +kernel
theorem dX4_near_40 : decode cX4_near 40 = .ok (.invokevirtual 105, 3) := by decide +kernel
theorem dX4_near_43 : decode cX4_near 43 = .ok (.ifCond .ne 7, 3) := by decide +kernel
theorem dX4_near_46 : decode cX4_near 46 = .ok (.iconst 1, 1) := by decide +kernel
theorem dX4_near_47 : decode cX4_near 47 = .ok (.goto 4, 3) := by decide +kernel
theorem dX4_near_50 : decode cX4_near 50 = .ok (.iconst 0, 1) := by decide +kernel
theorem dX4_near_51 : decode cX4_near 51 = .ok (.bastore, 1) := by decide +kernel
theorem dX4_near_52 : decode cX4_near 52 = .ok (.aload_n 0, 1) := by decide +kernel
theorem dX4_near_53 : decode cX4_near 53 = .ok (.getfield 36, 3) := by decide +kernel
theorem dX4_near_56 : decode cX4_near 56 = .ok (.iload 4, 2) := by decide +kernel
theorem dX4_near_58 : decode cX4_near 58 = .ok (.baload, 1) := by decide +kernel
theorem dX4_near_59 : decode cX4_near 59 = .ok (.ifCond .eq 6, 3) := by decide +kernel
theorem dX4_near_62 : decode cX4_near 62 = .ok (.goto 33, 3) := by decide +kernel
theorem dX4_near_65 : decode cX4_near 65 = .ok (.aload_n 0, 1) := by decide +kernel
theorem dX4_near_66 : decode cX4_near 66 = .ok (.iload_n 1, 1) := by decide +kernel
theorem dX4_near_67 : decode cX4_near 67 = .ok (.iload_n 2, 1) := by decide +kernel
theorem dX4_near_68 : decode cX4_near 68 = .ok (.iload 4, 2) := by decide +kernel
theorem dX4_near_70 : decode cX4_near 70 = .ok (.invokevirtual 147, 3) := by decide +kernel
theorem dX4_near_73 : decode cX4_near 73 = .ok (.aload_n 0, 1) := by decide +kernel
theorem dX4_near_74 : decode cX4_near 74 = .ok (.getfield 30, 3) := by decide +kernel
theorem dX4_near_77 : decode cX4_near 77 = .ok (.iload 4, 2) := by decide +kernel
theorem dX4_near_79 : decode cX4_near 79 = .ok (.aload_n 0, 1) := by decide +kernel
theorem dX4_near_80 : decode cX4_near 80 = .ok (.getfield 119, 3) := by decide +kernel
theorem dX4_near_83 : decode cX4_near 83 = .ok (.lastore, 1) := by decide +kernel
theorem dX4_near_84 : decode cX4_near 84 = .ok (.aload_n 0, 1) := by decide +kernel
theorem dX4_near_85 : decode cX4_near 85 = .ok (.getfield 33, 3) := by decide +kernel
theorem dX4_near_88 : decode cX4_near 88 = .ok (.iload 4, 2) := by decide +kernel
theorem dX4_near_90 : decode cX4_near 90 = .ok (.aload_n 0, 1) := by decide +kernel
theorem dX4_near_91 : decode cX4_near 91 = .ok (.getfield 115, 3) := by decide +kernel
theorem dX4_near_94 : decode cX4_near 94 = .ok (.lastore, 1) := by decide +kernel
theorem dX4_near_95 : decode cX4_near 95 = .ok (.iinc 4 1, 3) := by decide +kernel
theorem dX4_near_98 : decode cX4_near 98 = .ok (.goto (-76), 3) := by decide +kernel
theorem dX4_near_101 : decode cX4_near 101 = .ok (.iconst (-1), 1) := by decide +kernel
theorem dX4_near_102 : decode cX4_near 102 = .ok (.istore 4, 2) := by decide +kernel
theorem dX4_near_104 : decode cX4_near 104 = .ok (.iconst 0, 1) := by decide +kernel
theorem dX4_near_105 : decode cX4_near 105 = .ok (.istore 5, 2) := by decide +kernel
theorem dX4_near_107 : decode cX4_near 107 = .ok (.iload 5, 2) := by decide +kernel
theorem dX4_near_109 : decode cX4_near 109 = .ok (.iload_n 3, 1) := by decide +kernel
theorem dX4_near_110 : decode cX4_near 110 = .ok (.if_icmp .gt 98, 3) := by decide +kernel
theorem dX4_near_113 : decode cX4_near 113 = .ok (.iconst (-1), 1) := by decide +kernel
theorem dX4_near_114 : decode cX4_near 114 = .ok (.istore 4, 2) := by decide +kernel
theorem dX4_near_116 : decode cX4_near 116 = .ok (.iconst 0, 1) := by decide +kernel
theorem dX4_near_117 : decode cX4_near 117 = .ok (.istore 6, 2) := by decide +kernel
theorem dX4_near_119 : decode cX4_near 119 = .ok (.iload 6, 2) := by decide +kernel
theorem dX4_near_121 : decode cX4_near 121 = .ok (.aload_n 0, 1) := by decide +kernel
theorem dX4_near_122 : decode cX4_near 122 = .ok (.getfield 40, 3) := by decide +kernel
theorem dX4_near_125 : decode cX4_near 125 = .ok (.if_icmp .ge 62, 3) := by decide +kernel
theorem dX4_near_128 : decode cX4_near 128 = .ok (.aload_n 0, 1) := by decide +kernel
theorem dX4_near_129 : decode cX4_near 129 = .ok (.getfield 36, 3) := by decide +kernel
theorem dX4_near_132 : decode cX4_near 132 = .ok (.iload 6, 2) := by decide +kernel
theorem dX4_near_134 : decode cX4_near 134 = .ok (.baload, 1) := by decide +kernel
theorem dX4_near_135 : decode cX4_near 135 = .ok (.ifCond .ne 46, 3) := by decide +kernel
theorem dX4_near_138 : decode cX4_near 138 = .ok (.iload 4, 2) := by decide +kernel
theorem dX4_near_140 : decode cX4_near 140 = .ok (.ifCond .lt 37, 3) := by decide +kernel
theorem dX4_near_143 : decode cX4_near 143 = .ok (.aload_n 0, 1) := by decide +kernel
theorem dX4_near_144 : decode cX4_near 144 = .ok (.getfield 30, 3) := by decide +kernel
theorem dX4_near_147 : decode cX4_near 147 = .ok (.iload 6, 2) := by decide +kernel
theorem dX4_near_149 : decode cX4_near 149 = .ok (.laload, 1) := by decide +kernel
theorem dX4_near_150 : decode cX4_near 150 = .ok (.aload_n 0, 1) := by decide +kernel
theorem dX4_near_151 : decode cX4_near 151 = .ok (.getfield 33, 3) := by decide +kernel
theorem dX4_near_154 : decode cX4_near 154 = .ok (.iload 6, 2) := by decide +kernel
theorem dX4_near_156 : decode cX4_near 156 = .ok (.laload, 1) := by decide +kernel
theorem dX4_near_157 : decode cX4_near 157 = .ok (.aload_n 0, 1) := by decide +kernel
theorem dX4_near_158 : decode cX4_near 158 = .ok (.getfield 30, 3) := by decide +kernel
theorem dX4_near_161 : decode cX4_near 161 = .ok (.iload 4, 2) := by decide +kernel
theorem dX4_near_163 : decode cX4_near 163 = .ok (.laload, 1) := by decide +kernel
theorem dX4_near_164 : decode cX4_near 164 = .ok (.aload_n 0, 1) := by decide +kernel
theorem dX4_near_165 : decode cX4_near 165 = .ok (.getfield 33, 3) := by decide +kernel
theorem dX4_near_168 : decode cX4_near 168 = .ok (.iload 4, 2) := by decide +kernel
theorem dX4_near_170 : decode cX4_near 170 = .ok (.laload, 1) := by decide +kernel
theorem dX4_near_171 : decode cX4_near 171 = .ok (.invokestatic 122, 3) := by decide +kernel
theorem dX4_near_174 : decode cX4_near 174 = .ok (.ifCond .eq 7, 3) := by decide +kernel
theorem dX4_near_177 : decode cX4_near 177 = .ok (.iload 6, 2) := by decide +kernel
theorem dX4_near_179 : decode cX4_near 179 = .ok (.istore 4, 2) := by decide +kernel
theorem dX4_near_181 : decode cX4_near 181 = .ok (.iinc 6 1, 3) := by decide +kernel
theorem dX4_near_184 : decode cX4_near 184 = .ok (.goto (-65), 3) := by decide +kernel
theorem dX4_near_187 : decode cX4_near 187 = .ok (.iload 4, 2) := by decide +kernel
theorem dX4_near_189 : decode cX4_near 189 = .ok (.ifCond .ge 5, 3) := by decide +kernel
theorem dX4_near_192 : decode cX4_near 192 = .ok (.iconst (-1), 1) := by decide +kernel
theorem dX4_near_193 : decode cX4_near 193 = .ok (.ireturn, 1) := by decide +kernel
theorem dX4_near_194 : decode cX4_near 194 = .ok (.aload_n 0, 1) := by decide +kernel
theorem dX4_near_195 : decode cX4_near 195 = .ok (.getfield 36, 3) := by decide +kernel
theorem dX4_near_198 : decode cX4_near 198 = .ok (.iload 4, 2) := by decide +kernel
theorem dX4_near_200 : decode cX4_near 200 = .ok (.iconst 1, 1) := by decide +kernel
theorem dX4_near_201 : decode cX4_near 201 = .ok (.bastore, 1) := by decide +kernel
theorem dX4_near_202 : decode cX4_near 202 = .ok (.iinc 5 1, 3) := by decide +kernel
theorem dX4_near_205 : decode cX4_near 205 = .ok (.goto (-98), 3) := by decide +kernel
theorem dX4_near_208 : decode cX4_near 208 = .ok (.iload 4, 2) := by decide +kernel
theorem dX4_near_210 : decode cX4_near 210 = .ok (.ireturn, 1) := by decide +kernel
set_option maxRecDepth 20000 in
theorem ggX4_area_X4_isRight : GoodIn wsX4_area wsX4_isRight := goodIn_r _ [10, 11, 12, 13, 9, 14, 15, 2, 16, 17, 18, 19, 1, 3, 20, 21, 22, 23, 24, 25, 26, 27, 4, 5, 28, 29, 30, 31, 32, 33, 34, 35, 36, 37, 38, 39, 40, 41, 42, 43, 44, 45, 46, 47, 48, 49, 50, 51, 52, 53, 54, 55, 56, 57, 58, 59, 60, 61, 62, 63, 64, 65, 66, 67, 68, 69, 70] (by decide +kernel) (by decide +kernel)
set_option maxRecDepth 20000 in
theorem gX4_area_X4_isRight : GoodIn wsX4_area (wsV RX4 105 RX4 yX4_isRight wsX4_isRight) := goodIn_app (goodIn_of _ (by decide +kernel)) ggX4_area_X4_isRight
set_option maxRecDepth 20000 in
theorem ggX4_area_X4_from : GoodIn wsX4_area wsX4_from := goodIn_r _ [31] (by decide +kernel) (by decide +kernel)
set_option maxRecDepth 20000 in
theorem gX4_area_X4_from : GoodIn wsX4_area (wsV RX4 81 RX4 yX4_from wsX4_from) := goodIn_app (goodIn_of _ (by decide +kernel)) ggX4_area_X4_from
set_option maxRecDepth 20000 in
theorem ggX4_area_X4_to : GoodIn wsX4_area wsX4_to := goodIn_r _ [35, 2, 3, 56, 57, 58, 59, 60, 61, 62, 63, 64, 65, 66, 67, 68, 69, 70] (by decide +kernel) (by decide +kernel)
set_option maxRecDepth 20000 in
theorem gX4_area_X4_to : GoodIn wsX4_area (wsV RX4 85 RX4 yX4_to wsX4_to) := goodIn_app (goodIn_of _ (by decide +kernel)) ggX4_area_X4_to
set_option maxRecDepth 20000 in
theorem ggX4_area_X4_cross : GoodIn wsX4_area wsX4_cross := goodIn_r _ [42] (by decide +kernel) (by decide +kernel)
set_option maxRecDepth 20000 in
theorem gX4_area_X4_cross : GoodIn wsX4_area (va_wsS RX4 65 yX4_cross wsX4_cross) := goodIn_app (goodIn_of _ (by decide +kernel)) ggX4_area_X4_cross
theorem dX4_area_0 : decode cX4_area 0 = .ok (.aload_n 0, 1) := by decide +kernel
theorem dX4_area_1 : decode cX4_area 1 = .ok (.iconst 0, 1) := by decide +kernel
theorem dX4_area_2 : decode cX4_area 2 = .ok (.putfield 1, 3) := by decide +kernel
theorem dX4_area_5 : decode cX4_area 5 = .ok (.aload_n 0, 1) := by decide +kernel
theorem dX4_area_6 : decode cX4_area 6 = .ok (.iload_n 1, 1) := by decide +kernel
theorem dX4_area_7 : decode cX4_area 7 = .ok (.invokevirtual 105, 3) := by decide +kernel
theorem dX4_area_10 : decode cX4_area 10 = .ok (.ifCond .eq 13, 3) := by decide +kernel
theorem dX4_area_13 : decode cX4_area 13 = .ok (.aload_n 0, 1) := by decide +kernel
theorem dX4_area_14 : decode cX4_area 14 = .ok (.getfield 13, 3) := by decide +kernel
theorem dX4_area_17 : decode cX4_area 17 = .ok (.iload_n 1, 1) := by decide +kernel
theorem dX4_area_18 : decode cX4_area 18 = .ok (.iaload, 1) := by decide +kernel
theorem dX4_area_19 : decode cX4_area 19 = .ok (.iconst 3, 1) := by decide +kernel
theorem dX4_area_20 : decode cX4_area 20 = .ok (.if_icmp .eq 5, 3) := by decide +kernel
theorem dX4_area_23 : decode cX4_area 23 = .ok (.lconst 0, 1) := by decide +kernel
theorem dX4_area_24 : decode cX4_area 24 = .ok (.lreturn, 1) := by decide +kernel
theorem dX4_area_25 : decode cX4_area 25 = .ok (.lconst 0, 1) := by decide +kernel
theorem dX4_area_26 : decode cX4_area 26 = .ok (.lstore_n 2, 1) := by decide +kernel
theorem dX4_area_27 : decode cX4_area 27 = .ok (.iconst 0, 1) := by decide +kernel
theorem dX4_area_28 : decode cX4_area 28 = .ok (.istore 4, 2) := by decide +kernel
theorem dX4_area_30 : decode cX4_area 30 = .ok (.iload 4, 2) := by decide +kernel
theorem dX4_area_32 : decode cX4_area 32 = .ok (.aload_n 0, 1) := by decide +kernel
theorem dX4_area_33 : decode cX4_area 33 = .ok (.getfield 17, 3) := by decide +kernel
theorem dX4_area_36 : decode cX4_area 36 = .ok (.iload_n 1, 1) := by decide +kernel
theorem dX4_area_37 : decode cX4_area 37 = .ok (.iaload, 1) := by decide +kernel
theorem dX4_area_38 : decode cX4_area 38 = .ok (.if_icmp .ge 63, 3) := by decide +kernel
theorem dX4_area_41 : decode cX4_area 41 = .ok (.lload_n 2, 1) := by decide +kernel
theorem dX4_area_42 : decode cX4_area 42 = .ok (.aload_n 0, 1) := by decide +kernel
theorem dX4_area_43 : decode cX4_area 43 = .ok (.getfield 20, 3) := by decide +kernel
theorem dX4_area_46 : decode cX4_area 46 = .ok (.aload_n 0, 1) := by decide +kernel
theorem dX4_area_47 : decode cX4_area 47 = .ok (.iload_n 1, 1) := by decide +kernel
theorem dX4_area_48 : decode cX4_area 48 = .ok (.iload 4, 2) := by decide +kernel
theorem dX4_area_50 : decode cX4_area 50 = .ok (.invokevirtual 81, 3) := by decide +kernel
theorem dX4_area_53 : decode cX4_area 53 = .ok (.laload, 1) := by decide +kernel
theorem dX4_area_54 : decode cX4_area 54 = .ok (.aload_n 0, 1) := by decide +kernel
theorem dX4_area_55 : decode cX4_area 55 = .ok (.getfield 24, 3) := by decide +kernel
theorem dX4_area_58 : decode cX4_area 58 = .ok (.aload_n 0, 1) := by decide +kernel
theorem dX4_area_59 : decode cX4_area 59 = .ok (.iload_n 1, 1) := by decide +kernel
theorem dX4_area_60 : decode cX4_area 60 = .ok (.iload 4, 2) := by decide +kernel
theorem dX4_area_62 : decode cX4_area 62 = .ok (.invokevirtual 81, 3) := by decide +kernel
theorem dX4_area_65 : decode cX4_area 65 = .ok (.laload, 1) := by decide +kernel
theorem dX4_area_66 : decode cX4_area 66 = .ok (.aload_n 0, 1) := by decide +kernel
theorem dX4_area_67 : decode cX4_area 67 = .ok (.getfield 20, 3) := by decide +kernel
theorem dX4_area_70 : decode cX4_area 70 = .ok (.aload_n 0, 1) := by decide +kernel
theorem dX4_area_71 : decode cX4_area 71 = .ok (.iload_n 1, 1) := by decide +kernel
theorem dX4_area_72 : decode cX4_area 72 = .ok (.iload 4, 2) := by decide +kernel
theorem dX4_area_74 : decode cX4_area 74 = .ok (.invokevirtual 85, 3) := by decide +kernel
theorem dX4_area_77 : decode cX4_area 77 = .ok (.laload, 1) := by decide +kernel
theorem dX4_area_78 : decode cX4_area 78 = .ok (.aload_n 0, 1) := by decide +kernel
theorem dX4_area_79 : decode cX4_area 79 = .ok (.getfield 24, 3) := by decide +kernel
theorem dX4_area_82 : decode cX4_area 82 = .ok (.aload_n 0, 1) := by decide +kernel
theorem dX4_area_83 : decode cX4_area 83 = .ok (.iload_n 1, 1) := by decide +kernel
theorem dX4_area_84 : decode cX4_area 84 = .ok (.iload 4, 2) := by decide +kernel
theorem dX4_area_86 : decode cX4_area 86 = .ok (.invokevirtual 85, 3) := by decide +kernel
theorem dX4_area_89 : decode cX4_area 89 = .ok (.laload, 1) := by decide +kernel
theorem dX4_area_90 : decode cX4_area 90 = .ok (.invokestatic 65, 3) := by decide +kernel
theorem dX4_area_93 : decode cX4_area 93 = .ok (.ladd, 1) := by decide +kernel
theorem dX4_area_94 : decode cX4_area 94 = .ok (.lstore_n 2, 1) := by decide +kernel
theorem dX4_area_95 : decode cX4_area 95 = .ok (.iinc 4 1, 3) := by decide +kernel
theorem dX4_area_98 : decode cX4_area 98 = .ok (.goto (-68), 3) := by decide +kernel
theorem dX4_area_101 : decode cX4_area 101 = .ok (.lload_n 2, 1) := by decide +kernel
theorem dX4_area_102 : decode cX4_area 102 = .ok (.lreturn, 1) := by decide +kernel
set_option maxRecDepth 20000 in
theorem ggX4_isIn_X4_from : GoodIn wsX4_isIn wsX4_from := goodIn_r _ [8] (by decide +kernel) (by decide +kernel)
set_option maxRecDepth 20000 in
theorem gX4_isIn_X4_from : GoodIn wsX4_isIn (wsV RX4 81 RX4 yX4_from wsX4_from) := goodIn_app (goodIn_of _ (by decide +kernel)) ggX4_isIn_X4_from
theorem dX4_isIn_0 : decode cX4_isIn 0 = .ok (.iconst 1, 1) := by decide +kernel
theorem dX4_isIn_1 : decode cX4_isIn 1 = .ok (.istore 6, 2) := by decide +kernel
theorem dX4_isIn_3 : decode cX4_isIn 3 = .ok (.iconst 1, 1) := by decide +kernel
theorem dX4_isIn_4 : decode cX4_isIn 4 = .ok (.istore 7, 2) := by decide +kernel
theorem dX4_isIn_6 : decode cX4_isIn 6 = .ok (.iconst 1, 1) := by decide +kernel
theorem dX4_isIn_7 : decode cX4_isIn 7 = .ok (.istore 8, 2) := by decide +kernel
theorem dX4_isIn_9 : decode cX4_isIn 9 = .ok (.iconst 1, 1) := by decide +kernel
theorem dX4_isIn_10 : decode cX4_isIn 10 = .ok (.istore 9, 2) := by decide +kernel
theorem dX4_isIn_12 : decode cX4_isIn 12 = .ok (.iconst 0, 1) := by decide +kernel
theorem dX4_isIn_13 : decode cX4_isIn 13 = .ok (.istore 10, 2) := by decide +kernel
theorem dX4_isIn_15 : decode cX4_isIn 15 = .ok (.iload 10, 2) := by decide +kernel
theorem dX4_isIn_17 : decode cX4_isIn 17 = .ok (.aload_n 0, 1) := by decide +kernel
theorem dX4_isIn_18 : decode cX4_isIn 18 = .ok (.getfield 17, 3) := by decide +kernel
theorem dX4_isIn_21 : decode cX4_isIn 21 = .ok (.iload_n 1, 1) := by decide +kernel
theorem dX4_isIn_22 : decode cX4_isIn 22 = .ok (.iaload, 1) := by decide +kernel
theorem dX4_isIn_23 : decode cX4_isIn 23 = .ok (.if_icmp .ge 120, 3) := by decide +kernel
theorem dX4_isIn_26 : decode cX4_isIn 26 = .ok (.aload_n 0, 1) := by decide +kernel
theorem dX4_isIn_27 : decode cX4_isIn 27 = .ok (.iload_n 1, 1) := by decide +kernel
theorem dX4_isIn_28 : decode cX4_isIn 28 = .ok (.iload 10, 2) := by decide +kernel
theorem dX4_isIn_30 : decode cX4_isIn 30 = .ok (.invokevirtual 81, 3) := by decide +kernel
theorem dX4_isIn_33 : decode cX4_isIn 33 = .ok (.istore 11, 2) := by decide +kernel
theorem dX4_isIn_35 : decode cX4_isIn 35 = .ok (.iload 6, 2) := by decide +kernel
theorem dX4_isIn_37 : decode cX4_isIn 37 = .ok (.ifCond .eq 20, 3) := by decide +kernel
theorem dX4_isIn_40 : decode cX4_isIn 40 = .ok (.aload_n 0, 1) := by decide +kernel
theorem dX4_isIn_41 : decode cX4_isIn 41 = .ok (.getfield 20, 3) := by decide +kernel
theorem dX4_isIn_44 : decode cX4_isIn 44 = .ok (.iload 11, 2) := by decide +kernel
theorem dX4_isIn_46 : decode cX4_isIn 46 = .ok (.laload, 1) := by decide +kernel
theorem dX4_isIn_47 : decode cX4_isIn 47 = .ok (.iload_n 2, 1) := by decide +kernel
theorem dX4_isIn_48 : decode cX4_isIn 48 = .ok (.i2l, 1) := by decide +kernel
theorem dX4_isIn_49 : decode cX4_isIn 49 = .ok (.lcmp, 1) := by decide +kernel
theorem dX4_isIn_50 : decode cX4_isIn 50 = .ok (.ifCond .ge 7, 3) := by decide +kernel
theorem dX4_isIn_53 : decode cX4_isIn 53 = .ok (.iconst 1, 1) := by decide +kernel
theorem dX4_isIn_54 : decode cX4_isIn 54 = .ok (.goto 4, 3) := by decide +kernel
theorem dX4_isIn_57 : decode cX4_isIn 57 = .ok (.iconst 0, 1) := by decide +kernel
theorem dX4_isIn_58 : decode cX4_isIn 58 = .ok (.istore 6, 2) := by decide +kernel
theorem dX4_isIn_60 : decode cX4_isIn 60 = .ok (.iload 7, 2) := by decide +kernel
theorem dX4_isIn_62 : decode cX4_isIn 62 = .ok (.ifCond .eq 21, 3) := by decide +kernel
theorem dX4_isIn_65 : decode cX4_isIn 65 = .ok (.aload_n 0, 1) := by decide +kernel
theorem dX4_isIn_66 : decode cX4_isIn 66 = .ok (.getfield 20, 3) := by decide +kernel
theorem dX4_isIn_69 : decode cX4_isIn 69 = .ok (.iload 11, 2) := by decide +kernel
theorem dX4_isIn_71 : decode cX4_isIn 71 = .ok (.laload, 1) := by decide +kernel
theorem dX4_isIn_72 : decode cX4_isIn 72 = .ok (.iload 4, 2) := by decide +kernel
theorem dX4_isIn_74 : decode cX4_isIn 74 = .ok (.i2l, 1) := by decide +kernel
theorem dX4_isIn_75 : decode cX4_isIn 75 = .ok (.lcmp, 1) := by decide +kernel
theorem dX4_isIn_76 : decode cX4_isIn 76 = .ok (.ifCond .le 7, 3) := by decide +kernel
theorem dX4_isIn_79 : decode cX4_isIn 79 = .ok (.iconst 1, 1) := by decide +kernel
theorem dX4_isIn_80 : decode cX4_isIn 80 = .ok (.goto 4, 3) := by decide +kernel
theorem dX4_isIn_83 : decode cX4_isIn 83 = .ok (.iconst 0, 1) := by decide +kernel
theorem dX4_isIn_84 : decode cX4_isIn 84 = .ok (.istore 7, 2) := by decide +kernel
theorem dX4_isIn_86 : decode cX4_isIn 86 = .ok (.iload 8, 2) := by decide +kernel
theorem dX4_isIn_88 : decode cX4_isIn 88 = .ok (.ifCond .eq 20, 3) := by decide +kernel
theorem dX4_isIn_91 : decode cX4_isIn 91 = .ok (.aload_n 0, 1) := by decide +kernel
theorem dX4_isIn_92 : decode cX4_isIn 92 = .ok (.getfield 24, 3) := by decide +kernel
theorem dX4_isIn_95 : decode cX4_isIn 95 = .ok (.iload 11, 2) := by decide +kernel
theorem dX4_isIn_97 : decode cX4_isIn 97 = .ok (.laload, 1) := by decide +kernel
theorem dX4_isIn_98 : decode cX4_isIn 98 = .ok (.iload_n 3, 1) := by decide +kernel
theorem dX4_isIn_99 : decode cX4_isIn 99 = .ok (.i2l, 1) := by decide +kernel
theorem dX4_isIn_100 : decode cX4_isIn 100 = .ok (.lcmp, 1) := by decide +kernel
theorem dX4_isIn_101 : decode cX4_isIn 101 = .ok (.ifCond .ge 7, 3) := by decide +kernel
theorem dX4_isIn_104 : decode cX4_isIn 104 = .ok (.iconst 1, 1) := by decide +kernel
theorem dX4_isIn_105 : decode cX4_isIn 105 = .ok (.goto 4, 3) := by decide +kernel
theorem dX4_isIn_108 : decode cX4_isIn 108 = .ok (.iconst 0, 1) := by decide +kernel
theorem dX4_isIn_109 : decode cX4_isIn 109 = .ok (.istore 8, 2) := by decide +kernel
theorem dX4_isIn_111 : decode cX4_isIn 111 = .ok (.iload 9, 2) := by decide +kernel
theorem dX4_isIn_113 : decode cX4_isIn 113 = .ok (.ifCond .eq 21, 3) := by decide +kernel
theorem dX4_isIn_116 : decode cX4_isIn 116 = .ok (.aload_n 0, 1) := by decide +kernel
theorem dX4_isIn_117 : decode cX4_isIn 117 = .ok (.getfield 24, 3) := by decide +kernel
theorem dX4_isIn_120 : decode cX4_isIn 120 = .ok (.iload 11, 2) := by decide +kernel
theorem dX4_isIn_122 : decode cX4_isIn 122 = .ok (.laload, 1) := by decide +kernel
theorem dX4_isIn_123 : decode cX4_isIn 123 = .ok (.iload 5, 2) := by decide +kernel
theorem dX4_isIn_125 : decode cX4_isIn 125 = .ok (.i2l, 1) := by decide +kernel
theorem dX4_isIn_126 : decode cX4_isIn 126 = .ok (.lcmp, 1) := by decide +kernel
theorem dX4_isIn_127 : decode cX4_isIn 127 = .ok (.ifCond .le 7, 3) := by decide +kernel
theorem dX4_isIn_130 : decode cX4_isIn 130 = .ok (.iconst 1, 1) := by decide +kernel
theorem dX4_isIn_131 : decode cX4_isIn 131 = .ok (.goto 4, 3) := by decide +kernel
theorem dX4_isIn_134 : decode cX4_isIn 134 = .ok (.iconst 0, 1) := by decide +kernel
theorem dX4_isIn_135 : decode cX4_isIn 135 = .ok (.istore 9, 2) := by decide +kernel
theorem dX4_isIn_137 : decode cX4_isIn 137 = .ok (.iinc 10 1, 3) := by decide +kernel
theorem dX4_isIn_140 : decode cX4_isIn 140 = .ok (.goto (-125), 3) := by decide +kernel
theorem dX4_isIn_143 : decode cX4_isIn 143 = .ok (.iload 6, 2) := by decide +kernel
theorem dX4_isIn_145 : decode cX4_isIn 145 = .ok (.ifCond .ne 22, 3) := by decide +kernel
theorem dX4_isIn_148 : decode cX4_isIn 148 = .ok (.iload 7, 2) := by decide +kernel
theorem dX4_isIn_150 : decode cX4_isIn 150 = .ok (.ifCond .ne 17, 3) := by decide +kernel
theorem dX4_isIn_153 : decode cX4_isIn 153 = .ok (.iload 8, 2) := by decide +kernel
theorem dX4_isIn_155 : decode cX4_isIn 155 = .ok (.ifCond .ne 12, 3) := by decide +kernel
theorem dX4_isIn_158 : decode cX4_isIn 158 = .ok (.iload 9, 2) := by decide +kernel
theorem dX4_isIn_160 : decode cX4_isIn 160 = .ok (.ifCond .ne 7, 3) := by decide +kernel
theorem dX4_isIn_163 : decode cX4_isIn 163 = .ok (.iconst 1, 1) := by decide +kernel
theorem dX4_isIn_164 : decode cX4_isIn 164 = .ok (.goto 4, 3) := by decide +kernel
theorem dX4_isIn_167 : decode cX4_isIn 167 = .ok (.iconst 0, 1) := by decide +kernel
theorem dX4_isIn_168 : decode cX4_isIn 168 = .ok (.ireturn, 1) := by decide +kernel
set_option maxRecDepth 20000 in
theorem ggX4_boxed_X4_isRight : GoodIn wsX4_boxed wsX4_isRight := goodIn_r _ [9, 10, 11, 12, 8, 13, 3, 14, 15, 16, 17, 18, 1, 19, 20, 21, 22, 23, 24, 25, 26, 27, 28, 29, 30, 31, 32, 33, 34, 35, 36, 37, 38, 39, 40, 41, 42, 43, 44, 45, 46, 47, 48, 49, 50, 51, 52, 53, 54, 55, 56, 57, 62, 63, 64, 65, 66, 67, 68, 69, 70, 71, 72, 73, 74, 75, 76] (by decide +kernel) (by decide +kernel)
set_option maxRecDepth 20000 in
theorem gX4_boxed_X4_isRight : GoodIn wsX4_boxed (wsV RX4 105 RX4 yX4_isRight wsX4_isRight) := goodIn_app (goodIn_of _ (by decide +kernel)) ggX4_boxed_X4_isRight
set_option maxRecDepth 20000 in
theorem ggX4_boxed_X4_isIn : GoodIn wsX4_boxed wsX4_isIn := goodIn_r _ [61, 19, 28, 29, 30, 31, 32, 8, 33, 62, 63, 64, 65, 66, 67, 68, 69, 70, 71, 72, 73, 74, 75, 76] (by decide +kernel) (by decide +kernel)
set_option maxRecDepth 20000 in
theorem gX4_boxed_X4_isIn : GoodIn wsX4_boxed (wsV RX4 153 RX4 yX4_isIn wsX4_isIn) := goodIn_app (goodIn_of _ (by decide +kernel)) ggX4_boxed_X4_isIn
theorem dX4_boxed_0 : decode cX4_boxed 0 = .ok (.aload_n 0, 1) := by decide +kernel
theorem dX4_boxed_1 : decode cX4_boxed 1 = .ok (.iconst 0, 1) := by decide +kernel
theorem dX4_boxed_2 : decode cX4_boxed 2 = .ok (.putfield 1, 3) := by decide +kernel
theorem dX4_boxed_5 : decode cX4_boxed 5 = .ok (.aload_n 0, 1) := by decide +kernel
theorem dX4_boxed_6 : decode cX4_boxed 6 = .ok (.iconst 0, 1) := by decide +kernel
theorem dX4_boxed_7 : decode cX4_boxed 7 = .ok (.putfield 150, 3) := by decide +kernel
theorem dX4_boxed_10 : decode cX4_boxed 10 = .ok (.iconst 0, 1) := by decide +kernel
theorem dX4_boxed_11 : decode cX4_boxed 11 = .ok (.istore 5, 2) := by decide +kernel
theorem dX4_boxed_13 : decode cX4_boxed 13 = .ok (.iload 5, 2) := by decide +kernel
theorem dX4_boxed_15 : decode cX4_boxed 15 = .ok (.aload_n 0, 1) := by decide +kernel
theorem dX4_boxed_16 : decode cX4_boxed 16 = .ok (.getfield 40, 3) := by decide +kernel
theorem dX4_boxed_19 : decode cX4_boxed 19 = .ok (.if_icmp .ge 67, 3) := by decide +kernel
theorem dX4_boxed_22 : decode cX4_boxed 22 = .ok (.iload_n 1, 1) := by decide +kernel
theorem dX4_boxed_23 : decode cX4_boxed 23 = .ok (.iload_n 3, 1) := by decide +kernel
theorem dX4_boxed_24 : decode cX4_boxed 24 = .ok (.if_icmp .gt 62, 3) := by decide +kernel
theorem dX4_boxed_27 : decode cX4_boxed 27 = .ok (.iload_n 2, 1) := by decide +kernel
theorem dX4_boxed_28 : decode cX4_boxed 28 = .ok (.iload 4, 2) := by decide +kernel
theorem dX4_boxed_30 : decode cX4_boxed 30 = .ok (.if_icmp .gt 56, 3) := by decide +kernel
theorem dX4_boxed_33 : decode cX4_boxed 33 = .ok (.aload_n 0, 1) := by decide +kernel
theorem dX4_boxed_34 : decode cX4_boxed 34 = .ok (.iload 5, 2) := by decide +kernel
theorem dX4_boxed_36 : decode cX4_boxed 36 = .ok (.invokevirtual 105, 3) := by decide +kernel
theorem dX4_boxed_39 : decode cX4_boxed 39 = .ok (.ifCond .eq 41, 3) := by decide +kernel
theorem dX4_boxed_42 : decode cX4_boxed 42 = .ok (.aload_n 0, 1) := by decide +kernel
theorem dX4_boxed_43 : decode cX4_boxed 43 = .ok (.iload 5, 2) := by decide +kernel
theorem dX4_boxed_45 : decode cX4_boxed 45 = .ok (.iload_n 1, 1) := by decide +kernel
theorem dX4_boxed_46 : decode cX4_boxed 46 = .ok (.iload_n 2, 1) := by decide +kernel
theorem dX4_boxed_47 : decode cX4_boxed 47 = .ok (.iload_n 3, 1) := by decide +kernel
theorem dX4_boxed_48 : decode cX4_boxed 48 = .ok (.iload 4, 2) := by decide +kernel
theorem dX4_boxed_50 : decode cX4_boxed 50 = .ok (.invokevirtual 153, 3) := by decide +kernel
theorem dX4_boxed_53 : decode cX4_boxed 53 = .ok (.ifCond .ne 6, 3) := by decide +kernel
theorem dX4_boxed_56 : decode cX4_boxed 56 = .ok (.goto 24, 3) := by decide +kernel
theorem dX4_boxed_59 : decode cX4_boxed 59 = .ok (.aload_n 0, 1) := by decide +kernel
theorem dX4_boxed_60 : decode cX4_boxed 60 = .ok (.getfield 27, 3) := by decide +kernel
theorem dX4_boxed_63 : decode cX4_boxed 63 = .ok (.aload_n 0, 1) := by decide +kernel
theorem dX4_boxed_64 : decode cX4_boxed 64 = .ok (.getfield 150, 3) := by decide +kernel
theorem dX4_boxed_67 : decode cX4_boxed 67 = .ok (.iload 5, 2) := by decide +kernel
theorem dX4_boxed_69 : decode cX4_boxed 69 = .ok (.iastore, 1) := by decide +kernel
theorem dX4_boxed_70 : decode cX4_boxed 70 = .ok (.aload_n 0, 1) := by decide +kernel
theorem dX4_boxed_71 : decode cX4_boxed 71 = .ok (.dup, 1) := by decide +kernel
theorem dX4_boxed_72 : decode cX4_boxed 72 = .ok (.getfield 150, 3) := by decide +kernel
theorem dX4_boxed_75 : decode cX4_boxed 75 = .ok (.iconst 1, 1) := by decide +kernel
theorem dX4_boxed_76 : decode cX4_boxed 76 = .ok (.iadd, 1) := by decide +kernel
theorem dX4_boxed_77 : decode cX4_boxed 77 = .ok (.putfield 150, 3) := by decide +kernel
theorem dX4_boxed_80 : decode cX4_boxed 80 = .ok (.iinc 5 1, 3) := by decide +kernel
theorem dX4_boxed_83 : decode cX4_boxed 83 = .ok (.goto (-70), 3) := by decide +kernel
theorem dX4_boxed_86 : decode cX4_boxed 86 = .ok (.aload_n 0, 1) := by decide +kernel
theorem dX4_boxed_87 : decode cX4_boxed 87 = .ok (.getfield 150, 3) := by decide +kernel
theorem dX4_boxed_90 : decode cX4_boxed 90 = .ok (.ireturn, 1) := by decide +kernel
theorem dX4_found_0 : decode cX4_found 0 = .ok (.aload_n 0, 1) := by decide +kernel
theorem dX4_found_1 : decode cX4_found 1 = .ok (.iload_n 1, 1) := by decide +kernel
theorem dX4_found_2 : decode cX4_found 2 = .ok (.ifCond .lt 15, 3) := by decide +kernel
theorem dX4_found_5 : decode cX4_found 5 = .ok (.iload_n 1, 1) := by decide +kernel
theorem dX4_found_6 : decode cX4_found 6 = .ok (.aload_n 0, 1) := by decide +kernel
theorem dX4_found_7 : decode cX4_found 7 = .ok (.getfield 150, 3) := by decide +kernel
theorem dX4_found_10 : decode cX4_found 10 = .ok (.if_icmp .ge 7, 3) := by decide +kernel
theorem dX4_found_13 : decode cX4_found 13 = .ok (.iconst 0, 1) := by decide +kernel
theorem dX4_found_14 : decode cX4_found 14 = .ok (.goto 4, 3) := by decide +kernel
theorem dX4_found_17 : decode cX4_found 17 = .ok (.iconst 1, 1) := by decide +kernel
theorem dX4_found_18 : decode cX4_found 18 = .ok (.putfield 1, 3) := by decide +kernel
theorem dX4_found_21 : decode cX4_found 21 = .ok (.aload_n 0, 1) := by decide +kernel
theorem dX4_found_22 : decode cX4_found 22 = .ok (.getfield 1, 3) := by decide +kernel
theorem dX4_found_25 : decode cX4_found 25 = .ok (.ifCond .ne 12, 3) := by decide +kernel
theorem dX4_found_28 : decode cX4_found 28 = .ok (.aload_n 0, 1) := by decide +kernel
theorem dX4_found_29 : decode cX4_found 29 = .ok (.getfield 27, 3) := by decide +kernel
theorem dX4_found_32 : decode cX4_found 32 = .ok (.iload_n 1, 1) := by decide +kernel
theorem dX4_found_33 : decode cX4_found 33 = .ok (.iaload, 1) := by decide +kernel
theorem dX4_found_34 : decode cX4_found 34 = .ok (.goto 4, 3) := by decide +kernel
theorem dX4_found_37 : decode cX4_found 37 = .ok (.iconst 0, 1) := by decide +kernel
theorem dX4_found_38 : decode cX4_found 38 = .ok (.ireturn, 1) := by decide +kernel
theorem dJx00060_init_da8c8_0 : decode cJx00060_init_da8c8 0 = .ok (.aload_n 0, 1) := by decide +kernel
theorem dJx00060_init_da8c8_1 : decode cJx00060_init_da8c8 1 = .ok (.invokespecial 1, 3) := by decide +kernel
theorem dJx00060_init_da8c8_4 : decode cJx00060_init_da8c8 4 = .ok (.return_, 1) := by decide +kernel
theorem dJ9_max_7cf53_0 : decode cJ9_max_7cf53 0 = .ok (.iload_n 0, 1) := by decide +kernel
theorem dJ9_max_7cf53_1 : decode cJ9_max_7cf53 1 = .ok (.iload_n 1, 1) := by decide +kernel
theorem dJ9_max_7cf53_2 : decode cJ9_max_7cf53 2 = .ok (.if_icmp .lt 7, 3) := by decide +kernel
theorem dJ9_max_7cf53_5 : decode cJ9_max_7cf53 5 = .ok (.iload_n 0, 1) := by decide +kernel
theorem dJ9_max_7cf53_6 : decode cJ9_max_7cf53 6 = .ok (.goto 4, 3) := by decide +kernel
theorem dJ9_max_7cf53_9 : decode cJ9_max_7cf53 9 = .ok (.iload_n 1, 1) := by decide +kernel
theorem dJ9_max_7cf53_10 : decode cJ9_max_7cf53 10 = .ok (.ireturn, 1) := by decide +kernel
theorem dJ9_min_7cf53_0 : decode cJ9_min_7cf53 0 = .ok (.iload_n 0, 1) := by decide +kernel
theorem dJ9_min_7cf53_1 : decode cJ9_min_7cf53 1 = .ok (.iload_n 1, 1) := by decide +kernel
theorem dJ9_min_7cf53_2 : decode cJ9_min_7cf53 2 = .ok (.if_icmp .gt 7, 3) := by decide +kernel
theorem dJ9_min_7cf53_5 : decode cJ9_min_7cf53 5 = .ok (.iload_n 0, 1) := by decide +kernel
theorem dJ9_min_7cf53_6 : decode cJ9_min_7cf53 6 = .ok (.goto 4, 3) := by decide +kernel
theorem dJ9_min_7cf53_9 : decode cJ9_min_7cf53 9 = .ok (.iload_n 1, 1) := by decide +kernel
theorem dJ9_min_7cf53_10 : decode cJ9_min_7cf53 10 = .ok (.ireturn, 1) := by decide +kernel
set_option maxRecDepth 20000 in
theorem ggL_found_X3_found : GoodIn wsL_found wsX3_found := goodIn_r _ [5, 6, 7, 8, 9, 10, 11, 12, 13, 14, 15, 16, 17, 18, 19, 20, 21, 22, 23, 24, 25, 26] (by decide +kernel) (by decide +kernel)
set_option maxRecDepth 20000 in
theorem gL_found_X3_found : GoodIn wsL_found (wsV RL 7 RX3 yX3_found wsX3_found) := goodIn_app (goodIn_of _ (by decide +kernel)) ggL_found_X3_found
