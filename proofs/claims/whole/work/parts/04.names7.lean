set_option maxRecDepth 20000 in
theorem ggX7_init_X4_init : GoodIn wsX7_init wsX4_init := goodIn_r _ [31, 32, 2, 3, 16, 33, 34, 35, 65, 66, 67, 68] (by decide +kernel) (by decide +kernel)
set_option maxRecDepth 20000 in
theorem gX7_init_X4_init_n9 : GoodIn wsX7_init (wsX4_init) := ggX7_init_X4_init
set_option maxRecDepth 20000 in
theorem ggX7_init_X5_init : GoodIn wsX7_init wsX5_init := goodIn_r _ [37, 38, 2, 3, 16, 39, 40, 41, 42, 78, 79, 80, 81, 82] (by decide +kernel) (by decide +kernel)
set_option maxRecDepth 20000 in
theorem gX7_init_X5_init_n18 : GoodIn wsX7_init (wsX5_init) := ggX7_init_X5_init
set_option maxRecDepth 20000 in
theorem ggX7_init_X6_init : GoodIn wsX7_init wsX6_init := goodIn_r _ [44, 45, 2, 3, 16, 46, 47, 83, 84, 85] (by decide +kernel) (by decide +kernel)
set_option maxRecDepth 20000 in
theorem gX7_init_X6_init_n25 : GoodIn wsX7_init (wsX6_init) := ggX7_init_X6_init
set_option maxRecDepth 20000 in
theorem ggX7_init_X3_init : GoodIn wsX7_init wsX3_init := goodIn_r _ [49, 50, 2, 3, 16, 51, 52, 53, 54, 86, 87, 88, 89, 90] (by decide +kernel) (by decide +kernel)
set_option maxRecDepth 20000 in
theorem gX7_init_X3_init_n36 : GoodIn wsX7_init (wsX3_init) := ggX7_init_X3_init
set_option maxRecDepth 20000 in
theorem ggX7_init_X2_init : GoodIn wsX7_init wsX2_init := goodIn_r _ [56, 57, 2, 3, 16, 58, 59, 60, 91, 92, 93] (by decide +kernel) (by decide +kernel)
set_option maxRecDepth 20000 in
theorem gX7_init_X2_init_n43 : GoodIn wsX7_init (wsX2_init) := ggX7_init_X2_init
set_option maxRecDepth 20000 in
theorem ggX7_init_X7_isWithin : GoodIn wsX7_init wsX7_isWithin := goodIn_r _ [64] (by decide +kernel) (by decide +kernel)
set_option maxRecDepth 20000 in
theorem gX7_init_X7_isWithin : GoodIn wsX7_init (va_wsS RX7 56 yX7_isWithin wsX7_isWithin) := goodIn_app (goodIn_of _ (by decide +kernel)) ggX7_init_X7_isWithin
theorem dX7_init_0 : decode cX7_init 0 = .ok (.aload_n 0, 1) := by decide +kernel
theorem dX7_init_1 : decode cX7_init 1 = .ok (.invokespecial 1, 3) := by decide +kernel
theorem dX7_init_4 : decode cX7_init 4 = .ok (.aload_n 0, 1) := by decide +kernel
theorem dX7_init_5 : decode cX7_init 5 = .ok (.new 7, 3) := by decide +kernel
theorem dX7_init_8 : decode cX7_init 8 = .ok (.dup, 1) := by decide +kernel
theorem dX7_init_9 : decode cX7_init 9 = .ok (.invokespecial 9, 3) := by decide +kernel
theorem dX7_init_12 : decode cX7_init 12 = .ok (.putfield 10, 3) := by decide +kernel
theorem dX7_init_15 : decode cX7_init 15 = .ok (.aload_n 0, 1) := by decide +kernel
theorem dX7_init_16 : decode cX7_init 16 = .ok (.new 16, 3) := by decide +kernel
theorem dX7_init_19 : decode cX7_init 19 = .ok (.dup, 1) := by decide +kernel
theorem dX7_init_20 : decode cX7_init 20 = .ok (.invokespecial 18, 3) := by decide +kernel
theorem dX7_init_23 : decode cX7_init 23 = .ok (.putfield 19, 3) := by decide +kernel
theorem dX7_init_26 : decode cX7_init 26 = .ok (.aload_n 0, 1) := by decide +kernel
theorem dX7_init_27 : decode cX7_init 27 = .ok (.new 23, 3) := by decide +kernel
theorem dX7_init_30 : decode cX7_init 30 = .ok (.dup, 1) := by decide +kernel
theorem dX7_init_31 : decode cX7_init 31 = .ok (.invokespecial 25, 3) := by decide +kernel
theorem dX7_init_34 : decode cX7_init 34 = .ok (.putfield 26, 3) := by decide +kernel
theorem dX7_init_37 : decode cX7_init 37 = .ok (.aload_n 0, 1) := by decide +kernel
theorem dX7_init_38 : decode cX7_init 38 = .ok (.bipush 40, 2) := by decide +kernel
theorem dX7_init_40 : decode cX7_init 40 = .ok (.newarray .int, 2) := by decide +kernel
theorem dX7_init_42 : decode cX7_init 42 = .ok (.putfield 30, 3) := by decide +kernel
theorem dX7_init_45 : decode cX7_init 45 = .ok (.aload_n 0, 1) := by decide +kernel
theorem dX7_init_46 : decode cX7_init 46 = .ok (.new 34, 3) := by decide +kernel
theorem dX7_init_49 : decode cX7_init 49 = .ok (.dup, 1) := by decide +kernel
theorem dX7_init_50 : decode cX7_init 50 = .ok (.invokespecial 36, 3) := by decide +kernel
theorem dX7_init_53 : decode cX7_init 53 = .ok (.putfield 37, 3) := by decide +kernel
theorem dX7_init_56 : decode cX7_init 56 = .ok (.aload_n 0, 1) := by decide +kernel
theorem dX7_init_57 : decode cX7_init 57 = .ok (.new 41, 3) := by decide +kernel
theorem dX7_init_60 : decode cX7_init 60 = .ok (.dup, 1) := by decide +kernel
theorem dX7_init_61 : decode cX7_init 61 = .ok (.invokespecial 43, 3) := by decide +kernel
theorem dX7_init_64 : decode cX7_init 64 = .ok (.putfield 44, 3) := by decide +kernel
theorem dX7_init_67 : decode cX7_init 67 = .ok (.aload_n 0, 1) := by decide +kernel
theorem dX7_init_68 : decode cX7_init 68 = .ok (.bipush 20, 2) := by decide +kernel
theorem dX7_init_70 : decode cX7_init 70 = .ok (.anewarray 48, 3) := by decide +kernel
theorem dX7_init_73 : decode cX7_init 73 = .ok (.putfield 50, 3) := by decide +kernel
theorem dX7_init_76 : decode cX7_init 76 = .ok (.aload_n 0, 1) := by decide +kernel
theorem dX7_init_77 : decode cX7_init 77 = .ok (.lload_n 1, 1) := by decide +kernel
theorem dX7_init_78 : decode cX7_init 78 = .ok (.lconst 1, 1) := by decide +kernel
theorem dX7_init_79 : decode cX7_init 79 = .ok (.ldc2_w 54, 3) := by decide +kernel
theorem dX7_init_82 : decode cX7_init 82 = .ok (.invokestatic 56, 3) := by decide +kernel
theorem dX7_init_85 : decode cX7_init 85 = .ok (.ifCond .eq 8, 3) := by decide +kernel
theorem dX7_init_88 : decode cX7_init 88 = .ok (.lload_n 1, 1) := by decide +kernel
theorem dX7_init_89 : decode cX7_init 89 = .ok (.l2i, 1) := by decide +kernel
theorem dX7_init_90 : decode cX7_init 90 = .ok (.goto 6, 3) := by decide +kernel
theorem dX7_init_93 : decode cX7_init 93 = .ok (.sipush 4096, 3) := by decide +kernel
theorem dX7_init_96 : decode cX7_init 96 = .ok (.putfield 60, 3) := by decide +kernel
theorem dX7_init_99 : decode cX7_init 99 = .ok (.return_, 1) := by decide +kernel
set_option maxRecDepth 20000 in
theorem ggX7_region_X7_isWithin : GoodIn wsX7_region wsX7_isWithin := goodIn_r _ [7] (by decide +kernel) (by decide +kernel)
set_option maxRecDepth 20000 in
theorem gX7_region_X7_isWithin : GoodIn wsX7_region (va_wsS RX7 56 yX7_isWithin wsX7_isWithin) := goodIn_app (goodIn_of _ (by decide +kernel)) ggX7_region_X7_isWithin
set_option maxRecDepth 20000 in
theorem ggX7_region_X4_overlap : GoodIn wsX7_region wsX4_overlap := goodIn_r _ [11, 12, 13, 14, 28, 29, 30, 31] (by decide +kernel) (by decide +kernel)
set_option maxRecDepth 20000 in
theorem gX7_region_X4_overlap_n66 : GoodIn wsX7_region (wsX4_overlap) := ggX7_region_X4_overlap
set_option maxRecDepth 20000 in
theorem ggX7_region_X4_add : GoodIn wsX7_region wsX4_add := goodIn_r _ [17, 12, 14, 13, 18, 28, 29, 30, 31] (by decide +kernel) (by decide +kernel)
set_option maxRecDepth 20000 in
theorem gX7_region_X4_add_n70 : GoodIn wsX7_region (wsX4_add) := ggX7_region_X4_add
theorem dX7_region_0 : decode cX7_region 0 = .ok (.lload_n 3, 1) := by decide +kernel
theorem dX7_region_1 : decode cX7_region 1 = .ok (.lconst 1, 1) := by decide +kernel
theorem dX7_region_2 : decode cX7_region 2 = .ok (.lcmp, 1) := by decide +kernel
theorem dX7_region_3 : decode cX7_region 3 = .ok (.ifCond .lt 25, 3) := by decide +kernel
theorem dX7_region_6 : decode cX7_region 6 = .ok (.lload_n 1, 1) := by decide +kernel
theorem dX7_region_7 : decode cX7_region 7 = .ok (.lconst 0, 1) := by decide +kernel
theorem dX7_region_8 : decode cX7_region 8 = .ok (.lcmp, 1) := by decide +kernel
theorem dX7_region_9 : decode cX7_region 9 = .ok (.ifCond .lt 19, 3) := by decide +kernel
theorem dX7_region_12 : decode cX7_region 12 = .ok (.lload_n 1, 1) := by decide +kernel
theorem dX7_region_13 : decode cX7_region 13 = .ok (.aload_n 0, 1) := by decide +kernel
theorem dX7_region_14 : decode cX7_region 14 = .ok (.getfield 60, 3) := by decide +kernel
theorem dX7_region_17 : decode cX7_region 17 = .ok (.i2l, 1) := by decide +kernel
theorem dX7_region_18 : decode cX7_region 18 = .ok (.lload_n 3, 1) := by decide +kernel
theorem dX7_region_19 : decode cX7_region 19 = .ok (.lsub, 1) := by decide +kernel
theorem dX7_region_20 : decode cX7_region 20 = .ok (.lcmp, 1) := by decide +kernel
theorem dX7_region_21 : decode cX7_region 21 = .ok (.ifCond .gt 7, 3) := by decide +kernel
theorem dX7_region_24 : decode cX7_region 24 = .ok (.iconst 1, 1) := by decide +kernel
theorem dX7_region_25 : decode cX7_region 25 = .ok (.goto 4, 3) := by decide +kernel
theorem dX7_region_28 : decode cX7_region 28 = .ok (.iconst 0, 1) := by decide +kernel
theorem dX7_region_29 : decode cX7_region 29 = .ok (.istore 6, 2) := by decide +kernel
theorem dX7_region_31 : decode cX7_region 31 = .ok (.iload 6, 2) := by decide +kernel
theorem dX7_region_33 : decode cX7_region 33 = .ok (.ifCond .eq 16, 3) := by decide +kernel
theorem dX7_region_36 : decode cX7_region 36 = .ok (.iload 5, 2) := by decide +kernel
theorem dX7_region_38 : decode cX7_region 38 = .ok (.i2l, 1) := by decide +kernel
theorem dX7_region_39 : decode cX7_region 39 = .ok (.lconst 0, 1) := by decide +kernel
theorem dX7_region_40 : decode cX7_region 40 = .ok (.ldc2_w 64, 3) := by decide +kernel
theorem dX7_region_43 : decode cX7_region 43 = .ok (.invokestatic 56, 3) := by decide +kernel
theorem dX7_region_46 : decode cX7_region 46 = .ok (.ifCond .ne 6, 3) := by decide +kernel
theorem dX7_region_49 : decode cX7_region 49 = .ok (.bipush (-2), 2) := by decide +kernel
theorem dX7_region_51 : decode cX7_region 51 = .ok (.ireturn, 1) := by decide +kernel
theorem dX7_region_52 : decode cX7_region 52 = .ok (.lload_n 1, 1) := by decide +kernel
theorem dX7_region_53 : decode cX7_region 53 = .ok (.l2i, 1) := by decide +kernel
theorem dX7_region_54 : decode cX7_region 54 = .ok (.istore 7, 2) := by decide +kernel
theorem dX7_region_56 : decode cX7_region 56 = .ok (.iload 7, 2) := by decide +kernel
theorem dX7_region_58 : decode cX7_region 58 = .ok (.lload_n 3, 1) := by decide +kernel
theorem dX7_region_59 : decode cX7_region 59 = .ok (.l2i, 1) := by decide +kernel
theorem dX7_region_60 : decode cX7_region 60 = .ok (.iadd, 1) := by decide +kernel
theorem dX7_region_61 : decode cX7_region 61 = .ok (.istore 8, 2) := by decide +kernel
theorem dX7_region_63 : decode cX7_region 63 = .ok (.aload_n 0, 1) := by decide +kernel
theorem dX7_region_64 : decode cX7_region 64 = .ok (.getfield 10, 3) := by decide +kernel
theorem dX7_region_67 : decode cX7_region 67 = .ok (.iload 7, 2) := by decide +kernel
theorem dX7_region_69 : decode cX7_region 69 = .ok (.iload 8, 2) := by decide +kernel
theorem dX7_region_71 : decode cX7_region 71 = .ok (.invokevirtual 66, 3) := by decide +kernel
theorem dX7_region_74 : decode cX7_region 74 = .ok (.ifCond .eq 6, 3) := by decide +kernel
theorem dX7_region_77 : decode cX7_region 77 = .ok (.bipush (-3), 2) := by decide +kernel
theorem dX7_region_79 : decode cX7_region 79 = .ok (.ireturn, 1) := by decide +kernel
theorem dX7_region_80 : decode cX7_region 80 = .ok (.aload_n 0, 1) := by decide +kernel
theorem dX7_region_81 : decode cX7_region 81 = .ok (.getfield 10, 3) := by decide +kernel
theorem dX7_region_84 : decode cX7_region 84 = .ok (.iload 7, 2) := by decide +kernel
theorem dX7_region_86 : decode cX7_region 86 = .ok (.iload 8, 2) := by decide +kernel
theorem dX7_region_88 : decode cX7_region 88 = .ok (.iload 5, 2) := by decide +kernel
theorem dX7_region_90 : decode cX7_region 90 = .ok (.invokevirtual 70, 3) := by decide +kernel
theorem dX7_region_93 : decode cX7_region 93 = .ok (.ireturn, 1) := by decide +kernel
set_option maxRecDepth 20000 in
theorem ggX7_section_X7_isWithin : GoodIn wsX7_section wsX7_isWithin := goodIn_r _ [9] (by decide +kernel) (by decide +kernel)
set_option maxRecDepth 20000 in
theorem gX7_section_X7_isWithin : GoodIn wsX7_section (va_wsS RX7 56 yX7_isWithin wsX7_isWithin) := goodIn_app (goodIn_of _ (by decide +kernel)) ggX7_section_X7_isWithin
set_option maxRecDepth 20000 in
theorem ggX7_section_X5_add : GoodIn wsX7_section wsX5_add := goodIn_r _ [13, 14, 15, 16, 17, 18, 19, 20, 11, 21, 22, 32, 33, 34, 35, 36] (by decide +kernel) (by decide +kernel)
set_option maxRecDepth 20000 in
theorem gX7_section_X5_add_n84 : GoodIn wsX7_section (wsX5_add) := ggX7_section_X5_add
theorem dX7_section_0 : decode cX7_section 0 = .ok (.lload_n 1, 1) := by decide +kernel
theorem dX7_section_1 : decode cX7_section 1 = .ok (.lconst 0, 1) := by decide +kernel
theorem dX7_section_2 : decode cX7_section 2 = .ok (.ldc2_w 54, 3) := by decide +kernel
theorem dX7_section_5 : decode cX7_section 5 = .ok (.invokestatic 56, 3) := by decide +kernel
theorem dX7_section_8 : decode cX7_section 8 = .ok (.ifCond .eq 27, 3) := by decide +kernel
theorem dX7_section_11 : decode cX7_section 11 = .ok (.lload_n 3, 1) := by decide +kernel
theorem dX7_section_12 : decode cX7_section 12 = .ok (.lconst 0, 1) := by decide +kernel
theorem dX7_section_13 : decode cX7_section 13 = .ok (.ldc2_w 54, 3) := by decide +kernel
theorem dX7_section_16 : decode cX7_section 16 = .ok (.invokestatic 56, 3) := by decide +kernel
theorem dX7_section_19 : decode cX7_section 19 = .ok (.ifCond .eq 16, 3) := by decide +kernel
theorem dX7_section_22 : decode cX7_section 22 = .ok (.iload 5, 2) := by decide +kernel
theorem dX7_section_24 : decode cX7_section 24 = .ok (.i2l, 1) := by decide +kernel
theorem dX7_section_25 : decode cX7_section 25 = .ok (.lconst 0, 1) := by decide +kernel
theorem dX7_section_26 : decode cX7_section 26 = .ok (.ldc2_w 64, 3) := by decide +kernel
theorem dX7_section_29 : decode cX7_section 29 = .ok (.invokestatic 56, 3) := by decide +kernel
theorem dX7_section_32 : decode cX7_section 32 = .ok (.ifCond .ne 6, 3) := by decide +kernel
theorem dX7_section_35 : decode cX7_section 35 = .ok (.bipush (-2), 2) := by decide +kernel
theorem dX7_section_37 : decode cX7_section 37 = .ok (.ireturn, 1) := by decide +kernel
theorem dX7_section_38 : decode cX7_section 38 = .ok (.aload_n 0, 1) := by decide +kernel
theorem dX7_section_39 : decode cX7_section 39 = .ok (.getfield 19, 3) := by decide +kernel
theorem dX7_section_42 : decode cX7_section 42 = .ok (.getfield 74, 3) := by decide +kernel
theorem dX7_section_45 : decode cX7_section 45 = .ok (.bipush 40, 2) := by decide +kernel
theorem dX7_section_47 : decode cX7_section 47 = .ok (.if_icmp .lt 6, 3) := by decide +kernel
theorem dX7_section_50 : decode cX7_section 50 = .ok (.bipush (-4), 2) := by decide +kernel
theorem dX7_section_52 : decode cX7_section 52 = .ok (.ireturn, 1) := by decide +kernel
theorem dX7_section_53 : decode cX7_section 53 = .ok (.lload_n 3, 1) := by decide +kernel
theorem dX7_section_54 : decode cX7_section 54 = .ok (.lconst 0, 1) := by decide +kernel
theorem dX7_section_55 : decode cX7_section 55 = .ok (.lcmp, 1) := by decide +kernel
theorem dX7_section_56 : decode cX7_section 56 = .ok (.ifCond .ne 13, 3) := by decide +kernel
theorem dX7_section_59 : decode cX7_section 59 = .ok (.new 77, 3) := by decide +kernel
theorem dX7_section_62 : decode cX7_section 62 = .ok (.dup, 1) := by decide +kernel
theorem dX7_section_63 : decode cX7_section 63 = .ok (.ldc 79, 2) := by decide +kernel
theorem dX7_section_65 : decode cX7_section 65 = .ok (.invokespecial 81, 3) := by decide +kernel
theorem dX7_section_68 : decode cX7_section 68 = .ok (.athrow, 1) := by decide +kernel
theorem dX7_section_69 : decode cX7_section 69 = .ok (.aload_n 0, 1) := by decide +kernel
theorem dX7_section_70 : decode cX7_section 70 = .ok (.getfield 19, 3) := by decide +kernel
theorem dX7_section_73 : decode cX7_section 73 = .ok (.lload_n 1, 1) := by decide +kernel
theorem dX7_section_74 : decode cX7_section 74 = .ok (.l2i, 1) := by decide +kernel
theorem dX7_section_75 : decode cX7_section 75 = .ok (.lload_n 3, 1) := by decide +kernel
theorem dX7_section_76 : decode cX7_section 76 = .ok (.l2i, 1) := by decide +kernel
theorem dX7_section_77 : decode cX7_section 77 = .ok (.iload 5, 2) := by decide +kernel
theorem dX7_section_79 : decode cX7_section 79 = .ok (.invokevirtual 84, 3) := by decide +kernel
theorem dX7_section_82 : decode cX7_section 82 = .ok (.ireturn, 1) := by decide +kernel
set_option maxRecDepth 20000 in
theorem ggX7_place_X6_clear : GoodIn wsX7_place wsX6_clear := goodIn_r _ [8, 9, 59, 60, 61] (by decide +kernel) (by decide +kernel)
set_option maxRecDepth 20000 in
theorem gX7_place_X6_clear_n85 : GoodIn wsX7_place (wsX6_clear) := ggX7_place_X6_clear
set_option maxRecDepth 20000 in
theorem ggX7_place_X7_takeSpaceFor : GoodIn wsX7_place wsX7_takeSpaceFor := goodIn_r _ [14, 2, 15, 1, 16, 17, 18, 19, 20, 21, 6, 22, 23, 9, 24, 25, 26, 27, 28, 29, 30, 31, 45, 46, 47, 48, 49, 50, 51, 52, 53, 54, 55, 56, 57, 58, 62, 63, 64, 65, 59, 60, 61] (by decide +kernel) (by decide +kernel)
set_option maxRecDepth 20000 in
theorem gX7_place_X7_takeSpaceFor : GoodIn wsX7_place (wsV RX7 91 RX7 yX7_takeSpaceFor wsX7_takeSpaceFor) := goodIn_app (goodIn_of _ (by decide +kernel)) ggX7_place_X7_takeSpaceFor
set_option maxRecDepth 20000 in
theorem ggX7_place_X3_add : GoodIn wsX7_place wsX3_add := goodIn_r _ [35, 36, 37, 38, 39, 40, 41, 42, 43, 44, 66, 67, 68, 69, 70] (by decide +kernel) (by decide +kernel)
set_option maxRecDepth 20000 in
theorem gX7_place_X3_add_n95 : GoodIn wsX7_place (wsX3_add) := ggX7_place_X3_add
theorem dX7_place_0 : decode cX7_place 0 = .ok (.aload_n 0, 1) := by decide +kernel
theorem dX7_place_1 : decode cX7_place 1 = .ok (.getfield 26, 3) := by decide +kernel
theorem dX7_place_4 : decode cX7_place 4 = .ok (.invokevirtual 85, 3) := by decide +kernel
theorem dX7_place_7 : decode cX7_place 7 = .ok (.iconst 0, 1) := by decide +kernel
theorem dX7_place_8 : decode cX7_place 8 = .ok (.istore_n 1, 1) := by decide +kernel
theorem dX7_place_9 : decode cX7_place 9 = .ok (.iload_n 1, 1) := by decide +kernel
theorem dX7_place_10 : decode cX7_place 10 = .ok (.aload_n 0, 1) := by decide +kernel
theorem dX7_place_11 : decode cX7_place 11 = .ok (.getfield 19, 3) := by decide +kernel
theorem dX7_place_14 : decode cX7_place 14 = .ok (.getfield 74, 3) := by decide +kernel
theorem dX7_place_17 : decode cX7_place 17 = .ok (.if_icmp .ge 42, 3) := by decide +kernel
theorem dX7_place_20 : decode cX7_place 20 = .ok (.aload_n 0, 1) := by decide +kernel
theorem dX7_place_21 : decode cX7_place 21 = .ok (.getfield 19, 3) := by decide +kernel
theorem dX7_place_24 : decode cX7_place 24 = .ok (.getfield 88, 3) := by decide +kernel
theorem dX7_place_27 : decode cX7_place 27 = .ok (.iload_n 1, 1) := by decide +kernel
theorem dX7_place_28 : decode cX7_place 28 = .ok (.iaload, 1) := by decide +kernel
theorem dX7_place_29 : decode cX7_place 29 = .ok (.istore_n 2, 1) := by decide +kernel
theorem dX7_place_30 : decode cX7_place 30 = .ok (.aload_n 0, 1) := by decide +kernel
theorem dX7_place_31 : decode cX7_place 31 = .ok (.iload_n 2, 1) := by decide +kernel
theorem dX7_place_32 : decode cX7_place 32 = .ok (.invokevirtual 91, 3) := by decide +kernel
theorem dX7_place_35 : decode cX7_place 35 = .ok (.istore_n 3, 1) := by decide +kernel
theorem dX7_place_36 : decode cX7_place 36 = .ok (.iload_n 3, 1) := by decide +kernel
theorem dX7_place_37 : decode cX7_place 37 = .ok (.iconst (-1), 1) := by decide +kernel
theorem dX7_place_38 : decode cX7_place 38 = .ok (.if_icmp .ne 8, 3) := by decide +kernel
theorem dX7_place_41 : decode cX7_place 41 = .ok (.iload_n 2, 1) := by decide +kernel
theorem dX7_place_42 : decode cX7_place 42 = .ok (.iconst 1, 1) := by decide +kernel
theorem dX7_place_43 : decode cX7_place 43 = .ok (.iadd, 1) := by decide +kernel
theorem dX7_place_44 : decode cX7_place 44 = .ok (.ineg, 1) := by decide +kernel
theorem dX7_place_45 : decode cX7_place 45 = .ok (.ireturn, 1) := by decide +kernel
theorem dX7_place_46 : decode cX7_place 46 = .ok (.aload_n 0, 1) := by decide +kernel
theorem dX7_place_47 : decode cX7_place 47 = .ok (.getfield 30, 3) := by decide +kernel
theorem dX7_place_50 : decode cX7_place 50 = .ok (.iload_n 2, 1) := by decide +kernel
theorem dX7_place_51 : decode cX7_place 51 = .ok (.iload_n 3, 1) := by decide +kernel
theorem dX7_place_52 : decode cX7_place 52 = .ok (.iastore, 1) := by decide +kernel
theorem dX7_place_53 : decode cX7_place 53 = .ok (.iinc 1 1, 3) := by decide +kernel
theorem dX7_place_56 : decode cX7_place 56 = .ok (.goto (-47), 3) := by decide +kernel
theorem dX7_place_59 : decode cX7_place 59 = .ok (.aload_n 0, 1) := by decide +kernel
theorem dX7_place_60 : decode cX7_place 60 = .ok (.getfield 37, 3) := by decide +kernel
theorem dX7_place_63 : decode cX7_place 63 = .ok (.aload_n 0, 1) := by decide +kernel
theorem dX7_place_64 : decode cX7_place 64 = .ok (.getfield 30, 3) := by decide +kernel
theorem dX7_place_67 : decode cX7_place 67 = .ok (.aload_n 0, 1) := by decide +kernel
theorem dX7_place_68 : decode cX7_place 68 = .ok (.getfield 19, 3) := by decide +kernel
theorem dX7_place_71 : decode cX7_place 71 = .ok (.getfield 74, 3) := by decide +kernel
theorem dX7_place_74 : decode cX7_place 74 = .ok (.invokevirtual 95, 3) := by decide +kernel
theorem dX7_place_77 : decode cX7_place 77 = .ok (.iconst 1, 1) := by decide +kernel
theorem dX7_place_78 : decode cX7_place 78 = .ok (.ireturn, 1) := by decide +kernel
set_option maxRecDepth 20000 in
theorem ggX7_at_X7_isWithin : GoodIn wsX7_at wsX7_isWithin := goodIn_r _ [8] (by decide +kernel) (by decide +kernel)
set_option maxRecDepth 20000 in
theorem gX7_at_X7_isWithin : GoodIn wsX7_at (va_wsS RX7 56 yX7_isWithin wsX7_isWithin) := goodIn_app (goodIn_of _ (by decide +kernel)) ggX7_at_X7_isWithin
theorem dX7_at_0 : decode cX7_at 0 = .ok (.iload_n 1, 1) := by decide +kernel
theorem dX7_at_1 : decode cX7_at 1 = .ok (.i2l, 1) := by decide +kernel
theorem dX7_at_2 : decode cX7_at 2 = .ok (.lconst 1, 1) := by decide +kernel
theorem dX7_at_3 : decode cX7_at 3 = .ok (.aload_n 0, 1) := by decide +kernel
theorem dX7_at_4 : decode cX7_at 4 = .ok (.getfield 19, 3) := by decide +kernel
theorem dX7_at_7 : decode cX7_at 7 = .ok (.getfield 74, 3) := by decide +kernel
theorem dX7_at_10 : decode cX7_at 10 = .ok (.i2l, 1) := by decide +kernel
theorem dX7_at_11 : decode cX7_at 11 = .ok (.invokestatic 56, 3) := by decide +kernel
theorem dX7_at_14 : decode cX7_at 14 = .ok (.ifCond .ne 7, 3) := by decide +kernel
theorem dX7_at_17 : decode cX7_at 17 = .ok (.ldc2_w 98, 3) := by decide +kernel
theorem dX7_at_20 : decode cX7_at 20 = .ok (.lreturn, 1) := by decide +kernel
theorem dX7_at_21 : decode cX7_at 21 = .ok (.iload_n 1, 1) := by decide +kernel
theorem dX7_at_22 : decode cX7_at 22 = .ok (.aload_n 0, 1) := by decide +kernel
theorem dX7_at_23 : decode cX7_at 23 = .ok (.getfield 37, 3) := by decide +kernel
theorem dX7_at_26 : decode cX7_at 26 = .ok (.getfield 100, 3) := by decide +kernel
theorem dX7_at_29 : decode cX7_at 29 = .ok (.if_icmp .le 7, 3) := by decide +kernel
theorem dX7_at_32 : decode cX7_at 32 = .ok (.ldc2_w 103, 3) := by decide +kernel
theorem dX7_at_35 : decode cX7_at 35 = .ok (.lreturn, 1) := by decide +kernel
theorem dX7_at_36 : decode cX7_at 36 = .ok (.aload_n 0, 1) := by decide +kernel
theorem dX7_at_37 : decode cX7_at 37 = .ok (.getfield 37, 3) := by decide +kernel
theorem dX7_at_40 : decode cX7_at 40 = .ok (.getfield 105, 3) := by decide +kernel
theorem dX7_at_43 : decode cX7_at 43 = .ok (.iload_n 1, 1) := by decide +kernel
theorem dX7_at_44 : decode cX7_at 44 = .ok (.iconst 1, 1) := by decide +kernel
theorem dX7_at_45 : decode cX7_at 45 = .ok (.isub, 1) := by decide +kernel
theorem dX7_at_46 : decode cX7_at 46 = .ok (.iaload, 1) := by decide +kernel
theorem dX7_at_47 : decode cX7_at 47 = .ok (.i2l, 1) := by decide +kernel
theorem dX7_at_48 : decode cX7_at 48 = .ok (.lreturn, 1) := by decide +kernel
set_option maxRecDepth 20000 in
theorem ggX7_call_X7_isWithin : GoodIn wsX7_call wsX7_isWithin := goodIn_r _ [7] (by decide +kernel) (by decide +kernel)
set_option maxRecDepth 20000 in
theorem gX7_call_X7_isWithin : GoodIn wsX7_call (va_wsS RX7 56 yX7_isWithin wsX7_isWithin) := goodIn_app (goodIn_of _ (by decide +kernel)) ggX7_call_X7_isWithin
set_option maxRecDepth 20000 in
theorem ggX7_call_X2_addCall : GoodIn wsX7_call wsX2_addCall := goodIn_r _ [11, 12, 32, 33, 34] (by decide +kernel) (by decide +kernel)
set_option maxRecDepth 20000 in
theorem gX7_call_X2_addCall_n115 : GoodIn wsX7_call (wsX2_addCall) := ggX7_call_X2_addCall
set_option maxRecDepth 20000 in
theorem ggX7_call_X2_countCalls : GoodIn wsX7_call wsX2_countCalls := goodIn_r _ [15, 12, 16, 17, 18, 19, 20, 21, 22, 32, 33, 34] (by decide +kernel) (by decide +kernel)
set_option maxRecDepth 20000 in
theorem gX7_call_X2_countCalls_n119 : GoodIn wsX7_call (wsX2_countCalls) := ggX7_call_X2_countCalls
theorem dX7_call_0 : decode cX7_call 0 = .ok (.iload_n 1, 1) := by decide +kernel
theorem dX7_call_1 : decode cX7_call 1 = .ok (.i2l, 1) := by decide +kernel
theorem dX7_call_2 : decode cX7_call 2 = .ok (.lconst 1, 1) := by decide +kernel
theorem dX7_call_3 : decode cX7_call 3 = .ok (.ldc2_w 108, 3) := by decide +kernel
theorem dX7_call_6 : decode cX7_call 6 = .ok (.invokestatic 56, 3) := by decide +kernel
theorem dX7_call_9 : decode cX7_call 9 = .ok (.ifCond .eq 15, 3) := by decide +kernel
theorem dX7_call_12 : decode cX7_call 12 = .ok (.iload_n 2, 1) := by decide +kernel
theorem dX7_call_13 : decode cX7_call 13 = .ok (.i2l, 1) := by decide +kernel
theorem dX7_call_14 : decode cX7_call 14 = .ok (.lconst 0, 1) := by decide +kernel
theorem dX7_call_15 : decode cX7_call 15 = .ok (.ldc2_w 108, 3) := by decide +kernel
theorem dX7_call_18 : decode cX7_call 18 = .ok (.invokestatic 56, 3) := by decide +kernel
theorem dX7_call_21 : decode cX7_call 21 = .ok (.ifCond .ne 5, 3) := by decide +kernel
theorem dX7_call_24 : decode cX7_call 24 = .ok (.iconst (-1), 1) := by decide +kernel
theorem dX7_call_25 : decode cX7_call 25 = .ok (.ireturn, 1) := by decide +kernel
theorem dX7_call_26 : decode cX7_call 26 = .ok (.lload_n 3, 1) := by decide +kernel
theorem dX7_call_27 : decode cX7_call 27 = .ok (.lconst 0, 1) := by decide +kernel
theorem dX7_call_28 : decode cX7_call 28 = .ok (.ldc2_w 110, 3) := by decide +kernel
theorem dX7_call_31 : decode cX7_call 31 = .ok (.invokestatic 56, 3) := by decide +kernel
theorem dX7_call_34 : decode cX7_call 34 = .ok (.ifCond .ne 6, 3) := by decide +kernel
theorem dX7_call_37 : decode cX7_call 37 = .ok (.bipush (-2), 2) := by decide +kernel
theorem dX7_call_39 : decode cX7_call 39 = .ok (.ireturn, 1) := by decide +kernel
theorem dX7_call_40 : decode cX7_call 40 = .ok (.aload_n 0, 1) := by decide +kernel
theorem dX7_call_41 : decode cX7_call 41 = .ok (.getfield 44, 3) := by decide +kernel
theorem dX7_call_44 : decode cX7_call 44 = .ok (.getfield 112, 3) := by decide +kernel
theorem dX7_call_47 : decode cX7_call 47 = .ok (.iload_n 1, 1) := by decide +kernel
theorem dX7_call_48 : decode cX7_call 48 = .ok (.lload_n 3, 1) := by decide +kernel
theorem dX7_call_49 : decode cX7_call 49 = .ok (.l2i, 1) := by decide +kernel
theorem dX7_call_50 : decode cX7_call 50 = .ok (.iastore, 1) := by decide +kernel
theorem dX7_call_51 : decode cX7_call 51 = .ok (.iload_n 2, 1) := by decide +kernel
theorem dX7_call_52 : decode cX7_call 52 = .ok (.ifCond .eq 12, 3) := by decide +kernel
theorem dX7_call_55 : decode cX7_call 55 = .ok (.aload_n 0, 1) := by decide +kernel
theorem dX7_call_56 : decode cX7_call 56 = .ok (.getfield 44, 3) := by decide +kernel
theorem dX7_call_59 : decode cX7_call 59 = .ok (.iload_n 1, 1) := by decide +kernel
theorem dX7_call_60 : decode cX7_call 60 = .ok (.iload_n 2, 1) := by decide +kernel
theorem dX7_call_61 : decode cX7_call 61 = .ok (.invokevirtual 115, 3) := by decide +kernel
theorem dX7_call_64 : decode cX7_call 64 = .ok (.aload_n 0, 1) := by decide +kernel
theorem dX7_call_65 : decode cX7_call 65 = .ok (.getfield 44, 3) := by decide +kernel
theorem dX7_call_68 : decode cX7_call 68 = .ok (.iload_n 1, 1) := by decide +kernel
theorem dX7_call_69 : decode cX7_call 69 = .ok (.invokevirtual 119, 3) := by decide +kernel
theorem dX7_call_72 : decode cX7_call 72 = .ok (.ireturn, 1) := by decide +kernel
set_option maxRecDepth 20000 in
theorem ggX7_depth_X7_isWithin : GoodIn wsX7_depth wsX7_isWithin := goodIn_r _ [7] (by decide +kernel) (by decide +kernel)
set_option maxRecDepth 20000 in
theorem gX7_depth_X7_isWithin : GoodIn wsX7_depth (va_wsS RX7 56 yX7_isWithin wsX7_isWithin) := goodIn_app (goodIn_of _ (by decide +kernel)) ggX7_depth_X7_isWithin
set_option maxRecDepth 20000 in
theorem ggX7_depth_X2_depthFrom : GoodIn wsX7_depth wsX2_depthFrom := goodIn_r _ [11, 12, 13, 14, 9, 15, 16, 17, 18, 19, 20, 21, 22, 23, 24, 25, 26, 27, 28, 29, 39, 40, 41] (by decide +kernel) (by decide +kernel)
set_option maxRecDepth 20000 in
theorem gX7_depth_X2_depthFrom_n124 : GoodIn wsX7_depth (wsX2_depthFrom) := ggX7_depth_X2_depthFrom
theorem dX7_depth_0 : decode cX7_depth 0 = .ok (.iload_n 1, 1) := by decide +kernel
theorem dX7_depth_1 : decode cX7_depth 1 = .ok (.i2l, 1) := by decide +kernel
theorem dX7_depth_2 : decode cX7_depth 2 = .ok (.lconst 1, 1) := by decide +kernel
theorem dX7_depth_3 : decode cX7_depth 3 = .ok (.ldc2_w 108, 3) := by decide +kernel
theorem dX7_depth_6 : decode cX7_depth 6 = .ok (.invokestatic 56, 3) := by decide +kernel
theorem dX7_depth_9 : decode cX7_depth 9 = .ok (.ifCond .ne 7, 3) := by decide +kernel
theorem dX7_depth_12 : decode cX7_depth 12 = .ok (.ldc2_w 122, 3) := by decide +kernel
theorem dX7_depth_15 : decode cX7_depth 15 = .ok (.lreturn, 1) := by decide +kernel
theorem dX7_depth_16 : decode cX7_depth 16 = .ok (.aload_n 0, 1) := by decide +kernel
theorem dX7_depth_17 : decode cX7_depth 17 = .ok (.getfield 44, 3) := by decide +kernel
theorem dX7_depth_20 : decode cX7_depth 20 = .ok (.iload_n 1, 1) := by decide +kernel
theorem dX7_depth_21 : decode cX7_depth 21 = .ok (.invokevirtual 124, 3) := by decide +kernel
theorem dX7_depth_24 : decode cX7_depth 24 = .ok (.i2l, 1) := by decide +kernel
theorem dX7_depth_25 : decode cX7_depth 25 = .ok (.lreturn, 1) := by decide +kernel
set_option maxRecDepth 20000 in
theorem ggX7_block_X7_isWithin : GoodIn wsX7_block wsX7_isWithin := goodIn_r _ [10] (by decide +kernel) (by decide +kernel)
set_option maxRecDepth 20000 in
theorem gX7_block_X7_isWithin : GoodIn wsX7_block (va_wsS RX7 56 yX7_isWithin wsX7_isWithin) := goodIn_app (goodIn_of _ (by decide +kernel)) ggX7_block_X7_isWithin
set_option maxRecDepth 20000 in
theorem ggX7_block_X0_init : GoodIn wsX7_block wsX0_init := goodIn_r _ [12, 13, 14, 15, 16, 17, 18, 19, 20, 21, 22, 23, 24, 25, 26, 27, 28, 29, 30, 31, 41, 42, 43, 44, 45] (by decide +kernel) (by decide +kernel)
set_option maxRecDepth 20000 in
theorem gX7_block_X0_init_n132 : GoodIn wsX7_block (wsX0_init) := ggX7_block_X0_init
theorem dX7_block_0 : decode cX7_block 0 = .ok (.lload_n 1, 1) := by decide +kernel
theorem dX7_block_1 : decode cX7_block 1 = .ok (.lconst 1, 1) := by decide +kernel
theorem dX7_block_2 : decode cX7_block 2 = .ok (.ldc2_w 127, 3) := by decide +kernel
theorem dX7_block_5 : decode cX7_block 5 = .ok (.invokestatic 56, 3) := by decide +kernel
theorem dX7_block_8 : decode cX7_block 8 = .ok (.ifCond .ne 6, 3) := by decide +kernel
theorem dX7_block_11 : decode cX7_block 11 = .ok (.bipush (-2), 2) := by decide +kernel
theorem dX7_block_13 : decode cX7_block 13 = .ok (.ireturn, 1) := by decide +kernel
theorem dX7_block_14 : decode cX7_block 14 = .ok (.aload_n 0, 1) := by decide +kernel
theorem dX7_block_15 : decode cX7_block 15 = .ok (.getfield 129, 3) := by decide +kernel
theorem dX7_block_18 : decode cX7_block 18 = .ok (.bipush 20, 2) := by decide +kernel
theorem dX7_block_20 : decode cX7_block 20 = .ok (.if_icmp .lt 6, 3) := by decide +kernel
theorem dX7_block_23 : decode cX7_block 23 = .ok (.bipush (-4), 2) := by decide +kernel
theorem dX7_block_25 : decode cX7_block 25 = .ok (.ireturn, 1) := by decide +kernel
theorem dX7_block_26 : decode cX7_block 26 = .ok (.aload_n 0, 1) := by decide +kernel
theorem dX7_block_27 : decode cX7_block 27 = .ok (.getfield 50, 3) := by decide +kernel
theorem dX7_block_30 : decode cX7_block 30 = .ok (.aload_n 0, 1) := by decide +kernel
theorem dX7_block_31 : decode cX7_block 31 = .ok (.getfield 129, 3) := by decide +kernel
theorem dX7_block_34 : decode cX7_block 34 = .ok (.new 48, 3) := by decide +kernel
theorem dX7_block_37 : decode cX7_block 37 = .ok (.dup, 1) := by decide +kernel
theorem dX7_block_38 : decode cX7_block 38 = .ok (.lload_n 1, 1) := by decide +kernel
theorem dX7_block_39 : decode cX7_block 39 = .ok (.l2i, 1) := by decide +kernel
theorem dX7_block_40 : decode cX7_block 40 = .ok (.invokespecial 132, 3) := by decide +kernel
theorem dX7_block_43 : decode cX7_block 43 = .ok (.aastore, 1) := by decide +kernel
theorem dX7_block_44 : decode cX7_block 44 = .ok (.aload_n 0, 1) := by decide +kernel
theorem dX7_block_45 : decode cX7_block 45 = .ok (.dup, 1) := by decide +kernel
theorem dX7_block_46 : decode cX7_block 46 = .ok (.getfield 129, 3) := by decide +kernel
theorem dX7_block_49 : decode cX7_block 49 = .ok (.iconst 1, 1) := by decide +kernel
theorem dX7_block_50 : decode cX7_block 50 = .ok (.iadd, 1) := by decide +kernel
theorem dX7_block_51 : decode cX7_block 51 = .ok (.putfield 129, 3) := by decide +kernel
theorem dX7_block_54 : decode cX7_block 54 = .ok (.aload_n 0, 1) := by decide +kernel
theorem dX7_block_55 : decode cX7_block 55 = .ok (.getfield 129, 3) := by decide +kernel
theorem dX7_block_58 : decode cX7_block 58 = .ok (.ireturn, 1) := by decide +kernel
set_option maxRecDepth 20000 in
theorem ggX7_write_X7_blockNumbered : GoodIn wsX7_write wsX7_blockNumbered := goodIn_r _ [5, 6, 7, 8, 9, 4, 10, 29, 30, 31, 32, 33, 34, 35, 36, 37] (by decide +kernel) (by decide +kernel)
set_option maxRecDepth 20000 in
theorem gX7_write_X7_blockNumbered : GoodIn wsX7_write (wsV RX7 135 RX7 yX7_blockNumbered wsX7_blockNumbered) := goodIn_app (goodIn_of _ (by decide +kernel)) ggX7_write_X7_blockNumbered
set_option maxRecDepth 20000 in
theorem ggX7_write_X0_hasOctet : GoodIn wsX7_write wsX0_hasOctet := goodIn_r _ [14, 15, 9, 4, 10, 26, 27, 28] (by decide +kernel) (by decide +kernel)
set_option maxRecDepth 20000 in
theorem gX7_write_X0_hasOctet_n139 : GoodIn wsX7_write (wsX0_hasOctet) := ggX7_write_X0_hasOctet
set_option maxRecDepth 20000 in
theorem ggX7_write_X1_setOctet : GoodIn wsX7_write wsX1_setOctet := goodIn_r _ [19, 20, 21, 22, 23, 17, 24, 25, 38, 39] (by decide +kernel) (by decide +kernel)
set_option maxRecDepth 20000 in
theorem gX7_write_X1_setOctet_n147 : GoodIn wsX7_write (wsX1_setOctet) := ggX7_write_X1_setOctet
theorem dX7_write_0 : decode cX7_write 0 = .ok (.aload_n 0, 1) := by decide +kernel
theorem dX7_write_1 : decode cX7_write 1 = .ok (.iload_n 1, 1) := by decide +kernel
theorem dX7_write_2 : decode cX7_write 2 = .ok (.invokevirtual 135, 3) := by decide +kernel
theorem dX7_write_5 : decode cX7_write 5 = .ok (.astore 4, 2) := by decide +kernel
theorem dX7_write_7 : decode cX7_write 7 = .ok (.aload 4, 2) := by decide +kernel
theorem dX7_write_9 : decode cX7_write 9 = .ok (.ifnonnull 5, 3) := by decide +kernel
theorem dX7_write_12 : decode cX7_write 12 = .ok (.iconst (-1), 1) := by decide +kernel
theorem dX7_write_13 : decode cX7_write 13 = .ok (.ireturn, 1) := by decide +kernel
theorem dX7_write_14 : decode cX7_write 14 = .ok (.aload 4, 2) := by decide +kernel
theorem dX7_write_16 : decode cX7_write 16 = .ok (.iload_n 2, 1) := by decide +kernel
theorem dX7_write_17 : decode cX7_write 17 = .ok (.invokevirtual 139, 3) := by decide +kernel
theorem dX7_write_20 : decode cX7_write 20 = .ok (.ifCond .ne 6, 3) := by decide +kernel
theorem dX7_write_23 : decode cX7_write 23 = .ok (.bipush (-2), 2) := by decide +kernel
theorem dX7_write_25 : decode cX7_write 25 = .ok (.ireturn, 1) := by decide +kernel
theorem dX7_write_26 : decode cX7_write 26 = .ok (.aload 4, 2) := by decide +kernel
theorem dX7_write_28 : decode cX7_write 28 = .ok (.getfield 143, 3) := by decide +kernel
theorem dX7_write_31 : decode cX7_write 31 = .ok (.iload_n 2, 1) := by decide +kernel
theorem dX7_write_32 : decode cX7_write 32 = .ok (.iload_n 3, 1) := by decide +kernel
theorem dX7_write_33 : decode cX7_write 33 = .ok (.invokevirtual 147, 3) := by decide +kernel
theorem dX7_write_36 : decode cX7_write 36 = .ok (.aload 4, 2) := by decide +kernel
theorem dX7_write_38 : decode cX7_write 38 = .ok (.getfield 153, 3) := by decide +kernel
theorem dX7_write_41 : decode cX7_write 41 = .ok (.iload_n 2, 1) := by decide +kernel
theorem dX7_write_42 : decode cX7_write 42 = .ok (.iload_n 3, 1) := by decide +kernel
theorem dX7_write_43 : decode cX7_write 43 = .ok (.invokevirtual 147, 3) := by decide +kernel
theorem dX7_write_46 : decode cX7_write 46 = .ok (.iconst 1, 1) := by decide +kernel
theorem dX7_write_47 : decode cX7_write 47 = .ok (.ireturn, 1) := by decide +kernel
set_option maxRecDepth 20000 in
theorem ggX7_poke_X7_blockNumbered : GoodIn wsX7_poke wsX7_blockNumbered := goodIn_r _ [6, 7, 8, 9, 10, 5, 11, 25, 26, 27, 28, 29, 30, 31, 32, 33] (by decide +kernel) (by decide +kernel)
set_option maxRecDepth 20000 in
theorem gX7_poke_X7_blockNumbered : GoodIn wsX7_poke (wsV RX7 135 RX7 yX7_blockNumbered wsX7_blockNumbered) := goodIn_app (goodIn_of _ (by decide +kernel)) ggX7_poke_X7_blockNumbered
set_option maxRecDepth 20000 in
theorem ggX7_poke_X7_isWithin : GoodIn wsX7_poke wsX7_isWithin := goodIn_r _ [11] (by decide +kernel) (by decide +kernel)
set_option maxRecDepth 20000 in
theorem gX7_poke_X7_isWithin : GoodIn wsX7_poke (va_wsS RX7 56 yX7_isWithin wsX7_isWithin) := goodIn_app (goodIn_of _ (by decide +kernel)) ggX7_poke_X7_isWithin
set_option maxRecDepth 20000 in
theorem ggX7_poke_X0_hasOctet : GoodIn wsX7_poke wsX0_hasOctet := goodIn_r _ [15, 16, 10, 5, 11, 22, 23, 24] (by decide +kernel) (by decide +kernel)
set_option maxRecDepth 20000 in
theorem gX7_poke_X0_hasOctet_n139 : GoodIn wsX7_poke (wsX0_hasOctet) := ggX7_poke_X0_hasOctet
set_option maxRecDepth 20000 in
theorem ggX7_poke_X1_flip : GoodIn wsX7_poke wsX1_flip := goodIn_r _ [20, 21, 34, 35] (by decide +kernel) (by decide +kernel)
set_option maxRecDepth 20000 in
theorem gX7_poke_X1_flip_n158 : GoodIn wsX7_poke (wsX1_flip) := ggX7_poke_X1_flip
theorem dX7_poke_0 : decode cX7_poke 0 = .ok (.aload_n 0, 1) := by decide +kernel
theorem dX7_poke_1 : decode cX7_poke 1 = .ok (.iload_n 1, 1) := by decide +kernel
theorem dX7_poke_2 : decode cX7_poke 2 = .ok (.invokevirtual 135, 3) := by decide +kernel
theorem dX7_poke_5 : decode cX7_poke 5 = .ok (.astore 5, 2) := by decide +kernel
theorem dX7_poke_7 : decode cX7_poke 7 = .ok (.aload 5, 2) := by decide +kernel
theorem dX7_poke_9 : decode cX7_poke 9 = .ok (.ifnull 15, 3) := by decide +kernel
theorem dX7_poke_12 : decode cX7_poke 12 = .ok (.iload_n 2, 1) := by decide +kernel
theorem dX7_poke_13 : decode cX7_poke 13 = .ok (.i2l, 1) := by decide +kernel
theorem dX7_poke_14 : decode cX7_poke 14 = .ok (.lconst 1, 1) := by decide +kernel
theorem dX7_poke_15 : decode cX7_poke 15 = .ok (.ldc2_w 156, 3) := by decide +kernel
theorem dX7_poke_18 : decode cX7_poke 18 = .ok (.invokestatic 56, 3) := by decide +kernel
theorem dX7_poke_21 : decode cX7_poke 21 = .ok (.ifCond .ne 5, 3) := by decide +kernel
theorem dX7_poke_24 : decode cX7_poke 24 = .ok (.iconst (-1), 1) := by decide +kernel
theorem dX7_poke_25 : decode cX7_poke 25 = .ok (.ireturn, 1) := by decide +kernel
theorem dX7_poke_26 : decode cX7_poke 26 = .ok (.aload 5, 2) := by decide +kernel
theorem dX7_poke_28 : decode cX7_poke 28 = .ok (.iload_n 3, 1) := by decide +kernel
theorem dX7_poke_29 : decode cX7_poke 29 = .ok (.invokevirtual 139, 3) := by decide +kernel
theorem dX7_poke_32 : decode cX7_poke 32 = .ok (.ifCond .ne 6, 3) := by decide +kernel
theorem dX7_poke_35 : decode cX7_poke 35 = .ok (.bipush (-2), 2) := by decide +kernel
theorem dX7_poke_37 : decode cX7_poke 37 = .ok (.ireturn, 1) := by decide +kernel
theorem dX7_poke_38 : decode cX7_poke 38 = .ok (.iload_n 2, 1) := by decide +kernel
theorem dX7_poke_39 : decode cX7_poke 39 = .ok (.iconst 1, 1) := by decide +kernel
theorem dX7_poke_40 : decode cX7_poke 40 = .ok (.if_icmp .ne 17, 3) := by decide +kernel
theorem dX7_poke_43 : decode cX7_poke 43 = .ok (.aload 5, 2) := by decide +kernel
theorem dX7_poke_45 : decode cX7_poke 45 = .ok (.getfield 143, 3) := by decide +kernel
theorem dX7_poke_48 : decode cX7_poke 48 = .ok (.iload_n 3, 1) := by decide +kernel
theorem dX7_poke_49 : decode cX7_poke 49 = .ok (.iload 4, 2) := by decide +kernel
theorem dX7_poke_51 : decode cX7_poke 51 = .ok (.invokevirtual 158, 3) := by decide +kernel
theorem dX7_poke_54 : decode cX7_poke 54 = .ok (.goto 14, 3) := by decide +kernel
theorem dX7_poke_57 : decode cX7_poke 57 = .ok (.aload 5, 2) := by decide +kernel
theorem dX7_poke_59 : decode cX7_poke 59 = .ok (.getfield 153, 3) := by decide +kernel
theorem dX7_poke_62 : decode cX7_poke 62 = .ok (.iload_n 3, 1) := by decide +kernel
theorem dX7_poke_63 : decode cX7_poke 63 = .ok (.iload 4, 2) := by decide +kernel
theorem dX7_poke_65 : decode cX7_poke 65 = .ok (.invokevirtual 158, 3) := by decide +kernel
theorem dX7_poke_68 : decode cX7_poke 68 = .ok (.ireturn, 1) := by decide +kernel
set_option maxRecDepth 20000 in
theorem ggX7_read_X7_blockNumbered : GoodIn wsX7_read wsX7_blockNumbered := goodIn_r _ [5, 6, 7, 8, 9, 4, 10, 41, 42, 43, 44, 45, 46, 47, 48, 49] (by decide +kernel) (by decide +kernel)
set_option maxRecDepth 20000 in
theorem gX7_read_X7_blockNumbered : GoodIn wsX7_read (wsV RX7 135 RX7 yX7_blockNumbered wsX7_blockNumbered) := goodIn_app (goodIn_of _ (by decide +kernel)) ggX7_read_X7_blockNumbered
set_option maxRecDepth 20000 in
theorem ggX7_read_X0_repair : GoodIn wsX7_read wsX0_repair := goodIn_r _ [14, 15, 16, 17, 18, 19, 20, 21, 22, 23, 24, 25, 26, 27, 28, 29, 30, 31, 32, 33, 34, 35, 36, 37, 38, 39, 40, 50, 51, 52, 53, 54] (by decide +kernel) (by decide +kernel)
set_option maxRecDepth 20000 in
theorem gX7_read_X0_repair_n162 : GoodIn wsX7_read (wsX0_repair) := ggX7_read_X0_repair
theorem dX7_read_0 : decode cX7_read 0 = .ok (.aload_n 0, 1) := by decide +kernel
theorem dX7_read_1 : decode cX7_read 1 = .ok (.iload_n 1, 1) := by decide +kernel
theorem dX7_read_2 : decode cX7_read 2 = .ok (.invokevirtual 135, 3) := by decide +kernel
theorem dX7_read_5 : decode cX7_read 5 = .ok (.astore_n 2, 1) := by decide +kernel
theorem dX7_read_6 : decode cX7_read 6 = .ok (.aload_n 2, 1) := by decide +kernel
theorem dX7_read_7 : decode cX7_read 7 = .ok (.ifnonnull 5, 3) := by decide +kernel
theorem dX7_read_10 : decode cX7_read 10 = .ok (.iconst (-1), 1) := by decide +kernel
theorem dX7_read_11 : decode cX7_read 11 = .ok (.ireturn, 1) := by decide +kernel
theorem dX7_read_12 : decode cX7_read 12 = .ok (.aload_n 2, 1) := by decide +kernel
theorem dX7_read_13 : decode cX7_read 13 = .ok (.invokevirtual 162, 3) := by decide +kernel
theorem dX7_read_16 : decode cX7_read 16 = .ok (.ireturn, 1) := by decide +kernel
theorem dX7_cell_0 : decode cX7_cell 0 = .ok (.lload_n 1, 1) := by decide +kernel
theorem dX7_cell_1 : decode cX7_cell 1 = .ok (.lconst 0, 1) := by decide +kernel
theorem dX7_cell_2 : decode cX7_cell 2 = .ok (.lcmp, 1) := by decide +kernel
theorem dX7_cell_3 : decode cX7_cell 3 = .ok (.ifCond .lt 13, 3) := by decide +kernel
theorem dX7_cell_6 : decode cX7_cell 6 = .ok (.lload_n 1, 1) := by decide +kernel
theorem dX7_cell_7 : decode cX7_cell 7 = .ok (.aload_n 0, 1) := by decide +kernel
theorem dX7_cell_8 : decode cX7_cell 8 = .ok (.getfield 60, 3) := by decide +kernel
theorem dX7_cell_11 : decode cX7_cell 11 = .ok (.i2l, 1) := by decide +kernel
theorem dX7_cell_12 : decode cX7_cell 12 = .ok (.lcmp, 1) := by decide +kernel
theorem dX7_cell_13 : decode cX7_cell 13 = .ok (.ifCond .lt 13, 3) := by decide +kernel
theorem dX7_cell_16 : decode cX7_cell 16 = .ok (.new 166, 3) := by decide +kernel
theorem dX7_cell_19 : decode cX7_cell 19 = .ok (.dup, 1) := by decide +kernel
theorem dX7_cell_20 : decode cX7_cell 20 = .ok (.ldc 168, 2) := by decide +kernel
theorem dX7_cell_22 : decode cX7_cell 22 = .ok (.invokespecial 170, 3) := by decide +kernel
theorem dX7_cell_25 : decode cX7_cell 25 = .ok (.athrow, 1) := by decide +kernel
theorem dX7_cell_26 : decode cX7_cell 26 = .ok (.iconst 0, 1) := by decide +kernel
theorem dX7_cell_27 : decode cX7_cell 27 = .ok (.istore_n 3, 1) := by decide +kernel
theorem dX7_cell_28 : decode cX7_cell 28 = .ok (.iload_n 3, 1) := by decide +kernel
theorem dX7_cell_29 : decode cX7_cell 29 = .ok (.aload_n 0, 1) := by decide +kernel
theorem dX7_cell_30 : decode cX7_cell 30 = .ok (.getfield 37, 3) := by decide +kernel
theorem dX7_cell_33 : decode cX7_cell 33 = .ok (.getfield 100, 3) := by decide +kernel
theorem dX7_cell_36 : decode cX7_cell 36 = .ok (.if_icmp .ge 51, 3) := by decide +kernel
theorem dX7_cell_39 : decode cX7_cell 39 = .ok (.aload_n 0, 1) := by decide +kernel
theorem dX7_cell_40 : decode cX7_cell 40 = .ok (.getfield 37, 3) := by decide +kernel
theorem dX7_cell_43 : decode cX7_cell 43 = .ok (.getfield 105, 3) := by decide +kernel
theorem dX7_cell_46 : decode cX7_cell 46 = .ok (.iload_n 3, 1) := by decide +kernel
theorem dX7_cell_47 : decode cX7_cell 47 = .ok (.iaload, 1) := by decide +kernel
theorem dX7_cell_48 : decode cX7_cell 48 = .ok (.istore 4, 2) := by decide +kernel
theorem dX7_cell_50 : decode cX7_cell 50 = .ok (.lload_n 1, 1) := by decide +kernel
theorem dX7_cell_51 : decode cX7_cell 51 = .ok (.iload 4, 2) := by decide +kernel
theorem dX7_cell_53 : decode cX7_cell 53 = .ok (.i2l, 1) := by decide +kernel
theorem dX7_cell_54 : decode cX7_cell 54 = .ok (.lcmp, 1) := by decide +kernel
theorem dX7_cell_55 : decode cX7_cell 55 = .ok (.ifCond .lt 26, 3) := by decide +kernel
theorem dX7_cell_58 : decode cX7_cell 58 = .ok (.lload_n 1, 1) := by decide +kernel
theorem dX7_cell_59 : decode cX7_cell 59 = .ok (.iload 4, 2) := by decide +kernel
theorem dX7_cell_61 : decode cX7_cell 61 = .ok (.aload_n 0, 1) := by decide +kernel
theorem dX7_cell_62 : decode cX7_cell 62 = .ok (.getfield 19, 3) := by decide +kernel
theorem dX7_cell_65 : decode cX7_cell 65 = .ok (.getfield 171, 3) := by decide +kernel
theorem dX7_cell_68 : decode cX7_cell 68 = .ok (.iload_n 3, 1) := by decide +kernel
theorem dX7_cell_69 : decode cX7_cell 69 = .ok (.iaload, 1) := by decide +kernel
theorem dX7_cell_70 : decode cX7_cell 70 = .ok (.iadd, 1) := by decide +kernel
theorem dX7_cell_71 : decode cX7_cell 71 = .ok (.i2l, 1) := by decide +kernel
theorem dX7_cell_72 : decode cX7_cell 72 = .ok (.lcmp, 1) := by decide +kernel
theorem dX7_cell_73 : decode cX7_cell 73 = .ok (.ifCond .ge 8, 3) := by decide +kernel
theorem dX7_cell_76 : decode cX7_cell 76 = .ok (.iload_n 3, 1) := by decide +kernel
theorem dX7_cell_77 : decode cX7_cell 77 = .ok (.iconst 1, 1) := by decide +kernel
theorem dX7_cell_78 : decode cX7_cell 78 = .ok (.iadd, 1) := by decide +kernel
theorem dX7_cell_79 : decode cX7_cell 79 = .ok (.i2b, 1) := by decide +kernel
theorem dX7_cell_80 : decode cX7_cell 80 = .ok (.ireturn, 1) := by decide +kernel
theorem dX7_cell_81 : decode cX7_cell 81 = .ok (.iinc 3 1, 3) := by decide +kernel
theorem dX7_cell_84 : decode cX7_cell 84 = .ok (.goto (-56), 3) := by decide +kernel
theorem dX7_cell_87 : decode cX7_cell 87 = .ok (.iconst (-1), 1) := by decide +kernel
theorem dX7_cell_88 : decode cX7_cell 88 = .ok (.ireturn, 1) := by decide +kernel
set_option maxRecDepth 20000 in
theorem ggX7_moved_X7_isWithin : GoodIn wsX7_moved wsX7_isWithin := goodIn_r _ [5] (by decide +kernel) (by decide +kernel)
set_option maxRecDepth 20000 in
theorem gX7_moved_X7_isWithin : GoodIn wsX7_moved (va_wsS RX7 56 yX7_isWithin wsX7_isWithin) := goodIn_app (goodIn_of _ (by decide +kernel)) ggX7_moved_X7_isWithin
set_option maxRecDepth 20000 in
theorem ggX7_moved_X3_countMovedSince : GoodIn wsX7_moved wsX3_countMovedSince := goodIn_r _ [9, 10, 11, 12, 22, 23, 24, 25, 26] (by decide +kernel) (by decide +kernel)
set_option maxRecDepth 20000 in
theorem gX7_moved_X3_countMovedSince_n177 : GoodIn wsX7_moved (wsX3_countMovedSince) := ggX7_moved_X3_countMovedSince
theorem dX7_moved_0 : decode cX7_moved 0 = .ok (.iload_n 1, 1) := by decide +kernel
theorem dX7_moved_1 : decode cX7_moved 1 = .ok (.i2l, 1) := by decide +kernel
theorem dX7_moved_2 : decode cX7_moved 2 = .ok (.lconst 1, 1) := by decide +kernel
theorem dX7_moved_3 : decode cX7_moved 3 = .ok (.aload_n 0, 1) := by decide +kernel
theorem dX7_moved_4 : decode cX7_moved 4 = .ok (.getfield 37, 3) := by decide +kernel
theorem dX7_moved_7 : decode cX7_moved 7 = .ok (.getfield 174, 3) := by decide +kernel
theorem dX7_moved_10 : decode cX7_moved 10 = .ok (.i2l, 1) := by decide +kernel
theorem dX7_moved_11 : decode cX7_moved 11 = .ok (.invokestatic 56, 3) := by decide +kernel
theorem dX7_moved_14 : decode cX7_moved 14 = .ok (.ifCond .ne 5, 3) := by decide +kernel
theorem dX7_moved_17 : decode cX7_moved 17 = .ok (.iconst (-1), 1) := by decide +kernel
theorem dX7_moved_18 : decode cX7_moved 18 = .ok (.ireturn, 1) := by decide +kernel
theorem dX7_moved_19 : decode cX7_moved 19 = .ok (.aload_n 0, 1) := by decide +kernel
theorem dX7_moved_20 : decode cX7_moved 20 = .ok (.getfield 37, 3) := by decide +kernel
theorem dX7_moved_23 : decode cX7_moved 23 = .ok (.iload_n 1, 1) := by decide +kernel
theorem dX7_moved_24 : decode cX7_moved 24 = .ok (.iconst 1, 1) := by decide +kernel
theorem dX7_moved_25 : decode cX7_moved 25 = .ok (.isub, 1) := by decide +kernel
theorem dX7_moved_26 : decode cX7_moved 26 = .ok (.invokevirtual 177, 3) := by decide +kernel
theorem dX7_moved_29 : decode cX7_moved 29 = .ok (.ireturn, 1) := by decide +kernel
set_option maxRecDepth 20000 in
theorem ggX7_takeSpaceFor_X4_allow : GoodIn wsX7_takeSpaceFor wsX4_allow := goodIn_r _ [7, 8, 36, 37, 38, 39] (by decide +kernel) (by decide +kernel)
set_option maxRecDepth 20000 in
theorem gX7_takeSpaceFor_X4_allow_n184 : GoodIn wsX7_takeSpaceFor (wsX4_allow) := ggX7_takeSpaceFor_X4_allow
set_option maxRecDepth 20000 in
theorem ggX7_takeSpaceFor_X6_leastFree : GoodIn wsX7_takeSpaceFor wsX6_leastFree := goodIn_r _ [12, 13, 14, 15, 16, 17, 10, 18, 40, 41, 42] (by decide +kernel) (by decide +kernel)
set_option maxRecDepth 20000 in
theorem gX7_takeSpaceFor_X6_leastFree_n193 : GoodIn wsX7_takeSpaceFor (wsX6_leastFree) := ggX7_takeSpaceFor_X6_leastFree
set_option maxRecDepth 20000 in
theorem ggX7_takeSpaceFor_X6_add : GoodIn wsX7_takeSpaceFor wsX6_add := goodIn_r _ [21, 13, 14, 15, 40, 41, 42] (by decide +kernel) (by decide +kernel)
set_option maxRecDepth 20000 in
theorem gX7_takeSpaceFor_X6_add_n199 : GoodIn wsX7_takeSpaceFor (wsX6_add) := ggX7_takeSpaceFor_X6_add
theorem dX7_takeSpaceFor_0 : decode cX7_takeSpaceFor 0 = .ok (.aload_n 0, 1) := by decide +kernel
theorem dX7_takeSpaceFor_1 : decode cX7_takeSpaceFor 1 = .ok (.getfield 19, 3) := by decide +kernel
theorem dX7_takeSpaceFor_4 : decode cX7_takeSpaceFor 4 = .ok (.getfield 171, 3) := by decide +kernel
theorem dX7_takeSpaceFor_7 : decode cX7_takeSpaceFor 7 = .ok (.iload_n 1, 1) := by decide +kernel
theorem dX7_takeSpaceFor_8 : decode cX7_takeSpaceFor 8 = .ok (.iaload, 1) := by decide +kernel
theorem dX7_takeSpaceFor_9 : decode cX7_takeSpaceFor 9 = .ok (.istore_n 2, 1) := by decide +kernel
theorem dX7_takeSpaceFor_10 : decode cX7_takeSpaceFor 10 = .ok (.iload_n 2, 1) := by decide +kernel
theorem dX7_takeSpaceFor_11 : decode cX7_takeSpaceFor 11 = .ok (.ifCond .ne 5, 3) := by decide +kernel
theorem dX7_takeSpaceFor_14 : decode cX7_takeSpaceFor 14 = .ok (.iconst 0, 1) := by decide +kernel
theorem dX7_takeSpaceFor_15 : decode cX7_takeSpaceFor 15 = .ok (.ireturn, 1) := by decide +kernel
theorem dX7_takeSpaceFor_16 : decode cX7_takeSpaceFor 16 = .ok (.iconst 0, 1) := by decide +kernel
theorem dX7_takeSpaceFor_17 : decode cX7_takeSpaceFor 17 = .ok (.istore_n 3, 1) := by decide +kernel
theorem dX7_takeSpaceFor_18 : decode cX7_takeSpaceFor 18 = .ok (.iload_n 3, 1) := by decide +kernel
theorem dX7_takeSpaceFor_19 : decode cX7_takeSpaceFor 19 = .ok (.aload_n 0, 1) := by decide +kernel
theorem dX7_takeSpaceFor_20 : decode cX7_takeSpaceFor 20 = .ok (.getfield 10, 3) := by decide +kernel
theorem dX7_takeSpaceFor_23 : decode cX7_takeSpaceFor 23 = .ok (.getfield 180, 3) := by decide +kernel
theorem dX7_takeSpaceFor_26 : decode cX7_takeSpaceFor 26 = .ok (.if_icmp .ge 89, 3) := by decide +kernel
theorem dX7_takeSpaceFor_29 : decode cX7_takeSpaceFor 29 = .ok (.aload_n 0, 1) := by decide +kernel
theorem dX7_takeSpaceFor_30 : decode cX7_takeSpaceFor 30 = .ok (.getfield 10, 3) := by decide +kernel
theorem dX7_takeSpaceFor_33 : decode cX7_takeSpaceFor 33 = .ok (.iload_n 3, 1) := by decide +kernel
theorem dX7_takeSpaceFor_34 : decode cX7_takeSpaceFor 34 = .ok (.aload_n 0, 1) := by decide +kernel
theorem dX7_takeSpaceFor_35 : decode cX7_takeSpaceFor 35 = .ok (.getfield 19, 3) := by decide +kernel
theorem dX7_takeSpaceFor_38 : decode cX7_takeSpaceFor 38 = .ok (.getfield 181, 3) := by decide +kernel
theorem dX7_takeSpaceFor_41 : decode cX7_takeSpaceFor 41 = .ok (.iload_n 1, 1) := by decide +kernel
theorem dX7_takeSpaceFor_42 : decode cX7_takeSpaceFor 42 = .ok (.iaload, 1) := by decide +kernel
theorem dX7_takeSpaceFor_43 : decode cX7_takeSpaceFor 43 = .ok (.invokevirtual 184, 3) := by decide +kernel
theorem dX7_takeSpaceFor_46 : decode cX7_takeSpaceFor 46 = .ok (.ifCond .eq 63, 3) := by decide +kernel
theorem dX7_takeSpaceFor_49 : decode cX7_takeSpaceFor 49 = .ok (.aload_n 0, 1) := by decide +kernel
theorem dX7_takeSpaceFor_50 : decode cX7_takeSpaceFor 50 = .ok (.getfield 26, 3) := by decide +kernel
theorem dX7_takeSpaceFor_53 : decode cX7_takeSpaceFor 53 = .ok (.aload_n 0, 1) := by decide +kernel
theorem dX7_takeSpaceFor_54 : decode cX7_takeSpaceFor 54 = .ok (.getfield 10, 3) := by decide +kernel
theorem dX7_takeSpaceFor_57 : decode cX7_takeSpaceFor 57 = .ok (.getfield 187, 3) := by decide +kernel
theorem dX7_takeSpaceFor_60 : decode cX7_takeSpaceFor 60 = .ok (.iload_n 3, 1) := by decide +kernel
theorem dX7_takeSpaceFor_61 : decode cX7_takeSpaceFor 61 = .ok (.iaload, 1) := by decide +kernel
theorem dX7_takeSpaceFor_62 : decode cX7_takeSpaceFor 62 = .ok (.iload_n 2, 1) := by decide +kernel
theorem dX7_takeSpaceFor_63 : decode cX7_takeSpaceFor 63 = .ok (.aload_n 0, 1) := by decide +kernel
theorem dX7_takeSpaceFor_64 : decode cX7_takeSpaceFor 64 = .ok (.getfield 19, 3) := by decide +kernel
theorem dX7_takeSpaceFor_67 : decode cX7_takeSpaceFor 67 = .ok (.getfield 190, 3) := by decide +kernel
theorem dX7_takeSpaceFor_70 : decode cX7_takeSpaceFor 70 = .ok (.iload_n 1, 1) := by decide +kernel
theorem dX7_takeSpaceFor_71 : decode cX7_takeSpaceFor 71 = .ok (.iaload, 1) := by decide +kernel
theorem dX7_takeSpaceFor_72 : decode cX7_takeSpaceFor 72 = .ok (.invokevirtual 193, 3) := by decide +kernel
theorem dX7_takeSpaceFor_75 : decode cX7_takeSpaceFor 75 = .ok (.istore 4, 2) := by decide +kernel
theorem dX7_takeSpaceFor_77 : decode cX7_takeSpaceFor 77 = .ok (.iload 4, 2) := by decide +kernel
theorem dX7_takeSpaceFor_79 : decode cX7_takeSpaceFor 79 = .ok (.iload_n 2, 1) := by decide +kernel
theorem dX7_takeSpaceFor_80 : decode cX7_takeSpaceFor 80 = .ok (.iadd, 1) := by decide +kernel
theorem dX7_takeSpaceFor_81 : decode cX7_takeSpaceFor 81 = .ok (.aload_n 0, 1) := by decide +kernel
theorem dX7_takeSpaceFor_82 : decode cX7_takeSpaceFor 82 = .ok (.getfield 10, 3) := by decide +kernel
theorem dX7_takeSpaceFor_85 : decode cX7_takeSpaceFor 85 = .ok (.getfield 196, 3) := by decide +kernel
theorem dX7_takeSpaceFor_88 : decode cX7_takeSpaceFor 88 = .ok (.iload_n 3, 1) := by decide +kernel
theorem dX7_takeSpaceFor_89 : decode cX7_takeSpaceFor 89 = .ok (.iaload, 1) := by decide +kernel
theorem dX7_takeSpaceFor_90 : decode cX7_takeSpaceFor 90 = .ok (.if_icmp .gt 19, 3) := by decide +kernel
theorem dX7_takeSpaceFor_93 : decode cX7_takeSpaceFor 93 = .ok (.aload_n 0, 1) := by decide +kernel
theorem dX7_takeSpaceFor_94 : decode cX7_takeSpaceFor 94 = .ok (.getfield 26, 3) := by decide +kernel
theorem dX7_takeSpaceFor_97 : decode cX7_takeSpaceFor 97 = .ok (.iload 4, 2) := by decide +kernel
theorem dX7_takeSpaceFor_99 : decode cX7_takeSpaceFor 99 = .ok (.iload 4, 2) := by decide +kernel
theorem dX7_takeSpaceFor_101 : decode cX7_takeSpaceFor 101 = .ok (.iload_n 2, 1) := by decide +kernel
theorem dX7_takeSpaceFor_102 : decode cX7_takeSpaceFor 102 = .ok (.iadd, 1) := by decide +kernel
theorem dX7_takeSpaceFor_103 : decode cX7_takeSpaceFor 103 = .ok (.invokevirtual 199, 3) := by decide +kernel
theorem dX7_takeSpaceFor_106 : decode cX7_takeSpaceFor 106 = .ok (.iload 4, 2) := by decide +kernel
theorem dX7_takeSpaceFor_108 : decode cX7_takeSpaceFor 108 = .ok (.ireturn, 1) := by decide +kernel
theorem dX7_takeSpaceFor_109 : decode cX7_takeSpaceFor 109 = .ok (.iinc 3 1, 3) := by decide +kernel
theorem dX7_takeSpaceFor_112 : decode cX7_takeSpaceFor 112 = .ok (.goto (-94), 3) := by decide +kernel
theorem dX7_takeSpaceFor_115 : decode cX7_takeSpaceFor 115 = .ok (.iconst (-1), 1) := by decide +kernel
theorem dX7_takeSpaceFor_116 : decode cX7_takeSpaceFor 116 = .ok (.ireturn, 1) := by decide +kernel
set_option maxRecDepth 20000 in
theorem ggX7_blockNumbered_X7_isWithin : GoodIn wsX7_blockNumbered wsX7_isWithin := goodIn_r _ [6] (by decide +kernel) (by decide +kernel)
set_option maxRecDepth 20000 in
theorem gX7_blockNumbered_X7_isWithin : GoodIn wsX7_blockNumbered (va_wsS RX7 56 yX7_isWithin wsX7_isWithin) := goodIn_app (goodIn_of _ (by decide +kernel)) ggX7_blockNumbered_X7_isWithin
theorem dX7_blockNumbered_0 : decode cX7_blockNumbered 0 = .ok (.iload_n 1, 1) := by decide +kernel
theorem dX7_blockNumbered_1 : decode cX7_blockNumbered 1 = .ok (.i2l, 1) := by decide +kernel
theorem dX7_blockNumbered_2 : decode cX7_blockNumbered 2 = .ok (.lconst 1, 1) := by decide +kernel
theorem dX7_blockNumbered_3 : decode cX7_blockNumbered 3 = .ok (.aload_n 0, 1) := by decide +kernel
theorem dX7_blockNumbered_4 : decode cX7_blockNumbered 4 = .ok (.getfield 129, 3) := by decide +kernel
theorem dX7_blockNumbered_7 : decode cX7_blockNumbered 7 = .ok (.i2l, 1) := by decide +kernel
theorem dX7_blockNumbered_8 : decode cX7_blockNumbered 8 = .ok (.invokestatic 56, 3) := by decide +kernel
theorem dX7_blockNumbered_11 : decode cX7_blockNumbered 11 = .ok (.ifCond .eq 14, 3) := by decide +kernel
theorem dX7_blockNumbered_14 : decode cX7_blockNumbered 14 = .ok (.aload_n 0, 1) := by decide +kernel
theorem dX7_blockNumbered_15 : decode cX7_blockNumbered 15 = .ok (.getfield 50, 3) := by decide +kernel
theorem dX7_blockNumbered_18 : decode cX7_blockNumbered 18 = .ok (.iload_n 1, 1) := by decide +kernel
theorem dX7_blockNumbered_19 : decode cX7_blockNumbered 19 = .ok (.iconst 1, 1) := by decide +kernel
theorem dX7_blockNumbered_20 : decode cX7_blockNumbered 20 = .ok (.isub, 1) := by decide +kernel
theorem dX7_blockNumbered_21 : decode cX7_blockNumbered 21 = .ok (.aaload, 1) := by decide +kernel
theorem dX7_blockNumbered_22 : decode cX7_blockNumbered 22 = .ok (.goto 4, 3) := by decide +kernel
theorem dX7_blockNumbered_25 : decode cX7_blockNumbered 25 = .ok (.aconst_null, 1) := by decide +kernel
theorem dX7_blockNumbered_26 : decode cX7_blockNumbered 26 = .ok (.areturn, 1) := by decide +kernel
theorem dX7_isWithin_0 : decode cX7_isWithin 0 = .ok (.lload_n 0, 1) := by decide +kernel
theorem dX7_isWithin_1 : decode cX7_isWithin 1 = .ok (.lload_n 2, 1) := by decide +kernel
theorem dX7_isWithin_2 : decode cX7_isWithin 2 = .ok (.lcmp, 1) := by decide +kernel
theorem dX7_isWithin_3 : decode cX7_isWithin 3 = .ok (.ifCond .lt 14, 3) := by decide +kernel
theorem dX7_isWithin_6 : decode cX7_isWithin 6 = .ok (.lload_n 0, 1) := by decide +kernel
theorem dX7_isWithin_7 : decode cX7_isWithin 7 = .ok (.lload 4, 2) := by decide +kernel
theorem dX7_isWithin_9 : decode cX7_isWithin 9 = .ok (.lcmp, 1) := by decide +kernel
theorem dX7_isWithin_10 : decode cX7_isWithin 10 = .ok (.ifCond .gt 7, 3) := by decide +kernel
theorem dX7_isWithin_13 : decode cX7_isWithin 13 = .ok (.iconst 1, 1) := by decide +kernel
theorem dX7_isWithin_14 : decode cX7_isWithin 14 = .ok (.goto 4, 3) := by decide +kernel
theorem dX7_isWithin_17 : decode cX7_isWithin 17 = .ok (.iconst 0, 1) := by decide +kernel
theorem dX7_isWithin_18 : decode cX7_isWithin 18 = .ok (.ireturn, 1) := by decide +kernel
theorem dJx00060_init_a7421_0 : decode cJx00060_init_a7421 0 = .ok (.aload_n 0, 1) := by decide +kernel
theorem dJx00060_init_a7421_1 : decode cJx00060_init_a7421 1 = .ok (.aload_n 1, 1) := by decide +kernel
theorem dJx00060_init_a7421_2 : decode cJx00060_init_a7421 2 = .ok (.invokespecial 7, 3) := by decide +kernel
theorem dJx00060_init_a7421_5 : decode cJx00060_init_a7421 5 = .ok (.return_, 1) := by decide +kernel
theorem dJ6_bitCount_0f7a4_0 : decode cJ6_bitCount_0f7a4 0 = .ok (.iload_n 0, 1) := by decide +kernel
theorem dJ6_bitCount_0f7a4_1 : decode cJ6_bitCount_0f7a4 1 = .ok (.iload_n 0, 1) := by decide +kernel
theorem dJ6_bitCount_0f7a4_2 : decode cJ6_bitCount_0f7a4 2 = .ok (.iconst 1, 1) := by decide +kernel
theorem dJ6_bitCount_0f7a4_3 : decode cJ6_bitCount_0f7a4 3 = .ok (.iushr, 1) := by decide +kernel
theorem dJ6_bitCount_0f7a4_4 : decode cJ6_bitCount_0f7a4 4 = .ok (.ldc_w 265, 3) := by decide +kernel
theorem dJ6_bitCount_0f7a4_7 : decode cJ6_bitCount_0f7a4 7 = .ok (.iand, 1) := by decide +kernel
theorem dJ6_bitCount_0f7a4_8 : decode cJ6_bitCount_0f7a4 8 = .ok (.isub, 1) := by decide +kernel
theorem dJ6_bitCount_0f7a4_9 : decode cJ6_bitCount_0f7a4 9 = .ok (.istore_n 0, 1) := by decide +kernel
theorem dJ6_bitCount_0f7a4_10 : decode cJ6_bitCount_0f7a4 10 = .ok (.iload_n 0, 1) := by decide +kernel
theorem dJ6_bitCount_0f7a4_11 : decode cJ6_bitCount_0f7a4 11 = .ok (.ldc_w 266, 3) := by decide +kernel
theorem dJ6_bitCount_0f7a4_14 : decode cJ6_bitCount_0f7a4 14 = .ok (.iand, 1) := by decide +kernel
theorem dJ6_bitCount_0f7a4_15 : decode cJ6_bitCount_0f7a4 15 = .ok (.iload_n 0, 1) := by decide +kernel
theorem dJ6_bitCount_0f7a4_16 : decode cJ6_bitCount_0f7a4 16 = .ok (.iconst 2, 1) := by decide +kernel
theorem dJ6_bitCount_0f7a4_17 : decode cJ6_bitCount_0f7a4 17 = .ok (.iushr, 1) := by decide +kernel
theorem dJ6_bitCount_0f7a4_18 : decode cJ6_bitCount_0f7a4 18 = .ok (.ldc_w 266, 3) := by decide +kernel
theorem dJ6_bitCount_0f7a4_21 : decode cJ6_bitCount_0f7a4 21 = .ok (.iand, 1) := by decide +kernel
theorem dJ6_bitCount_0f7a4_22 : decode cJ6_bitCount_0f7a4 22 = .ok (.iadd, 1) := by decide +kernel
theorem dJ6_bitCount_0f7a4_23 : decode cJ6_bitCount_0f7a4 23 = .ok (.istore_n 0, 1) := by decide +kernel
theorem dJ6_bitCount_0f7a4_24 : decode cJ6_bitCount_0f7a4 24 = .ok (.iload_n 0, 1) := by decide +kernel
theorem dJ6_bitCount_0f7a4_25 : decode cJ6_bitCount_0f7a4 25 = .ok (.iload_n 0, 1) := by decide +kernel
theorem dJ6_bitCount_0f7a4_26 : decode cJ6_bitCount_0f7a4 26 = .ok (.iconst 4, 1) := by decide +kernel
theorem dJ6_bitCount_0f7a4_27 : decode cJ6_bitCount_0f7a4 27 = .ok (.iushr, 1) := by decide +kernel
theorem dJ6_bitCount_0f7a4_28 : decode cJ6_bitCount_0f7a4 28 = .ok (.iadd, 1) := by decide +kernel
theorem dJ6_bitCount_0f7a4_29 : decode cJ6_bitCount_0f7a4 29 = .ok (.ldc_w 267, 3) := by decide +kernel
theorem dJ6_bitCount_0f7a4_32 : decode cJ6_bitCount_0f7a4 32 = .ok (.iand, 1) := by decide +kernel
theorem dJ6_bitCount_0f7a4_33 : decode cJ6_bitCount_0f7a4 33 = .ok (.istore_n 0, 1) := by decide +kernel
theorem dJ6_bitCount_0f7a4_34 : decode cJ6_bitCount_0f7a4 34 = .ok (.iload_n 0, 1) := by decide +kernel
theorem dJ6_bitCount_0f7a4_35 : decode cJ6_bitCount_0f7a4 35 = .ok (.iload_n 0, 1) := by decide +kernel
theorem dJ6_bitCount_0f7a4_36 : decode cJ6_bitCount_0f7a4 36 = .ok (.bipush 8, 2) := by decide +kernel
theorem dJ6_bitCount_0f7a4_38 : decode cJ6_bitCount_0f7a4 38 = .ok (.iushr, 1) := by decide +kernel
theorem dJ6_bitCount_0f7a4_39 : decode cJ6_bitCount_0f7a4 39 = .ok (.iadd, 1) := by decide +kernel
theorem dJ6_bitCount_0f7a4_40 : decode cJ6_bitCount_0f7a4 40 = .ok (.istore_n 0, 1) := by decide +kernel
theorem dJ6_bitCount_0f7a4_41 : decode cJ6_bitCount_0f7a4 41 = .ok (.iload_n 0, 1) := by decide +kernel
theorem dJ6_bitCount_0f7a4_42 : decode cJ6_bitCount_0f7a4 42 = .ok (.iload_n 0, 1) := by decide +kernel
theorem dJ6_bitCount_0f7a4_43 : decode cJ6_bitCount_0f7a4 43 = .ok (.bipush 16, 2) := by decide +kernel
theorem dJ6_bitCount_0f7a4_45 : decode cJ6_bitCount_0f7a4 45 = .ok (.iushr, 1) := by decide +kernel
theorem dJ6_bitCount_0f7a4_46 : decode cJ6_bitCount_0f7a4 46 = .ok (.iadd, 1) := by decide +kernel
theorem dJ6_bitCount_0f7a4_47 : decode cJ6_bitCount_0f7a4 47 = .ok (.istore_n 0, 1) := by decide +kernel
theorem dJ6_bitCount_0f7a4_48 : decode cJ6_bitCount_0f7a4 48 = .ok (.iload_n 0, 1) := by decide +kernel
theorem dJ6_bitCount_0f7a4_49 : decode cJ6_bitCount_0f7a4 49 = .ok (.bipush 63, 2) := by decide +kernel
theorem dJ6_bitCount_0f7a4_51 : decode cJ6_bitCount_0f7a4 51 = .ok (.iand, 1) := by decide +kernel
theorem dJ6_bitCount_0f7a4_52 : decode cJ6_bitCount_0f7a4 52 = .ok (.ireturn, 1) := by decide +kernel
theorem dJ9_max_7cf53_0 : decode cJ9_max_7cf53 0 = .ok (.iload_n 0, 1) := by decide +kernel
theorem dJ9_max_7cf53_1 : decode cJ9_max_7cf53 1 = .ok (.iload_n 1, 1) := by decide +kernel
theorem dJ9_max_7cf53_2 : decode cJ9_max_7cf53 2 = .ok (.if_icmp .lt 7, 3) := by decide +kernel
theorem dJ9_max_7cf53_5 : decode cJ9_max_7cf53 5 = .ok (.iload_n 0, 1) := by decide +kernel
theorem dJ9_max_7cf53_6 : decode cJ9_max_7cf53 6 = .ok (.goto 4, 3) := by decide +kernel
theorem dJ9_max_7cf53_9 : decode cJ9_max_7cf53 9 = .ok (.iload_n 1, 1) := by decide +kernel
theorem dJ9_max_7cf53_10 : decode cJ9_max_7cf53 10 = .ok (.ireturn, 1) := by decide +kernel
theorem dJ7_fill_031fb_0 : decode cJ7_fill_031fb 0 = .ok (.iconst 0, 1) := by decide +kernel
theorem dJ7_fill_031fb_1 : decode cJ7_fill_031fb 1 = .ok (.istore_n 2, 1) := by decide +kernel
theorem dJ7_fill_031fb_2 : decode cJ7_fill_031fb 2 = .ok (.aload_n 0, 1) := by decide +kernel
theorem dJ7_fill_031fb_3 : decode cJ7_fill_031fb 3 = .ok (.arraylength, 1) := by decide +kernel
theorem dJ7_fill_031fb_4 : decode cJ7_fill_031fb 4 = .ok (.istore_n 3, 1) := by decide +kernel
theorem dJ7_fill_031fb_5 : decode cJ7_fill_031fb 5 = .ok (.iload_n 2, 1) := by decide +kernel
theorem dJ7_fill_031fb_6 : decode cJ7_fill_031fb 6 = .ok (.iload_n 3, 1) := by decide +kernel
theorem dJ7_fill_031fb_7 : decode cJ7_fill_031fb 7 = .ok (.if_icmp .ge 13, 3) := by decide +kernel
theorem dJ7_fill_031fb_10 : decode cJ7_fill_031fb 10 = .ok (.aload_n 0, 1) := by decide +kernel
theorem dJ7_fill_031fb_11 : decode cJ7_fill_031fb 11 = .ok (.iload_n 2, 1) := by decide +kernel
theorem dJ7_fill_031fb_12 : decode cJ7_fill_031fb 12 = .ok (.iload_n 1, 1) := by decide +kernel
theorem dJ7_fill_031fb_13 : decode cJ7_fill_031fb 13 = .ok (.bastore, 1) := by decide +kernel
theorem dJ7_fill_031fb_14 : decode cJ7_fill_031fb 14 = .ok (.iinc 2 1, 3) := by decide +kernel
theorem dJ7_fill_031fb_17 : decode cJ7_fill_031fb 17 = .ok (.goto (-12), 3) := by decide +kernel
theorem dJ7_fill_031fb_20 : decode cJ7_fill_031fb 20 = .ok (.return_, 1) := by decide +kernel
