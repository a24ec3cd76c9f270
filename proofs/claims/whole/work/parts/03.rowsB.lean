set_option maxRecDepth 20000 in
theorem ggX3_init_X0_init : GoodIn wsX3_init wsX0_init := goodIn_r _ [15, 16, 2, 3, 17, 18, 19, 20, 21, 22, 23, 24, 25, 26, 27, 28, 29, 30, 31, 32, 40, 41, 42, 43, 44, 45, 46, 47] (by decide +kernel) (by decide +kernel)
set_option maxRecDepth 20000 in
theorem gX3_init_X0_init : GoodIn wsX3_init (wsX0_init) := ggX3_init_X0_init
set_option maxRecDepth 20000 in
theorem ggX3_init_X2_init : GoodIn wsX3_init wsX2_init := goodIn_r _ [35, 36, 2, 3, 37, 19, 38, 39, 51, 52, 53] (by decide +kernel) (by decide +kernel)
set_option maxRecDepth 20000 in
theorem gX3_init_X2_init : GoodIn wsX3_init (wsX2_init) := ggX3_init_X2_init
theorem dX3_init_0 : decode cX3_init 0 = .ok (.aload_n 0, 1) := by decide +kernel
theorem dX3_init_1 : decode cX3_init 1 = .ok (.invokespecial 1, 3) := by decide +kernel
theorem dX3_init_4 : decode cX3_init 4 = .ok (.aload_n 0, 1) := by decide +kernel
theorem dX3_init_5 : decode cX3_init 5 = .ok (.new 7, 3) := by decide +kernel
theorem dX3_init_8 : decode cX3_init 8 = .ok (.dup, 1) := by decide +kernel
theorem dX3_init_9 : decode cX3_init 9 = .ok (.invokespecial 9, 3) := by decide +kernel
theorem dX3_init_12 : decode cX3_init 12 = .ok (.putfield 10, 3) := by decide +kernel
theorem dX3_init_15 : decode cX3_init 15 = .ok (.aload_n 0, 1) := by decide +kernel
theorem dX3_init_16 : decode cX3_init 16 = .ok (.new 16, 3) := by decide +kernel
theorem dX3_init_19 : decode cX3_init 19 = .ok (.dup, 1) := by decide +kernel
theorem dX3_init_20 : decode cX3_init 20 = .ok (.invokespecial 18, 3) := by decide +kernel
theorem dX3_init_23 : decode cX3_init 23 = .ok (.putfield 19, 3) := by decide +kernel
theorem dX3_init_26 : decode cX3_init 26 = .ok (.aload_n 0, 1) := by decide +kernel
theorem dX3_init_27 : decode cX3_init 27 = .ok (.iconst 2, 1) := by decide +kernel
theorem dX3_init_28 : decode cX3_init 28 = .ok (.anewarray 7, 3) := by decide +kernel
theorem dX3_init_31 : decode cX3_init 31 = .ok (.putfield 23, 3) := by decide +kernel
theorem dX3_init_34 : decode cX3_init 34 = .ok (.return_, 1) := by decide +kernel
set_option maxRecDepth 20000 in
theorem ggX3_storm_X3_within : GoodIn wsX3_storm wsX3_within := goodIn_r _ [6] (by decide +kernel) (by decide +kernel)
set_option maxRecDepth 20000 in
theorem gX3_storm_X3_within : GoodIn wsX3_storm (va_wsS RX3 27 yX3_within wsX3_within) := goodIn_app (goodIn_of _ (by decide +kernel)) ggX3_storm_X3_within
set_option maxRecDepth 20000 in
theorem ggX3_storm_X0_addTop : GoodIn wsX3_storm wsX0_addTop := goodIn_r _ [11, 12, 13, 14, 15, 16, 17, 21, 22, 23, 24, 25, 26, 27, 28] (by decide +kernel) (by decide +kernel)
set_option maxRecDepth 20000 in
theorem gX3_storm_X0_addTop : GoodIn wsX3_storm (wsV RX3 35 RX0 yX0_addTop wsX0_addTop) := goodIn_app (goodIn_of _ (by decide +kernel)) ggX3_storm_X0_addTop
theorem dX3_storm_0 : decode cX3_storm 0 = .ok (.iload_n 1, 1) := by decide +kernel
theorem dX3_storm_1 : decode cX3_storm 1 = .ok (.iconst 1, 1) := by decide +kernel
theorem dX3_storm_2 : decode cX3_storm 2 = .ok (.sipush 200, 3) := by decide +kernel
theorem dX3_storm_5 : decode cX3_storm 5 = .ok (.invokestatic 27, 3) := by decide +kernel
theorem dX3_storm_8 : decode cX3_storm 8 = .ok (.ifCond .eq 15, 3) := by decide +kernel
theorem dX3_storm_11 : decode cX3_storm 11 = .ok (.iload_n 2, 1) := by decide +kernel
theorem dX3_storm_12 : decode cX3_storm 12 = .ok (.bipush 30, 2) := by decide +kernel
theorem dX3_storm_14 : decode cX3_storm 14 = .ok (.sipush 600, 3) := by decide +kernel
theorem dX3_storm_17 : decode cX3_storm 17 = .ok (.invokestatic 27, 3) := by decide +kernel
theorem dX3_storm_20 : decode cX3_storm 20 = .ok (.ifCond .ne 6, 3) := by decide +kernel
theorem dX3_storm_23 : decode cX3_storm 23 = .ok (.bipush (-2), 2) := by decide +kernel
theorem dX3_storm_25 : decode cX3_storm 25 = .ok (.ireturn, 1) := by decide +kernel
theorem dX3_storm_26 : decode cX3_storm 26 = .ok (.iload_n 3, 1) := by decide +kernel
theorem dX3_storm_27 : decode cX3_storm 27 = .ok (.iconst 0, 1) := by decide +kernel
theorem dX3_storm_28 : decode cX3_storm 28 = .ok (.iconst 4, 1) := by decide +kernel
theorem dX3_storm_29 : decode cX3_storm 29 = .ok (.invokestatic 27, 3) := by decide +kernel
theorem dX3_storm_32 : decode cX3_storm 32 = .ok (.ifCond .eq 13, 3) := by decide +kernel
theorem dX3_storm_35 : decode cX3_storm 35 = .ok (.iload 4, 2) := by decide +kernel
theorem dX3_storm_37 : decode cX3_storm 37 = .ok (.iconst 1, 1) := by decide +kernel
theorem dX3_storm_38 : decode cX3_storm 38 = .ok (.iconst 5, 1) := by decide +kernel
theorem dX3_storm_39 : decode cX3_storm 39 = .ok (.invokestatic 27, 3) := by decide +kernel
theorem dX3_storm_42 : decode cX3_storm 42 = .ok (.ifCond .ne 6, 3) := by decide +kernel
theorem dX3_storm_45 : decode cX3_storm 45 = .ok (.bipush (-2), 2) := by decide +kernel
theorem dX3_storm_47 : decode cX3_storm 47 = .ok (.ireturn, 1) := by decide +kernel
theorem dX3_storm_48 : decode cX3_storm 48 = .ok (.aload_n 0, 1) := by decide +kernel
theorem dX3_storm_49 : decode cX3_storm 49 = .ok (.getfield 10, 3) := by decide +kernel
theorem dX3_storm_52 : decode cX3_storm 52 = .ok (.getfield 31, 3) := by decide +kernel
theorem dX3_storm_55 : decode cX3_storm 55 = .ok (.bipush 10, 2) := by decide +kernel
theorem dX3_storm_57 : decode cX3_storm 57 = .ok (.if_icmp .lt 6, 3) := by decide +kernel
theorem dX3_storm_60 : decode cX3_storm 60 = .ok (.bipush (-4), 2) := by decide +kernel
theorem dX3_storm_62 : decode cX3_storm 62 = .ok (.ireturn, 1) := by decide +kernel
theorem dX3_storm_63 : decode cX3_storm 63 = .ok (.aload_n 0, 1) := by decide +kernel
theorem dX3_storm_64 : decode cX3_storm 64 = .ok (.getfield 10, 3) := by decide +kernel
theorem dX3_storm_67 : decode cX3_storm 67 = .ok (.iload_n 1, 1) := by decide +kernel
theorem dX3_storm_68 : decode cX3_storm 68 = .ok (.iload_n 2, 1) := by decide +kernel
theorem dX3_storm_69 : decode cX3_storm 69 = .ok (.iload_n 3, 1) := by decide +kernel
theorem dX3_storm_70 : decode cX3_storm 70 = .ok (.iload 4, 2) := by decide +kernel
theorem dX3_storm_72 : decode cX3_storm 72 = .ok (.invokevirtual 35, 3) := by decide +kernel
theorem dX3_storm_75 : decode cX3_storm 75 = .ok (.ireturn, 1) := by decide +kernel
set_option maxRecDepth 20000 in
theorem ggX3_firm_X3_within : GoodIn wsX3_firm wsX3_within := goodIn_r _ [6] (by decide +kernel) (by decide +kernel)
set_option maxRecDepth 20000 in
theorem gX3_firm_X3_within : GoodIn wsX3_firm (va_wsS RX3 27 yX3_within wsX3_within) := goodIn_app (goodIn_of _ (by decide +kernel)) ggX3_firm_X3_within
theorem dX3_firm_0 : decode cX3_firm 0 = .ok (.iload_n 1, 1) := by decide +kernel
theorem dX3_firm_1 : decode cX3_firm 1 = .ok (.iconst 0, 1) := by decide +kernel
theorem dX3_firm_2 : decode cX3_firm 2 = .ok (.iconst 4, 1) := by decide +kernel
theorem dX3_firm_3 : decode cX3_firm 3 = .ok (.invokestatic 27, 3) := by decide +kernel
theorem dX3_firm_6 : decode cX3_firm 6 = .ok (.ifCond .ne 5, 3) := by decide +kernel
theorem dX3_firm_9 : decode cX3_firm 9 = .ok (.iconst (-1), 1) := by decide +kernel
theorem dX3_firm_10 : decode cX3_firm 10 = .ok (.ireturn, 1) := by decide +kernel
theorem dX3_firm_11 : decode cX3_firm 11 = .ok (.iload_n 2, 1) := by decide +kernel
theorem dX3_firm_12 : decode cX3_firm 12 = .ok (.iconst 1, 1) := by decide +kernel
theorem dX3_firm_13 : decode cX3_firm 13 = .ok (.bipush 99, 2) := by decide +kernel
theorem dX3_firm_15 : decode cX3_firm 15 = .ok (.invokestatic 27, 3) := by decide +kernel
theorem dX3_firm_18 : decode cX3_firm 18 = .ok (.ifCond .ne 6, 3) := by decide +kernel
theorem dX3_firm_21 : decode cX3_firm 21 = .ok (.bipush (-2), 2) := by decide +kernel
theorem dX3_firm_23 : decode cX3_firm 23 = .ok (.ireturn, 1) := by decide +kernel
theorem dX3_firm_24 : decode cX3_firm 24 = .ok (.aload_n 0, 1) := by decide +kernel
theorem dX3_firm_25 : decode cX3_firm 25 = .ok (.getfield 10, 3) := by decide +kernel
theorem dX3_firm_28 : decode cX3_firm 28 = .ok (.getfield 39, 3) := by decide +kernel
theorem dX3_firm_31 : decode cX3_firm 31 = .ok (.iload_n 1, 1) := by decide +kernel
theorem dX3_firm_32 : decode cX3_firm 32 = .ok (.iaload, 1) := by decide +kernel
theorem dX3_firm_33 : decode cX3_firm 33 = .ok (.istore_n 3, 1) := by decide +kernel
theorem dX3_firm_34 : decode cX3_firm 34 = .ok (.aload_n 0, 1) := by decide +kernel
theorem dX3_firm_35 : decode cX3_firm 35 = .ok (.getfield 10, 3) := by decide +kernel
theorem dX3_firm_38 : decode cX3_firm 38 = .ok (.getfield 39, 3) := by decide +kernel
theorem dX3_firm_41 : decode cX3_firm 41 = .ok (.iload_n 1, 1) := by decide +kernel
theorem dX3_firm_42 : decode cX3_firm 42 = .ok (.iload_n 2, 1) := by decide +kernel
theorem dX3_firm_43 : decode cX3_firm 43 = .ok (.iastore, 1) := by decide +kernel
theorem dX3_firm_44 : decode cX3_firm 44 = .ok (.iload_n 3, 1) := by decide +kernel
theorem dX3_firm_45 : decode cX3_firm 45 = .ok (.ireturn, 1) := by decide +kernel
set_option maxRecDepth 20000 in
theorem ggX3_layer_X0_has : GoodIn wsX3_layer wsX0_has := goodIn_r _ [12, 13, 14, 15, 16, 42, 43, 44, 45, 46, 47, 48, 49] (by decide +kernel) (by decide +kernel)
set_option maxRecDepth 20000 in
theorem gX3_layer_X0_has : GoodIn wsX3_layer (wsV RX3 43 RX0 yX0_has wsX0_has) := goodIn_app (goodIn_of _ (by decide +kernel)) ggX3_layer_X0_has
set_option maxRecDepth 20000 in
theorem ggX3_layer_X0_strength : GoodIn wsX3_layer wsX0_strength := goodIn_r _ [20, 21, 22, 23, 24, 25, 42, 43, 44, 45, 46, 47, 48, 49] (by decide +kernel) (by decide +kernel)
set_option maxRecDepth 20000 in
theorem gX3_layer_X0_strength : GoodIn wsX3_layer (wsV RX3 63 RX0 yX0_strength wsX0_strength) := goodIn_app (goodIn_of _ (by decide +kernel)) ggX3_layer_X0_strength
set_option maxRecDepth 20000 in
theorem ggX3_layer_X0_depth : GoodIn wsX3_layer wsX0_depth := goodIn_r _ [29, 30, 42, 43, 44, 45, 46, 47, 48, 49] (by decide +kernel) (by decide +kernel)
set_option maxRecDepth 20000 in
theorem gX3_layer_X0_depth : GoodIn wsX3_layer (wsV RX3 67 RX0 yX0_depth wsX0_depth) := goodIn_app (goodIn_of _ (by decide +kernel)) ggX3_layer_X0_depth
set_option maxRecDepth 20000 in
theorem ggX3_layer_X0_load : GoodIn wsX3_layer wsX0_load := goodIn_r _ [34, 35, 36, 37, 11, 38, 30, 24, 42, 43, 44, 45, 46, 47, 48, 49] (by decide +kernel) (by decide +kernel)
set_option maxRecDepth 20000 in
theorem gX3_layer_X0_load : GoodIn wsX3_layer (wsV RX3 71 RX0 yX0_load wsX0_load) := goodIn_app (goodIn_of _ (by decide +kernel)) ggX3_layer_X0_load
theorem dX3_layer_0 : decode cX3_layer 0 = .ok (.aload_n 0, 1) := by decide +kernel
theorem dX3_layer_1 : decode cX3_layer 1 = .ok (.getfield 10, 3) := by decide +kernel
theorem dX3_layer_4 : decode cX3_layer 4 = .ok (.iload_n 1, 1) := by decide +kernel
theorem dX3_layer_5 : decode cX3_layer 5 = .ok (.invokevirtual 43, 3) := by decide +kernel
theorem dX3_layer_8 : decode cX3_layer 8 = .ok (.ifCond .ne 5, 3) := by decide +kernel
theorem dX3_layer_11 : decode cX3_layer 11 = .ok (.iconst (-1), 1) := by decide +kernel
theorem dX3_layer_12 : decode cX3_layer 12 = .ok (.ireturn, 1) := by decide +kernel
theorem dX3_layer_13 : decode cX3_layer 13 = .ok (.iload_n 2, 1) := by decide +kernel
theorem dX3_layer_14 : decode cX3_layer 14 = .ok (.tableswitch 145 0 7 #[46, 56, 66, 76, 86, 104, 113, 129], 46) := by decide +kernel
theorem dX3_layer_60 : decode cX3_layer 60 = .ok (.aload_n 0, 1) := by decide +kernel
theorem dX3_layer_61 : decode cX3_layer 61 = .ok (.getfield 10, 3) := by decide +kernel
theorem dX3_layer_64 : decode cX3_layer 64 = .ok (.getfield 47, 3) := by decide +kernel
theorem dX3_layer_67 : decode cX3_layer 67 = .ok (.iload_n 1, 1) := by decide +kernel
theorem dX3_layer_68 : decode cX3_layer 68 = .ok (.iaload, 1) := by decide +kernel
theorem dX3_layer_69 : decode cX3_layer 69 = .ok (.ireturn, 1) := by decide +kernel
theorem dX3_layer_70 : decode cX3_layer 70 = .ok (.aload_n 0, 1) := by decide +kernel
theorem dX3_layer_71 : decode cX3_layer 71 = .ok (.getfield 10, 3) := by decide +kernel
theorem dX3_layer_74 : decode cX3_layer 74 = .ok (.getfield 50, 3) := by decide +kernel
theorem dX3_layer_77 : decode cX3_layer 77 = .ok (.iload_n 1, 1) := by decide +kernel
theorem dX3_layer_78 : decode cX3_layer 78 = .ok (.iaload, 1) := by decide +kernel
theorem dX3_layer_79 : decode cX3_layer 79 = .ok (.ireturn, 1) := by decide +kernel
theorem dX3_layer_80 : decode cX3_layer 80 = .ok (.aload_n 0, 1) := by decide +kernel
theorem dX3_layer_81 : decode cX3_layer 81 = .ok (.getfield 10, 3) := by decide +kernel
theorem dX3_layer_84 : decode cX3_layer 84 = .ok (.getfield 53, 3) := by decide +kernel
theorem dX3_layer_87 : decode cX3_layer 87 = .ok (.iload_n 1, 1) := by decide +kernel
theorem dX3_layer_88 : decode cX3_layer 88 = .ok (.iaload, 1) := by decide +kernel
theorem dX3_layer_89 : decode cX3_layer 89 = .ok (.ireturn, 1) := by decide +kernel
theorem dX3_layer_90 : decode cX3_layer 90 = .ok (.aload_n 0, 1) := by decide +kernel
theorem dX3_layer_91 : decode cX3_layer 91 = .ok (.getfield 10, 3) := by decide +kernel
theorem dX3_layer_94 : decode cX3_layer 94 = .ok (.getfield 56, 3) := by decide +kernel
theorem dX3_layer_97 : decode cX3_layer 97 = .ok (.iload_n 1, 1) := by decide +kernel
theorem dX3_layer_98 : decode cX3_layer 98 = .ok (.iaload, 1) := by decide +kernel
theorem dX3_layer_99 : decode cX3_layer 99 = .ok (.ireturn, 1) := by decide +kernel
theorem dX3_layer_100 : decode cX3_layer 100 = .ok (.aload_n 0, 1) := by decide +kernel
theorem dX3_layer_101 : decode cX3_layer 101 = .ok (.getfield 10, 3) := by decide +kernel
theorem dX3_layer_104 : decode cX3_layer 104 = .ok (.getfield 59, 3) := by decide +kernel
theorem dX3_layer_107 : decode cX3_layer 107 = .ok (.iload_n 1, 1) := by decide +kernel
theorem dX3_layer_108 : decode cX3_layer 108 = .ok (.baload, 1) := by decide +kernel
theorem dX3_layer_109 : decode cX3_layer 109 = .ok (.ifCond .eq 7, 3) := by decide +kernel
theorem dX3_layer_112 : decode cX3_layer 112 = .ok (.iconst 1, 1) := by decide +kernel
theorem dX3_layer_113 : decode cX3_layer 113 = .ok (.goto 4, 3) := by decide +kernel
theorem dX3_layer_116 : decode cX3_layer 116 = .ok (.iconst 0, 1) := by decide +kernel
theorem dX3_layer_117 : decode cX3_layer 117 = .ok (.ireturn, 1) := by decide +kernel
theorem dX3_layer_118 : decode cX3_layer 118 = .ok (.aload_n 0, 1) := by decide +kernel
theorem dX3_layer_119 : decode cX3_layer 119 = .ok (.getfield 10, 3) := by decide +kernel
theorem dX3_layer_122 : decode cX3_layer 122 = .ok (.iload_n 1, 1) := by decide +kernel
theorem dX3_layer_123 : decode cX3_layer 123 = .ok (.invokevirtual 63, 3) := by decide +kernel
theorem dX3_layer_126 : decode cX3_layer 126 = .ok (.ireturn, 1) := by decide +kernel
theorem dX3_layer_127 : decode cX3_layer 127 = .ok (.aload_n 0, 1) := by decide +kernel
theorem dX3_layer_128 : decode cX3_layer 128 = .ok (.getfield 10, 3) := by decide +kernel
theorem dX3_layer_131 : decode cX3_layer 131 = .ok (.iload_n 1, 1) := by decide +kernel
theorem dX3_layer_132 : decode cX3_layer 132 = .ok (.aload_n 0, 1) := by decide +kernel
theorem dX3_layer_133 : decode cX3_layer 133 = .ok (.getfield 10, 3) := by decide +kernel
theorem dX3_layer_136 : decode cX3_layer 136 = .ok (.getfield 31, 3) := by decide +kernel
theorem dX3_layer_139 : decode cX3_layer 139 = .ok (.invokevirtual 67, 3) := by decide +kernel
theorem dX3_layer_142 : decode cX3_layer 142 = .ok (.ireturn, 1) := by decide +kernel
theorem dX3_layer_143 : decode cX3_layer 143 = .ok (.aload_n 0, 1) := by decide +kernel
theorem dX3_layer_144 : decode cX3_layer 144 = .ok (.getfield 10, 3) := by decide +kernel
theorem dX3_layer_147 : decode cX3_layer 147 = .ok (.iload_n 1, 1) := by decide +kernel
theorem dX3_layer_148 : decode cX3_layer 148 = .ok (.aload_n 0, 1) := by decide +kernel
theorem dX3_layer_149 : decode cX3_layer 149 = .ok (.getfield 10, 3) := by decide +kernel
theorem dX3_layer_152 : decode cX3_layer 152 = .ok (.getfield 31, 3) := by decide +kernel
theorem dX3_layer_155 : decode cX3_layer 155 = .ok (.invokevirtual 71, 3) := by decide +kernel
theorem dX3_layer_158 : decode cX3_layer 158 = .ok (.ireturn, 1) := by decide +kernel
theorem dX3_layer_159 : decode cX3_layer 159 = .ok (.bipush (-2), 2) := by decide +kernel
theorem dX3_layer_161 : decode cX3_layer 161 = .ok (.ireturn, 1) := by decide +kernel
set_option maxRecDepth 20000 in
theorem ggX3_slope_X0_has : GoodIn wsX3_slope wsX0_has := goodIn_r _ [6, 7, 8, 9, 10, 42, 43, 44, 45, 46, 47, 48, 49] (by decide +kernel) (by decide +kernel)
set_option maxRecDepth 20000 in
theorem gX3_slope_X0_has : GoodIn wsX3_slope (wsV RX3 43 RX0 yX0_has wsX0_has) := goodIn_app (goodIn_of _ (by decide +kernel)) ggX3_slope_X0_has
set_option maxRecDepth 20000 in
theorem ggX3_slope_X3_within : GoodIn wsX3_slope wsX3_within := goodIn_r _ [10] (by decide +kernel) (by decide +kernel)
set_option maxRecDepth 20000 in
theorem gX3_slope_X3_within : GoodIn wsX3_slope (va_wsS RX3 27 yX3_within wsX3_within) := goodIn_app (goodIn_of _ (by decide +kernel)) ggX3_slope_X3_within
set_option maxRecDepth 20000 in
theorem ggX3_slope_X0_shear : GoodIn wsX3_slope wsX0_shear := goodIn_r _ [15, 7, 16, 17, 18, 5, 19, 20, 21, 22, 23, 24, 25, 42, 43, 44, 45, 46, 47, 48, 49] (by decide +kernel) (by decide +kernel)
set_option maxRecDepth 20000 in
theorem gX3_slope_X0_shear : GoodIn wsX3_slope (wsV RX3 74 RX0 yX0_shear wsX0_shear) := goodIn_app (goodIn_of _ (by decide +kernel)) ggX3_slope_X0_shear
set_option maxRecDepth 20000 in
theorem ggX3_slope_X0_margin : GoodIn wsX3_slope wsX0_margin := goodIn_r _ [29, 30, 13, 14, 5, 15, 7, 16, 17, 18, 19, 20, 21, 22, 23, 24, 25, 31, 32, 33, 34, 35, 36, 37, 38, 42, 43, 44, 45, 46, 47, 48, 49] (by decide +kernel) (by decide +kernel)
set_option maxRecDepth 20000 in
theorem gX3_slope_X0_margin : GoodIn wsX3_slope (wsV RX3 77 RX0 yX0_margin wsX0_margin) := goodIn_app (goodIn_of _ (by decide +kernel)) ggX3_slope_X0_margin
theorem dX3_slope_0 : decode cX3_slope 0 = .ok (.aload_n 0, 1) := by decide +kernel
theorem dX3_slope_1 : decode cX3_slope 1 = .ok (.getfield 10, 3) := by decide +kernel
theorem dX3_slope_4 : decode cX3_slope 4 = .ok (.iload_n 1, 1) := by decide +kernel
theorem dX3_slope_5 : decode cX3_slope 5 = .ok (.invokevirtual 43, 3) := by decide +kernel
theorem dX3_slope_8 : decode cX3_slope 8 = .ok (.ifCond .ne 5, 3) := by decide +kernel
theorem dX3_slope_11 : decode cX3_slope 11 = .ok (.iconst (-1), 1) := by decide +kernel
theorem dX3_slope_12 : decode cX3_slope 12 = .ok (.ireturn, 1) := by decide +kernel
theorem dX3_slope_13 : decode cX3_slope 13 = .ok (.iload_n 2, 1) := by decide +kernel
theorem dX3_slope_14 : decode cX3_slope 14 = .ok (.iconst 0, 1) := by decide +kernel
theorem dX3_slope_15 : decode cX3_slope 15 = .ok (.bipush 100, 2) := by decide +kernel
theorem dX3_slope_17 : decode cX3_slope 17 = .ok (.invokestatic 27, 3) := by decide +kernel
theorem dX3_slope_20 : decode cX3_slope 20 = .ok (.ifCond .eq 12, 3) := by decide +kernel
theorem dX3_slope_23 : decode cX3_slope 23 = .ok (.iload_n 3, 1) := by decide +kernel
theorem dX3_slope_24 : decode cX3_slope 24 = .ok (.iconst 0, 1) := by decide +kernel
theorem dX3_slope_25 : decode cX3_slope 25 = .ok (.iconst 1, 1) := by decide +kernel
theorem dX3_slope_26 : decode cX3_slope 26 = .ok (.invokestatic 27, 3) := by decide +kernel
theorem dX3_slope_29 : decode cX3_slope 29 = .ok (.ifCond .ne 6, 3) := by decide +kernel
theorem dX3_slope_32 : decode cX3_slope 32 = .ok (.bipush (-2), 2) := by decide +kernel
theorem dX3_slope_34 : decode cX3_slope 34 = .ok (.ireturn, 1) := by decide +kernel
theorem dX3_slope_35 : decode cX3_slope 35 = .ok (.iload_n 3, 1) := by decide +kernel
theorem dX3_slope_36 : decode cX3_slope 36 = .ok (.ifCond .ne 15, 3) := by decide +kernel
theorem dX3_slope_39 : decode cX3_slope 39 = .ok (.aload_n 0, 1) := by decide +kernel
theorem dX3_slope_40 : decode cX3_slope 40 = .ok (.getfield 10, 3) := by decide +kernel
theorem dX3_slope_43 : decode cX3_slope 43 = .ok (.iload_n 1, 1) := by decide +kernel
theorem dX3_slope_44 : decode cX3_slope 44 = .ok (.iload_n 2, 1) := by decide +kernel
theorem dX3_slope_45 : decode cX3_slope 45 = .ok (.invokevirtual 74, 3) := by decide +kernel
theorem dX3_slope_48 : decode cX3_slope 48 = .ok (.goto 12, 3) := by decide +kernel
theorem dX3_slope_51 : decode cX3_slope 51 = .ok (.aload_n 0, 1) := by decide +kernel
theorem dX3_slope_52 : decode cX3_slope 52 = .ok (.getfield 10, 3) := by decide +kernel
theorem dX3_slope_55 : decode cX3_slope 55 = .ok (.iload_n 1, 1) := by decide +kernel
theorem dX3_slope_56 : decode cX3_slope 56 = .ok (.iload_n 2, 1) := by decide +kernel
theorem dX3_slope_57 : decode cX3_slope 57 = .ok (.invokevirtual 77, 3) := by decide +kernel
theorem dX3_slope_60 : decode cX3_slope 60 = .ok (.ireturn, 1) := by decide +kernel
set_option maxRecDepth 20000 in
theorem ggX3_weakest_X3_within : GoodIn wsX3_weakest wsX3_within := goodIn_r _ [5] (by decide +kernel) (by decide +kernel)
set_option maxRecDepth 20000 in
theorem gX3_weakest_X3_within : GoodIn wsX3_weakest (va_wsS RX3 27 yX3_within wsX3_within) := goodIn_app (goodIn_of _ (by decide +kernel)) ggX3_weakest_X3_within
set_option maxRecDepth 20000 in
theorem ggX3_weakest_X0_leastMargin : GoodIn wsX3_weakest wsX0_leastMargin := goodIn_r _ [10, 11, 12, 13, 14, 9, 15, 16, 17, 18, 19, 20, 21, 22, 23, 24, 25, 26, 27, 28, 29, 30, 31, 32, 33, 34, 35, 36, 37, 42, 43, 44, 45, 46, 47, 48, 49] (by decide +kernel) (by decide +kernel)
set_option maxRecDepth 20000 in
theorem gX3_weakest_X0_leastMargin : GoodIn wsX3_weakest (wsV RX3 80 RX0 yX0_leastMargin wsX0_leastMargin) := goodIn_app (goodIn_of _ (by decide +kernel)) ggX3_weakest_X0_leastMargin
set_option maxRecDepth 20000 in
theorem ggX3_weakest_X0_margin : GoodIn wsX3_weakest wsX0_margin := goodIn_r _ [15, 16, 17, 18, 9, 19, 11, 20, 21, 22, 23, 24, 25, 26, 27, 28, 29, 30, 31, 32, 33, 34, 35, 36, 37, 42, 43, 44, 45, 46, 47, 48, 49] (by decide +kernel) (by decide +kernel)
set_option maxRecDepth 20000 in
theorem gX3_weakest_X0_margin : GoodIn wsX3_weakest (wsV RX3 77 RX0 yX0_margin wsX0_margin) := goodIn_app (goodIn_of _ (by decide +kernel)) ggX3_weakest_X0_margin
theorem dX3_weakest_0 : decode cX3_weakest 0 = .ok (.iload_n 1, 1) := by decide +kernel
theorem dX3_weakest_1 : decode cX3_weakest 1 = .ok (.iconst 0, 1) := by decide +kernel
theorem dX3_weakest_2 : decode cX3_weakest 2 = .ok (.bipush 100, 2) := by decide +kernel
theorem dX3_weakest_4 : decode cX3_weakest 4 = .ok (.invokestatic 27, 3) := by decide +kernel
theorem dX3_weakest_7 : decode cX3_weakest 7 = .ok (.ifCond .eq 12, 3) := by decide +kernel
theorem dX3_weakest_10 : decode cX3_weakest 10 = .ok (.iload_n 2, 1) := by decide +kernel
theorem dX3_weakest_11 : decode cX3_weakest 11 = .ok (.iconst 0, 1) := by decide +kernel
theorem dX3_weakest_12 : decode cX3_weakest 12 = .ok (.iconst 1, 1) := by decide +kernel
theorem dX3_weakest_13 : decode cX3_weakest 13 = .ok (.invokestatic 27, 3) := by decide +kernel
theorem dX3_weakest_16 : decode cX3_weakest 16 = .ok (.ifCond .ne 6, 3) := by decide +kernel
theorem dX3_weakest_19 : decode cX3_weakest 19 = .ok (.bipush (-2), 2) := by decide +kernel
theorem dX3_weakest_21 : decode cX3_weakest 21 = .ok (.ireturn, 1) := by decide +kernel
theorem dX3_weakest_22 : decode cX3_weakest 22 = .ok (.aload_n 0, 1) := by decide +kernel
theorem dX3_weakest_23 : decode cX3_weakest 23 = .ok (.getfield 10, 3) := by decide +kernel
theorem dX3_weakest_26 : decode cX3_weakest 26 = .ok (.iload_n 1, 1) := by decide +kernel
theorem dX3_weakest_27 : decode cX3_weakest 27 = .ok (.invokevirtual 80, 3) := by decide +kernel
theorem dX3_weakest_30 : decode cX3_weakest 30 = .ok (.istore_n 3, 1) := by decide +kernel
theorem dX3_weakest_31 : decode cX3_weakest 31 = .ok (.iload_n 3, 1) := by decide +kernel
theorem dX3_weakest_32 : decode cX3_weakest 32 = .ok (.bipush (-6), 2) := by decide +kernel
theorem dX3_weakest_34 : decode cX3_weakest 34 = .ok (.if_icmp .ne 6, 3) := by decide +kernel
theorem dX3_weakest_37 : decode cX3_weakest 37 = .ok (.bipush (-6), 2) := by decide +kernel
theorem dX3_weakest_39 : decode cX3_weakest 39 = .ok (.ireturn, 1) := by decide +kernel
theorem dX3_weakest_40 : decode cX3_weakest 40 = .ok (.iload_n 2, 1) := by decide +kernel
theorem dX3_weakest_41 : decode cX3_weakest 41 = .ok (.ifCond .ne 7, 3) := by decide +kernel
theorem dX3_weakest_44 : decode cX3_weakest 44 = .ok (.iload_n 3, 1) := by decide +kernel
theorem dX3_weakest_45 : decode cX3_weakest 45 = .ok (.goto 12, 3) := by decide +kernel
theorem dX3_weakest_48 : decode cX3_weakest 48 = .ok (.aload_n 0, 1) := by decide +kernel
theorem dX3_weakest_49 : decode cX3_weakest 49 = .ok (.getfield 10, 3) := by decide +kernel
theorem dX3_weakest_52 : decode cX3_weakest 52 = .ok (.iload_n 3, 1) := by decide +kernel
theorem dX3_weakest_53 : decode cX3_weakest 53 = .ok (.iload_n 1, 1) := by decide +kernel
theorem dX3_weakest_54 : decode cX3_weakest 54 = .ok (.invokevirtual 77, 3) := by decide +kernel
theorem dX3_weakest_57 : decode cX3_weakest 57 = .ok (.ireturn, 1) := by decide +kernel
set_option maxRecDepth 20000 in
theorem ggX3_blow_X3_within : GoodIn wsX3_blow wsX3_within := goodIn_r _ [6] (by decide +kernel) (by decide +kernel)
set_option maxRecDepth 20000 in
theorem gX3_blow_X3_within : GoodIn wsX3_blow (va_wsS RX3 27 yX3_within wsX3_within) := goodIn_app (goodIn_of _ (by decide +kernel)) ggX3_blow_X3_within
theorem dX3_blow_0 : decode cX3_blow 0 = .ok (.iload_n 1, 1) := by decide +kernel
theorem dX3_blow_1 : decode cX3_blow 1 = .ok (.iconst 1, 1) := by decide +kernel
theorem dX3_blow_2 : decode cX3_blow 2 = .ok (.bipush 50, 2) := by decide +kernel
theorem dX3_blow_4 : decode cX3_blow 4 = .ok (.invokestatic 27, 3) := by decide +kernel
theorem dX3_blow_7 : decode cX3_blow 7 = .ok (.ifCond .ne 6, 3) := by decide +kernel
theorem dX3_blow_10 : decode cX3_blow 10 = .ok (.bipush (-2), 2) := by decide +kernel
theorem dX3_blow_12 : decode cX3_blow 12 = .ok (.ireturn, 1) := by decide +kernel
theorem dX3_blow_13 : decode cX3_blow 13 = .ok (.aload_n 0, 1) := by decide +kernel
theorem dX3_blow_14 : decode cX3_blow 14 = .ok (.getfield 10, 3) := by decide +kernel
theorem dX3_blow_17 : decode cX3_blow 17 = .ok (.getfield 83, 3) := by decide +kernel
theorem dX3_blow_20 : decode cX3_blow 20 = .ok (.istore_n 2, 1) := by decide +kernel
theorem dX3_blow_21 : decode cX3_blow 21 = .ok (.aload_n 0, 1) := by decide +kernel
theorem dX3_blow_22 : decode cX3_blow 22 = .ok (.getfield 10, 3) := by decide +kernel
theorem dX3_blow_25 : decode cX3_blow 25 = .ok (.iload_n 1, 1) := by decide +kernel
theorem dX3_blow_26 : decode cX3_blow 26 = .ok (.putfield 83, 3) := by decide +kernel
theorem dX3_blow_29 : decode cX3_blow 29 = .ok (.iload_n 2, 1) := by decide +kernel
theorem dX3_blow_30 : decode cX3_blow 30 = .ok (.ireturn, 1) := by decide +kernel
set_option maxRecDepth 20000 in
theorem ggX3_taps_X3_within : GoodIn wsX3_taps wsX3_within := goodIn_r _ [9] (by decide +kernel) (by decide +kernel)
set_option maxRecDepth 20000 in
theorem gX3_taps_X3_within : GoodIn wsX3_taps (va_wsS RX3 27 yX3_within wsX3_within) := goodIn_app (goodIn_of _ (by decide +kernel)) ggX3_taps_X3_within
set_option maxRecDepth 20000 in
theorem ggX3_taps_X2_run : GoodIn wsX3_taps wsX2_run := goodIn_r _ [14, 15, 16, 17, 18, 19, 20, 21, 13, 22, 23, 24, 25, 26, 27, 28, 29, 30, 31, 32, 33, 34, 35, 36, 37, 38, 39, 40, 41, 42, 43, 44, 45, 46, 8, 47, 48, 49, 50, 51, 52, 53, 54, 55, 68, 69, 70, 71, 72, 73, 74, 75, 76, 77, 78] (by decide +kernel) (by decide +kernel)
set_option maxRecDepth 20000 in
theorem gX3_taps_X2_run : GoodIn wsX3_taps (wsV RX3 86 RX2 yX2_run wsX2_run) := goodIn_app (goodIn_of _ (by decide +kernel)) ggX3_taps_X2_run
set_option maxRecDepth 20000 in
theorem ggX3_taps_X2_isClean : GoodIn wsX3_taps wsX2_isClean := goodIn_r _ [59, 19, 60, 61, 62, 63, 64, 68, 69, 70, 71, 72, 73, 74, 75, 76, 77, 78] (by decide +kernel) (by decide +kernel)
set_option maxRecDepth 20000 in
theorem gX3_taps_X2_isClean : GoodIn wsX3_taps (wsV RX3 99 RX2 yX2_isClean wsX2_isClean) := goodIn_app (goodIn_of _ (by decide +kernel)) ggX3_taps_X2_isClean
theorem dX3_taps_0 : decode cX3_taps 0 = .ok (.iload_n 2, 1) := by decide +kernel
theorem dX3_taps_1 : decode cX3_taps 1 = .ok (.iconst 0, 1) := by decide +kernel
theorem dX3_taps_2 : decode cX3_taps 2 = .ok (.iconst 2, 1) := by decide +kernel
theorem dX3_taps_3 : decode cX3_taps 3 = .ok (.invokestatic 27, 3) := by decide +kernel
theorem dX3_taps_6 : decode cX3_taps 6 = .ok (.ifCond .ne 6, 3) := by decide +kernel
theorem dX3_taps_9 : decode cX3_taps 9 = .ok (.bipush (-2), 2) := by decide +kernel
theorem dX3_taps_11 : decode cX3_taps 11 = .ok (.ireturn, 1) := by decide +kernel
theorem dX3_taps_12 : decode cX3_taps 12 = .ok (.aload_n 0, 1) := by decide +kernel
theorem dX3_taps_13 : decode cX3_taps 13 = .ok (.getfield 19, 3) := by decide +kernel
theorem dX3_taps_16 : decode cX3_taps 16 = .ok (.aload_n 0, 1) := by decide +kernel
theorem dX3_taps_17 : decode cX3_taps 17 = .ok (.getfield 10, 3) := by decide +kernel
theorem dX3_taps_20 : decode cX3_taps 20 = .ok (.invokevirtual 86, 3) := by decide +kernel
theorem dX3_taps_23 : decode cX3_taps 23 = .ok (.iload_n 1, 1) := by decide +kernel
theorem dX3_taps_24 : decode cX3_taps 24 = .ok (.iconst (-1), 1) := by decide +kernel
theorem dX3_taps_25 : decode cX3_taps 25 = .ok (.if_icmp .ne 11, 3) := by decide +kernel
theorem dX3_taps_28 : decode cX3_taps 28 = .ok (.aload_n 0, 1) := by decide +kernel
theorem dX3_taps_29 : decode cX3_taps 29 = .ok (.getfield 19, 3) := by decide +kernel
theorem dX3_taps_32 : decode cX3_taps 32 = .ok (.getfield 90, 3) := by decide +kernel
theorem dX3_taps_35 : decode cX3_taps 35 = .ok (.ireturn, 1) := by decide +kernel
theorem dX3_taps_36 : decode cX3_taps 36 = .ok (.iload_n 1, 1) := by decide +kernel
theorem dX3_taps_37 : decode cX3_taps 37 = .ok (.iconst 0, 1) := by decide +kernel
theorem dX3_taps_38 : decode cX3_taps 38 = .ok (.aload_n 0, 1) := by decide +kernel
theorem dX3_taps_39 : decode cX3_taps 39 = .ok (.getfield 19, 3) := by decide +kernel
theorem dX3_taps_42 : decode cX3_taps 42 = .ok (.getfield 90, 3) := by decide +kernel
theorem dX3_taps_45 : decode cX3_taps 45 = .ok (.iconst 1, 1) := by decide +kernel
theorem dX3_taps_46 : decode cX3_taps 46 = .ok (.isub, 1) := by decide +kernel
theorem dX3_taps_47 : decode cX3_taps 47 = .ok (.invokestatic 27, 3) := by decide +kernel
theorem dX3_taps_50 : decode cX3_taps 50 = .ok (.ifCond .ne 6, 3) := by decide +kernel
theorem dX3_taps_53 : decode cX3_taps 53 = .ok (.bipush (-6), 2) := by decide +kernel
theorem dX3_taps_55 : decode cX3_taps 55 = .ok (.ireturn, 1) := by decide +kernel
theorem dX3_taps_56 : decode cX3_taps 56 = .ok (.iload_n 2, 1) := by decide +kernel
theorem dX3_taps_57 : decode cX3_taps 57 = .ok (.lookupswitch 47 #[(0, 27), (1, 37)], 27) := by decide +kernel
theorem dX3_taps_84 : decode cX3_taps 84 = .ok (.aload_n 0, 1) := by decide +kernel
theorem dX3_taps_85 : decode cX3_taps 85 = .ok (.getfield 19, 3) := by decide +kernel
theorem dX3_taps_88 : decode cX3_taps 88 = .ok (.getfield 93, 3) := by decide +kernel
theorem dX3_taps_91 : decode cX3_taps 91 = .ok (.iload_n 1, 1) := by decide +kernel
theorem dX3_taps_92 : decode cX3_taps 92 = .ok (.iaload, 1) := by decide +kernel
theorem dX3_taps_93 : decode cX3_taps 93 = .ok (.ireturn, 1) := by decide +kernel
theorem dX3_taps_94 : decode cX3_taps 94 = .ok (.aload_n 0, 1) := by decide +kernel
theorem dX3_taps_95 : decode cX3_taps 95 = .ok (.getfield 19, 3) := by decide +kernel
theorem dX3_taps_98 : decode cX3_taps 98 = .ok (.getfield 96, 3) := by decide +kernel
theorem dX3_taps_101 : decode cX3_taps 101 = .ok (.iload_n 1, 1) := by decide +kernel
theorem dX3_taps_102 : decode cX3_taps 102 = .ok (.iaload, 1) := by decide +kernel
theorem dX3_taps_103 : decode cX3_taps 103 = .ok (.ireturn, 1) := by decide +kernel
theorem dX3_taps_104 : decode cX3_taps 104 = .ok (.aload_n 0, 1) := by decide +kernel
theorem dX3_taps_105 : decode cX3_taps 105 = .ok (.getfield 19, 3) := by decide +kernel
theorem dX3_taps_108 : decode cX3_taps 108 = .ok (.aload_n 0, 1) := by decide +kernel
theorem dX3_taps_109 : decode cX3_taps 109 = .ok (.getfield 10, 3) := by decide +kernel
theorem dX3_taps_112 : decode cX3_taps 112 = .ok (.iload_n 1, 1) := by decide +kernel
theorem dX3_taps_113 : decode cX3_taps 113 = .ok (.invokevirtual 99, 3) := by decide +kernel
theorem dX3_taps_116 : decode cX3_taps 116 = .ok (.ifCond .eq 7, 3) := by decide +kernel
theorem dX3_taps_119 : decode cX3_taps 119 = .ok (.iconst 1, 1) := by decide +kernel
theorem dX3_taps_120 : decode cX3_taps 120 = .ok (.goto 4, 3) := by decide +kernel
theorem dX3_taps_123 : decode cX3_taps 123 = .ok (.iconst 0, 1) := by decide +kernel
theorem dX3_taps_124 : decode cX3_taps 124 = .ok (.ireturn, 1) := by decide +kernel
set_option maxRecDepth 20000 in
theorem ggX3_need_X3_within : GoodIn wsX3_need wsX3_within := goodIn_r _ [6] (by decide +kernel) (by decide +kernel)
set_option maxRecDepth 20000 in
theorem gX3_need_X3_within : GoodIn wsX3_need (va_wsS RX3 27 yX3_within wsX3_within) := goodIn_app (goodIn_of _ (by decide +kernel)) ggX3_need_X3_within
set_option maxRecDepth 20000 in
theorem ggX3_need_X2_weightOf : GoodIn wsX3_need wsX2_weightOf := goodIn_r _ [10] (by decide +kernel) (by decide +kernel)
set_option maxRecDepth 20000 in
theorem gX3_need_X2_weightOf : GoodIn wsX3_need (va_wsS RX3 103 yX2_weightOf wsX2_weightOf) := goodIn_app (goodIn_of _ (by decide +kernel)) ggX3_need_X2_weightOf
set_option maxRecDepth 20000 in
theorem ggX3_need_X0_breaking : GoodIn wsX3_need wsX0_breaking := goodIn_r _ [15, 16, 17, 18, 14, 19, 20, 21, 22, 23, 24, 25, 26, 27, 28, 29, 30, 31, 32, 33, 34, 5, 35, 36, 37, 38, 39, 40, 41, 42, 43, 47, 48, 49, 50, 51, 52, 53, 54] (by decide +kernel) (by decide +kernel)
set_option maxRecDepth 20000 in
theorem gX3_need_X0_breaking : GoodIn wsX3_need (wsV RX3 106 RX0 yX0_breaking wsX0_breaking) := goodIn_app (goodIn_of _ (by decide +kernel)) ggX3_need_X0_breaking
theorem dX3_need_0 : decode cX3_need 0 = .ok (.iload_n 1, 1) := by decide +kernel
theorem dX3_need_1 : decode cX3_need 1 = .ok (.iconst 1, 1) := by decide +kernel
theorem dX3_need_2 : decode cX3_need 2 = .ok (.bipush 30, 2) := by decide +kernel
theorem dX3_need_4 : decode cX3_need 4 = .ok (.invokestatic 27, 3) := by decide +kernel
theorem dX3_need_7 : decode cX3_need 7 = .ok (.ifCond .ne 6, 3) := by decide +kernel
theorem dX3_need_10 : decode cX3_need 10 = .ok (.bipush (-2), 2) := by decide +kernel
theorem dX3_need_12 : decode cX3_need 12 = .ok (.ireturn, 1) := by decide +kernel
theorem dX3_need_13 : decode cX3_need 13 = .ok (.iconst 1, 1) := by decide +kernel
theorem dX3_need_14 : decode cX3_need 14 = .ok (.istore_n 2, 1) := by decide +kernel
theorem dX3_need_15 : decode cX3_need 15 = .ok (.iload_n 2, 1) := by decide +kernel
theorem dX3_need_16 : decode cX3_need 16 = .ok (.bipush 50, 2) := by decide +kernel
theorem dX3_need_18 : decode cX3_need 18 = .ok (.if_icmp .gt 35, 3) := by decide +kernel
theorem dX3_need_21 : decode cX3_need 21 = .ok (.aload_n 0, 1) := by decide +kernel
theorem dX3_need_22 : decode cX3_need 22 = .ok (.getfield 10, 3) := by decide +kernel
theorem dX3_need_25 : decode cX3_need 25 = .ok (.aload_n 0, 1) := by decide +kernel
theorem dX3_need_26 : decode cX3_need 26 = .ok (.getfield 10, 3) := by decide +kernel
theorem dX3_need_29 : decode cX3_need 29 = .ok (.getfield 31, 3) := by decide +kernel
theorem dX3_need_32 : decode cX3_need 32 = .ok (.iload_n 1, 1) := by decide +kernel
theorem dX3_need_33 : decode cX3_need 33 = .ok (.iload_n 2, 1) := by decide +kernel
theorem dX3_need_34 : decode cX3_need 34 = .ok (.invokestatic 103, 3) := by decide +kernel
theorem dX3_need_37 : decode cX3_need 37 = .ok (.invokevirtual 106, 3) := by decide +kernel
theorem dX3_need_40 : decode cX3_need 40 = .ok (.bipush (-6), 2) := by decide +kernel
theorem dX3_need_42 : decode cX3_need 42 = .ok (.if_icmp .eq 5, 3) := by decide +kernel
theorem dX3_need_45 : decode cX3_need 45 = .ok (.iload_n 2, 1) := by decide +kernel
theorem dX3_need_46 : decode cX3_need 46 = .ok (.ireturn, 1) := by decide +kernel
theorem dX3_need_47 : decode cX3_need 47 = .ok (.iinc 2 1, 3) := by decide +kernel
theorem dX3_need_50 : decode cX3_need 50 = .ok (.goto (-35), 3) := by decide +kernel
theorem dX3_need_53 : decode cX3_need 53 = .ok (.bipush (-6), 2) := by decide +kernel
theorem dX3_need_55 : decode cX3_need 55 = .ok (.ireturn, 1) := by decide +kernel
set_option maxRecDepth 20000 in
theorem ggX3_goes_X0_has : GoodIn wsX3_goes wsX0_has := goodIn_r _ [7, 8, 9, 10, 11, 52, 53, 54, 55, 56, 57, 58, 59] (by decide +kernel) (by decide +kernel)
set_option maxRecDepth 20000 in
theorem gX3_goes_X0_has : GoodIn wsX3_goes (wsV RX3 43 RX0 yX0_has wsX0_has) := goodIn_app (goodIn_of _ (by decide +kernel)) ggX3_goes_X0_has
set_option maxRecDepth 20000 in
theorem ggX3_goes_X3_within : GoodIn wsX3_goes wsX3_within := goodIn_r _ [11] (by decide +kernel) (by decide +kernel)
set_option maxRecDepth 20000 in
theorem gX3_goes_X3_within : GoodIn wsX3_goes (va_wsS RX3 27 yX3_within wsX3_within) := goodIn_app (goodIn_of _ (by decide +kernel)) ggX3_goes_X3_within
set_option maxRecDepth 20000 in
theorem ggX3_goes_X0_slabGoes : GoodIn wsX3_goes wsX0_slabGoes := goodIn_r _ [16, 8, 17, 18, 19, 6, 20, 21, 22, 23, 24, 25, 26, 27, 28, 29, 30, 31, 32, 33, 34, 35, 36, 37, 38, 39, 10, 40, 41, 42, 43, 44, 45, 46, 47, 48, 52, 53, 54, 55, 56, 57, 58, 59] (by decide +kernel) (by decide +kernel)
set_option maxRecDepth 20000 in
theorem gX3_goes_X0_slabGoes : GoodIn wsX3_goes (wsV RX3 109 RX0 yX0_slabGoes wsX0_slabGoes) := goodIn_app (goodIn_of _ (by decide +kernel)) ggX3_goes_X0_slabGoes
theorem dX3_goes_0 : decode cX3_goes 0 = .ok (.aload_n 0, 1) := by decide +kernel
theorem dX3_goes_1 : decode cX3_goes 1 = .ok (.getfield 10, 3) := by decide +kernel
theorem dX3_goes_4 : decode cX3_goes 4 = .ok (.iload_n 1, 1) := by decide +kernel
theorem dX3_goes_5 : decode cX3_goes 5 = .ok (.invokevirtual 43, 3) := by decide +kernel
theorem dX3_goes_8 : decode cX3_goes 8 = .ok (.ifCond .ne 5, 3) := by decide +kernel
theorem dX3_goes_11 : decode cX3_goes 11 = .ok (.iconst (-1), 1) := by decide +kernel
theorem dX3_goes_12 : decode cX3_goes 12 = .ok (.ireturn, 1) := by decide +kernel
theorem dX3_goes_13 : decode cX3_goes 13 = .ok (.iload_n 2, 1) := by decide +kernel
theorem dX3_goes_14 : decode cX3_goes 14 = .ok (.iconst 0, 1) := by decide +kernel
theorem dX3_goes_15 : decode cX3_goes 15 = .ok (.bipush 100, 2) := by decide +kernel
theorem dX3_goes_17 : decode cX3_goes 17 = .ok (.invokestatic 27, 3) := by decide +kernel
theorem dX3_goes_20 : decode cX3_goes 20 = .ok (.ifCond .eq 13, 3) := by decide +kernel
theorem dX3_goes_23 : decode cX3_goes 23 = .ok (.iload_n 3, 1) := by decide +kernel
theorem dX3_goes_24 : decode cX3_goes 24 = .ok (.iconst 0, 1) := by decide +kernel
theorem dX3_goes_25 : decode cX3_goes 25 = .ok (.bipush 99, 2) := by decide +kernel
theorem dX3_goes_27 : decode cX3_goes 27 = .ok (.invokestatic 27, 3) := by decide +kernel
theorem dX3_goes_30 : decode cX3_goes 30 = .ok (.ifCond .ne 6, 3) := by decide +kernel
theorem dX3_goes_33 : decode cX3_goes 33 = .ok (.bipush (-2), 2) := by decide +kernel
theorem dX3_goes_35 : decode cX3_goes 35 = .ok (.ireturn, 1) := by decide +kernel
theorem dX3_goes_36 : decode cX3_goes 36 = .ok (.iload_n 1, 1) := by decide +kernel
theorem dX3_goes_37 : decode cX3_goes 37 = .ok (.aload_n 0, 1) := by decide +kernel
theorem dX3_goes_38 : decode cX3_goes 38 = .ok (.getfield 10, 3) := by decide +kernel
theorem dX3_goes_41 : decode cX3_goes 41 = .ok (.getfield 31, 3) := by decide +kernel
theorem dX3_goes_44 : decode cX3_goes 44 = .ok (.iconst 1, 1) := by decide +kernel
theorem dX3_goes_45 : decode cX3_goes 45 = .ok (.isub, 1) := by decide +kernel
theorem dX3_goes_46 : decode cX3_goes 46 = .ok (.if_icmp .ne 6, 3) := by decide +kernel
theorem dX3_goes_49 : decode cX3_goes 49 = .ok (.bipush (-3), 2) := by decide +kernel
theorem dX3_goes_51 : decode cX3_goes 51 = .ok (.ireturn, 1) := by decide +kernel
theorem dX3_goes_52 : decode cX3_goes 52 = .ok (.aload_n 0, 1) := by decide +kernel
theorem dX3_goes_53 : decode cX3_goes 53 = .ok (.getfield 10, 3) := by decide +kernel
theorem dX3_goes_56 : decode cX3_goes 56 = .ok (.iload_n 1, 1) := by decide +kernel
theorem dX3_goes_57 : decode cX3_goes 57 = .ok (.iload_n 2, 1) := by decide +kernel
theorem dX3_goes_58 : decode cX3_goes 58 = .ok (.iload_n 3, 1) := by decide +kernel
theorem dX3_goes_59 : decode cX3_goes 59 = .ok (.invokevirtual 109, 3) := by decide +kernel
theorem dX3_goes_62 : decode cX3_goes 62 = .ok (.ifCond .eq 7, 3) := by decide +kernel
theorem dX3_goes_65 : decode cX3_goes 65 = .ok (.iconst 1, 1) := by decide +kernel
theorem dX3_goes_66 : decode cX3_goes 66 = .ok (.goto 4, 3) := by decide +kernel
theorem dX3_goes_69 : decode cX3_goes 69 = .ok (.iconst 0, 1) := by decide +kernel
theorem dX3_goes_70 : decode cX3_goes 70 = .ok (.ireturn, 1) := by decide +kernel
set_option maxRecDepth 20000 in
theorem ggX3_steep_X3_within : GoodIn wsX3_steep wsX3_within := goodIn_r _ [5] (by decide +kernel) (by decide +kernel)
set_option maxRecDepth 20000 in
theorem gX3_steep_X3_within : GoodIn wsX3_steep (va_wsS RX3 27 yX3_within wsX3_within) := goodIn_app (goodIn_of _ (by decide +kernel)) ggX3_steep_X3_within
set_option maxRecDepth 20000 in
theorem ggX3_steep_X0_going : GoodIn wsX3_steep wsX0_going := goodIn_r _ [10, 11, 12, 13, 14, 9, 15, 16, 17, 18, 19, 20, 21, 22, 23, 24, 25, 26, 27, 28, 29, 30, 31, 32, 33, 34, 35, 36, 37, 38, 4, 39, 40, 41, 42, 43, 44, 45, 46, 47, 51, 52, 53, 54, 55, 56, 57, 58] (by decide +kernel) (by decide +kernel)
set_option maxRecDepth 20000 in
theorem gX3_steep_X0_going : GoodIn wsX3_steep (wsV RX3 112 RX0 yX0_going wsX0_going) := goodIn_app (goodIn_of _ (by decide +kernel)) ggX3_steep_X0_going
theorem dX3_steep_0 : decode cX3_steep 0 = .ok (.iload_n 1, 1) := by decide +kernel
theorem dX3_steep_1 : decode cX3_steep 1 = .ok (.iconst 0, 1) := by decide +kernel
theorem dX3_steep_2 : decode cX3_steep 2 = .ok (.bipush 99, 2) := by decide +kernel
theorem dX3_steep_4 : decode cX3_steep 4 = .ok (.invokestatic 27, 3) := by decide +kernel
theorem dX3_steep_7 : decode cX3_steep 7 = .ok (.ifCond .eq 12, 3) := by decide +kernel
theorem dX3_steep_10 : decode cX3_steep 10 = .ok (.iload_n 2, 1) := by decide +kernel
theorem dX3_steep_11 : decode cX3_steep 11 = .ok (.iconst 0, 1) := by decide +kernel
theorem dX3_steep_12 : decode cX3_steep 12 = .ok (.iconst 1, 1) := by decide +kernel
theorem dX3_steep_13 : decode cX3_steep 13 = .ok (.invokestatic 27, 3) := by decide +kernel
theorem dX3_steep_16 : decode cX3_steep 16 = .ok (.ifCond .ne 6, 3) := by decide +kernel
theorem dX3_steep_19 : decode cX3_steep 19 = .ok (.bipush (-2), 2) := by decide +kernel
theorem dX3_steep_21 : decode cX3_steep 21 = .ok (.ireturn, 1) := by decide +kernel
theorem dX3_steep_22 : decode cX3_steep 22 = .ok (.iconst 0, 1) := by decide +kernel
theorem dX3_steep_23 : decode cX3_steep 23 = .ok (.istore_n 3, 1) := by decide +kernel
theorem dX3_steep_24 : decode cX3_steep 24 = .ok (.iload_n 3, 1) := by decide +kernel
theorem dX3_steep_25 : decode cX3_steep 25 = .ok (.bipush 100, 2) := by decide +kernel
theorem dX3_steep_27 : decode cX3_steep 27 = .ok (.if_icmp .gt 38, 3) := by decide +kernel
theorem dX3_steep_30 : decode cX3_steep 30 = .ok (.aload_n 0, 1) := by decide +kernel
theorem dX3_steep_31 : decode cX3_steep 31 = .ok (.getfield 10, 3) := by decide +kernel
theorem dX3_steep_34 : decode cX3_steep 34 = .ok (.iload_n 3, 1) := by decide +kernel
theorem dX3_steep_35 : decode cX3_steep 35 = .ok (.iload_n 1, 1) := by decide +kernel
theorem dX3_steep_36 : decode cX3_steep 36 = .ok (.invokevirtual 112, 3) := by decide +kernel
theorem dX3_steep_39 : decode cX3_steep 39 = .ok (.istore 4, 2) := by decide +kernel
theorem dX3_steep_41 : decode cX3_steep 41 = .ok (.iload 4, 2) := by decide +kernel
theorem dX3_steep_43 : decode cX3_steep 43 = .ok (.bipush (-6), 2) := by decide +kernel
theorem dX3_steep_45 : decode cX3_steep 45 = .ok (.if_icmp .eq 14, 3) := by decide +kernel
theorem dX3_steep_48 : decode cX3_steep 48 = .ok (.iload_n 2, 1) := by decide +kernel
theorem dX3_steep_49 : decode cX3_steep 49 = .ok (.ifCond .ne 7, 3) := by decide +kernel
theorem dX3_steep_52 : decode cX3_steep 52 = .ok (.iload_n 3, 1) := by decide +kernel
theorem dX3_steep_53 : decode cX3_steep 53 = .ok (.goto 5, 3) := by decide +kernel
theorem dX3_steep_56 : decode cX3_steep 56 = .ok (.iload 4, 2) := by decide +kernel
theorem dX3_steep_58 : decode cX3_steep 58 = .ok (.ireturn, 1) := by decide +kernel
theorem dX3_steep_59 : decode cX3_steep 59 = .ok (.iinc 3 1, 3) := by decide +kernel
theorem dX3_steep_62 : decode cX3_steep 62 = .ok (.goto (-38), 3) := by decide +kernel
theorem dX3_steep_65 : decode cX3_steep 65 = .ok (.bipush (-6), 2) := by decide +kernel
theorem dX3_steep_67 : decode cX3_steep 67 = .ok (.ireturn, 1) := by decide +kernel
set_option maxRecDepth 20000 in
theorem ggX3_pack_X3_within : GoodIn wsX3_pack wsX3_within := goodIn_r _ [6] (by decide +kernel) (by decide +kernel)
set_option maxRecDepth 20000 in
theorem gX3_pack_X3_within : GoodIn wsX3_pack (va_wsS RX3 27 yX3_within wsX3_within) := goodIn_app (goodIn_of _ (by decide +kernel)) ggX3_pack_X3_within
set_option maxRecDepth 20000 in
theorem ggX3_pack_X0_packTop : GoodIn wsX3_pack wsX0_packTop := goodIn_r _ [11, 12, 13, 14, 15, 16, 17, 18, 19, 20, 21, 22, 23, 5, 24, 28, 29, 30, 31, 32, 33, 34, 35] (by decide +kernel) (by decide +kernel)
set_option maxRecDepth 20000 in
theorem gX3_pack_X0_packTop : GoodIn wsX3_pack (wsV RX3 115 RX0 yX0_packTop wsX0_packTop) := goodIn_app (goodIn_of _ (by decide +kernel)) ggX3_pack_X0_packTop
theorem dX3_pack_0 : decode cX3_pack 0 = .ok (.iload_n 1, 1) := by decide +kernel
theorem dX3_pack_1 : decode cX3_pack 1 = .ok (.iconst 1, 1) := by decide +kernel
theorem dX3_pack_2 : decode cX3_pack 2 = .ok (.sipush 200, 3) := by decide +kernel
theorem dX3_pack_5 : decode cX3_pack 5 = .ok (.invokestatic 27, 3) := by decide +kernel
theorem dX3_pack_8 : decode cX3_pack 8 = .ok (.ifCond .ne 6, 3) := by decide +kernel
theorem dX3_pack_11 : decode cX3_pack 11 = .ok (.bipush (-2), 2) := by decide +kernel
theorem dX3_pack_13 : decode cX3_pack 13 = .ok (.ireturn, 1) := by decide +kernel
theorem dX3_pack_14 : decode cX3_pack 14 = .ok (.aload_n 0, 1) := by decide +kernel
theorem dX3_pack_15 : decode cX3_pack 15 = .ok (.getfield 10, 3) := by decide +kernel
theorem dX3_pack_18 : decode cX3_pack 18 = .ok (.getfield 31, 3) := by decide +kernel
theorem dX3_pack_21 : decode cX3_pack 21 = .ok (.ifCond .ne 6, 3) := by decide +kernel
theorem dX3_pack_24 : decode cX3_pack 24 = .ok (.bipush (-3), 2) := by decide +kernel
theorem dX3_pack_26 : decode cX3_pack 26 = .ok (.ireturn, 1) := by decide +kernel
theorem dX3_pack_27 : decode cX3_pack 27 = .ok (.aload_n 0, 1) := by decide +kernel
theorem dX3_pack_28 : decode cX3_pack 28 = .ok (.getfield 10, 3) := by decide +kernel
theorem dX3_pack_31 : decode cX3_pack 31 = .ok (.iload_n 1, 1) := by decide +kernel
theorem dX3_pack_32 : decode cX3_pack 32 = .ok (.invokevirtual 115, 3) := by decide +kernel
theorem dX3_pack_35 : decode cX3_pack 35 = .ok (.ireturn, 1) := by decide +kernel
set_option maxRecDepth 20000 in
theorem ggX3_settle_X3_within : GoodIn wsX3_settle wsX3_within := goodIn_r _ [6] (by decide +kernel) (by decide +kernel)
set_option maxRecDepth 20000 in
theorem gX3_settle_X3_within : GoodIn wsX3_settle (va_wsS RX3 27 yX3_within wsX3_within) := goodIn_app (goodIn_of _ (by decide +kernel)) ggX3_settle_X3_within
set_option maxRecDepth 20000 in
theorem ggX3_settle_X0_settleAll : GoodIn wsX3_settle wsX0_settleAll := goodIn_r _ [11, 12, 13, 14, 15, 16, 17, 18, 19, 20, 21, 22, 23, 5, 24, 36, 37, 38, 39, 40, 41, 42, 43] (by decide +kernel) (by decide +kernel)
set_option maxRecDepth 20000 in
theorem gX3_settle_X0_settleAll : GoodIn wsX3_settle (wsV RX3 118 RX0 yX0_settleAll wsX0_settleAll) := goodIn_app (goodIn_of _ (by decide +kernel)) ggX3_settle_X0_settleAll
set_option maxRecDepth 20000 in
theorem ggX3_settle_X0_allThick : GoodIn wsX3_settle wsX0_allThick := goodIn_r _ [28, 12, 29, 30, 31, 10, 32, 14, 36, 37, 38, 39, 40, 41, 42, 43] (by decide +kernel) (by decide +kernel)
set_option maxRecDepth 20000 in
theorem gX3_settle_X0_allThick : GoodIn wsX3_settle (wsV RX3 122 RX0 yX0_allThick wsX0_allThick) := goodIn_app (goodIn_of _ (by decide +kernel)) ggX3_settle_X0_allThick
theorem dX3_settle_0 : decode cX3_settle 0 = .ok (.iload_n 1, 1) := by decide +kernel
theorem dX3_settle_1 : decode cX3_settle 1 = .ok (.iconst 1, 1) := by decide +kernel
theorem dX3_settle_2 : decode cX3_settle 2 = .ok (.bipush 50, 2) := by decide +kernel
theorem dX3_settle_4 : decode cX3_settle 4 = .ok (.invokestatic 27, 3) := by decide +kernel
theorem dX3_settle_7 : decode cX3_settle 7 = .ok (.ifCond .ne 6, 3) := by decide +kernel
theorem dX3_settle_10 : decode cX3_settle 10 = .ok (.bipush (-2), 2) := by decide +kernel
theorem dX3_settle_12 : decode cX3_settle 12 = .ok (.ireturn, 1) := by decide +kernel
theorem dX3_settle_13 : decode cX3_settle 13 = .ok (.aload_n 0, 1) := by decide +kernel
theorem dX3_settle_14 : decode cX3_settle 14 = .ok (.getfield 10, 3) := by decide +kernel
theorem dX3_settle_17 : decode cX3_settle 17 = .ok (.getfield 31, 3) := by decide +kernel
theorem dX3_settle_20 : decode cX3_settle 20 = .ok (.ifCond .ne 6, 3) := by decide +kernel
theorem dX3_settle_23 : decode cX3_settle 23 = .ok (.bipush (-3), 2) := by decide +kernel
theorem dX3_settle_25 : decode cX3_settle 25 = .ok (.ireturn, 1) := by decide +kernel
theorem dX3_settle_26 : decode cX3_settle 26 = .ok (.aload_n 0, 1) := by decide +kernel
theorem dX3_settle_27 : decode cX3_settle 27 = .ok (.getfield 10, 3) := by decide +kernel
theorem dX3_settle_30 : decode cX3_settle 30 = .ok (.iload_n 1, 1) := by decide +kernel
theorem dX3_settle_31 : decode cX3_settle 31 = .ok (.invokevirtual 118, 3) := by decide +kernel
theorem dX3_settle_34 : decode cX3_settle 34 = .ok (.aload_n 0, 1) := by decide +kernel
theorem dX3_settle_35 : decode cX3_settle 35 = .ok (.getfield 10, 3) := by decide +kernel
theorem dX3_settle_38 : decode cX3_settle 38 = .ok (.invokevirtual 122, 3) := by decide +kernel
theorem dX3_settle_41 : decode cX3_settle 41 = .ok (.ireturn, 1) := by decide +kernel
set_option maxRecDepth 20000 in
theorem ggX3_melt_X3_within : GoodIn wsX3_melt wsX3_within := goodIn_r _ [6] (by decide +kernel) (by decide +kernel)
set_option maxRecDepth 20000 in
theorem gX3_melt_X3_within : GoodIn wsX3_melt (va_wsS RX3 27 yX3_within wsX3_within) := goodIn_app (goodIn_of _ (by decide +kernel)) ggX3_melt_X3_within
set_option maxRecDepth 20000 in
theorem ggX3_melt_X0_meltAway : GoodIn wsX3_melt wsX0_meltAway := goodIn_r _ [11, 12, 13, 23, 24, 25, 26, 27, 28, 29, 30] (by decide +kernel) (by decide +kernel)
set_option maxRecDepth 20000 in
theorem gX3_melt_X0_meltAway : GoodIn wsX3_melt (wsV RX3 126 RX0 yX0_meltAway wsX0_meltAway) := goodIn_app (goodIn_of _ (by decide +kernel)) ggX3_melt_X0_meltAway
set_option maxRecDepth 20000 in
theorem ggX3_melt_X0_wetFromTop : GoodIn wsX3_melt wsX0_wetFromTop := goodIn_r _ [17, 12, 18, 19, 23, 24, 25, 26, 27, 28, 29, 30] (by decide +kernel) (by decide +kernel)
set_option maxRecDepth 20000 in
theorem gX3_melt_X0_wetFromTop : GoodIn wsX3_melt (wsV RX3 129 RX0 yX0_wetFromTop wsX0_wetFromTop) := goodIn_app (goodIn_of _ (by decide +kernel)) ggX3_melt_X0_wetFromTop
theorem dX3_melt_0 : decode cX3_melt 0 = .ok (.iload_n 1, 1) := by decide +kernel
theorem dX3_melt_1 : decode cX3_melt 1 = .ok (.iconst 1, 1) := by decide +kernel
theorem dX3_melt_2 : decode cX3_melt 2 = .ok (.sipush 300, 3) := by decide +kernel
theorem dX3_melt_5 : decode cX3_melt 5 = .ok (.invokestatic 27, 3) := by decide +kernel
theorem dX3_melt_8 : decode cX3_melt 8 = .ok (.ifCond .ne 6, 3) := by decide +kernel
theorem dX3_melt_11 : decode cX3_melt 11 = .ok (.bipush (-2), 2) := by decide +kernel
theorem dX3_melt_13 : decode cX3_melt 13 = .ok (.ireturn, 1) := by decide +kernel
theorem dX3_melt_14 : decode cX3_melt 14 = .ok (.aload_n 0, 1) := by decide +kernel
theorem dX3_melt_15 : decode cX3_melt 15 = .ok (.getfield 10, 3) := by decide +kernel
theorem dX3_melt_18 : decode cX3_melt 18 = .ok (.getfield 31, 3) := by decide +kernel
theorem dX3_melt_21 : decode cX3_melt 21 = .ok (.ifCond .ne 6, 3) := by decide +kernel
theorem dX3_melt_24 : decode cX3_melt 24 = .ok (.bipush (-3), 2) := by decide +kernel
theorem dX3_melt_26 : decode cX3_melt 26 = .ok (.ireturn, 1) := by decide +kernel
theorem dX3_melt_27 : decode cX3_melt 27 = .ok (.aload_n 0, 1) := by decide +kernel
theorem dX3_melt_28 : decode cX3_melt 28 = .ok (.getfield 10, 3) := by decide +kernel
theorem dX3_melt_31 : decode cX3_melt 31 = .ok (.iload_n 1, 1) := by decide +kernel
theorem dX3_melt_32 : decode cX3_melt 32 = .ok (.invokevirtual 126, 3) := by decide +kernel
theorem dX3_melt_35 : decode cX3_melt 35 = .ok (.aload_n 0, 1) := by decide +kernel
theorem dX3_melt_36 : decode cX3_melt 36 = .ok (.getfield 10, 3) := by decide +kernel
theorem dX3_melt_39 : decode cX3_melt 39 = .ok (.invokevirtual 129, 3) := by decide +kernel
theorem dX3_melt_42 : decode cX3_melt 42 = .ok (.aload_n 0, 1) := by decide +kernel
theorem dX3_melt_43 : decode cX3_melt 43 = .ok (.getfield 10, 3) := by decide +kernel
theorem dX3_melt_46 : decode cX3_melt 46 = .ok (.getfield 31, 3) := by decide +kernel
theorem dX3_melt_49 : decode cX3_melt 49 = .ok (.ireturn, 1) := by decide +kernel
set_option maxRecDepth 20000 in
theorem ggX3_freeze_X0_freezeWet : GoodIn wsX3_freeze wsX0_freezeWet := goodIn_r _ [6, 7, 8, 9, 10, 14, 15, 16, 17, 18, 19, 20, 21] (by decide +kernel) (by decide +kernel)
set_option maxRecDepth 20000 in
theorem gX3_freeze_X0_freezeWet : GoodIn wsX3_freeze (wsV RX3 132 RX0 yX0_freezeWet wsX0_freezeWet) := goodIn_app (goodIn_of _ (by decide +kernel)) ggX3_freeze_X0_freezeWet
theorem dX3_freeze_0 : decode cX3_freeze 0 = .ok (.aload_n 0, 1) := by decide +kernel
theorem dX3_freeze_1 : decode cX3_freeze 1 = .ok (.getfield 10, 3) := by decide +kernel
theorem dX3_freeze_4 : decode cX3_freeze 4 = .ok (.invokevirtual 132, 3) := by decide +kernel
theorem dX3_freeze_7 : decode cX3_freeze 7 = .ok (.ireturn, 1) := by decide +kernel
theorem dX3_slide_0 : decode cX3_slide 0 = .ok (.aload_n 0, 1) := by decide +kernel
theorem dX3_slide_1 : decode cX3_slide 1 = .ok (.getfield 10, 3) := by decide +kernel
theorem dX3_slide_4 : decode cX3_slide 4 = .ok (.getfield 31, 3) := by decide +kernel
theorem dX3_slide_7 : decode cX3_slide 7 = .ok (.ifCond .ne 6, 3) := by decide +kernel
theorem dX3_slide_10 : decode cX3_slide 10 = .ok (.bipush (-3), 2) := by decide +kernel
theorem dX3_slide_12 : decode cX3_slide 12 = .ok (.ireturn, 1) := by decide +kernel
theorem dX3_slide_13 : decode cX3_slide 13 = .ok (.aload_n 0, 1) := by decide +kernel
theorem dX3_slide_14 : decode cX3_slide 14 = .ok (.getfield 10, 3) := by decide +kernel
theorem dX3_slide_17 : decode cX3_slide 17 = .ok (.dup, 1) := by decide +kernel
theorem dX3_slide_18 : decode cX3_slide 18 = .ok (.getfield 31, 3) := by decide +kernel
theorem dX3_slide_21 : decode cX3_slide 21 = .ok (.iconst 1, 1) := by decide +kernel
theorem dX3_slide_22 : decode cX3_slide 22 = .ok (.isub, 1) := by decide +kernel
theorem dX3_slide_23 : decode cX3_slide 23 = .ok (.putfield 31, 3) := by decide +kernel
theorem dX3_slide_26 : decode cX3_slide 26 = .ok (.aload_n 0, 1) := by decide +kernel
theorem dX3_slide_27 : decode cX3_slide 27 = .ok (.getfield 10, 3) := by decide +kernel
theorem dX3_slide_30 : decode cX3_slide 30 = .ok (.getfield 31, 3) := by decide +kernel
theorem dX3_slide_33 : decode cX3_slide 33 = .ok (.ireturn, 1) := by decide +kernel
set_option maxRecDepth 20000 in
theorem ggX3_heat_X3_within : GoodIn wsX3_heat wsX3_within := goodIn_r _ [4] (by decide +kernel) (by decide +kernel)
set_option maxRecDepth 20000 in
theorem gX3_heat_X3_within : GoodIn wsX3_heat (va_wsS RX3 27 yX3_within wsX3_within) := goodIn_app (goodIn_of _ (by decide +kernel)) ggX3_heat_X3_within
set_option maxRecDepth 20000 in
theorem ggX3_heat_X1_heatIn : GoodIn wsX3_heat wsX1_heatIn := goodIn_r _ [8, 9, 10, 11, 12, 13, 14, 15, 16, 17, 18, 2, 3, 4] (by decide +kernel) (by decide +kernel)
set_option maxRecDepth 20000 in
theorem gX3_heat_X1_heatIn : GoodIn wsX3_heat (va_wsS RX3 135 yX1_heatIn wsX1_heatIn) := goodIn_app (goodIn_of _ (by decide +kernel)) ggX3_heat_X1_heatIn
set_option maxRecDepth 20000 in
theorem ggX3_heat_X1_heatUpTo : GoodIn wsX3_heat wsX1_heatUpTo := goodIn_r _ [21, 22, 6, 7, 8, 9, 10, 11, 12, 13, 14, 15, 16, 17, 18, 2, 3, 4] (by decide +kernel) (by decide +kernel)
set_option maxRecDepth 20000 in
theorem gX3_heat_X1_heatUpTo : GoodIn wsX3_heat (va_wsS RX3 140 yX1_heatUpTo wsX1_heatUpTo) := goodIn_app (goodIn_of _ (by decide +kernel)) ggX3_heat_X1_heatUpTo
theorem dX3_heat_0 : decode cX3_heat 0 = .ok (.iload_n 1, 1) := by decide +kernel
theorem dX3_heat_1 : decode cX3_heat 1 = .ok (.iconst 0, 1) := by decide +kernel
theorem dX3_heat_2 : decode cX3_heat 2 = .ok (.bipush 7, 2) := by decide +kernel
theorem dX3_heat_4 : decode cX3_heat 4 = .ok (.invokestatic 27, 3) := by decide +kernel
theorem dX3_heat_7 : decode cX3_heat 7 = .ok (.ifCond .ne 5, 3) := by decide +kernel
theorem dX3_heat_10 : decode cX3_heat 10 = .ok (.iconst (-1), 1) := by decide +kernel
theorem dX3_heat_11 : decode cX3_heat 11 = .ok (.ireturn, 1) := by decide +kernel
theorem dX3_heat_12 : decode cX3_heat 12 = .ok (.iload_n 2, 1) := by decide +kernel
theorem dX3_heat_13 : decode cX3_heat 13 = .ok (.iconst 0, 1) := by decide +kernel
theorem dX3_heat_14 : decode cX3_heat 14 = .ok (.bipush 23, 2) := by decide +kernel
theorem dX3_heat_16 : decode cX3_heat 16 = .ok (.invokestatic 27, 3) := by decide +kernel
theorem dX3_heat_19 : decode cX3_heat 19 = .ok (.ifCond .eq 12, 3) := by decide +kernel
theorem dX3_heat_22 : decode cX3_heat 22 = .ok (.iload_n 3, 1) := by decide +kernel
theorem dX3_heat_23 : decode cX3_heat 23 = .ok (.iconst 0, 1) := by decide +kernel
theorem dX3_heat_24 : decode cX3_heat 24 = .ok (.iconst 1, 1) := by decide +kernel
theorem dX3_heat_25 : decode cX3_heat 25 = .ok (.invokestatic 27, 3) := by decide +kernel
theorem dX3_heat_28 : decode cX3_heat 28 = .ok (.ifCond .ne 6, 3) := by decide +kernel
theorem dX3_heat_31 : decode cX3_heat 31 = .ok (.bipush (-2), 2) := by decide +kernel
theorem dX3_heat_33 : decode cX3_heat 33 = .ok (.ireturn, 1) := by decide +kernel
theorem dX3_heat_34 : decode cX3_heat 34 = .ok (.iload_n 3, 1) := by decide +kernel
theorem dX3_heat_35 : decode cX3_heat 35 = .ok (.ifCond .ne 11, 3) := by decide +kernel
theorem dX3_heat_38 : decode cX3_heat 38 = .ok (.iload_n 1, 1) := by decide +kernel
theorem dX3_heat_39 : decode cX3_heat 39 = .ok (.iload_n 2, 1) := by decide +kernel
theorem dX3_heat_40 : decode cX3_heat 40 = .ok (.invokestatic 135, 3) := by decide +kernel
theorem dX3_heat_43 : decode cX3_heat 43 = .ok (.goto 8, 3) := by decide +kernel
theorem dX3_heat_46 : decode cX3_heat 46 = .ok (.iload_n 1, 1) := by decide +kernel
theorem dX3_heat_47 : decode cX3_heat 47 = .ok (.iload_n 2, 1) := by decide +kernel
theorem dX3_heat_48 : decode cX3_heat 48 = .ok (.invokestatic 140, 3) := by decide +kernel
theorem dX3_heat_51 : decode cX3_heat 51 = .ok (.ireturn, 1) := by decide +kernel
set_option maxRecDepth 20000 in
theorem ggX3_warm_X3_within : GoodIn wsX3_warm wsX3_within := goodIn_r _ [4] (by decide +kernel) (by decide +kernel)
set_option maxRecDepth 20000 in
theorem gX3_warm_X3_within : GoodIn wsX3_warm (va_wsS RX3 27 yX3_within wsX3_within) := goodIn_app (goodIn_of _ (by decide +kernel)) ggX3_warm_X3_within
set_option maxRecDepth 20000 in
theorem ggX3_warm_X1_warmHour : GoodIn wsX3_warm wsX1_warmHour := goodIn_r _ [8, 9, 10, 7, 11, 12, 13, 14, 15, 16, 17, 18, 19, 20, 21, 2, 3, 4] (by decide +kernel) (by decide +kernel)
set_option maxRecDepth 20000 in
theorem gX3_warm_X1_warmHour : GoodIn wsX3_warm (va_wsS RX3 143 yX1_warmHour wsX1_warmHour) := goodIn_app (goodIn_of _ (by decide +kernel)) ggX3_warm_X1_warmHour
theorem dX3_warm_0 : decode cX3_warm 0 = .ok (.iload_n 1, 1) := by decide +kernel
theorem dX3_warm_1 : decode cX3_warm 1 = .ok (.iconst 0, 1) := by decide +kernel
theorem dX3_warm_2 : decode cX3_warm 2 = .ok (.bipush 7, 2) := by decide +kernel
theorem dX3_warm_4 : decode cX3_warm 4 = .ok (.invokestatic 27, 3) := by decide +kernel
theorem dX3_warm_7 : decode cX3_warm 7 = .ok (.ifCond .ne 5, 3) := by decide +kernel
theorem dX3_warm_10 : decode cX3_warm 10 = .ok (.iconst (-1), 1) := by decide +kernel
theorem dX3_warm_11 : decode cX3_warm 11 = .ok (.ireturn, 1) := by decide +kernel
theorem dX3_warm_12 : decode cX3_warm 12 = .ok (.iload_n 2, 1) := by decide +kernel
theorem dX3_warm_13 : decode cX3_warm 13 = .ok (.iconst 1, 1) := by decide +kernel
theorem dX3_warm_14 : decode cX3_warm 14 = .ok (.sipush 999, 3) := by decide +kernel
theorem dX3_warm_17 : decode cX3_warm 17 = .ok (.invokestatic 27, 3) := by decide +kernel
theorem dX3_warm_20 : decode cX3_warm 20 = .ok (.ifCond .ne 6, 3) := by decide +kernel
theorem dX3_warm_23 : decode cX3_warm 23 = .ok (.bipush (-2), 2) := by decide +kernel
theorem dX3_warm_25 : decode cX3_warm 25 = .ok (.ireturn, 1) := by decide +kernel
theorem dX3_warm_26 : decode cX3_warm 26 = .ok (.iload_n 1, 1) := by decide +kernel
theorem dX3_warm_27 : decode cX3_warm 27 = .ok (.iload_n 2, 1) := by decide +kernel
theorem dX3_warm_28 : decode cX3_warm 28 = .ok (.invokestatic 143, 3) := by decide +kernel
theorem dX3_warm_31 : decode cX3_warm 31 = .ok (.ireturn, 1) := by decide +kernel
set_option maxRecDepth 20000 in
theorem ggX3_order_X3_within : GoodIn wsX3_order wsX3_within := goodIn_r _ [4] (by decide +kernel) (by decide +kernel)
set_option maxRecDepth 20000 in
theorem gX3_order_X3_within : GoodIn wsX3_order (va_wsS RX3 27 yX3_within wsX3_within) := goodIn_app (goodIn_of _ (by decide +kernel)) ggX3_order_X3_within
set_option maxRecDepth 20000 in
theorem ggX3_order_X1_warmSides : GoodIn wsX3_order wsX1_warmSides := goodIn_r _ [8, 9, 10, 7, 11, 12, 13, 14, 15, 16, 17, 18, 19, 20, 21, 22, 23, 24, 2, 3, 4] (by decide +kernel) (by decide +kernel)
set_option maxRecDepth 20000 in
theorem gX3_order_X1_warmSides : GoodIn wsX3_order (va_wsS RX3 146 yX1_warmSides wsX1_warmSides) := goodIn_app (goodIn_of _ (by decide +kernel)) ggX3_order_X1_warmSides
set_option maxRecDepth 20000 in
theorem ggX3_order_X1_sideAtPlace : GoodIn wsX3_order wsX1_sideAtPlace := goodIn_r _ [27, 9, 10, 7, 11, 12, 13, 14, 15, 16, 17, 18, 19, 20, 21, 22, 23, 24, 2, 3, 4] (by decide +kernel) (by decide +kernel)
set_option maxRecDepth 20000 in
theorem gX3_order_X1_sideAtPlace : GoodIn wsX3_order (va_wsS RX3 149 yX1_sideAtPlace wsX1_sideAtPlace) := goodIn_app (goodIn_of _ (by decide +kernel)) ggX3_order_X1_sideAtPlace
theorem dX3_order_0 : decode cX3_order 0 = .ok (.iload_n 1, 1) := by decide +kernel
theorem dX3_order_1 : decode cX3_order 1 = .ok (.iconst 1, 1) := by decide +kernel
theorem dX3_order_2 : decode cX3_order 2 = .ok (.sipush 999, 3) := by decide +kernel
theorem dX3_order_5 : decode cX3_order 5 = .ok (.invokestatic 27, 3) := by decide +kernel
theorem dX3_order_8 : decode cX3_order 8 = .ok (.ifCond .ne 6, 3) := by decide +kernel
theorem dX3_order_11 : decode cX3_order 11 = .ok (.bipush (-2), 2) := by decide +kernel
theorem dX3_order_13 : decode cX3_order 13 = .ok (.ireturn, 1) := by decide +kernel
theorem dX3_order_14 : decode cX3_order 14 = .ok (.iload_n 2, 1) := by decide +kernel
theorem dX3_order_15 : decode cX3_order 15 = .ok (.iconst (-1), 1) := by decide +kernel
theorem dX3_order_16 : decode cX3_order 16 = .ok (.if_icmp .ne 10, 3) := by decide +kernel
theorem dX3_order_19 : decode cX3_order 19 = .ok (.iload_n 1, 1) := by decide +kernel
theorem dX3_order_20 : decode cX3_order 20 = .ok (.invokestatic 146, 3) := by decide +kernel
theorem dX3_order_23 : decode cX3_order 23 = .ok (.goto 8, 3) := by decide +kernel
theorem dX3_order_26 : decode cX3_order 26 = .ok (.iload_n 1, 1) := by decide +kernel
theorem dX3_order_27 : decode cX3_order 27 = .ok (.iload_n 2, 1) := by decide +kernel
theorem dX3_order_28 : decode cX3_order 28 = .ok (.invokestatic 149, 3) := by decide +kernel
theorem dX3_order_31 : decode cX3_order 31 = .ok (.ireturn, 1) := by decide +kernel
set_option maxRecDepth 20000 in
theorem ggX3_image_X3_within : GoodIn wsX3_image wsX3_within := goodIn_r _ [9] (by decide +kernel) (by decide +kernel)
set_option maxRecDepth 20000 in
theorem gX3_image_X3_within : GoodIn wsX3_image (va_wsS RX3 27 yX3_within wsX3_within) := goodIn_app (goodIn_of _ (by decide +kernel)) ggX3_image_X3_within
set_option maxRecDepth 20000 in
theorem ggX3_image_X0_init : GoodIn wsX3_image wsX0_init := goodIn_r _ [12, 13, 14, 15, 16, 17, 18, 19, 20, 21, 22, 23, 24, 25, 26, 27, 28, 29, 30, 31, 43, 44, 45, 46, 47, 48, 49, 50] (by decide +kernel) (by decide +kernel)
set_option maxRecDepth 20000 in
theorem gX3_image_X0_init : GoodIn wsX3_image (wsX0_init) := ggX3_image_X0_init
set_option maxRecDepth 20000 in
theorem ggX3_image_X0_takeFrom : GoodIn wsX3_image wsX0_takeFrom := goodIn_r _ [35, 16, 17, 19, 36, 37, 38, 39, 20, 21, 22, 24, 31, 43, 44, 45, 46, 47, 48, 49, 50] (by decide +kernel) (by decide +kernel)
set_option maxRecDepth 20000 in
theorem gX3_image_X0_takeFrom : GoodIn wsX3_image (wsV RX3 152 RX0 yX0_takeFrom wsX0_takeFrom) := goodIn_app (goodIn_of _ (by decide +kernel)) ggX3_image_X0_takeFrom
theorem dX3_image_0 : decode cX3_image 0 = .ok (.iload_n 1, 1) := by decide +kernel
theorem dX3_image_1 : decode cX3_image 1 = .ok (.iconst 0, 1) := by decide +kernel
theorem dX3_image_2 : decode cX3_image 2 = .ok (.iconst 1, 1) := by decide +kernel
theorem dX3_image_3 : decode cX3_image 3 = .ok (.invokestatic 27, 3) := by decide +kernel
theorem dX3_image_6 : decode cX3_image 6 = .ok (.ifCond .ne 6, 3) := by decide +kernel
theorem dX3_image_9 : decode cX3_image 9 = .ok (.bipush (-2), 2) := by decide +kernel
theorem dX3_image_11 : decode cX3_image 11 = .ok (.ireturn, 1) := by decide +kernel
theorem dX3_image_12 : decode cX3_image 12 = .ok (.aload_n 0, 1) := by decide +kernel
theorem dX3_image_13 : decode cX3_image 13 = .ok (.getfield 23, 3) := by decide +kernel
theorem dX3_image_16 : decode cX3_image 16 = .ok (.iload_n 1, 1) := by decide +kernel
theorem dX3_image_17 : decode cX3_image 17 = .ok (.aaload, 1) := by decide +kernel
theorem dX3_image_18 : decode cX3_image 18 = .ok (.ifnonnull 16, 3) := by decide +kernel
theorem dX3_image_21 : decode cX3_image 21 = .ok (.aload_n 0, 1) := by decide +kernel
theorem dX3_image_22 : decode cX3_image 22 = .ok (.getfield 23, 3) := by decide +kernel
theorem dX3_image_25 : decode cX3_image 25 = .ok (.iload_n 1, 1) := by decide +kernel
theorem dX3_image_26 : decode cX3_image 26 = .ok (.new 7, 3) := by decide +kernel
theorem dX3_image_29 : decode cX3_image 29 = .ok (.dup, 1) := by decide +kernel
theorem dX3_image_30 : decode cX3_image 30 = .ok (.invokespecial 9, 3) := by decide +kernel
theorem dX3_image_33 : decode cX3_image 33 = .ok (.aastore, 1) := by decide +kernel
theorem dX3_image_34 : decode cX3_image 34 = .ok (.aload_n 0, 1) := by decide +kernel
theorem dX3_image_35 : decode cX3_image 35 = .ok (.getfield 23, 3) := by decide +kernel
theorem dX3_image_38 : decode cX3_image 38 = .ok (.iload_n 1, 1) := by decide +kernel
theorem dX3_image_39 : decode cX3_image 39 = .ok (.aaload, 1) := by decide +kernel
theorem dX3_image_40 : decode cX3_image 40 = .ok (.aload_n 0, 1) := by decide +kernel
theorem dX3_image_41 : decode cX3_image 41 = .ok (.getfield 10, 3) := by decide +kernel
theorem dX3_image_44 : decode cX3_image 44 = .ok (.invokevirtual 152, 3) := by decide +kernel
theorem dX3_image_47 : decode cX3_image 47 = .ok (.iconst 1, 1) := by decide +kernel
theorem dX3_image_48 : decode cX3_image 48 = .ok (.ireturn, 1) := by decide +kernel
set_option maxRecDepth 20000 in
theorem ggX3_restore_X3_within : GoodIn wsX3_restore wsX3_within := goodIn_r _ [6] (by decide +kernel) (by decide +kernel)
set_option maxRecDepth 20000 in
theorem gX3_restore_X3_within : GoodIn wsX3_restore (va_wsS RX3 27 yX3_within wsX3_within) := goodIn_app (goodIn_of _ (by decide +kernel)) ggX3_restore_X3_within
set_option maxRecDepth 20000 in
theorem ggX3_restore_X0_takeFrom : GoodIn wsX3_restore wsX0_takeFrom := goodIn_r _ [11, 12, 13, 14, 15, 16, 17, 18, 19, 20, 21, 22, 23, 27, 28, 29, 30, 31, 32, 33, 34] (by decide +kernel) (by decide +kernel)
set_option maxRecDepth 20000 in
theorem gX3_restore_X0_takeFrom : GoodIn wsX3_restore (wsV RX3 152 RX0 yX0_takeFrom wsX0_takeFrom) := goodIn_app (goodIn_of _ (by decide +kernel)) ggX3_restore_X0_takeFrom
theorem dX3_restore_0 : decode cX3_restore 0 = .ok (.iload_n 1, 1) := by decide +kernel
theorem dX3_restore_1 : decode cX3_restore 1 = .ok (.iconst 0, 1) := by decide +kernel
theorem dX3_restore_2 : decode cX3_restore 2 = .ok (.iconst 1, 1) := by decide +kernel
theorem dX3_restore_3 : decode cX3_restore 3 = .ok (.invokestatic 27, 3) := by decide +kernel
theorem dX3_restore_6 : decode cX3_restore 6 = .ok (.ifCond .ne 6, 3) := by decide +kernel
theorem dX3_restore_9 : decode cX3_restore 9 = .ok (.bipush (-2), 2) := by decide +kernel
theorem dX3_restore_11 : decode cX3_restore 11 = .ok (.ireturn, 1) := by decide +kernel
theorem dX3_restore_12 : decode cX3_restore 12 = .ok (.aload_n 0, 1) := by decide +kernel
theorem dX3_restore_13 : decode cX3_restore 13 = .ok (.getfield 23, 3) := by decide +kernel
theorem dX3_restore_16 : decode cX3_restore 16 = .ok (.iload_n 1, 1) := by decide +kernel
theorem dX3_restore_17 : decode cX3_restore 17 = .ok (.aaload, 1) := by decide +kernel
theorem dX3_restore_18 : decode cX3_restore 18 = .ok (.ifnonnull 6, 3) := by decide +kernel
theorem dX3_restore_21 : decode cX3_restore 21 = .ok (.bipush (-3), 2) := by decide +kernel
theorem dX3_restore_23 : decode cX3_restore 23 = .ok (.ireturn, 1) := by decide +kernel
theorem dX3_restore_24 : decode cX3_restore 24 = .ok (.aload_n 0, 1) := by decide +kernel
theorem dX3_restore_25 : decode cX3_restore 25 = .ok (.getfield 10, 3) := by decide +kernel
theorem dX3_restore_28 : decode cX3_restore 28 = .ok (.aload_n 0, 1) := by decide +kernel
theorem dX3_restore_29 : decode cX3_restore 29 = .ok (.getfield 23, 3) := by decide +kernel
theorem dX3_restore_32 : decode cX3_restore 32 = .ok (.iload_n 1, 1) := by decide +kernel
theorem dX3_restore_33 : decode cX3_restore 33 = .ok (.aaload, 1) := by decide +kernel
theorem dX3_restore_34 : decode cX3_restore 34 = .ok (.invokevirtual 152, 3) := by decide +kernel
theorem dX3_restore_37 : decode cX3_restore 37 = .ok (.iconst 1, 1) := by decide +kernel
theorem dX3_restore_38 : decode cX3_restore 38 = .ok (.ireturn, 1) := by decide +kernel
set_option maxRecDepth 20000 in
theorem ggX3_count_X3_within : GoodIn wsX3_count wsX3_within := goodIn_r _ [8] (by decide +kernel) (by decide +kernel)
set_option maxRecDepth 20000 in
theorem gX3_count_X3_within : GoodIn wsX3_count (va_wsS RX3 27 yX3_within wsX3_within) := goodIn_app (goodIn_of _ (by decide +kernel)) ggX3_count_X3_within
set_option maxRecDepth 20000 in
theorem ggX3_count_X0_allThick : GoodIn wsX3_count wsX0_allThick := goodIn_r _ [13, 14, 15, 16, 17, 12, 18, 19, 33, 34, 35, 36, 37, 38, 39, 40] (by decide +kernel) (by decide +kernel)
set_option maxRecDepth 20000 in
theorem gX3_count_X0_allThick : GoodIn wsX3_count (wsV RX3 122 RX0 yX0_allThick wsX0_allThick) := goodIn_app (goodIn_of _ (by decide +kernel)) ggX3_count_X0_allThick
set_option maxRecDepth 20000 in
theorem ggX3_count_X0_massAbove : GoodIn wsX3_count wsX0_massAbove := goodIn_r _ [23, 19, 24, 33, 34, 35, 36, 37, 38, 39, 40] (by decide +kernel) (by decide +kernel)
set_option maxRecDepth 20000 in
theorem gX3_count_X0_massAbove : GoodIn wsX3_count (wsV RX3 155 RX0 yX0_massAbove wsX0_massAbove) := goodIn_app (goodIn_of _ (by decide +kernel)) ggX3_count_X0_massAbove
set_option maxRecDepth 20000 in
theorem ggX3_count_X3_keptSet : GoodIn wsX3_count wsX3_keptSet := goodIn_r _ [28, 29, 30, 31, 32] (by decide +kernel) (by decide +kernel)
set_option maxRecDepth 20000 in
theorem gX3_count_X3_keptSet : GoodIn wsX3_count (wsV RX3 158 RX3 yX3_keptSet wsX3_keptSet) := goodIn_app (goodIn_of _ (by decide +kernel)) ggX3_count_X3_keptSet
theorem dX3_count_0 : decode cX3_count 0 = .ok (.iload_n 1, 1) := by decide +kernel
theorem dX3_count_1 : decode cX3_count 1 = .ok (.bipush 10, 2) := by decide +kernel
theorem dX3_count_3 : decode cX3_count 3 = .ok (.bipush 14, 2) := by decide +kernel
theorem dX3_count_5 : decode cX3_count 5 = .ok (.invokestatic 27, 3) := by decide +kernel
theorem dX3_count_8 : decode cX3_count 8 = .ok (.ifCond .eq 16, 3) := by decide +kernel
theorem dX3_count_11 : decode cX3_count 11 = .ok (.aload_n 0, 1) := by decide +kernel
theorem dX3_count_12 : decode cX3_count 12 = .ok (.getfield 10, 3) := by decide +kernel
theorem dX3_count_15 : decode cX3_count 15 = .ok (.getfield 39, 3) := by decide +kernel
theorem dX3_count_18 : decode cX3_count 18 = .ok (.iload_n 1, 1) := by decide +kernel
theorem dX3_count_19 : decode cX3_count 19 = .ok (.bipush 10, 2) := by decide +kernel
theorem dX3_count_21 : decode cX3_count 21 = .ok (.isub, 1) := by decide +kernel
theorem dX3_count_22 : decode cX3_count 22 = .ok (.iaload, 1) := by decide +kernel
theorem dX3_count_23 : decode cX3_count 23 = .ok (.ireturn, 1) := by decide +kernel
theorem dX3_count_24 : decode cX3_count 24 = .ok (.iload_n 1, 1) := by decide +kernel
theorem dX3_count_25 : decode cX3_count 25 = .ok (.tableswitch 80 0 4 #[35, 43, 51, 67, 75], 35) := by decide +kernel
theorem dX3_count_60 : decode cX3_count 60 = .ok (.aload_n 0, 1) := by decide +kernel
theorem dX3_count_61 : decode cX3_count 61 = .ok (.getfield 10, 3) := by decide +kernel
theorem dX3_count_64 : decode cX3_count 64 = .ok (.getfield 31, 3) := by decide +kernel
theorem dX3_count_67 : decode cX3_count 67 = .ok (.ireturn, 1) := by decide +kernel
theorem dX3_count_68 : decode cX3_count 68 = .ok (.aload_n 0, 1) := by decide +kernel
theorem dX3_count_69 : decode cX3_count 69 = .ok (.getfield 10, 3) := by decide +kernel
theorem dX3_count_72 : decode cX3_count 72 = .ok (.invokevirtual 122, 3) := by decide +kernel
theorem dX3_count_75 : decode cX3_count 75 = .ok (.ireturn, 1) := by decide +kernel
theorem dX3_count_76 : decode cX3_count 76 = .ok (.aload_n 0, 1) := by decide +kernel
theorem dX3_count_77 : decode cX3_count 77 = .ok (.getfield 10, 3) := by decide +kernel
theorem dX3_count_80 : decode cX3_count 80 = .ok (.iconst (-1), 1) := by decide +kernel
theorem dX3_count_81 : decode cX3_count 81 = .ok (.aload_n 0, 1) := by decide +kernel
theorem dX3_count_82 : decode cX3_count 82 = .ok (.getfield 10, 3) := by decide +kernel
theorem dX3_count_85 : decode cX3_count 85 = .ok (.getfield 31, 3) := by decide +kernel
theorem dX3_count_88 : decode cX3_count 88 = .ok (.invokevirtual 155, 3) := by decide +kernel
theorem dX3_count_91 : decode cX3_count 91 = .ok (.ireturn, 1) := by decide +kernel
theorem dX3_count_92 : decode cX3_count 92 = .ok (.aload_n 0, 1) := by decide +kernel
theorem dX3_count_93 : decode cX3_count 93 = .ok (.getfield 10, 3) := by decide +kernel
theorem dX3_count_96 : decode cX3_count 96 = .ok (.getfield 83, 3) := by decide +kernel
theorem dX3_count_99 : decode cX3_count 99 = .ok (.ireturn, 1) := by decide +kernel
theorem dX3_count_100 : decode cX3_count 100 = .ok (.aload_n 0, 1) := by decide +kernel
theorem dX3_count_101 : decode cX3_count 101 = .ok (.invokevirtual 158, 3) := by decide +kernel
theorem dX3_count_104 : decode cX3_count 104 = .ok (.ireturn, 1) := by decide +kernel
theorem dX3_count_105 : decode cX3_count 105 = .ok (.bipush (-2), 2) := by decide +kernel
theorem dX3_count_107 : decode cX3_count 107 = .ok (.ireturn, 1) := by decide +kernel
theorem dX3_keptSet_0 : decode cX3_keptSet 0 = .ok (.iconst 0, 1) := by decide +kernel
theorem dX3_keptSet_1 : decode cX3_keptSet 1 = .ok (.istore_n 1, 1) := by decide +kernel
theorem dX3_keptSet_2 : decode cX3_keptSet 2 = .ok (.iconst 0, 1) := by decide +kernel
theorem dX3_keptSet_3 : decode cX3_keptSet 3 = .ok (.istore_n 2, 1) := by decide +kernel
theorem dX3_keptSet_4 : decode cX3_keptSet 4 = .ok (.iload_n 2, 1) := by decide +kernel
theorem dX3_keptSet_5 : decode cX3_keptSet 5 = .ok (.iconst 2, 1) := by decide +kernel
theorem dX3_keptSet_6 : decode cX3_keptSet 6 = .ok (.if_icmp .ge 24, 3) := by decide +kernel
theorem dX3_keptSet_9 : decode cX3_keptSet 9 = .ok (.aload_n 0, 1) := by decide +kernel
theorem dX3_keptSet_10 : decode cX3_keptSet 10 = .ok (.getfield 23, 3) := by decide +kernel
theorem dX3_keptSet_13 : decode cX3_keptSet 13 = .ok (.iload_n 2, 1) := by decide +kernel
theorem dX3_keptSet_14 : decode cX3_keptSet 14 = .ok (.aaload, 1) := by decide +kernel
theorem dX3_keptSet_15 : decode cX3_keptSet 15 = .ok (.ifnull 9, 3) := by decide +kernel
theorem dX3_keptSet_18 : decode cX3_keptSet 18 = .ok (.iload_n 1, 1) := by decide +kernel
theorem dX3_keptSet_19 : decode cX3_keptSet 19 = .ok (.iconst 1, 1) := by decide +kernel
theorem dX3_keptSet_20 : decode cX3_keptSet 20 = .ok (.iload_n 2, 1) := by decide +kernel
theorem dX3_keptSet_21 : decode cX3_keptSet 21 = .ok (.ishl, 1) := by decide +kernel
theorem dX3_keptSet_22 : decode cX3_keptSet 22 = .ok (.ior, 1) := by decide +kernel
theorem dX3_keptSet_23 : decode cX3_keptSet 23 = .ok (.istore_n 1, 1) := by decide +kernel
theorem dX3_keptSet_24 : decode cX3_keptSet 24 = .ok (.iinc 2 1, 3) := by decide +kernel
theorem dX3_keptSet_27 : decode cX3_keptSet 27 = .ok (.goto (-23), 3) := by decide +kernel
theorem dX3_keptSet_30 : decode cX3_keptSet 30 = .ok (.iload_n 1, 1) := by decide +kernel
theorem dX3_keptSet_31 : decode cX3_keptSet 31 = .ok (.ireturn, 1) := by decide +kernel
theorem dX3_within_0 : decode cX3_within 0 = .ok (.iload_n 0, 1) := by decide +kernel
theorem dX3_within_1 : decode cX3_within 1 = .ok (.iload_n 1, 1) := by decide +kernel
theorem dX3_within_2 : decode cX3_within 2 = .ok (.if_icmp .lt 12, 3) := by decide +kernel
theorem dX3_within_5 : decode cX3_within 5 = .ok (.iload_n 0, 1) := by decide +kernel
theorem dX3_within_6 : decode cX3_within 6 = .ok (.iload_n 2, 1) := by decide +kernel
theorem dX3_within_7 : decode cX3_within 7 = .ok (.if_icmp .gt 7, 3) := by decide +kernel
theorem dX3_within_10 : decode cX3_within 10 = .ok (.iconst 1, 1) := by decide +kernel
theorem dX3_within_11 : decode cX3_within 11 = .ok (.goto 4, 3) := by decide +kernel
theorem dX3_within_14 : decode cX3_within 14 = .ok (.iconst 0, 1) := by decide +kernel
theorem dX3_within_15 : decode cX3_within 15 = .ok (.ireturn, 1) := by decide +kernel
theorem dX3_cut_0 : decode cX3_cut 0 = .ok (.iload_n 1, 1) := by decide +kernel
theorem dX3_cut_1 : decode cX3_cut 1 = .ok (.ifCond .ne 7, 3) := by decide +kernel
theorem dX3_cut_4 : decode cX3_cut 4 = .ok (.iconst 0, 1) := by decide +kernel
theorem dX3_cut_5 : decode cX3_cut 5 = .ok (.goto 6, 3) := by decide +kernel
theorem dX3_cut_8 : decode cX3_cut 8 = .ok (.iload_n 0, 1) := by decide +kernel
theorem dX3_cut_9 : decode cX3_cut 9 = .ok (.iload_n 1, 1) := by decide +kernel
theorem dX3_cut_10 : decode cX3_cut 10 = .ok (.idiv, 1) := by decide +kernel
theorem dX3_cut_11 : decode cX3_cut 11 = .ok (.ireturn, 1) := by decide +kernel
