theorem dX4_init_0 : decode cX4_init 0 = .ok (.aload_n 0, 1) := by decide +kernel
theorem dX4_init_1 : decode cX4_init 1 = .ok (.invokespecial 1, 3) := by decide +kernel
theorem dX4_init_4 : decode cX4_init 4 = .ok (.aload_n 0, 1) := by decide +kernel
theorem dX4_init_5 : decode cX4_init 5 = .ok (.bipush 57, 2) := by decide +kernel
theorem dX4_init_7 : decode cX4_init 7 = .ok (.newarray .int, 2) := by decide +kernel
theorem dX4_init_9 : decode cX4_init 9 = .ok (.putfield 7, 3) := by decide +kernel
theorem dX4_init_12 : decode cX4_init 12 = .ok (.aload_n 0, 1) := by decide +kernel
theorem dX4_init_13 : decode cX4_init 13 = .ok (.bipush 114, 2) := by decide +kernel
theorem dX4_init_15 : decode cX4_init 15 = .ok (.newarray .int, 2) := by decide +kernel
theorem dX4_init_17 : decode cX4_init 17 = .ok (.putfield 13, 3) := by decide +kernel
theorem dX4_init_20 : decode cX4_init 20 = .ok (.aload_n 0, 1) := by decide +kernel
theorem dX4_init_21 : decode cX4_init 21 = .ok (.iconst 2, 1) := by decide +kernel
theorem dX4_init_22 : decode cX4_init 22 = .ok (.newarray .boolean, 2) := by decide +kernel
theorem dX4_init_24 : decode cX4_init 24 = .ok (.putfield 16, 3) := by decide +kernel
theorem dX4_init_27 : decode cX4_init 27 = .ok (.aload_n 0, 1) := by decide +kernel
theorem dX4_init_28 : decode cX4_init 28 = .ok (.bipush 30, 2) := by decide +kernel
theorem dX4_init_30 : decode cX4_init 30 = .ok (.newarray .int, 2) := by decide +kernel
theorem dX4_init_32 : decode cX4_init 32 = .ok (.putfield 20, 3) := by decide +kernel
theorem dX4_init_35 : decode cX4_init 35 = .ok (.aload_n 0, 1) := by decide +kernel
theorem dX4_init_36 : decode cX4_init 36 = .ok (.bipush 30, 2) := by decide +kernel
theorem dX4_init_38 : decode cX4_init 38 = .ok (.newarray .int, 2) := by decide +kernel
theorem dX4_init_40 : decode cX4_init 40 = .ok (.putfield 23, 3) := by decide +kernel
theorem dX4_init_43 : decode cX4_init 43 = .ok (.aload_n 0, 1) := by decide +kernel
theorem dX4_init_44 : decode cX4_init 44 = .ok (.getfield 7, 3) := by decide +kernel
theorem dX4_init_47 : decode cX4_init 47 = .ok (.iconst 1, 1) := by decide +kernel
theorem dX4_init_48 : decode cX4_init 48 = .ok (.bipush 10, 2) := by decide +kernel
theorem dX4_init_50 : decode cX4_init 50 = .ok (.iastore, 1) := by decide +kernel
theorem dX4_init_51 : decode cX4_init 51 = .ok (.aload_n 0, 1) := by decide +kernel
theorem dX4_init_52 : decode cX4_init 52 = .ok (.getfield 7, 3) := by decide +kernel
theorem dX4_init_55 : decode cX4_init 55 = .ok (.iconst 2, 1) := by decide +kernel
theorem dX4_init_56 : decode cX4_init 56 = .ok (.bipush 8, 2) := by decide +kernel
theorem dX4_init_58 : decode cX4_init 58 = .ok (.iastore, 1) := by decide +kernel
theorem dX4_init_59 : decode cX4_init 59 = .ok (.aload_n 0, 1) := by decide +kernel
theorem dX4_init_60 : decode cX4_init 60 = .ok (.getfield 7, 3) := by decide +kernel
theorem dX4_init_63 : decode cX4_init 63 = .ok (.iconst 3, 1) := by decide +kernel
theorem dX4_init_64 : decode cX4_init 64 = .ok (.bipush 20, 2) := by decide +kernel
theorem dX4_init_66 : decode cX4_init 66 = .ok (.iastore, 1) := by decide +kernel
theorem dX4_init_67 : decode cX4_init 67 = .ok (.aload_n 0, 1) := by decide +kernel
theorem dX4_init_68 : decode cX4_init 68 = .ok (.getfield 7, 3) := by decide +kernel
theorem dX4_init_71 : decode cX4_init 71 = .ok (.iconst 4, 1) := by decide +kernel
theorem dX4_init_72 : decode cX4_init 72 = .ok (.bipush 6, 2) := by decide +kernel
theorem dX4_init_74 : decode cX4_init 74 = .ok (.iastore, 1) := by decide +kernel
theorem dX4_init_75 : decode cX4_init 75 = .ok (.aload_n 0, 1) := by decide +kernel
theorem dX4_init_76 : decode cX4_init 76 = .ok (.getfield 7, 3) := by decide +kernel
theorem dX4_init_79 : decode cX4_init 79 = .ok (.iconst 5, 1) := by decide +kernel
theorem dX4_init_80 : decode cX4_init 80 = .ok (.iconst 3, 1) := by decide +kernel
theorem dX4_init_81 : decode cX4_init 81 = .ok (.iastore, 1) := by decide +kernel
theorem dX4_init_82 : decode cX4_init 82 = .ok (.aload_n 0, 1) := by decide +kernel
theorem dX4_init_83 : decode cX4_init 83 = .ok (.getfield 7, 3) := by decide +kernel
theorem dX4_init_86 : decode cX4_init 86 = .ok (.bipush 6, 2) := by decide +kernel
theorem dX4_init_88 : decode cX4_init 88 = .ok (.bipush 40, 2) := by decide +kernel
theorem dX4_init_90 : decode cX4_init 90 = .ok (.iastore, 1) := by decide +kernel
theorem dX4_init_91 : decode cX4_init 91 = .ok (.return_, 1) := by decide +kernel
theorem dX4_in_0 : decode cX4_in 0 = .ok (.iload_n 0, 1) := by decide +kernel
theorem dX4_in_1 : decode cX4_in 1 = .ok (.iload_n 1, 1) := by decide +kernel
theorem dX4_in_2 : decode cX4_in 2 = .ok (.if_icmp .lt 12, 3) := by decide +kernel
theorem dX4_in_5 : decode cX4_in 5 = .ok (.iload_n 0, 1) := by decide +kernel
theorem dX4_in_6 : decode cX4_in 6 = .ok (.iload_n 2, 1) := by decide +kernel
theorem dX4_in_7 : decode cX4_in 7 = .ok (.if_icmp .gt 7, 3) := by decide +kernel
theorem dX4_in_10 : decode cX4_in 10 = .ok (.iconst 1, 1) := by decide +kernel
theorem dX4_in_11 : decode cX4_in 11 = .ok (.goto 4, 3) := by decide +kernel
theorem dX4_in_14 : decode cX4_in 14 = .ok (.iconst 0, 1) := by decide +kernel
theorem dX4_in_15 : decode cX4_in 15 = .ok (.ireturn, 1) := by decide +kernel
set_option maxRecDepth 20000 in
theorem ggX4_isLayer_X4_in : GoodIn wsX4_isLayer wsX4_in := goodIn_r _ [5] (by decide +kernel) (by decide +kernel)
set_option maxRecDepth 20000 in
theorem gX4_isLayer_X4_in : GoodIn wsX4_isLayer (va_wsS RX4 26 yX4_in wsX4_in) := goodIn_app (goodIn_of _ (by decide +kernel)) ggX4_isLayer_X4_in
theorem dX4_isLayer_0 : decode cX4_isLayer 0 = .ok (.iload_n 1, 1) := by decide +kernel
theorem dX4_isLayer_1 : decode cX4_isLayer 1 = .ok (.iconst 0, 1) := by decide +kernel
theorem dX4_isLayer_2 : decode cX4_isLayer 2 = .ok (.aload_n 0, 1) := by decide +kernel
theorem dX4_isLayer_3 : decode cX4_isLayer 3 = .ok (.getfield 7, 3) := by decide +kernel
theorem dX4_isLayer_6 : decode cX4_isLayer 6 = .ok (.iconst 0, 1) := by decide +kernel
theorem dX4_isLayer_7 : decode cX4_isLayer 7 = .ok (.iaload, 1) := by decide +kernel
theorem dX4_isLayer_8 : decode cX4_isLayer 8 = .ok (.iconst 1, 1) := by decide +kernel
theorem dX4_isLayer_9 : decode cX4_isLayer 9 = .ok (.isub, 1) := by decide +kernel
theorem dX4_isLayer_10 : decode cX4_isLayer 10 = .ok (.invokestatic 26, 3) := by decide +kernel
theorem dX4_isLayer_13 : decode cX4_isLayer 13 = .ok (.ireturn, 1) := by decide +kernel
theorem dX4_at_0 : decode cX4_at 0 = .ok (.bipush 7, 2) := by decide +kernel
theorem dX4_at_2 : decode cX4_at 2 = .ok (.iconst 5, 1) := by decide +kernel
theorem dX4_at_3 : decode cX4_at 3 = .ok (.iload_n 0, 1) := by decide +kernel
theorem dX4_at_4 : decode cX4_at 4 = .ok (.imul, 1) := by decide +kernel
theorem dX4_at_5 : decode cX4_at 5 = .ok (.iadd, 1) := by decide +kernel
theorem dX4_at_6 : decode cX4_at 6 = .ok (.iload_n 1, 1) := by decide +kernel
theorem dX4_at_7 : decode cX4_at 7 = .ok (.iadd, 1) := by decide +kernel
theorem dX4_at_8 : decode cX4_at 8 = .ok (.ireturn, 1) := by decide +kernel
theorem dX4_top_0 : decode cX4_top 0 = .ok (.aload_n 0, 1) := by decide +kernel
theorem dX4_top_1 : decode cX4_top 1 = .ok (.getfield 7, 3) := by decide +kernel
theorem dX4_top_4 : decode cX4_top 4 = .ok (.iconst 0, 1) := by decide +kernel
theorem dX4_top_5 : decode cX4_top 5 = .ok (.iaload, 1) := by decide +kernel
theorem dX4_top_6 : decode cX4_top 6 = .ok (.iconst 1, 1) := by decide +kernel
theorem dX4_top_7 : decode cX4_top 7 = .ok (.isub, 1) := by decide +kernel
theorem dX4_top_8 : decode cX4_top 8 = .ok (.ireturn, 1) := by decide +kernel
set_option maxRecDepth 20000 in
theorem ggX4_storm_X4_in : GoodIn wsX4_storm wsX4_in := goodIn_r _ [5] (by decide +kernel) (by decide +kernel)
set_option maxRecDepth 20000 in
theorem gX4_storm_X4_in : GoodIn wsX4_storm (va_wsS RX4 26 yX4_in wsX4_in) := goodIn_app (goodIn_of _ (by decide +kernel)) ggX4_storm_X4_in
set_option maxRecDepth 20000 in
theorem ggX4_storm_X4_at : GoodIn wsX4_storm wsX4_at := goodIn_r _ [8] (by decide +kernel) (by decide +kernel)
set_option maxRecDepth 20000 in
theorem gX4_storm_X4_at : GoodIn wsX4_storm (va_wsS RX4 30 yX4_at wsX4_at) := goodIn_app (goodIn_of _ (by decide +kernel)) ggX4_storm_X4_at
theorem dX4_storm_0 : decode cX4_storm 0 = .ok (.iload_n 1, 1) := by decide +kernel
theorem dX4_storm_1 : decode cX4_storm 1 = .ok (.iconst 1, 1) := by decide +kernel
theorem dX4_storm_2 : decode cX4_storm 2 = .ok (.sipush 200, 3) := by decide +kernel
theorem dX4_storm_5 : decode cX4_storm 5 = .ok (.invokestatic 26, 3) := by decide +kernel
theorem dX4_storm_8 : decode cX4_storm 8 = .ok (.ifCond .eq 34, 3) := by decide +kernel
theorem dX4_storm_11 : decode cX4_storm 11 = .ok (.iload_n 2, 1) := by decide +kernel
theorem dX4_storm_12 : decode cX4_storm 12 = .ok (.bipush 30, 2) := by decide +kernel
theorem dX4_storm_14 : decode cX4_storm 14 = .ok (.sipush 600, 3) := by decide +kernel
theorem dX4_storm_17 : decode cX4_storm 17 = .ok (.invokestatic 26, 3) := by decide +kernel
theorem dX4_storm_20 : decode cX4_storm 20 = .ok (.ifCond .eq 22, 3) := by decide +kernel
theorem dX4_storm_23 : decode cX4_storm 23 = .ok (.iload_n 3, 1) := by decide +kernel
theorem dX4_storm_24 : decode cX4_storm 24 = .ok (.iconst 0, 1) := by decide +kernel
theorem dX4_storm_25 : decode cX4_storm 25 = .ok (.iconst 4, 1) := by decide +kernel
theorem dX4_storm_26 : decode cX4_storm 26 = .ok (.invokestatic 26, 3) := by decide +kernel
theorem dX4_storm_29 : decode cX4_storm 29 = .ok (.ifCond .eq 13, 3) := by decide +kernel
theorem dX4_storm_32 : decode cX4_storm 32 = .ok (.iload 4, 2) := by decide +kernel
theorem dX4_storm_34 : decode cX4_storm 34 = .ok (.iconst 1, 1) := by decide +kernel
theorem dX4_storm_35 : decode cX4_storm 35 = .ok (.iconst 5, 1) := by decide +kernel
theorem dX4_storm_36 : decode cX4_storm 36 = .ok (.invokestatic 26, 3) := by decide +kernel
theorem dX4_storm_39 : decode cX4_storm 39 = .ok (.ifCond .ne 6, 3) := by decide +kernel
theorem dX4_storm_42 : decode cX4_storm 42 = .ok (.bipush (-2), 2) := by decide +kernel
theorem dX4_storm_44 : decode cX4_storm 44 = .ok (.ireturn, 1) := by decide +kernel
theorem dX4_storm_45 : decode cX4_storm 45 = .ok (.aload_n 0, 1) := by decide +kernel
theorem dX4_storm_46 : decode cX4_storm 46 = .ok (.getfield 7, 3) := by decide +kernel
theorem dX4_storm_49 : decode cX4_storm 49 = .ok (.iconst 0, 1) := by decide +kernel
theorem dX4_storm_50 : decode cX4_storm 50 = .ok (.iaload, 1) := by decide +kernel
theorem dX4_storm_51 : decode cX4_storm 51 = .ok (.bipush 10, 2) := by decide +kernel
theorem dX4_storm_53 : decode cX4_storm 53 = .ok (.if_icmp .ne 6, 3) := by decide +kernel
theorem dX4_storm_56 : decode cX4_storm 56 = .ok (.bipush (-4), 2) := by decide +kernel
theorem dX4_storm_58 : decode cX4_storm 58 = .ok (.ireturn, 1) := by decide +kernel
theorem dX4_storm_59 : decode cX4_storm 59 = .ok (.aload_n 0, 1) := by decide +kernel
theorem dX4_storm_60 : decode cX4_storm 60 = .ok (.getfield 7, 3) := by decide +kernel
theorem dX4_storm_63 : decode cX4_storm 63 = .ok (.iconst 0, 1) := by decide +kernel
theorem dX4_storm_64 : decode cX4_storm 64 = .ok (.iaload, 1) := by decide +kernel
theorem dX4_storm_65 : decode cX4_storm 65 = .ok (.istore 5, 2) := by decide +kernel
theorem dX4_storm_67 : decode cX4_storm 67 = .ok (.aload_n 0, 1) := by decide +kernel
theorem dX4_storm_68 : decode cX4_storm 68 = .ok (.getfield 7, 3) := by decide +kernel
theorem dX4_storm_71 : decode cX4_storm 71 = .ok (.iload 5, 2) := by decide +kernel
theorem dX4_storm_73 : decode cX4_storm 73 = .ok (.iconst 0, 1) := by decide +kernel
theorem dX4_storm_74 : decode cX4_storm 74 = .ok (.invokestatic 30, 3) := by decide +kernel
theorem dX4_storm_77 : decode cX4_storm 77 = .ok (.iload_n 1, 1) := by decide +kernel
theorem dX4_storm_78 : decode cX4_storm 78 = .ok (.iastore, 1) := by decide +kernel
theorem dX4_storm_79 : decode cX4_storm 79 = .ok (.aload_n 0, 1) := by decide +kernel
theorem dX4_storm_80 : decode cX4_storm 80 = .ok (.getfield 7, 3) := by decide +kernel
theorem dX4_storm_83 : decode cX4_storm 83 = .ok (.iload 5, 2) := by decide +kernel
theorem dX4_storm_85 : decode cX4_storm 85 = .ok (.iconst 1, 1) := by decide +kernel
theorem dX4_storm_86 : decode cX4_storm 86 = .ok (.invokestatic 30, 3) := by decide +kernel
theorem dX4_storm_89 : decode cX4_storm 89 = .ok (.iload_n 2, 1) := by decide +kernel
theorem dX4_storm_90 : decode cX4_storm 90 = .ok (.iastore, 1) := by decide +kernel
theorem dX4_storm_91 : decode cX4_storm 91 = .ok (.aload_n 0, 1) := by decide +kernel
theorem dX4_storm_92 : decode cX4_storm 92 = .ok (.getfield 7, 3) := by decide +kernel
theorem dX4_storm_95 : decode cX4_storm 95 = .ok (.iload 5, 2) := by decide +kernel
theorem dX4_storm_97 : decode cX4_storm 97 = .ok (.iconst 2, 1) := by decide +kernel
theorem dX4_storm_98 : decode cX4_storm 98 = .ok (.invokestatic 30, 3) := by decide +kernel
theorem dX4_storm_101 : decode cX4_storm 101 = .ok (.iload_n 3, 1) := by decide +kernel
theorem dX4_storm_102 : decode cX4_storm 102 = .ok (.iastore, 1) := by decide +kernel
theorem dX4_storm_103 : decode cX4_storm 103 = .ok (.aload_n 0, 1) := by decide +kernel
theorem dX4_storm_104 : decode cX4_storm 104 = .ok (.getfield 7, 3) := by decide +kernel
theorem dX4_storm_107 : decode cX4_storm 107 = .ok (.iload 5, 2) := by decide +kernel
theorem dX4_storm_109 : decode cX4_storm 109 = .ok (.iconst 3, 1) := by decide +kernel
theorem dX4_storm_110 : decode cX4_storm 110 = .ok (.invokestatic 30, 3) := by decide +kernel
theorem dX4_storm_113 : decode cX4_storm 113 = .ok (.iload 4, 2) := by decide +kernel
theorem dX4_storm_115 : decode cX4_storm 115 = .ok (.iastore, 1) := by decide +kernel
theorem dX4_storm_116 : decode cX4_storm 116 = .ok (.aload_n 0, 1) := by decide +kernel
theorem dX4_storm_117 : decode cX4_storm 117 = .ok (.getfield 7, 3) := by decide +kernel
theorem dX4_storm_120 : decode cX4_storm 120 = .ok (.iload 5, 2) := by decide +kernel
theorem dX4_storm_122 : decode cX4_storm 122 = .ok (.iconst 4, 1) := by decide +kernel
theorem dX4_storm_123 : decode cX4_storm 123 = .ok (.invokestatic 30, 3) := by decide +kernel
theorem dX4_storm_126 : decode cX4_storm 126 = .ok (.iconst 0, 1) := by decide +kernel
theorem dX4_storm_127 : decode cX4_storm 127 = .ok (.iastore, 1) := by decide +kernel
theorem dX4_storm_128 : decode cX4_storm 128 = .ok (.aload_n 0, 1) := by decide +kernel
theorem dX4_storm_129 : decode cX4_storm 129 = .ok (.getfield 7, 3) := by decide +kernel
theorem dX4_storm_132 : decode cX4_storm 132 = .ok (.iconst 0, 1) := by decide +kernel
theorem dX4_storm_133 : decode cX4_storm 133 = .ok (.dup2, 1) := by decide +kernel
theorem dX4_storm_134 : decode cX4_storm 134 = .ok (.iaload, 1) := by decide +kernel
theorem dX4_storm_135 : decode cX4_storm 135 = .ok (.iconst 1, 1) := by decide +kernel
theorem dX4_storm_136 : decode cX4_storm 136 = .ok (.iadd, 1) := by decide +kernel
theorem dX4_storm_137 : decode cX4_storm 137 = .ok (.iastore, 1) := by decide +kernel
theorem dX4_storm_138 : decode cX4_storm 138 = .ok (.iload 5, 2) := by decide +kernel
theorem dX4_storm_140 : decode cX4_storm 140 = .ok (.ireturn, 1) := by decide +kernel
set_option maxRecDepth 20000 in
theorem ggX4_firm_X4_in : GoodIn wsX4_firm wsX4_in := goodIn_r _ [5] (by decide +kernel) (by decide +kernel)
set_option maxRecDepth 20000 in
theorem gX4_firm_X4_in : GoodIn wsX4_firm (va_wsS RX4 26 yX4_in wsX4_in) := goodIn_app (goodIn_of _ (by decide +kernel)) ggX4_firm_X4_in
theorem dX4_firm_0 : decode cX4_firm 0 = .ok (.iload_n 1, 1) := by decide +kernel
theorem dX4_firm_1 : decode cX4_firm 1 = .ok (.iconst 0, 1) := by decide +kernel
theorem dX4_firm_2 : decode cX4_firm 2 = .ok (.iconst 4, 1) := by decide +kernel
theorem dX4_firm_3 : decode cX4_firm 3 = .ok (.invokestatic 26, 3) := by decide +kernel
theorem dX4_firm_6 : decode cX4_firm 6 = .ok (.ifCond .ne 5, 3) := by decide +kernel
theorem dX4_firm_9 : decode cX4_firm 9 = .ok (.iconst (-1), 1) := by decide +kernel
theorem dX4_firm_10 : decode cX4_firm 10 = .ok (.ireturn, 1) := by decide +kernel
theorem dX4_firm_11 : decode cX4_firm 11 = .ok (.iload_n 2, 1) := by decide +kernel
theorem dX4_firm_12 : decode cX4_firm 12 = .ok (.iconst 1, 1) := by decide +kernel
theorem dX4_firm_13 : decode cX4_firm 13 = .ok (.bipush 99, 2) := by decide +kernel
theorem dX4_firm_15 : decode cX4_firm 15 = .ok (.invokestatic 26, 3) := by decide +kernel
theorem dX4_firm_18 : decode cX4_firm 18 = .ok (.ifCond .ne 6, 3) := by decide +kernel
theorem dX4_firm_21 : decode cX4_firm 21 = .ok (.bipush (-2), 2) := by decide +kernel
theorem dX4_firm_23 : decode cX4_firm 23 = .ok (.ireturn, 1) := by decide +kernel
theorem dX4_firm_24 : decode cX4_firm 24 = .ok (.aload_n 0, 1) := by decide +kernel
theorem dX4_firm_25 : decode cX4_firm 25 = .ok (.getfield 7, 3) := by decide +kernel
theorem dX4_firm_28 : decode cX4_firm 28 = .ok (.iconst 2, 1) := by decide +kernel
theorem dX4_firm_29 : decode cX4_firm 29 = .ok (.iload_n 1, 1) := by decide +kernel
theorem dX4_firm_30 : decode cX4_firm 30 = .ok (.iadd, 1) := by decide +kernel
theorem dX4_firm_31 : decode cX4_firm 31 = .ok (.iaload, 1) := by decide +kernel
theorem dX4_firm_32 : decode cX4_firm 32 = .ok (.istore_n 3, 1) := by decide +kernel
theorem dX4_firm_33 : decode cX4_firm 33 = .ok (.aload_n 0, 1) := by decide +kernel
theorem dX4_firm_34 : decode cX4_firm 34 = .ok (.getfield 7, 3) := by decide +kernel
theorem dX4_firm_37 : decode cX4_firm 37 = .ok (.iconst 2, 1) := by decide +kernel
theorem dX4_firm_38 : decode cX4_firm 38 = .ok (.iload_n 1, 1) := by decide +kernel
theorem dX4_firm_39 : decode cX4_firm 39 = .ok (.iadd, 1) := by decide +kernel
theorem dX4_firm_40 : decode cX4_firm 40 = .ok (.iload_n 2, 1) := by decide +kernel
theorem dX4_firm_41 : decode cX4_firm 41 = .ok (.iastore, 1) := by decide +kernel
theorem dX4_firm_42 : decode cX4_firm 42 = .ok (.iload_n 3, 1) := by decide +kernel
theorem dX4_firm_43 : decode cX4_firm 43 = .ok (.ireturn, 1) := by decide +kernel
set_option maxRecDepth 20000 in
theorem ggX4_strength_X4_at : GoodIn wsX4_strength wsX4_at := goodIn_r _ [5] (by decide +kernel) (by decide +kernel)
set_option maxRecDepth 20000 in
theorem gX4_strength_X4_at : GoodIn wsX4_strength (va_wsS RX4 30 yX4_at wsX4_at) := goodIn_app (goodIn_of _ (by decide +kernel)) ggX4_strength_X4_at
theorem dX4_strength_0 : decode cX4_strength 0 = .ok (.aload_n 0, 1) := by decide +kernel
theorem dX4_strength_1 : decode cX4_strength 1 = .ok (.getfield 7, 3) := by decide +kernel
theorem dX4_strength_4 : decode cX4_strength 4 = .ok (.iconst 2, 1) := by decide +kernel
theorem dX4_strength_5 : decode cX4_strength 5 = .ok (.aload_n 0, 1) := by decide +kernel
theorem dX4_strength_6 : decode cX4_strength 6 = .ok (.getfield 7, 3) := by decide +kernel
theorem dX4_strength_9 : decode cX4_strength 9 = .ok (.iload_n 1, 1) := by decide +kernel
theorem dX4_strength_10 : decode cX4_strength 10 = .ok (.iconst 2, 1) := by decide +kernel
theorem dX4_strength_11 : decode cX4_strength 11 = .ok (.invokestatic 30, 3) := by decide +kernel
theorem dX4_strength_14 : decode cX4_strength 14 = .ok (.iaload, 1) := by decide +kernel
theorem dX4_strength_15 : decode cX4_strength 15 = .ok (.iadd, 1) := by decide +kernel
theorem dX4_strength_16 : decode cX4_strength 16 = .ok (.iaload, 1) := by decide +kernel
theorem dX4_strength_17 : decode cX4_strength 17 = .ok (.aload_n 0, 1) := by decide +kernel
theorem dX4_strength_18 : decode cX4_strength 18 = .ok (.getfield 7, 3) := by decide +kernel
theorem dX4_strength_21 : decode cX4_strength 21 = .ok (.iload_n 1, 1) := by decide +kernel
theorem dX4_strength_22 : decode cX4_strength 22 = .ok (.iconst 3, 1) := by decide +kernel
theorem dX4_strength_23 : decode cX4_strength 23 = .ok (.invokestatic 30, 3) := by decide +kernel
theorem dX4_strength_26 : decode cX4_strength 26 = .ok (.iaload, 1) := by decide +kernel
theorem dX4_strength_27 : decode cX4_strength 27 = .ok (.imul, 1) := by decide +kernel
theorem dX4_strength_28 : decode cX4_strength 28 = .ok (.aload_n 0, 1) := by decide +kernel
theorem dX4_strength_29 : decode cX4_strength 29 = .ok (.getfield 7, 3) := by decide +kernel
theorem dX4_strength_32 : decode cX4_strength 32 = .ok (.iload_n 1, 1) := by decide +kernel
theorem dX4_strength_33 : decode cX4_strength 33 = .ok (.iconst 1, 1) := by decide +kernel
theorem dX4_strength_34 : decode cX4_strength 34 = .ok (.invokestatic 30, 3) := by decide +kernel
theorem dX4_strength_37 : decode cX4_strength 37 = .ok (.iaload, 1) := by decide +kernel
theorem dX4_strength_38 : decode cX4_strength 38 = .ok (.imul, 1) := by decide +kernel
theorem dX4_strength_39 : decode cX4_strength 39 = .ok (.bipush 100, 2) := by decide +kernel
theorem dX4_strength_41 : decode cX4_strength 41 = .ok (.idiv, 1) := by decide +kernel
theorem dX4_strength_42 : decode cX4_strength 42 = .ok (.istore_n 2, 1) := by decide +kernel
theorem dX4_strength_43 : decode cX4_strength 43 = .ok (.aload_n 0, 1) := by decide +kernel
theorem dX4_strength_44 : decode cX4_strength 44 = .ok (.getfield 7, 3) := by decide +kernel
theorem dX4_strength_47 : decode cX4_strength 47 = .ok (.iload_n 1, 1) := by decide +kernel
theorem dX4_strength_48 : decode cX4_strength 48 = .ok (.iconst 4, 1) := by decide +kernel
theorem dX4_strength_49 : decode cX4_strength 49 = .ok (.invokestatic 30, 3) := by decide +kernel
theorem dX4_strength_52 : decode cX4_strength 52 = .ok (.iaload, 1) := by decide +kernel
theorem dX4_strength_53 : decode cX4_strength 53 = .ok (.iconst 1, 1) := by decide +kernel
theorem dX4_strength_54 : decode cX4_strength 54 = .ok (.if_icmp .ne 9, 3) := by decide +kernel
theorem dX4_strength_57 : decode cX4_strength 57 = .ok (.iload_n 2, 1) := by decide +kernel
theorem dX4_strength_58 : decode cX4_strength 58 = .ok (.iconst 2, 1) := by decide +kernel
theorem dX4_strength_59 : decode cX4_strength 59 = .ok (.idiv, 1) := by decide +kernel
theorem dX4_strength_60 : decode cX4_strength 60 = .ok (.goto 4, 3) := by decide +kernel
theorem dX4_strength_63 : decode cX4_strength 63 = .ok (.iload_n 2, 1) := by decide +kernel
theorem dX4_strength_64 : decode cX4_strength 64 = .ok (.ireturn, 1) := by decide +kernel
set_option maxRecDepth 20000 in
theorem ggX4_depth_X4_at : GoodIn wsX4_depth wsX4_at := goodIn_r _ [5] (by decide +kernel) (by decide +kernel)
set_option maxRecDepth 20000 in
theorem gX4_depth_X4_at : GoodIn wsX4_depth (va_wsS RX4 30 yX4_at wsX4_at) := goodIn_app (goodIn_of _ (by decide +kernel)) ggX4_depth_X4_at
theorem dX4_depth_0 : decode cX4_depth 0 = .ok (.iconst 0, 1) := by decide +kernel
theorem dX4_depth_1 : decode cX4_depth 1 = .ok (.istore_n 3, 1) := by decide +kernel
theorem dX4_depth_2 : decode cX4_depth 2 = .ok (.iload_n 1, 1) := by decide +kernel
theorem dX4_depth_3 : decode cX4_depth 3 = .ok (.iconst 1, 1) := by decide +kernel
theorem dX4_depth_4 : decode cX4_depth 4 = .ok (.iadd, 1) := by decide +kernel
theorem dX4_depth_5 : decode cX4_depth 5 = .ok (.istore 4, 2) := by decide +kernel
theorem dX4_depth_7 : decode cX4_depth 7 = .ok (.iload 4, 2) := by decide +kernel
theorem dX4_depth_9 : decode cX4_depth 9 = .ok (.iload_n 2, 1) := by decide +kernel
theorem dX4_depth_10 : decode cX4_depth 10 = .ok (.if_icmp .ge 23, 3) := by decide +kernel
theorem dX4_depth_13 : decode cX4_depth 13 = .ok (.iload_n 3, 1) := by decide +kernel
theorem dX4_depth_14 : decode cX4_depth 14 = .ok (.aload_n 0, 1) := by decide +kernel
theorem dX4_depth_15 : decode cX4_depth 15 = .ok (.getfield 7, 3) := by decide +kernel
theorem dX4_depth_18 : decode cX4_depth 18 = .ok (.iload 4, 2) := by decide +kernel
theorem dX4_depth_20 : decode cX4_depth 20 = .ok (.iconst 0, 1) := by decide +kernel
theorem dX4_depth_21 : decode cX4_depth 21 = .ok (.invokestatic 30, 3) := by decide +kernel
theorem dX4_depth_24 : decode cX4_depth 24 = .ok (.iaload, 1) := by decide +kernel
theorem dX4_depth_25 : decode cX4_depth 25 = .ok (.iadd, 1) := by decide +kernel
theorem dX4_depth_26 : decode cX4_depth 26 = .ok (.istore_n 3, 1) := by decide +kernel
theorem dX4_depth_27 : decode cX4_depth 27 = .ok (.iinc 4 1, 3) := by decide +kernel
theorem dX4_depth_30 : decode cX4_depth 30 = .ok (.goto (-23), 3) := by decide +kernel
theorem dX4_depth_33 : decode cX4_depth 33 = .ok (.iload_n 3, 1) := by decide +kernel
theorem dX4_depth_34 : decode cX4_depth 34 = .ok (.ireturn, 1) := by decide +kernel
set_option maxRecDepth 20000 in
theorem ggX4_load_X4_at : GoodIn wsX4_load wsX4_at := goodIn_r _ [5] (by decide +kernel) (by decide +kernel)
set_option maxRecDepth 20000 in
theorem gX4_load_X4_at : GoodIn wsX4_load (va_wsS RX4 30 yX4_at wsX4_at) := goodIn_app (goodIn_of _ (by decide +kernel)) ggX4_load_X4_at
theorem dX4_load_0 : decode cX4_load 0 = .ok (.iconst 0, 1) := by decide +kernel
theorem dX4_load_1 : decode cX4_load 1 = .ok (.istore_n 3, 1) := by decide +kernel
theorem dX4_load_2 : decode cX4_load 2 = .ok (.iload_n 1, 1) := by decide +kernel
theorem dX4_load_3 : decode cX4_load 3 = .ok (.iconst 1, 1) := by decide +kernel
theorem dX4_load_4 : decode cX4_load 4 = .ok (.iadd, 1) := by decide +kernel
theorem dX4_load_5 : decode cX4_load 5 = .ok (.istore 4, 2) := by decide +kernel
theorem dX4_load_7 : decode cX4_load 7 = .ok (.iload 4, 2) := by decide +kernel
theorem dX4_load_9 : decode cX4_load 9 = .ok (.iload_n 2, 1) := by decide +kernel
theorem dX4_load_10 : decode cX4_load 10 = .ok (.if_icmp .ge 35, 3) := by decide +kernel
theorem dX4_load_13 : decode cX4_load 13 = .ok (.iload_n 3, 1) := by decide +kernel
theorem dX4_load_14 : decode cX4_load 14 = .ok (.aload_n 0, 1) := by decide +kernel
theorem dX4_load_15 : decode cX4_load 15 = .ok (.getfield 7, 3) := by decide +kernel
theorem dX4_load_18 : decode cX4_load 18 = .ok (.iload 4, 2) := by decide +kernel
theorem dX4_load_20 : decode cX4_load 20 = .ok (.iconst 0, 1) := by decide +kernel
theorem dX4_load_21 : decode cX4_load 21 = .ok (.invokestatic 30, 3) := by decide +kernel
theorem dX4_load_24 : decode cX4_load 24 = .ok (.iaload, 1) := by decide +kernel
theorem dX4_load_25 : decode cX4_load 25 = .ok (.aload_n 0, 1) := by decide +kernel
theorem dX4_load_26 : decode cX4_load 26 = .ok (.getfield 7, 3) := by decide +kernel
theorem dX4_load_29 : decode cX4_load 29 = .ok (.iload 4, 2) := by decide +kernel
theorem dX4_load_31 : decode cX4_load 31 = .ok (.iconst 1, 1) := by decide +kernel
theorem dX4_load_32 : decode cX4_load 32 = .ok (.invokestatic 30, 3) := by decide +kernel
theorem dX4_load_35 : decode cX4_load 35 = .ok (.iaload, 1) := by decide +kernel
theorem dX4_load_36 : decode cX4_load 36 = .ok (.imul, 1) := by decide +kernel
theorem dX4_load_37 : decode cX4_load 37 = .ok (.iadd, 1) := by decide +kernel
theorem dX4_load_38 : decode cX4_load 38 = .ok (.istore_n 3, 1) := by decide +kernel
theorem dX4_load_39 : decode cX4_load 39 = .ok (.iinc 4 1, 3) := by decide +kernel
theorem dX4_load_42 : decode cX4_load 42 = .ok (.goto (-35), 3) := by decide +kernel
theorem dX4_load_45 : decode cX4_load 45 = .ok (.iload_n 3, 1) := by decide +kernel
theorem dX4_load_46 : decode cX4_load 46 = .ok (.bipush 100, 2) := by decide +kernel
theorem dX4_load_48 : decode cX4_load 48 = .ok (.idiv, 1) := by decide +kernel
theorem dX4_load_49 : decode cX4_load 49 = .ok (.ireturn, 1) := by decide +kernel
set_option maxRecDepth 20000 in
theorem ggX4_shear_X4_load : GoodIn wsX4_shear wsX4_load := goodIn_r _ [6, 1, 7, 8, 5, 9, 10, 11, 12, 13, 14, 15] (by decide +kernel) (by decide +kernel)
set_option maxRecDepth 20000 in
theorem gX4_shear_X4_load : GoodIn wsX4_shear (wsV RX4 34 RX4 yX4_load wsX4_load) := goodIn_app (goodIn_of _ (by decide +kernel)) ggX4_shear_X4_load
theorem dX4_shear_0 : decode cX4_shear 0 = .ok (.aload_n 0, 1) := by decide +kernel
theorem dX4_shear_1 : decode cX4_shear 1 = .ok (.iload_n 1, 1) := by decide +kernel
theorem dX4_shear_2 : decode cX4_shear 2 = .ok (.aload_n 0, 1) := by decide +kernel
theorem dX4_shear_3 : decode cX4_shear 3 = .ok (.getfield 7, 3) := by decide +kernel
theorem dX4_shear_6 : decode cX4_shear 6 = .ok (.iconst 0, 1) := by decide +kernel
theorem dX4_shear_7 : decode cX4_shear 7 = .ok (.iaload, 1) := by decide +kernel
theorem dX4_shear_8 : decode cX4_shear 8 = .ok (.invokevirtual 34, 3) := by decide +kernel
theorem dX4_shear_11 : decode cX4_shear 11 = .ok (.iload_n 2, 1) := by decide +kernel
theorem dX4_shear_12 : decode cX4_shear 12 = .ok (.imul, 1) := by decide +kernel
theorem dX4_shear_13 : decode cX4_shear 13 = .ok (.bipush 100, 2) := by decide +kernel
theorem dX4_shear_15 : decode cX4_shear 15 = .ok (.idiv, 1) := by decide +kernel
theorem dX4_shear_16 : decode cX4_shear 16 = .ok (.ireturn, 1) := by decide +kernel
set_option maxRecDepth 20000 in
theorem ggX4_margin_X4_shear : GoodIn wsX4_margin wsX4_shear := goodIn_r _ [5, 6, 7, 8, 9, 4, 10, 11, 12, 13, 18, 19, 20, 21, 22, 23] (by decide +kernel) (by decide +kernel)
set_option maxRecDepth 20000 in
theorem gX4_margin_X4_shear : GoodIn wsX4_margin (wsV RX4 37 RX4 yX4_shear wsX4_shear) := goodIn_app (goodIn_of _ (by decide +kernel)) ggX4_margin_X4_shear
set_option maxRecDepth 20000 in
theorem ggX4_margin_X4_strength : GoodIn wsX4_margin wsX4_strength := goodIn_r _ [17, 6, 11, 12, 4, 13, 18, 19, 20, 21, 22, 23] (by decide +kernel) (by decide +kernel)
set_option maxRecDepth 20000 in
theorem gX4_margin_X4_strength : GoodIn wsX4_margin (wsV RX4 40 RX4 yX4_strength wsX4_strength) := goodIn_app (goodIn_of _ (by decide +kernel)) ggX4_margin_X4_strength
theorem dX4_margin_0 : decode cX4_margin 0 = .ok (.aload_n 0, 1) := by decide +kernel
theorem dX4_margin_1 : decode cX4_margin 1 = .ok (.iload_n 1, 1) := by decide +kernel
theorem dX4_margin_2 : decode cX4_margin 2 = .ok (.iload_n 2, 1) := by decide +kernel
theorem dX4_margin_3 : decode cX4_margin 3 = .ok (.invokevirtual 37, 3) := by decide +kernel
theorem dX4_margin_6 : decode cX4_margin 6 = .ok (.istore_n 3, 1) := by decide +kernel
theorem dX4_margin_7 : decode cX4_margin 7 = .ok (.iload_n 3, 1) := by decide +kernel
theorem dX4_margin_8 : decode cX4_margin 8 = .ok (.ifCond .ne 9, 3) := by decide +kernel
theorem dX4_margin_11 : decode cX4_margin 11 = .ok (.sipush 9999, 3) := by decide +kernel
theorem dX4_margin_14 : decode cX4_margin 14 = .ok (.goto 13, 3) := by decide +kernel
theorem dX4_margin_17 : decode cX4_margin 17 = .ok (.bipush 100, 2) := by decide +kernel
theorem dX4_margin_19 : decode cX4_margin 19 = .ok (.aload_n 0, 1) := by decide +kernel
theorem dX4_margin_20 : decode cX4_margin 20 = .ok (.iload_n 1, 1) := by decide +kernel
theorem dX4_margin_21 : decode cX4_margin 21 = .ok (.invokevirtual 40, 3) := by decide +kernel
theorem dX4_margin_24 : decode cX4_margin 24 = .ok (.imul, 1) := by decide +kernel
theorem dX4_margin_25 : decode cX4_margin 25 = .ok (.iload_n 3, 1) := by decide +kernel
theorem dX4_margin_26 : decode cX4_margin 26 = .ok (.idiv, 1) := by decide +kernel
theorem dX4_margin_27 : decode cX4_margin 27 = .ok (.ireturn, 1) := by decide +kernel
set_option maxRecDepth 20000 in
theorem ggX4_press_X4_depth : GoodIn wsX4_press wsX4_depth := goodIn_r _ [5, 6, 7, 8, 4, 9, 10, 11, 12, 13, 14, 15] (by decide +kernel) (by decide +kernel)
set_option maxRecDepth 20000 in
theorem gX4_press_X4_depth : GoodIn wsX4_press (wsV RX4 44 RX4 yX4_depth wsX4_depth) := goodIn_app (goodIn_of _ (by decide +kernel)) ggX4_press_X4_depth
theorem dX4_press_0 : decode cX4_press 0 = .ok (.bipush 100, 2) := by decide +kernel
theorem dX4_press_2 : decode cX4_press 2 = .ok (.iload_n 3, 1) := by decide +kernel
theorem dX4_press_3 : decode cX4_press 3 = .ok (.imul, 1) := by decide +kernel
theorem dX4_press_4 : decode cX4_press 4 = .ok (.aload_n 0, 1) := by decide +kernel
theorem dX4_press_5 : decode cX4_press 5 = .ok (.iload_n 1, 1) := by decide +kernel
theorem dX4_press_6 : decode cX4_press 6 = .ok (.iload_n 2, 1) := by decide +kernel
theorem dX4_press_7 : decode cX4_press 7 = .ok (.invokevirtual 44, 3) := by decide +kernel
theorem dX4_press_10 : decode cX4_press 10 = .ok (.bipush 10, 2) := by decide +kernel
theorem dX4_press_12 : decode cX4_press 12 = .ok (.iadd, 1) := by decide +kernel
theorem dX4_press_13 : decode cX4_press 13 = .ok (.idiv, 1) := by decide +kernel
theorem dX4_press_14 : decode cX4_press 14 = .ok (.ireturn, 1) := by decide +kernel
set_option maxRecDepth 20000 in
theorem ggX4_layer_X4_isLayer : GoodIn wsX4_layer wsX4_isLayer := goodIn_r _ [6, 1, 7, 8, 5, 9, 25, 26, 27, 28, 29, 30] (by decide +kernel) (by decide +kernel)
set_option maxRecDepth 20000 in
theorem gX4_layer_X4_isLayer : GoodIn wsX4_layer (wsV RX4 47 RX4 yX4_isLayer wsX4_isLayer) := goodIn_app (goodIn_of _ (by decide +kernel)) ggX4_layer_X4_isLayer
set_option maxRecDepth 20000 in
theorem ggX4_layer_X4_at : GoodIn wsX4_layer wsX4_at := goodIn_r _ [12] (by decide +kernel) (by decide +kernel)
set_option maxRecDepth 20000 in
theorem gX4_layer_X4_at : GoodIn wsX4_layer (va_wsS RX4 30 yX4_at wsX4_at) := goodIn_app (goodIn_of _ (by decide +kernel)) ggX4_layer_X4_at
set_option maxRecDepth 20000 in
theorem ggX4_layer_X4_strength : GoodIn wsX4_layer wsX4_strength := goodIn_r _ [16, 1, 10, 11, 5, 12, 25, 26, 27, 28, 29, 30] (by decide +kernel) (by decide +kernel)
set_option maxRecDepth 20000 in
theorem gX4_layer_X4_strength : GoodIn wsX4_layer (wsV RX4 40 RX4 yX4_strength wsX4_strength) := goodIn_app (goodIn_of _ (by decide +kernel)) ggX4_layer_X4_strength
set_option maxRecDepth 20000 in
theorem ggX4_layer_X4_depth : GoodIn wsX4_layer wsX4_depth := goodIn_r _ [20, 1, 10, 11, 5, 12, 25, 26, 27, 28, 29, 30] (by decide +kernel) (by decide +kernel)
set_option maxRecDepth 20000 in
theorem gX4_layer_X4_depth : GoodIn wsX4_layer (wsV RX4 44 RX4 yX4_depth wsX4_depth) := goodIn_app (goodIn_of _ (by decide +kernel)) ggX4_layer_X4_depth
set_option maxRecDepth 20000 in
theorem ggX4_layer_X4_load : GoodIn wsX4_layer wsX4_load := goodIn_r _ [24, 1, 10, 11, 5, 12, 25, 26, 27, 28, 29, 30] (by decide +kernel) (by decide +kernel)
set_option maxRecDepth 20000 in
theorem gX4_layer_X4_load : GoodIn wsX4_layer (wsV RX4 34 RX4 yX4_load wsX4_load) := goodIn_app (goodIn_of _ (by decide +kernel)) ggX4_layer_X4_load
theorem dX4_layer_0 : decode cX4_layer 0 = .ok (.aload_n 0, 1) := by decide +kernel
theorem dX4_layer_1 : decode cX4_layer 1 = .ok (.iload_n 1, 1) := by decide +kernel
theorem dX4_layer_2 : decode cX4_layer 2 = .ok (.invokevirtual 47, 3) := by decide +kernel
theorem dX4_layer_5 : decode cX4_layer 5 = .ok (.ifCond .ne 5, 3) := by decide +kernel
theorem dX4_layer_8 : decode cX4_layer 8 = .ok (.iconst (-1), 1) := by decide +kernel
theorem dX4_layer_9 : decode cX4_layer 9 = .ok (.ireturn, 1) := by decide +kernel
theorem dX4_layer_10 : decode cX4_layer 10 = .ok (.iload_n 2, 1) := by decide +kernel
theorem dX4_layer_11 : decode cX4_layer 11 = .ok (.tableswitch 86 0 7 #[45, 45, 45, 45, 45, 56, 62, 74], 45) := by decide +kernel
theorem dX4_layer_56 : decode cX4_layer 56 = .ok (.aload_n 0, 1) := by decide +kernel
theorem dX4_layer_57 : decode cX4_layer 57 = .ok (.getfield 7, 3) := by decide +kernel
theorem dX4_layer_60 : decode cX4_layer 60 = .ok (.iload_n 1, 1) := by decide +kernel
theorem dX4_layer_61 : decode cX4_layer 61 = .ok (.iload_n 2, 1) := by decide +kernel
theorem dX4_layer_62 : decode cX4_layer 62 = .ok (.invokestatic 30, 3) := by decide +kernel
theorem dX4_layer_65 : decode cX4_layer 65 = .ok (.iaload, 1) := by decide +kernel
theorem dX4_layer_66 : decode cX4_layer 66 = .ok (.ireturn, 1) := by decide +kernel
theorem dX4_layer_67 : decode cX4_layer 67 = .ok (.aload_n 0, 1) := by decide +kernel
theorem dX4_layer_68 : decode cX4_layer 68 = .ok (.iload_n 1, 1) := by decide +kernel
theorem dX4_layer_69 : decode cX4_layer 69 = .ok (.invokevirtual 40, 3) := by decide +kernel
theorem dX4_layer_72 : decode cX4_layer 72 = .ok (.ireturn, 1) := by decide +kernel
theorem dX4_layer_73 : decode cX4_layer 73 = .ok (.aload_n 0, 1) := by decide +kernel
theorem dX4_layer_74 : decode cX4_layer 74 = .ok (.iload_n 1, 1) := by decide +kernel
theorem dX4_layer_75 : decode cX4_layer 75 = .ok (.aload_n 0, 1) := by decide +kernel
theorem dX4_layer_76 : decode cX4_layer 76 = .ok (.getfield 7, 3) := by decide +kernel
theorem dX4_layer_79 : decode cX4_layer 79 = .ok (.iconst 0, 1) := by decide +kernel
theorem dX4_layer_80 : decode cX4_layer 80 = .ok (.iaload, 1) := by decide +kernel
theorem dX4_layer_81 : decode cX4_layer 81 = .ok (.invokevirtual 44, 3) := by decide +kernel
theorem dX4_layer_84 : decode cX4_layer 84 = .ok (.ireturn, 1) := by decide +kernel
theorem dX4_layer_85 : decode cX4_layer 85 = .ok (.aload_n 0, 1) := by decide +kernel
theorem dX4_layer_86 : decode cX4_layer 86 = .ok (.iload_n 1, 1) := by decide +kernel
theorem dX4_layer_87 : decode cX4_layer 87 = .ok (.aload_n 0, 1) := by decide +kernel
theorem dX4_layer_88 : decode cX4_layer 88 = .ok (.getfield 7, 3) := by decide +kernel
theorem dX4_layer_91 : decode cX4_layer 91 = .ok (.iconst 0, 1) := by decide +kernel
theorem dX4_layer_92 : decode cX4_layer 92 = .ok (.iaload, 1) := by decide +kernel
theorem dX4_layer_93 : decode cX4_layer 93 = .ok (.invokevirtual 34, 3) := by decide +kernel
theorem dX4_layer_96 : decode cX4_layer 96 = .ok (.ireturn, 1) := by decide +kernel
theorem dX4_layer_97 : decode cX4_layer 97 = .ok (.bipush (-2), 2) := by decide +kernel
theorem dX4_layer_99 : decode cX4_layer 99 = .ok (.ireturn, 1) := by decide +kernel
set_option maxRecDepth 20000 in
theorem ggX4_isSteep_X4_in : GoodIn wsX4_isSteep wsX4_in := goodIn_r _ [4] (by decide +kernel) (by decide +kernel)
set_option maxRecDepth 20000 in
theorem gX4_isSteep_X4_in : GoodIn wsX4_isSteep (va_wsS RX4 26 yX4_in wsX4_in) := goodIn_app (goodIn_of _ (by decide +kernel)) ggX4_isSteep_X4_in
theorem dX4_isSteep_0 : decode cX4_isSteep 0 = .ok (.iload_n 0, 1) := by decide +kernel
theorem dX4_isSteep_1 : decode cX4_isSteep 1 = .ok (.iconst 0, 1) := by decide +kernel
theorem dX4_isSteep_2 : decode cX4_isSteep 2 = .ok (.bipush 100, 2) := by decide +kernel
theorem dX4_isSteep_4 : decode cX4_isSteep 4 = .ok (.invokestatic 26, 3) := by decide +kernel
theorem dX4_isSteep_7 : decode cX4_isSteep 7 = .ok (.ireturn, 1) := by decide +kernel
set_option maxRecDepth 20000 in
theorem ggX4_slope_X4_isLayer : GoodIn wsX4_slope wsX4_isLayer := goodIn_r _ [5, 6, 7, 8, 4, 9, 32, 33, 34, 35, 36, 37] (by decide +kernel) (by decide +kernel)
set_option maxRecDepth 20000 in
theorem gX4_slope_X4_isLayer : GoodIn wsX4_slope (wsV RX4 47 RX4 yX4_isLayer wsX4_isLayer) := goodIn_app (goodIn_of _ (by decide +kernel)) ggX4_slope_X4_isLayer
set_option maxRecDepth 20000 in
theorem ggX4_slope_X4_isSteep : GoodIn wsX4_slope wsX4_isSteep := goodIn_r _ [12, 7, 8, 4, 9] (by decide +kernel) (by decide +kernel)
set_option maxRecDepth 20000 in
theorem gX4_slope_X4_isSteep : GoodIn wsX4_slope (va_wsS RX4 51 yX4_isSteep wsX4_isSteep) := goodIn_app (goodIn_of _ (by decide +kernel)) ggX4_slope_X4_isSteep
set_option maxRecDepth 20000 in
theorem ggX4_slope_X4_in : GoodIn wsX4_slope wsX4_in := goodIn_r _ [9] (by decide +kernel) (by decide +kernel)
set_option maxRecDepth 20000 in
theorem gX4_slope_X4_in : GoodIn wsX4_slope (va_wsS RX4 26 yX4_in wsX4_in) := goodIn_app (goodIn_of _ (by decide +kernel)) ggX4_slope_X4_in
set_option maxRecDepth 20000 in
theorem ggX4_slope_X4_shear : GoodIn wsX4_slope wsX4_shear := goodIn_r _ [16, 6, 17, 18, 19, 4, 20, 21, 22, 23, 32, 33, 34, 35, 36, 37] (by decide +kernel) (by decide +kernel)
set_option maxRecDepth 20000 in
theorem gX4_slope_X4_shear : GoodIn wsX4_slope (wsV RX4 37 RX4 yX4_shear wsX4_shear) := goodIn_app (goodIn_of _ (by decide +kernel)) ggX4_slope_X4_shear
set_option maxRecDepth 20000 in
theorem ggX4_slope_X4_margin : GoodIn wsX4_slope wsX4_margin := goodIn_r _ [27, 13, 14, 15, 4, 16, 6, 17, 18, 19, 20, 21, 22, 23, 28, 29, 30, 31, 32, 33, 34, 35, 36, 37] (by decide +kernel) (by decide +kernel)
set_option maxRecDepth 20000 in
theorem gX4_slope_X4_margin : GoodIn wsX4_slope (wsV RX4 54 RX4 yX4_margin wsX4_margin) := goodIn_app (goodIn_of _ (by decide +kernel)) ggX4_slope_X4_margin
theorem dX4_slope_0 : decode cX4_slope 0 = .ok (.aload_n 0, 1) := by decide +kernel
theorem dX4_slope_1 : decode cX4_slope 1 = .ok (.iload_n 1, 1) := by decide +kernel
theorem dX4_slope_2 : decode cX4_slope 2 = .ok (.invokevirtual 47, 3) := by decide +kernel
theorem dX4_slope_5 : decode cX4_slope 5 = .ok (.ifCond .ne 5, 3) := by decide +kernel
theorem dX4_slope_8 : decode cX4_slope 8 = .ok (.iconst (-1), 1) := by decide +kernel
theorem dX4_slope_9 : decode cX4_slope 9 = .ok (.ireturn, 1) := by decide +kernel
theorem dX4_slope_10 : decode cX4_slope 10 = .ok (.iload_n 2, 1) := by decide +kernel
theorem dX4_slope_11 : decode cX4_slope 11 = .ok (.invokestatic 51, 3) := by decide +kernel
theorem dX4_slope_14 : decode cX4_slope 14 = .ok (.ifCond .eq 12, 3) := by decide +kernel
theorem dX4_slope_17 : decode cX4_slope 17 = .ok (.iload_n 3, 1) := by decide +kernel
theorem dX4_slope_18 : decode cX4_slope 18 = .ok (.iconst 0, 1) := by decide +kernel
theorem dX4_slope_19 : decode cX4_slope 19 = .ok (.iconst 1, 1) := by decide +kernel
theorem dX4_slope_20 : decode cX4_slope 20 = .ok (.invokestatic 26, 3) := by decide +kernel
theorem dX4_slope_23 : decode cX4_slope 23 = .ok (.ifCond .ne 6, 3) := by decide +kernel
theorem dX4_slope_26 : decode cX4_slope 26 = .ok (.bipush (-2), 2) := by decide +kernel
theorem dX4_slope_28 : decode cX4_slope 28 = .ok (.ireturn, 1) := by decide +kernel
theorem dX4_slope_29 : decode cX4_slope 29 = .ok (.iload_n 3, 1) := by decide +kernel
theorem dX4_slope_30 : decode cX4_slope 30 = .ok (.ifCond .ne 12, 3) := by decide +kernel
theorem dX4_slope_33 : decode cX4_slope 33 = .ok (.aload_n 0, 1) := by decide +kernel
theorem dX4_slope_34 : decode cX4_slope 34 = .ok (.iload_n 1, 1) := by decide +kernel
theorem dX4_slope_35 : decode cX4_slope 35 = .ok (.iload_n 2, 1) := by decide +kernel
theorem dX4_slope_36 : decode cX4_slope 36 = .ok (.invokevirtual 37, 3) := by decide +kernel
theorem dX4_slope_39 : decode cX4_slope 39 = .ok (.goto 9, 3) := by decide +kernel
theorem dX4_slope_42 : decode cX4_slope 42 = .ok (.aload_n 0, 1) := by decide +kernel
theorem dX4_slope_43 : decode cX4_slope 43 = .ok (.iload_n 1, 1) := by decide +kernel
theorem dX4_slope_44 : decode cX4_slope 44 = .ok (.iload_n 2, 1) := by decide +kernel
theorem dX4_slope_45 : decode cX4_slope 45 = .ok (.invokevirtual 54, 3) := by decide +kernel
theorem dX4_slope_48 : decode cX4_slope 48 = .ok (.ireturn, 1) := by decide +kernel
set_option maxRecDepth 20000 in
theorem ggX4_weakest_X4_isSteep : GoodIn wsX4_weakest wsX4_isSteep := goodIn_r _ [4, 5, 6, 3, 7] (by decide +kernel) (by decide +kernel)
set_option maxRecDepth 20000 in
theorem gX4_weakest_X4_isSteep : GoodIn wsX4_weakest (va_wsS RX4 51 yX4_isSteep wsX4_isSteep) := goodIn_app (goodIn_of _ (by decide +kernel)) ggX4_weakest_X4_isSteep
set_option maxRecDepth 20000 in
theorem ggX4_weakest_X4_in : GoodIn wsX4_weakest wsX4_in := goodIn_r _ [7] (by decide +kernel) (by decide +kernel)
set_option maxRecDepth 20000 in
theorem gX4_weakest_X4_in : GoodIn wsX4_weakest (va_wsS RX4 26 yX4_in wsX4_in) := goodIn_app (goodIn_of _ (by decide +kernel)) ggX4_weakest_X4_in
set_option maxRecDepth 20000 in
theorem ggX4_weakest_X4_top : GoodIn wsX4_weakest wsX4_top := goodIn_r _ [11, 12, 32, 33, 34, 35, 36, 37] (by decide +kernel) (by decide +kernel)
set_option maxRecDepth 20000 in
theorem gX4_weakest_X4_top : GoodIn wsX4_weakest (wsV RX4 57 RX4 yX4_top wsX4_top) := goodIn_app (goodIn_of _ (by decide +kernel)) ggX4_weakest_X4_top
set_option maxRecDepth 20000 in
theorem ggX4_weakest_X4_margin : GoodIn wsX4_weakest wsX4_margin := goodIn_r _ [16, 17, 18, 19, 3, 20, 12, 21, 22, 23, 24, 25, 26, 27, 28, 29, 30, 31, 32, 33, 34, 35, 36, 37] (by decide +kernel) (by decide +kernel)
set_option maxRecDepth 20000 in
theorem gX4_weakest_X4_margin : GoodIn wsX4_weakest (wsV RX4 54 RX4 yX4_margin wsX4_margin) := goodIn_app (goodIn_of _ (by decide +kernel)) ggX4_weakest_X4_margin
theorem dX4_weakest_0 : decode cX4_weakest 0 = .ok (.iload_n 1, 1) := by decide +kernel
theorem dX4_weakest_1 : decode cX4_weakest 1 = .ok (.invokestatic 51, 3) := by decide +kernel
theorem dX4_weakest_4 : decode cX4_weakest 4 = .ok (.ifCond .eq 12, 3) := by decide +kernel
theorem dX4_weakest_7 : decode cX4_weakest 7 = .ok (.iload_n 2, 1) := by decide +kernel
theorem dX4_weakest_8 : decode cX4_weakest 8 = .ok (.iconst 0, 1) := by decide +kernel
theorem dX4_weakest_9 : decode cX4_weakest 9 = .ok (.iconst 1, 1) := by decide +kernel
theorem dX4_weakest_10 : decode cX4_weakest 10 = .ok (.invokestatic 26, 3) := by decide +kernel
theorem dX4_weakest_13 : decode cX4_weakest 13 = .ok (.ifCond .ne 6, 3) := by decide +kernel
theorem dX4_weakest_16 : decode cX4_weakest 16 = .ok (.bipush (-2), 2) := by decide +kernel
theorem dX4_weakest_18 : decode cX4_weakest 18 = .ok (.ireturn, 1) := by decide +kernel
theorem dX4_weakest_19 : decode cX4_weakest 19 = .ok (.bipush (-6), 2) := by decide +kernel
theorem dX4_weakest_21 : decode cX4_weakest 21 = .ok (.istore_n 3, 1) := by decide +kernel
theorem dX4_weakest_22 : decode cX4_weakest 22 = .ok (.iconst 0, 1) := by decide +kernel
theorem dX4_weakest_23 : decode cX4_weakest 23 = .ok (.istore 4, 2) := by decide +kernel
theorem dX4_weakest_25 : decode cX4_weakest 25 = .ok (.iload 4, 2) := by decide +kernel
theorem dX4_weakest_27 : decode cX4_weakest 27 = .ok (.aload_n 0, 1) := by decide +kernel
theorem dX4_weakest_28 : decode cX4_weakest 28 = .ok (.invokevirtual 57, 3) := by decide +kernel
theorem dX4_weakest_31 : decode cX4_weakest 31 = .ok (.if_icmp .ge 36, 3) := by decide +kernel
theorem dX4_weakest_34 : decode cX4_weakest 34 = .ok (.iload_n 3, 1) := by decide +kernel
theorem dX4_weakest_35 : decode cX4_weakest 35 = .ok (.ifCond .lt 19, 3) := by decide +kernel
theorem dX4_weakest_38 : decode cX4_weakest 38 = .ok (.aload_n 0, 1) := by decide +kernel
theorem dX4_weakest_39 : decode cX4_weakest 39 = .ok (.iload 4, 2) := by decide +kernel
theorem dX4_weakest_41 : decode cX4_weakest 41 = .ok (.iload_n 1, 1) := by decide +kernel
theorem dX4_weakest_42 : decode cX4_weakest 42 = .ok (.invokevirtual 54, 3) := by decide +kernel
theorem dX4_weakest_45 : decode cX4_weakest 45 = .ok (.aload_n 0, 1) := by decide +kernel
theorem dX4_weakest_46 : decode cX4_weakest 46 = .ok (.iload_n 3, 1) := by decide +kernel
theorem dX4_weakest_47 : decode cX4_weakest 47 = .ok (.iload_n 1, 1) := by decide +kernel
theorem dX4_weakest_48 : decode cX4_weakest 48 = .ok (.invokevirtual 54, 3) := by decide +kernel
theorem dX4_weakest_51 : decode cX4_weakest 51 = .ok (.if_icmp .gt 8, 3) := by decide +kernel
theorem dX4_weakest_54 : decode cX4_weakest 54 = .ok (.iload 4, 2) := by decide +kernel
theorem dX4_weakest_56 : decode cX4_weakest 56 = .ok (.goto 4, 3) := by decide +kernel
theorem dX4_weakest_59 : decode cX4_weakest 59 = .ok (.iload_n 3, 1) := by decide +kernel
theorem dX4_weakest_60 : decode cX4_weakest 60 = .ok (.istore_n 3, 1) := by decide +kernel
theorem dX4_weakest_61 : decode cX4_weakest 61 = .ok (.iinc 4 1, 3) := by decide +kernel
theorem dX4_weakest_64 : decode cX4_weakest 64 = .ok (.goto (-39), 3) := by decide +kernel
theorem dX4_weakest_67 : decode cX4_weakest 67 = .ok (.iload_n 3, 1) := by decide +kernel
theorem dX4_weakest_68 : decode cX4_weakest 68 = .ok (.ifCond .lt 7, 3) := by decide +kernel
theorem dX4_weakest_71 : decode cX4_weakest 71 = .ok (.iload_n 2, 1) := by decide +kernel
theorem dX4_weakest_72 : decode cX4_weakest 72 = .ok (.ifCond .ne 7, 3) := by decide +kernel
theorem dX4_weakest_75 : decode cX4_weakest 75 = .ok (.iload_n 3, 1) := by decide +kernel
theorem dX4_weakest_76 : decode cX4_weakest 76 = .ok (.goto 9, 3) := by decide +kernel
theorem dX4_weakest_79 : decode cX4_weakest 79 = .ok (.aload_n 0, 1) := by decide +kernel
theorem dX4_weakest_80 : decode cX4_weakest 80 = .ok (.iload_n 3, 1) := by decide +kernel
theorem dX4_weakest_81 : decode cX4_weakest 81 = .ok (.iload_n 1, 1) := by decide +kernel
theorem dX4_weakest_82 : decode cX4_weakest 82 = .ok (.invokevirtual 54, 3) := by decide +kernel
theorem dX4_weakest_85 : decode cX4_weakest 85 = .ok (.ireturn, 1) := by decide +kernel
set_option maxRecDepth 20000 in
theorem ggX4_blow_X4_in : GoodIn wsX4_blow wsX4_in := goodIn_r _ [5] (by decide +kernel) (by decide +kernel)
set_option maxRecDepth 20000 in
theorem gX4_blow_X4_in : GoodIn wsX4_blow (va_wsS RX4 26 yX4_in wsX4_in) := goodIn_app (goodIn_of _ (by decide +kernel)) ggX4_blow_X4_in
theorem dX4_blow_0 : decode cX4_blow 0 = .ok (.iload_n 1, 1) := by decide +kernel
theorem dX4_blow_1 : decode cX4_blow 1 = .ok (.iconst 1, 1) := by decide +kernel
theorem dX4_blow_2 : decode cX4_blow 2 = .ok (.bipush 50, 2) := by decide +kernel
theorem dX4_blow_4 : decode cX4_blow 4 = .ok (.invokestatic 26, 3) := by decide +kernel
theorem dX4_blow_7 : decode cX4_blow 7 = .ok (.ifCond .ne 6, 3) := by decide +kernel
theorem dX4_blow_10 : decode cX4_blow 10 = .ok (.bipush (-2), 2) := by decide +kernel
theorem dX4_blow_12 : decode cX4_blow 12 = .ok (.ireturn, 1) := by decide +kernel
theorem dX4_blow_13 : decode cX4_blow 13 = .ok (.aload_n 0, 1) := by decide +kernel
theorem dX4_blow_14 : decode cX4_blow 14 = .ok (.getfield 7, 3) := by decide +kernel
theorem dX4_blow_17 : decode cX4_blow 17 = .ok (.iconst 1, 1) := by decide +kernel
theorem dX4_blow_18 : decode cX4_blow 18 = .ok (.iaload, 1) := by decide +kernel
theorem dX4_blow_19 : decode cX4_blow 19 = .ok (.istore_n 2, 1) := by decide +kernel
theorem dX4_blow_20 : decode cX4_blow 20 = .ok (.aload_n 0, 1) := by decide +kernel
theorem dX4_blow_21 : decode cX4_blow 21 = .ok (.getfield 7, 3) := by decide +kernel
theorem dX4_blow_24 : decode cX4_blow 24 = .ok (.iconst 1, 1) := by decide +kernel
theorem dX4_blow_25 : decode cX4_blow 25 = .ok (.iload_n 1, 1) := by decide +kernel
theorem dX4_blow_26 : decode cX4_blow 26 = .ok (.iastore, 1) := by decide +kernel
theorem dX4_blow_27 : decode cX4_blow 27 = .ok (.iload_n 2, 1) := by decide +kernel
theorem dX4_blow_28 : decode cX4_blow 28 = .ok (.ireturn, 1) := by decide +kernel
theorem dX4_weightOf_0 : decode cX4_weightOf 0 = .ok (.iload_n 0, 1) := by decide +kernel
theorem dX4_weightOf_1 : decode cX4_weightOf 1 = .ok (.bipush 20, 2) := by decide +kernel
theorem dX4_weightOf_3 : decode cX4_weightOf 3 = .ok (.if_icmp .le 9, 3) := by decide +kernel
theorem dX4_weightOf_6 : decode cX4_weightOf 6 = .ok (.iconst 4, 1) := by decide +kernel
theorem dX4_weightOf_7 : decode cX4_weightOf 7 = .ok (.iload_n 1, 1) := by decide +kernel
theorem dX4_weightOf_8 : decode cX4_weightOf 8 = .ok (.imul, 1) := by decide +kernel
theorem dX4_weightOf_9 : decode cX4_weightOf 9 = .ok (.goto 16, 3) := by decide +kernel
theorem dX4_weightOf_12 : decode cX4_weightOf 12 = .ok (.iload_n 0, 1) := by decide +kernel
theorem dX4_weightOf_13 : decode cX4_weightOf 13 = .ok (.bipush 10, 2) := by decide +kernel
theorem dX4_weightOf_15 : decode cX4_weightOf 15 = .ok (.if_icmp .le 9, 3) := by decide +kernel
theorem dX4_weightOf_18 : decode cX4_weightOf 18 = .ok (.iconst 2, 1) := by decide +kernel
theorem dX4_weightOf_19 : decode cX4_weightOf 19 = .ok (.iload_n 1, 1) := by decide +kernel
theorem dX4_weightOf_20 : decode cX4_weightOf 20 = .ok (.imul, 1) := by decide +kernel
theorem dX4_weightOf_21 : decode cX4_weightOf 21 = .ok (.goto 4, 3) := by decide +kernel
theorem dX4_weightOf_24 : decode cX4_weightOf 24 = .ok (.iload_n 1, 1) := by decide +kernel
theorem dX4_weightOf_25 : decode cX4_weightOf 25 = .ok (.ireturn, 1) := by decide +kernel
set_option maxRecDepth 20000 in
theorem ggX4_broken_X4_load : GoodIn wsX4_broken wsX4_load := goodIn_r _ [5, 6, 7, 8, 4, 9, 22, 23, 24, 25, 26, 27] (by decide +kernel) (by decide +kernel)
set_option maxRecDepth 20000 in
theorem gX4_broken_X4_load : GoodIn wsX4_broken (wsV RX4 34 RX4 yX4_load wsX4_load) := goodIn_app (goodIn_of _ (by decide +kernel)) ggX4_broken_X4_load
set_option maxRecDepth 20000 in
theorem ggX4_broken_X4_press : GoodIn wsX4_broken wsX4_press := goodIn_r _ [13, 14, 15, 16, 4, 17, 6, 7, 8, 9, 22, 23, 24, 25, 26, 27] (by decide +kernel) (by decide +kernel)
set_option maxRecDepth 20000 in
theorem gX4_broken_X4_press : GoodIn wsX4_broken (wsV RX4 61 RX4 yX4_press wsX4_press) := goodIn_app (goodIn_of _ (by decide +kernel)) ggX4_broken_X4_press
set_option maxRecDepth 20000 in
theorem ggX4_broken_X4_strength : GoodIn wsX4_broken wsX4_strength := goodIn_r _ [21, 6, 7, 8, 4, 9, 22, 23, 24, 25, 26, 27] (by decide +kernel) (by decide +kernel)
set_option maxRecDepth 20000 in
theorem gX4_broken_X4_strength : GoodIn wsX4_broken (wsV RX4 40 RX4 yX4_strength wsX4_strength) := goodIn_app (goodIn_of _ (by decide +kernel)) ggX4_broken_X4_strength
theorem dX4_broken_0 : decode cX4_broken 0 = .ok (.iload_n 1, 1) := by decide +kernel
theorem dX4_broken_1 : decode cX4_broken 1 = .ok (.iconst 2, 1) := by decide +kernel
theorem dX4_broken_2 : decode cX4_broken 2 = .ok (.isub, 1) := by decide +kernel
theorem dX4_broken_3 : decode cX4_broken 3 = .ok (.istore_n 3, 1) := by decide +kernel
theorem dX4_broken_4 : decode cX4_broken 4 = .ok (.iload_n 3, 1) := by decide +kernel
theorem dX4_broken_5 : decode cX4_broken 5 = .ok (.ifCond .lt 33, 3) := by decide +kernel
theorem dX4_broken_8 : decode cX4_broken 8 = .ok (.aload_n 0, 1) := by decide +kernel
theorem dX4_broken_9 : decode cX4_broken 9 = .ok (.iload_n 3, 1) := by decide +kernel
theorem dX4_broken_10 : decode cX4_broken 10 = .ok (.iload_n 1, 1) := by decide +kernel
theorem dX4_broken_11 : decode cX4_broken 11 = .ok (.invokevirtual 34, 3) := by decide +kernel
theorem dX4_broken_14 : decode cX4_broken 14 = .ok (.aload_n 0, 1) := by decide +kernel
theorem dX4_broken_15 : decode cX4_broken 15 = .ok (.iload_n 3, 1) := by decide +kernel
theorem dX4_broken_16 : decode cX4_broken 16 = .ok (.iload_n 1, 1) := by decide +kernel
theorem dX4_broken_17 : decode cX4_broken 17 = .ok (.iload_n 2, 1) := by decide +kernel
theorem dX4_broken_18 : decode cX4_broken 18 = .ok (.invokevirtual 61, 3) := by decide +kernel
theorem dX4_broken_21 : decode cX4_broken 21 = .ok (.iadd, 1) := by decide +kernel
theorem dX4_broken_22 : decode cX4_broken 22 = .ok (.aload_n 0, 1) := by decide +kernel
theorem dX4_broken_23 : decode cX4_broken 23 = .ok (.iload_n 3, 1) := by decide +kernel
theorem dX4_broken_24 : decode cX4_broken 24 = .ok (.invokevirtual 40, 3) := by decide +kernel
theorem dX4_broken_27 : decode cX4_broken 27 = .ok (.if_icmp .lt 5, 3) := by decide +kernel
theorem dX4_broken_30 : decode cX4_broken 30 = .ok (.iload_n 3, 1) := by decide +kernel
theorem dX4_broken_31 : decode cX4_broken 31 = .ok (.ireturn, 1) := by decide +kernel
theorem dX4_broken_32 : decode cX4_broken 32 = .ok (.iinc 3 (-1), 3) := by decide +kernel
theorem dX4_broken_35 : decode cX4_broken 35 = .ok (.goto (-31), 3) := by decide +kernel
theorem dX4_broken_38 : decode cX4_broken 38 = .ok (.bipush (-6), 2) := by decide +kernel
theorem dX4_broken_40 : decode cX4_broken 40 = .ok (.ireturn, 1) := by decide +kernel
set_option maxRecDepth 20000 in
theorem ggX4_tapAll_X4_weightOf : GoodIn wsX4_tapAll wsX4_weightOf := goodIn_r _ [8] (by decide +kernel) (by decide +kernel)
set_option maxRecDepth 20000 in
theorem gX4_tapAll_X4_weightOf : GoodIn wsX4_tapAll (va_wsS RX4 69 yX4_weightOf wsX4_weightOf) := goodIn_app (goodIn_of _ (by decide +kernel)) ggX4_tapAll_X4_weightOf
set_option maxRecDepth 20000 in
theorem ggX4_tapAll_X4_broken : GoodIn wsX4_tapAll wsX4_broken := goodIn_r _ [12, 13, 14, 15, 7, 16, 2, 17, 18, 19, 20, 21, 22, 23, 24, 25, 26, 27, 28, 29, 30, 31, 32, 33, 34, 35, 36, 37] (by decide +kernel) (by decide +kernel)
set_option maxRecDepth 20000 in
theorem gX4_tapAll_X4_broken : GoodIn wsX4_tapAll (wsV RX4 72 RX4 yX4_broken wsX4_broken) := goodIn_app (goodIn_of _ (by decide +kernel)) ggX4_tapAll_X4_broken
theorem dX4_tapAll_0 : decode cX4_tapAll 0 = .ok (.aload_n 0, 1) := by decide +kernel
theorem dX4_tapAll_1 : decode cX4_tapAll 1 = .ok (.iconst 0, 1) := by decide +kernel
theorem dX4_tapAll_2 : decode cX4_tapAll 2 = .ok (.putfield 65, 3) := by decide +kernel
theorem dX4_tapAll_5 : decode cX4_tapAll 5 = .ok (.aload_n 0, 1) := by decide +kernel
theorem dX4_tapAll_6 : decode cX4_tapAll 6 = .ok (.getfield 7, 3) := by decide +kernel
theorem dX4_tapAll_9 : decode cX4_tapAll 9 = .ok (.iconst 0, 1) := by decide +kernel
theorem dX4_tapAll_10 : decode cX4_tapAll 10 = .ok (.iaload, 1) := by decide +kernel
theorem dX4_tapAll_11 : decode cX4_tapAll 11 = .ok (.istore_n 3, 1) := by decide +kernel
theorem dX4_tapAll_12 : decode cX4_tapAll 12 = .ok (.iconst 1, 1) := by decide +kernel
theorem dX4_tapAll_13 : decode cX4_tapAll 13 = .ok (.istore 4, 2) := by decide +kernel
theorem dX4_tapAll_15 : decode cX4_tapAll 15 = .ok (.iload 4, 2) := by decide +kernel
theorem dX4_tapAll_17 : decode cX4_tapAll 17 = .ok (.iload_n 2, 1) := by decide +kernel
theorem dX4_tapAll_18 : decode cX4_tapAll 18 = .ok (.if_icmp .gt 64, 3) := by decide +kernel
theorem dX4_tapAll_21 : decode cX4_tapAll 21 = .ok (.aload_n 0, 1) := by decide +kernel
theorem dX4_tapAll_22 : decode cX4_tapAll 22 = .ok (.iload_n 3, 1) := by decide +kernel
theorem dX4_tapAll_23 : decode cX4_tapAll 23 = .ok (.iload 4, 2) := by decide +kernel
theorem dX4_tapAll_25 : decode cX4_tapAll 25 = .ok (.iload_n 1, 1) := by decide +kernel
theorem dX4_tapAll_26 : decode cX4_tapAll 26 = .ok (.invokestatic 69, 3) := by decide +kernel
theorem dX4_tapAll_29 : decode cX4_tapAll 29 = .ok (.invokevirtual 72, 3) := by decide +kernel
theorem dX4_tapAll_32 : decode cX4_tapAll 32 = .ok (.istore 5, 2) := by decide +kernel
theorem dX4_tapAll_34 : decode cX4_tapAll 34 = .ok (.iload 5, 2) := by decide +kernel
theorem dX4_tapAll_36 : decode cX4_tapAll 36 = .ok (.ifCond .lt 40, 3) := by decide +kernel
theorem dX4_tapAll_39 : decode cX4_tapAll 39 = .ok (.aload_n 0, 1) := by decide +kernel
theorem dX4_tapAll_40 : decode cX4_tapAll 40 = .ok (.getfield 20, 3) := by decide +kernel
theorem dX4_tapAll_43 : decode cX4_tapAll 43 = .ok (.aload_n 0, 1) := by decide +kernel
theorem dX4_tapAll_44 : decode cX4_tapAll 44 = .ok (.getfield 65, 3) := by decide +kernel
theorem dX4_tapAll_47 : decode cX4_tapAll 47 = .ok (.iload 4, 2) := by decide +kernel
theorem dX4_tapAll_49 : decode cX4_tapAll 49 = .ok (.iastore, 1) := by decide +kernel
theorem dX4_tapAll_50 : decode cX4_tapAll 50 = .ok (.aload_n 0, 1) := by decide +kernel
theorem dX4_tapAll_51 : decode cX4_tapAll 51 = .ok (.getfield 23, 3) := by decide +kernel
theorem dX4_tapAll_54 : decode cX4_tapAll 54 = .ok (.aload_n 0, 1) := by decide +kernel
theorem dX4_tapAll_55 : decode cX4_tapAll 55 = .ok (.getfield 65, 3) := by decide +kernel
theorem dX4_tapAll_58 : decode cX4_tapAll 58 = .ok (.iload 5, 2) := by decide +kernel
theorem dX4_tapAll_60 : decode cX4_tapAll 60 = .ok (.iastore, 1) := by decide +kernel
theorem dX4_tapAll_61 : decode cX4_tapAll 61 = .ok (.aload_n 0, 1) := by decide +kernel
theorem dX4_tapAll_62 : decode cX4_tapAll 62 = .ok (.dup, 1) := by decide +kernel
theorem dX4_tapAll_63 : decode cX4_tapAll 63 = .ok (.getfield 65, 3) := by decide +kernel
theorem dX4_tapAll_66 : decode cX4_tapAll 66 = .ok (.iconst 1, 1) := by decide +kernel
theorem dX4_tapAll_67 : decode cX4_tapAll 67 = .ok (.iadd, 1) := by decide +kernel
theorem dX4_tapAll_68 : decode cX4_tapAll 68 = .ok (.putfield 65, 3) := by decide +kernel
theorem dX4_tapAll_71 : decode cX4_tapAll 71 = .ok (.iload 5, 2) := by decide +kernel
theorem dX4_tapAll_73 : decode cX4_tapAll 73 = .ok (.iconst 1, 1) := by decide +kernel
theorem dX4_tapAll_74 : decode cX4_tapAll 74 = .ok (.iadd, 1) := by decide +kernel
theorem dX4_tapAll_75 : decode cX4_tapAll 75 = .ok (.istore_n 3, 1) := by decide +kernel
theorem dX4_tapAll_76 : decode cX4_tapAll 76 = .ok (.iinc 4 1, 3) := by decide +kernel
theorem dX4_tapAll_79 : decode cX4_tapAll 79 = .ok (.goto (-64), 3) := by decide +kernel
theorem dX4_tapAll_82 : decode cX4_tapAll 82 = .ok (.return_, 1) := by decide +kernel
set_option maxRecDepth 20000 in
theorem ggX4_isClean_X4_at : GoodIn wsX4_isClean wsX4_at := goodIn_r _ [5] (by decide +kernel) (by decide +kernel)
set_option maxRecDepth 20000 in
theorem gX4_isClean_X4_at : GoodIn wsX4_isClean (va_wsS RX4 30 yX4_at wsX4_at) := goodIn_app (goodIn_of _ (by decide +kernel)) ggX4_isClean_X4_at
theorem dX4_isClean_0 : decode cX4_isClean 0 = .ok (.aload_n 0, 1) := by decide +kernel
theorem dX4_isClean_1 : decode cX4_isClean 1 = .ok (.getfield 7, 3) := by decide +kernel
theorem dX4_isClean_4 : decode cX4_isClean 4 = .ok (.iload_n 1, 1) := by decide +kernel
theorem dX4_isClean_5 : decode cX4_isClean 5 = .ok (.iconst 1, 1) := by decide +kernel
theorem dX4_isClean_6 : decode cX4_isClean 6 = .ok (.iadd, 1) := by decide +kernel
theorem dX4_isClean_7 : decode cX4_isClean 7 = .ok (.iconst 3, 1) := by decide +kernel
theorem dX4_isClean_8 : decode cX4_isClean 8 = .ok (.invokestatic 30, 3) := by decide +kernel
theorem dX4_isClean_11 : decode cX4_isClean 11 = .ok (.iaload, 1) := by decide +kernel
theorem dX4_isClean_12 : decode cX4_isClean 12 = .ok (.aload_n 0, 1) := by decide +kernel
theorem dX4_isClean_13 : decode cX4_isClean 13 = .ok (.getfield 7, 3) := by decide +kernel
theorem dX4_isClean_16 : decode cX4_isClean 16 = .ok (.iload_n 1, 1) := by decide +kernel
theorem dX4_isClean_17 : decode cX4_isClean 17 = .ok (.iconst 3, 1) := by decide +kernel
theorem dX4_isClean_18 : decode cX4_isClean 18 = .ok (.invokestatic 30, 3) := by decide +kernel
theorem dX4_isClean_21 : decode cX4_isClean 21 = .ok (.iaload, 1) := by decide +kernel
theorem dX4_isClean_22 : decode cX4_isClean 22 = .ok (.isub, 1) := by decide +kernel
theorem dX4_isClean_23 : decode cX4_isClean 23 = .ok (.istore_n 2, 1) := by decide +kernel
theorem dX4_isClean_24 : decode cX4_isClean 24 = .ok (.iload_n 2, 1) := by decide +kernel
theorem dX4_isClean_25 : decode cX4_isClean 25 = .ok (.iconst 1, 1) := by decide +kernel
theorem dX4_isClean_26 : decode cX4_isClean 26 = .ok (.if_icmp .gt 8, 3) := by decide +kernel
theorem dX4_isClean_29 : decode cX4_isClean 29 = .ok (.iload_n 2, 1) := by decide +kernel
theorem dX4_isClean_30 : decode cX4_isClean 30 = .ok (.iconst (-1), 1) := by decide +kernel
theorem dX4_isClean_31 : decode cX4_isClean 31 = .ok (.if_icmp .ge 7, 3) := by decide +kernel
theorem dX4_isClean_34 : decode cX4_isClean 34 = .ok (.iconst 1, 1) := by decide +kernel
theorem dX4_isClean_35 : decode cX4_isClean 35 = .ok (.goto 4, 3) := by decide +kernel
theorem dX4_isClean_38 : decode cX4_isClean 38 = .ok (.iconst 0, 1) := by decide +kernel
theorem dX4_isClean_39 : decode cX4_isClean 39 = .ok (.ireturn, 1) := by decide +kernel
set_option maxRecDepth 20000 in
theorem ggX4_taps_X4_in : GoodIn wsX4_taps wsX4_in := goodIn_r _ [8] (by decide +kernel) (by decide +kernel)
set_option maxRecDepth 20000 in
theorem gX4_taps_X4_in : GoodIn wsX4_taps (va_wsS RX4 26 yX4_in wsX4_in) := goodIn_app (goodIn_of _ (by decide +kernel)) ggX4_taps_X4_in
set_option maxRecDepth 20000 in
theorem ggX4_taps_X4_tapAll : GoodIn wsX4_taps wsX4_tapAll := goodIn_r _ [12, 2, 1, 3, 4, 13, 14, 7, 15, 16, 17, 18, 19, 20, 21, 22, 23, 24, 25, 26, 27, 28, 29, 30, 31, 32, 33, 34, 35, 36, 37, 38, 43, 44, 45, 46, 47, 48] (by decide +kernel) (by decide +kernel)
set_option maxRecDepth 20000 in
theorem gX4_taps_X4_tapAll : GoodIn wsX4_taps (wsV RX4 75 RX4 yX4_tapAll wsX4_tapAll) := goodIn_app (goodIn_of _ (by decide +kernel)) ggX4_taps_X4_tapAll
set_option maxRecDepth 20000 in
theorem ggX4_taps_X4_isClean : GoodIn wsX4_taps wsX4_isClean := goodIn_r _ [42, 1, 24, 25, 7, 26, 43, 44, 45, 46, 47, 48] (by decide +kernel) (by decide +kernel)
set_option maxRecDepth 20000 in
theorem gX4_taps_X4_isClean : GoodIn wsX4_taps (wsV RX4 79 RX4 yX4_isClean wsX4_isClean) := goodIn_app (goodIn_of _ (by decide +kernel)) ggX4_taps_X4_isClean
theorem dX4_taps_0 : decode cX4_taps 0 = .ok (.iload_n 2, 1) := by decide +kernel
theorem dX4_taps_1 : decode cX4_taps 1 = .ok (.iconst 0, 1) := by decide +kernel
theorem dX4_taps_2 : decode cX4_taps 2 = .ok (.iconst 2, 1) := by decide +kernel
theorem dX4_taps_3 : decode cX4_taps 3 = .ok (.invokestatic 26, 3) := by decide +kernel
theorem dX4_taps_6 : decode cX4_taps 6 = .ok (.ifCond .ne 6, 3) := by decide +kernel
theorem dX4_taps_9 : decode cX4_taps 9 = .ok (.bipush (-2), 2) := by decide +kernel
theorem dX4_taps_11 : decode cX4_taps 11 = .ok (.ireturn, 1) := by decide +kernel
theorem dX4_taps_12 : decode cX4_taps 12 = .ok (.aload_n 0, 1) := by decide +kernel
theorem dX4_taps_13 : decode cX4_taps 13 = .ok (.aload_n 0, 1) := by decide +kernel
theorem dX4_taps_14 : decode cX4_taps 14 = .ok (.getfield 7, 3) := by decide +kernel
theorem dX4_taps_17 : decode cX4_taps 17 = .ok (.iconst 1, 1) := by decide +kernel
theorem dX4_taps_18 : decode cX4_taps 18 = .ok (.iaload, 1) := by decide +kernel
theorem dX4_taps_19 : decode cX4_taps 19 = .ok (.bipush 30, 2) := by decide +kernel
theorem dX4_taps_21 : decode cX4_taps 21 = .ok (.invokevirtual 75, 3) := by decide +kernel
theorem dX4_taps_24 : decode cX4_taps 24 = .ok (.iload_n 1, 1) := by decide +kernel
theorem dX4_taps_25 : decode cX4_taps 25 = .ok (.iconst (-1), 1) := by decide +kernel
theorem dX4_taps_26 : decode cX4_taps 26 = .ok (.if_icmp .ne 8, 3) := by decide +kernel
theorem dX4_taps_29 : decode cX4_taps 29 = .ok (.aload_n 0, 1) := by decide +kernel
theorem dX4_taps_30 : decode cX4_taps 30 = .ok (.getfield 65, 3) := by decide +kernel
theorem dX4_taps_33 : decode cX4_taps 33 = .ok (.ireturn, 1) := by decide +kernel
theorem dX4_taps_34 : decode cX4_taps 34 = .ok (.iload_n 1, 1) := by decide +kernel
theorem dX4_taps_35 : decode cX4_taps 35 = .ok (.iconst 0, 1) := by decide +kernel
theorem dX4_taps_36 : decode cX4_taps 36 = .ok (.aload_n 0, 1) := by decide +kernel
theorem dX4_taps_37 : decode cX4_taps 37 = .ok (.getfield 65, 3) := by decide +kernel
theorem dX4_taps_40 : decode cX4_taps 40 = .ok (.iconst 1, 1) := by decide +kernel
theorem dX4_taps_41 : decode cX4_taps 41 = .ok (.isub, 1) := by decide +kernel
theorem dX4_taps_42 : decode cX4_taps 42 = .ok (.invokestatic 26, 3) := by decide +kernel
theorem dX4_taps_45 : decode cX4_taps 45 = .ok (.ifCond .ne 6, 3) := by decide +kernel
theorem dX4_taps_48 : decode cX4_taps 48 = .ok (.bipush (-6), 2) := by decide +kernel
theorem dX4_taps_50 : decode cX4_taps 50 = .ok (.ireturn, 1) := by decide +kernel
theorem dX4_taps_51 : decode cX4_taps 51 = .ok (.iload_n 2, 1) := by decide +kernel
theorem dX4_taps_52 : decode cX4_taps 52 = .ok (.ifCond .ne 12, 3) := by decide +kernel
theorem dX4_taps_55 : decode cX4_taps 55 = .ok (.aload_n 0, 1) := by decide +kernel
theorem dX4_taps_56 : decode cX4_taps 56 = .ok (.getfield 20, 3) := by decide +kernel
theorem dX4_taps_59 : decode cX4_taps 59 = .ok (.iload_n 1, 1) := by decide +kernel
theorem dX4_taps_60 : decode cX4_taps 60 = .ok (.iaload, 1) := by decide +kernel
theorem dX4_taps_61 : decode cX4_taps 61 = .ok (.goto 35, 3) := by decide +kernel
theorem dX4_taps_64 : decode cX4_taps 64 = .ok (.iload_n 2, 1) := by decide +kernel
theorem dX4_taps_65 : decode cX4_taps 65 = .ok (.iconst 1, 1) := by decide +kernel
theorem dX4_taps_66 : decode cX4_taps 66 = .ok (.if_icmp .ne 12, 3) := by decide +kernel
theorem dX4_taps_69 : decode cX4_taps 69 = .ok (.aload_n 0, 1) := by decide +kernel
theorem dX4_taps_70 : decode cX4_taps 70 = .ok (.getfield 23, 3) := by decide +kernel
theorem dX4_taps_73 : decode cX4_taps 73 = .ok (.iload_n 1, 1) := by decide +kernel
theorem dX4_taps_74 : decode cX4_taps 74 = .ok (.iaload, 1) := by decide +kernel
theorem dX4_taps_75 : decode cX4_taps 75 = .ok (.goto 21, 3) := by decide +kernel
theorem dX4_taps_78 : decode cX4_taps 78 = .ok (.aload_n 0, 1) := by decide +kernel
theorem dX4_taps_79 : decode cX4_taps 79 = .ok (.aload_n 0, 1) := by decide +kernel
theorem dX4_taps_80 : decode cX4_taps 80 = .ok (.getfield 23, 3) := by decide +kernel
theorem dX4_taps_83 : decode cX4_taps 83 = .ok (.iload_n 1, 1) := by decide +kernel
theorem dX4_taps_84 : decode cX4_taps 84 = .ok (.iaload, 1) := by decide +kernel
theorem dX4_taps_85 : decode cX4_taps 85 = .ok (.invokevirtual 79, 3) := by decide +kernel
theorem dX4_taps_88 : decode cX4_taps 88 = .ok (.ifCond .eq 7, 3) := by decide +kernel
theorem dX4_taps_91 : decode cX4_taps 91 = .ok (.iconst 1, 1) := by decide +kernel
theorem dX4_taps_92 : decode cX4_taps 92 = .ok (.goto 4, 3) := by decide +kernel
theorem dX4_taps_95 : decode cX4_taps 95 = .ok (.iconst 0, 1) := by decide +kernel
theorem dX4_taps_96 : decode cX4_taps 96 = .ok (.ireturn, 1) := by decide +kernel
set_option maxRecDepth 20000 in
theorem ggX4_need_X4_in : GoodIn wsX4_need wsX4_in := goodIn_r _ [5] (by decide +kernel) (by decide +kernel)
set_option maxRecDepth 20000 in
theorem gX4_need_X4_in : GoodIn wsX4_need (va_wsS RX4 26 yX4_in wsX4_in) := goodIn_app (goodIn_of _ (by decide +kernel)) ggX4_need_X4_in
set_option maxRecDepth 20000 in
theorem ggX4_need_X4_tapAll : GoodIn wsX4_need wsX4_tapAll := goodIn_r _ [9, 1, 10, 11, 12, 13, 14, 4, 15, 16, 17, 18, 19, 20, 21, 22, 23, 24, 25, 26, 27, 28, 29, 30, 31, 32, 33, 34, 35, 36, 37, 38, 39, 40, 41, 42, 43, 44] (by decide +kernel) (by decide +kernel)
set_option maxRecDepth 20000 in
theorem gX4_need_X4_tapAll : GoodIn wsX4_need (wsV RX4 75 RX4 yX4_tapAll wsX4_tapAll) := goodIn_app (goodIn_of _ (by decide +kernel)) ggX4_need_X4_tapAll
theorem dX4_need_0 : decode cX4_need 0 = .ok (.iload_n 1, 1) := by decide +kernel
theorem dX4_need_1 : decode cX4_need 1 = .ok (.iconst 1, 1) := by decide +kernel
theorem dX4_need_2 : decode cX4_need 2 = .ok (.bipush 30, 2) := by decide +kernel
theorem dX4_need_4 : decode cX4_need 4 = .ok (.invokestatic 26, 3) := by decide +kernel
theorem dX4_need_7 : decode cX4_need 7 = .ok (.ifCond .ne 6, 3) := by decide +kernel
theorem dX4_need_10 : decode cX4_need 10 = .ok (.bipush (-2), 2) := by decide +kernel
theorem dX4_need_12 : decode cX4_need 12 = .ok (.ireturn, 1) := by decide +kernel
theorem dX4_need_13 : decode cX4_need 13 = .ok (.iconst 1, 1) := by decide +kernel
theorem dX4_need_14 : decode cX4_need 14 = .ok (.istore_n 2, 1) := by decide +kernel
theorem dX4_need_15 : decode cX4_need 15 = .ok (.iload_n 2, 1) := by decide +kernel
theorem dX4_need_16 : decode cX4_need 16 = .ok (.bipush 50, 2) := by decide +kernel
theorem dX4_need_18 : decode cX4_need 18 = .ok (.if_icmp .gt 24, 3) := by decide +kernel
theorem dX4_need_21 : decode cX4_need 21 = .ok (.aload_n 0, 1) := by decide +kernel
theorem dX4_need_22 : decode cX4_need 22 = .ok (.iload_n 2, 1) := by decide +kernel
theorem dX4_need_23 : decode cX4_need 23 = .ok (.iload_n 1, 1) := by decide +kernel
theorem dX4_need_24 : decode cX4_need 24 = .ok (.invokevirtual 75, 3) := by decide +kernel
theorem dX4_need_27 : decode cX4_need 27 = .ok (.aload_n 0, 1) := by decide +kernel
theorem dX4_need_28 : decode cX4_need 28 = .ok (.getfield 65, 3) := by decide +kernel
theorem dX4_need_31 : decode cX4_need 31 = .ok (.ifCond .le 5, 3) := by decide +kernel
theorem dX4_need_34 : decode cX4_need 34 = .ok (.iload_n 2, 1) := by decide +kernel
theorem dX4_need_35 : decode cX4_need 35 = .ok (.ireturn, 1) := by decide +kernel
theorem dX4_need_36 : decode cX4_need 36 = .ok (.iinc 2 1, 3) := by decide +kernel
theorem dX4_need_39 : decode cX4_need 39 = .ok (.goto (-24), 3) := by decide +kernel
theorem dX4_need_42 : decode cX4_need 42 = .ok (.bipush (-6), 2) := by decide +kernel
theorem dX4_need_44 : decode cX4_need 44 = .ok (.ireturn, 1) := by decide +kernel
set_option maxRecDepth 20000 in
theorem ggX4_doesGo_X4_shear : GoodIn wsX4_doesGo wsX4_shear := goodIn_r _ [6, 1, 7, 8, 9, 5, 10, 11, 12, 13, 26, 27, 28, 29, 30, 31] (by decide +kernel) (by decide +kernel)
set_option maxRecDepth 20000 in
theorem gX4_doesGo_X4_shear : GoodIn wsX4_doesGo (wsV RX4 37 RX4 yX4_shear wsX4_shear) := goodIn_app (goodIn_of _ (by decide +kernel)) ggX4_doesGo_X4_shear
set_option maxRecDepth 20000 in
theorem ggX4_doesGo_X4_press : GoodIn wsX4_doesGo wsX4_press := goodIn_r _ [17, 18, 19, 20, 5, 21, 1, 11, 12, 13, 26, 27, 28, 29, 30, 31] (by decide +kernel) (by decide +kernel)
set_option maxRecDepth 20000 in
theorem gX4_doesGo_X4_press : GoodIn wsX4_doesGo (wsV RX4 61 RX4 yX4_press wsX4_press) := goodIn_app (goodIn_of _ (by decide +kernel)) ggX4_doesGo_X4_press
set_option maxRecDepth 20000 in
theorem ggX4_doesGo_X4_strength : GoodIn wsX4_doesGo wsX4_strength := goodIn_r _ [25, 1, 11, 12, 5, 13, 26, 27, 28, 29, 30, 31] (by decide +kernel) (by decide +kernel)
set_option maxRecDepth 20000 in
theorem gX4_doesGo_X4_strength : GoodIn wsX4_doesGo (wsV RX4 40 RX4 yX4_strength wsX4_strength) := goodIn_app (goodIn_of _ (by decide +kernel)) ggX4_doesGo_X4_strength
theorem dX4_doesGo_0 : decode cX4_doesGo 0 = .ok (.aload_n 0, 1) := by decide +kernel
theorem dX4_doesGo_1 : decode cX4_doesGo 1 = .ok (.iload_n 1, 1) := by decide +kernel
theorem dX4_doesGo_2 : decode cX4_doesGo 2 = .ok (.iload_n 2, 1) := by decide +kernel
theorem dX4_doesGo_3 : decode cX4_doesGo 3 = .ok (.invokevirtual 37, 3) := by decide +kernel
theorem dX4_doesGo_6 : decode cX4_doesGo 6 = .ok (.aload_n 0, 1) := by decide +kernel
theorem dX4_doesGo_7 : decode cX4_doesGo 7 = .ok (.iload_n 1, 1) := by decide +kernel
theorem dX4_doesGo_8 : decode cX4_doesGo 8 = .ok (.aload_n 0, 1) := by decide +kernel
theorem dX4_doesGo_9 : decode cX4_doesGo 9 = .ok (.getfield 7, 3) := by decide +kernel
theorem dX4_doesGo_12 : decode cX4_doesGo 12 = .ok (.iconst 0, 1) := by decide +kernel
theorem dX4_doesGo_13 : decode cX4_doesGo 13 = .ok (.iaload, 1) := by decide +kernel
theorem dX4_doesGo_14 : decode cX4_doesGo 14 = .ok (.iload_n 3, 1) := by decide +kernel
theorem dX4_doesGo_15 : decode cX4_doesGo 15 = .ok (.invokevirtual 61, 3) := by decide +kernel
theorem dX4_doesGo_18 : decode cX4_doesGo 18 = .ok (.iadd, 1) := by decide +kernel
theorem dX4_doesGo_19 : decode cX4_doesGo 19 = .ok (.aload_n 0, 1) := by decide +kernel
theorem dX4_doesGo_20 : decode cX4_doesGo 20 = .ok (.iload_n 1, 1) := by decide +kernel
theorem dX4_doesGo_21 : decode cX4_doesGo 21 = .ok (.invokevirtual 40, 3) := by decide +kernel
theorem dX4_doesGo_24 : decode cX4_doesGo 24 = .ok (.if_icmp .lt 7, 3) := by decide +kernel
theorem dX4_doesGo_27 : decode cX4_doesGo 27 = .ok (.iconst 1, 1) := by decide +kernel
theorem dX4_doesGo_28 : decode cX4_doesGo 28 = .ok (.goto 4, 3) := by decide +kernel
theorem dX4_doesGo_31 : decode cX4_doesGo 31 = .ok (.iconst 0, 1) := by decide +kernel
theorem dX4_doesGo_32 : decode cX4_doesGo 32 = .ok (.ireturn, 1) := by decide +kernel
set_option maxRecDepth 20000 in
theorem ggX4_goes_X4_isLayer : GoodIn wsX4_goes wsX4_isLayer := goodIn_r _ [5, 6, 7, 8, 4, 9, 44, 45, 46, 47, 48, 49] (by decide +kernel) (by decide +kernel)
set_option maxRecDepth 20000 in
theorem gX4_goes_X4_isLayer : GoodIn wsX4_goes (wsV RX4 47 RX4 yX4_isLayer wsX4_isLayer) := goodIn_app (goodIn_of _ (by decide +kernel)) ggX4_goes_X4_isLayer
set_option maxRecDepth 20000 in
theorem ggX4_goes_X4_isSteep : GoodIn wsX4_goes wsX4_isSteep := goodIn_r _ [12, 7, 8, 4, 9] (by decide +kernel) (by decide +kernel)
set_option maxRecDepth 20000 in
theorem gX4_goes_X4_isSteep : GoodIn wsX4_goes (va_wsS RX4 51 yX4_isSteep wsX4_isSteep) := goodIn_app (goodIn_of _ (by decide +kernel)) ggX4_goes_X4_isSteep
set_option maxRecDepth 20000 in
theorem ggX4_goes_X4_in : GoodIn wsX4_goes wsX4_in := goodIn_r _ [9] (by decide +kernel) (by decide +kernel)
set_option maxRecDepth 20000 in
theorem gX4_goes_X4_in : GoodIn wsX4_goes (va_wsS RX4 26 yX4_in wsX4_in) := goodIn_app (goodIn_of _ (by decide +kernel)) ggX4_goes_X4_in
set_option maxRecDepth 20000 in
theorem ggX4_goes_X4_top : GoodIn wsX4_goes wsX4_top := goodIn_r _ [16, 6, 44, 45, 46, 47, 48, 49] (by decide +kernel) (by decide +kernel)
set_option maxRecDepth 20000 in
theorem gX4_goes_X4_top : GoodIn wsX4_goes (wsV RX4 57 RX4 yX4_top wsX4_top) := goodIn_app (goodIn_of _ (by decide +kernel)) ggX4_goes_X4_top
set_option maxRecDepth 20000 in
theorem ggX4_goes_X4_doesGo : GoodIn wsX4_goes wsX4_doesGo := goodIn_r _ [20, 6, 21, 22, 23, 4, 24, 25, 26, 27, 28, 29, 30, 31, 32, 33, 34, 35, 36, 37, 38, 39, 40, 41, 42, 43, 44, 45, 46, 47, 48, 49] (by decide +kernel) (by decide +kernel)
set_option maxRecDepth 20000 in
theorem gX4_goes_X4_doesGo : GoodIn wsX4_goes (wsV RX4 82 RX4 yX4_doesGo wsX4_doesGo) := goodIn_app (goodIn_of _ (by decide +kernel)) ggX4_goes_X4_doesGo
theorem dX4_goes_0 : decode cX4_goes 0 = .ok (.aload_n 0, 1) := by decide +kernel
theorem dX4_goes_1 : decode cX4_goes 1 = .ok (.iload_n 1, 1) := by decide +kernel
theorem dX4_goes_2 : decode cX4_goes 2 = .ok (.invokevirtual 47, 3) := by decide +kernel
theorem dX4_goes_5 : decode cX4_goes 5 = .ok (.ifCond .ne 5, 3) := by decide +kernel
theorem dX4_goes_8 : decode cX4_goes 8 = .ok (.iconst (-1), 1) := by decide +kernel
theorem dX4_goes_9 : decode cX4_goes 9 = .ok (.ireturn, 1) := by decide +kernel
theorem dX4_goes_10 : decode cX4_goes 10 = .ok (.iload_n 2, 1) := by decide +kernel
theorem dX4_goes_11 : decode cX4_goes 11 = .ok (.invokestatic 51, 3) := by decide +kernel
theorem dX4_goes_14 : decode cX4_goes 14 = .ok (.ifCond .eq 13, 3) := by decide +kernel
theorem dX4_goes_17 : decode cX4_goes 17 = .ok (.iload_n 3, 1) := by decide +kernel
theorem dX4_goes_18 : decode cX4_goes 18 = .ok (.iconst 0, 1) := by decide +kernel
theorem dX4_goes_19 : decode cX4_goes 19 = .ok (.bipush 99, 2) := by decide +kernel
theorem dX4_goes_21 : decode cX4_goes 21 = .ok (.invokestatic 26, 3) := by decide +kernel
theorem dX4_goes_24 : decode cX4_goes 24 = .ok (.ifCond .ne 6, 3) := by decide +kernel
theorem dX4_goes_27 : decode cX4_goes 27 = .ok (.bipush (-2), 2) := by decide +kernel
theorem dX4_goes_29 : decode cX4_goes 29 = .ok (.ireturn, 1) := by decide +kernel
theorem dX4_goes_30 : decode cX4_goes 30 = .ok (.iload_n 1, 1) := by decide +kernel
theorem dX4_goes_31 : decode cX4_goes 31 = .ok (.aload_n 0, 1) := by decide +kernel
theorem dX4_goes_32 : decode cX4_goes 32 = .ok (.invokevirtual 57, 3) := by decide +kernel
theorem dX4_goes_35 : decode cX4_goes 35 = .ok (.if_icmp .ne 6, 3) := by decide +kernel
theorem dX4_goes_38 : decode cX4_goes 38 = .ok (.bipush (-3), 2) := by decide +kernel
theorem dX4_goes_40 : decode cX4_goes 40 = .ok (.ireturn, 1) := by decide +kernel
theorem dX4_goes_41 : decode cX4_goes 41 = .ok (.aload_n 0, 1) := by decide +kernel
theorem dX4_goes_42 : decode cX4_goes 42 = .ok (.iload_n 1, 1) := by decide +kernel
theorem dX4_goes_43 : decode cX4_goes 43 = .ok (.iload_n 2, 1) := by decide +kernel
theorem dX4_goes_44 : decode cX4_goes 44 = .ok (.iload_n 3, 1) := by decide +kernel
theorem dX4_goes_45 : decode cX4_goes 45 = .ok (.invokevirtual 82, 3) := by decide +kernel
theorem dX4_goes_48 : decode cX4_goes 48 = .ok (.ifCond .eq 7, 3) := by decide +kernel
theorem dX4_goes_51 : decode cX4_goes 51 = .ok (.iconst 1, 1) := by decide +kernel
theorem dX4_goes_52 : decode cX4_goes 52 = .ok (.goto 4, 3) := by decide +kernel
theorem dX4_goes_55 : decode cX4_goes 55 = .ok (.iconst 0, 1) := by decide +kernel
theorem dX4_goes_56 : decode cX4_goes 56 = .ok (.ireturn, 1) := by decide +kernel
set_option maxRecDepth 20000 in
theorem ggX4_steep_X4_in : GoodIn wsX4_steep wsX4_in := goodIn_r _ [4] (by decide +kernel) (by decide +kernel)
set_option maxRecDepth 20000 in
theorem gX4_steep_X4_in : GoodIn wsX4_steep (va_wsS RX4 26 yX4_in wsX4_in) := goodIn_app (goodIn_of _ (by decide +kernel)) ggX4_steep_X4_in
set_option maxRecDepth 20000 in
theorem ggX4_steep_X4_top : GoodIn wsX4_steep wsX4_top := goodIn_r _ [8, 9, 37, 38, 39, 40, 41, 42] (by decide +kernel) (by decide +kernel)
set_option maxRecDepth 20000 in
theorem gX4_steep_X4_top : GoodIn wsX4_steep (wsV RX4 57 RX4 yX4_top wsX4_top) := goodIn_app (goodIn_of _ (by decide +kernel)) ggX4_steep_X4_top
set_option maxRecDepth 20000 in
theorem ggX4_steep_X4_doesGo : GoodIn wsX4_steep wsX4_doesGo := goodIn_r _ [13, 9, 14, 15, 16, 3, 17, 18, 19, 20, 21, 22, 23, 24, 25, 26, 27, 28, 29, 30, 31, 32, 33, 34, 35, 36, 37, 38, 39, 40, 41, 42] (by decide +kernel) (by decide +kernel)
set_option maxRecDepth 20000 in
theorem gX4_steep_X4_doesGo : GoodIn wsX4_steep (wsV RX4 82 RX4 yX4_doesGo wsX4_doesGo) := goodIn_app (goodIn_of _ (by decide +kernel)) ggX4_steep_X4_doesGo
theorem dX4_steep_0 : decode cX4_steep 0 = .ok (.iload_n 1, 1) := by decide +kernel
theorem dX4_steep_1 : decode cX4_steep 1 = .ok (.iconst 0, 1) := by decide +kernel
theorem dX4_steep_2 : decode cX4_steep 2 = .ok (.bipush 99, 2) := by decide +kernel
theorem dX4_steep_4 : decode cX4_steep 4 = .ok (.invokestatic 26, 3) := by decide +kernel
theorem dX4_steep_7 : decode cX4_steep 7 = .ok (.ifCond .eq 12, 3) := by decide +kernel
theorem dX4_steep_10 : decode cX4_steep 10 = .ok (.iload_n 2, 1) := by decide +kernel
theorem dX4_steep_11 : decode cX4_steep 11 = .ok (.iconst 0, 1) := by decide +kernel
theorem dX4_steep_12 : decode cX4_steep 12 = .ok (.iconst 1, 1) := by decide +kernel
theorem dX4_steep_13 : decode cX4_steep 13 = .ok (.invokestatic 26, 3) := by decide +kernel
theorem dX4_steep_16 : decode cX4_steep 16 = .ok (.ifCond .ne 6, 3) := by decide +kernel
theorem dX4_steep_19 : decode cX4_steep 19 = .ok (.bipush (-2), 2) := by decide +kernel
theorem dX4_steep_21 : decode cX4_steep 21 = .ok (.ireturn, 1) := by decide +kernel
theorem dX4_steep_22 : decode cX4_steep 22 = .ok (.iconst 0, 1) := by decide +kernel
theorem dX4_steep_23 : decode cX4_steep 23 = .ok (.istore_n 3, 1) := by decide +kernel
theorem dX4_steep_24 : decode cX4_steep 24 = .ok (.iload_n 3, 1) := by decide +kernel
theorem dX4_steep_25 : decode cX4_steep 25 = .ok (.bipush 100, 2) := by decide +kernel
theorem dX4_steep_27 : decode cX4_steep 27 = .ok (.if_icmp .gt 50, 3) := by decide +kernel
theorem dX4_steep_30 : decode cX4_steep 30 = .ok (.aload_n 0, 1) := by decide +kernel
theorem dX4_steep_31 : decode cX4_steep 31 = .ok (.invokevirtual 57, 3) := by decide +kernel
theorem dX4_steep_34 : decode cX4_steep 34 = .ok (.iconst 1, 1) := by decide +kernel
theorem dX4_steep_35 : decode cX4_steep 35 = .ok (.isub, 1) := by decide +kernel
theorem dX4_steep_36 : decode cX4_steep 36 = .ok (.istore 4, 2) := by decide +kernel
theorem dX4_steep_38 : decode cX4_steep 38 = .ok (.iload 4, 2) := by decide +kernel
theorem dX4_steep_40 : decode cX4_steep 40 = .ok (.ifCond .lt 31, 3) := by decide +kernel
theorem dX4_steep_43 : decode cX4_steep 43 = .ok (.aload_n 0, 1) := by decide +kernel
theorem dX4_steep_44 : decode cX4_steep 44 = .ok (.iload 4, 2) := by decide +kernel
theorem dX4_steep_46 : decode cX4_steep 46 = .ok (.iload_n 3, 1) := by decide +kernel
theorem dX4_steep_47 : decode cX4_steep 47 = .ok (.iload_n 1, 1) := by decide +kernel
theorem dX4_steep_48 : decode cX4_steep 48 = .ok (.invokevirtual 82, 3) := by decide +kernel
theorem dX4_steep_51 : decode cX4_steep 51 = .ok (.ifCond .eq 14, 3) := by decide +kernel
theorem dX4_steep_54 : decode cX4_steep 54 = .ok (.iload_n 2, 1) := by decide +kernel
theorem dX4_steep_55 : decode cX4_steep 55 = .ok (.ifCond .ne 7, 3) := by decide +kernel
theorem dX4_steep_58 : decode cX4_steep 58 = .ok (.iload_n 3, 1) := by decide +kernel
theorem dX4_steep_59 : decode cX4_steep 59 = .ok (.goto 5, 3) := by decide +kernel
theorem dX4_steep_62 : decode cX4_steep 62 = .ok (.iload 4, 2) := by decide +kernel
theorem dX4_steep_64 : decode cX4_steep 64 = .ok (.ireturn, 1) := by decide +kernel
theorem dX4_steep_65 : decode cX4_steep 65 = .ok (.iinc 4 (-1), 3) := by decide +kernel
theorem dX4_steep_68 : decode cX4_steep 68 = .ok (.goto (-30), 3) := by decide +kernel
theorem dX4_steep_71 : decode cX4_steep 71 = .ok (.iinc 3 1, 3) := by decide +kernel
theorem dX4_steep_74 : decode cX4_steep 74 = .ok (.goto (-50), 3) := by decide +kernel
theorem dX4_steep_77 : decode cX4_steep 77 = .ok (.bipush (-6), 2) := by decide +kernel
theorem dX4_steep_79 : decode cX4_steep 79 = .ok (.ireturn, 1) := by decide +kernel
set_option maxRecDepth 20000 in
theorem ggX4_pack_X4_in : GoodIn wsX4_pack wsX4_in := goodIn_r _ [5] (by decide +kernel) (by decide +kernel)
set_option maxRecDepth 20000 in
theorem gX4_pack_X4_in : GoodIn wsX4_pack (va_wsS RX4 26 yX4_in wsX4_in) := goodIn_app (goodIn_of _ (by decide +kernel)) ggX4_pack_X4_in
set_option maxRecDepth 20000 in
theorem ggX4_pack_X4_top : GoodIn wsX4_pack wsX4_top := goodIn_r _ [9, 1, 13, 14, 15, 16, 17, 18] (by decide +kernel) (by decide +kernel)
set_option maxRecDepth 20000 in
theorem gX4_pack_X4_top : GoodIn wsX4_pack (wsV RX4 57 RX4 yX4_top wsX4_top) := goodIn_app (goodIn_of _ (by decide +kernel)) ggX4_pack_X4_top
set_option maxRecDepth 20000 in
theorem ggX4_pack_X4_at : GoodIn wsX4_pack wsX4_at := goodIn_r _ [12] (by decide +kernel) (by decide +kernel)
set_option maxRecDepth 20000 in
theorem gX4_pack_X4_at : GoodIn wsX4_pack (va_wsS RX4 30 yX4_at wsX4_at) := goodIn_app (goodIn_of _ (by decide +kernel)) ggX4_pack_X4_at
theorem dX4_pack_0 : decode cX4_pack 0 = .ok (.iload_n 1, 1) := by decide +kernel
theorem dX4_pack_1 : decode cX4_pack 1 = .ok (.iconst 1, 1) := by decide +kernel
theorem dX4_pack_2 : decode cX4_pack 2 = .ok (.sipush 200, 3) := by decide +kernel
theorem dX4_pack_5 : decode cX4_pack 5 = .ok (.invokestatic 26, 3) := by decide +kernel
theorem dX4_pack_8 : decode cX4_pack 8 = .ok (.ifCond .ne 6, 3) := by decide +kernel
theorem dX4_pack_11 : decode cX4_pack 11 = .ok (.bipush (-2), 2) := by decide +kernel
theorem dX4_pack_13 : decode cX4_pack 13 = .ok (.ireturn, 1) := by decide +kernel
theorem dX4_pack_14 : decode cX4_pack 14 = .ok (.aload_n 0, 1) := by decide +kernel
theorem dX4_pack_15 : decode cX4_pack 15 = .ok (.getfield 7, 3) := by decide +kernel
theorem dX4_pack_18 : decode cX4_pack 18 = .ok (.iconst 0, 1) := by decide +kernel
theorem dX4_pack_19 : decode cX4_pack 19 = .ok (.iaload, 1) := by decide +kernel
theorem dX4_pack_20 : decode cX4_pack 20 = .ok (.ifCond .ne 6, 3) := by decide +kernel
theorem dX4_pack_23 : decode cX4_pack 23 = .ok (.bipush (-3), 2) := by decide +kernel
theorem dX4_pack_25 : decode cX4_pack 25 = .ok (.ireturn, 1) := by decide +kernel
theorem dX4_pack_26 : decode cX4_pack 26 = .ok (.aload_n 0, 1) := by decide +kernel
theorem dX4_pack_27 : decode cX4_pack 27 = .ok (.getfield 7, 3) := by decide +kernel
theorem dX4_pack_30 : decode cX4_pack 30 = .ok (.aload_n 0, 1) := by decide +kernel
theorem dX4_pack_31 : decode cX4_pack 31 = .ok (.invokevirtual 57, 3) := by decide +kernel
theorem dX4_pack_34 : decode cX4_pack 34 = .ok (.iconst 1, 1) := by decide +kernel
theorem dX4_pack_35 : decode cX4_pack 35 = .ok (.invokestatic 30, 3) := by decide +kernel
theorem dX4_pack_38 : decode cX4_pack 38 = .ok (.iaload, 1) := by decide +kernel
theorem dX4_pack_39 : decode cX4_pack 39 = .ok (.istore_n 2, 1) := by decide +kernel
theorem dX4_pack_40 : decode cX4_pack 40 = .ok (.iload_n 2, 1) := by decide +kernel
theorem dX4_pack_41 : decode cX4_pack 41 = .ok (.iload_n 1, 1) := by decide +kernel
theorem dX4_pack_42 : decode cX4_pack 42 = .ok (.iadd, 1) := by decide +kernel
theorem dX4_pack_43 : decode cX4_pack 43 = .ok (.sipush 600, 3) := by decide +kernel
theorem dX4_pack_46 : decode cX4_pack 46 = .ok (.if_icmp .le 9, 3) := by decide +kernel
theorem dX4_pack_49 : decode cX4_pack 49 = .ok (.sipush 600, 3) := by decide +kernel
theorem dX4_pack_52 : decode cX4_pack 52 = .ok (.goto 6, 3) := by decide +kernel
theorem dX4_pack_55 : decode cX4_pack 55 = .ok (.iload_n 2, 1) := by decide +kernel
theorem dX4_pack_56 : decode cX4_pack 56 = .ok (.iload_n 1, 1) := by decide +kernel
theorem dX4_pack_57 : decode cX4_pack 57 = .ok (.iadd, 1) := by decide +kernel
theorem dX4_pack_58 : decode cX4_pack 58 = .ok (.istore_n 3, 1) := by decide +kernel
theorem dX4_pack_59 : decode cX4_pack 59 = .ok (.aload_n 0, 1) := by decide +kernel
theorem dX4_pack_60 : decode cX4_pack 60 = .ok (.getfield 7, 3) := by decide +kernel
theorem dX4_pack_63 : decode cX4_pack 63 = .ok (.aload_n 0, 1) := by decide +kernel
theorem dX4_pack_64 : decode cX4_pack 64 = .ok (.invokevirtual 57, 3) := by decide +kernel
theorem dX4_pack_67 : decode cX4_pack 67 = .ok (.iconst 0, 1) := by decide +kernel
theorem dX4_pack_68 : decode cX4_pack 68 = .ok (.invokestatic 30, 3) := by decide +kernel
theorem dX4_pack_71 : decode cX4_pack 71 = .ok (.iaload, 1) := by decide +kernel
theorem dX4_pack_72 : decode cX4_pack 72 = .ok (.iload_n 2, 1) := by decide +kernel
theorem dX4_pack_73 : decode cX4_pack 73 = .ok (.imul, 1) := by decide +kernel
theorem dX4_pack_74 : decode cX4_pack 74 = .ok (.iload_n 3, 1) := by decide +kernel
theorem dX4_pack_75 : decode cX4_pack 75 = .ok (.idiv, 1) := by decide +kernel
theorem dX4_pack_76 : decode cX4_pack 76 = .ok (.istore 4, 2) := by decide +kernel
theorem dX4_pack_78 : decode cX4_pack 78 = .ok (.aload_n 0, 1) := by decide +kernel
theorem dX4_pack_79 : decode cX4_pack 79 = .ok (.getfield 7, 3) := by decide +kernel
theorem dX4_pack_82 : decode cX4_pack 82 = .ok (.aload_n 0, 1) := by decide +kernel
theorem dX4_pack_83 : decode cX4_pack 83 = .ok (.invokevirtual 57, 3) := by decide +kernel
theorem dX4_pack_86 : decode cX4_pack 86 = .ok (.iconst 1, 1) := by decide +kernel
theorem dX4_pack_87 : decode cX4_pack 87 = .ok (.invokestatic 30, 3) := by decide +kernel
theorem dX4_pack_90 : decode cX4_pack 90 = .ok (.iload_n 3, 1) := by decide +kernel
theorem dX4_pack_91 : decode cX4_pack 91 = .ok (.iastore, 1) := by decide +kernel
theorem dX4_pack_92 : decode cX4_pack 92 = .ok (.aload_n 0, 1) := by decide +kernel
theorem dX4_pack_93 : decode cX4_pack 93 = .ok (.getfield 7, 3) := by decide +kernel
theorem dX4_pack_96 : decode cX4_pack 96 = .ok (.aload_n 0, 1) := by decide +kernel
theorem dX4_pack_97 : decode cX4_pack 97 = .ok (.invokevirtual 57, 3) := by decide +kernel
theorem dX4_pack_100 : decode cX4_pack 100 = .ok (.iconst 0, 1) := by decide +kernel
theorem dX4_pack_101 : decode cX4_pack 101 = .ok (.invokestatic 30, 3) := by decide +kernel
theorem dX4_pack_104 : decode cX4_pack 104 = .ok (.iload 4, 2) := by decide +kernel
theorem dX4_pack_106 : decode cX4_pack 106 = .ok (.iconst 1, 1) := by decide +kernel
theorem dX4_pack_107 : decode cX4_pack 107 = .ok (.if_icmp .ge 7, 3) := by decide +kernel
theorem dX4_pack_110 : decode cX4_pack 110 = .ok (.iconst 1, 1) := by decide +kernel
theorem dX4_pack_111 : decode cX4_pack 111 = .ok (.goto 5, 3) := by decide +kernel
theorem dX4_pack_114 : decode cX4_pack 114 = .ok (.iload 4, 2) := by decide +kernel
theorem dX4_pack_116 : decode cX4_pack 116 = .ok (.iastore, 1) := by decide +kernel
theorem dX4_pack_117 : decode cX4_pack 117 = .ok (.aload_n 0, 1) := by decide +kernel
theorem dX4_pack_118 : decode cX4_pack 118 = .ok (.getfield 7, 3) := by decide +kernel
theorem dX4_pack_121 : decode cX4_pack 121 = .ok (.aload_n 0, 1) := by decide +kernel
theorem dX4_pack_122 : decode cX4_pack 122 = .ok (.invokevirtual 57, 3) := by decide +kernel
theorem dX4_pack_125 : decode cX4_pack 125 = .ok (.iconst 3, 1) := by decide +kernel
theorem dX4_pack_126 : decode cX4_pack 126 = .ok (.invokestatic 30, 3) := by decide +kernel
theorem dX4_pack_129 : decode cX4_pack 129 = .ok (.dup2, 1) := by decide +kernel
theorem dX4_pack_130 : decode cX4_pack 130 = .ok (.iaload, 1) := by decide +kernel
theorem dX4_pack_131 : decode cX4_pack 131 = .ok (.aload_n 0, 1) := by decide +kernel
theorem dX4_pack_132 : decode cX4_pack 132 = .ok (.getfield 7, 3) := by decide +kernel
theorem dX4_pack_135 : decode cX4_pack 135 = .ok (.aload_n 0, 1) := by decide +kernel
theorem dX4_pack_136 : decode cX4_pack 136 = .ok (.invokevirtual 57, 3) := by decide +kernel
theorem dX4_pack_139 : decode cX4_pack 139 = .ok (.iconst 3, 1) := by decide +kernel
theorem dX4_pack_140 : decode cX4_pack 140 = .ok (.invokestatic 30, 3) := by decide +kernel
theorem dX4_pack_143 : decode cX4_pack 143 = .ok (.iaload, 1) := by decide +kernel
theorem dX4_pack_144 : decode cX4_pack 144 = .ok (.iconst 5, 1) := by decide +kernel
theorem dX4_pack_145 : decode cX4_pack 145 = .ok (.if_icmp .ge 7, 3) := by decide +kernel
theorem dX4_pack_148 : decode cX4_pack 148 = .ok (.iconst 1, 1) := by decide +kernel
theorem dX4_pack_149 : decode cX4_pack 149 = .ok (.goto 4, 3) := by decide +kernel
theorem dX4_pack_152 : decode cX4_pack 152 = .ok (.iconst 0, 1) := by decide +kernel
theorem dX4_pack_153 : decode cX4_pack 153 = .ok (.iadd, 1) := by decide +kernel
theorem dX4_pack_154 : decode cX4_pack 154 = .ok (.iastore, 1) := by decide +kernel
theorem dX4_pack_155 : decode cX4_pack 155 = .ok (.aload_n 0, 1) := by decide +kernel
theorem dX4_pack_156 : decode cX4_pack 156 = .ok (.getfield 7, 3) := by decide +kernel
theorem dX4_pack_159 : decode cX4_pack 159 = .ok (.aload_n 0, 1) := by decide +kernel
theorem dX4_pack_160 : decode cX4_pack 160 = .ok (.invokevirtual 57, 3) := by decide +kernel
theorem dX4_pack_163 : decode cX4_pack 163 = .ok (.iconst 3, 1) := by decide +kernel
theorem dX4_pack_164 : decode cX4_pack 164 = .ok (.invokestatic 30, 3) := by decide +kernel
theorem dX4_pack_167 : decode cX4_pack 167 = .ok (.iaload, 1) := by decide +kernel
theorem dX4_pack_168 : decode cX4_pack 168 = .ok (.ireturn, 1) := by decide +kernel
set_option maxRecDepth 20000 in
theorem ggX4_allThick_X4_depth : GoodIn wsX4_allThick wsX4_depth := goodIn_r _ [6, 1, 7, 8, 5, 9, 10, 11, 12, 13, 14, 15] (by decide +kernel) (by decide +kernel)
set_option maxRecDepth 20000 in
theorem gX4_allThick_X4_depth : GoodIn wsX4_allThick (wsV RX4 44 RX4 yX4_depth wsX4_depth) := goodIn_app (goodIn_of _ (by decide +kernel)) ggX4_allThick_X4_depth
theorem dX4_allThick_0 : decode cX4_allThick 0 = .ok (.aload_n 0, 1) := by decide +kernel
theorem dX4_allThick_1 : decode cX4_allThick 1 = .ok (.iconst (-1), 1) := by decide +kernel
theorem dX4_allThick_2 : decode cX4_allThick 2 = .ok (.aload_n 0, 1) := by decide +kernel
theorem dX4_allThick_3 : decode cX4_allThick 3 = .ok (.getfield 7, 3) := by decide +kernel
theorem dX4_allThick_6 : decode cX4_allThick 6 = .ok (.iconst 0, 1) := by decide +kernel
theorem dX4_allThick_7 : decode cX4_allThick 7 = .ok (.iaload, 1) := by decide +kernel
theorem dX4_allThick_8 : decode cX4_allThick 8 = .ok (.invokevirtual 44, 3) := by decide +kernel
theorem dX4_allThick_11 : decode cX4_allThick 11 = .ok (.ireturn, 1) := by decide +kernel
set_option maxRecDepth 20000 in
theorem ggX4_settleOne_X4_at : GoodIn wsX4_settleOne wsX4_at := goodIn_r _ [5] (by decide +kernel) (by decide +kernel)
set_option maxRecDepth 20000 in
theorem gX4_settleOne_X4_at : GoodIn wsX4_settleOne (va_wsS RX4 30 yX4_at wsX4_at) := goodIn_app (goodIn_of _ (by decide +kernel)) ggX4_settleOne_X4_at
theorem dX4_settleOne_0 : decode cX4_settleOne 0 = .ok (.aload_n 0, 1) := by decide +kernel
theorem dX4_settleOne_1 : decode cX4_settleOne 1 = .ok (.getfield 7, 3) := by decide +kernel
theorem dX4_settleOne_4 : decode cX4_settleOne 4 = .ok (.iload_n 1, 1) := by decide +kernel
theorem dX4_settleOne_5 : decode cX4_settleOne 5 = .ok (.iconst 0, 1) := by decide +kernel
theorem dX4_settleOne_6 : decode cX4_settleOne 6 = .ok (.invokestatic 30, 3) := by decide +kernel
theorem dX4_settleOne_9 : decode cX4_settleOne 9 = .ok (.iaload, 1) := by decide +kernel
theorem dX4_settleOne_10 : decode cX4_settleOne 10 = .ok (.aload_n 0, 1) := by decide +kernel
theorem dX4_settleOne_11 : decode cX4_settleOne 11 = .ok (.getfield 7, 3) := by decide +kernel
theorem dX4_settleOne_14 : decode cX4_settleOne 14 = .ok (.iload_n 1, 1) := by decide +kernel
theorem dX4_settleOne_15 : decode cX4_settleOne 15 = .ok (.iconst 1, 1) := by decide +kernel
theorem dX4_settleOne_16 : decode cX4_settleOne 16 = .ok (.invokestatic 30, 3) := by decide +kernel
theorem dX4_settleOne_19 : decode cX4_settleOne 19 = .ok (.iaload, 1) := by decide +kernel
theorem dX4_settleOne_20 : decode cX4_settleOne 20 = .ok (.imul, 1) := by decide +kernel
theorem dX4_settleOne_21 : decode cX4_settleOne 21 = .ok (.istore_n 3, 1) := by decide +kernel
theorem dX4_settleOne_22 : decode cX4_settleOne 22 = .ok (.aload_n 0, 1) := by decide +kernel
theorem dX4_settleOne_23 : decode cX4_settleOne 23 = .ok (.getfield 7, 3) := by decide +kernel
theorem dX4_settleOne_26 : decode cX4_settleOne 26 = .ok (.iload_n 1, 1) := by decide +kernel
theorem dX4_settleOne_27 : decode cX4_settleOne 27 = .ok (.iconst 0, 1) := by decide +kernel
theorem dX4_settleOne_28 : decode cX4_settleOne 28 = .ok (.invokestatic 30, 3) := by decide +kernel
theorem dX4_settleOne_31 : decode cX4_settleOne 31 = .ok (.iaload, 1) := by decide +kernel
theorem dX4_settleOne_32 : decode cX4_settleOne 32 = .ok (.bipush 100, 2) := by decide +kernel
theorem dX4_settleOne_34 : decode cX4_settleOne 34 = .ok (.iload_n 2, 1) := by decide +kernel
theorem dX4_settleOne_35 : decode cX4_settleOne 35 = .ok (.isub, 1) := by decide +kernel
theorem dX4_settleOne_36 : decode cX4_settleOne 36 = .ok (.imul, 1) := by decide +kernel
theorem dX4_settleOne_37 : decode cX4_settleOne 37 = .ok (.bipush 100, 2) := by decide +kernel
theorem dX4_settleOne_39 : decode cX4_settleOne 39 = .ok (.idiv, 1) := by decide +kernel
theorem dX4_settleOne_40 : decode cX4_settleOne 40 = .ok (.istore 4, 2) := by decide +kernel
theorem dX4_settleOne_42 : decode cX4_settleOne 42 = .ok (.iload 4, 2) := by decide +kernel
theorem dX4_settleOne_44 : decode cX4_settleOne 44 = .ok (.iconst 1, 1) := by decide +kernel
theorem dX4_settleOne_45 : decode cX4_settleOne 45 = .ok (.if_icmp .ge 7, 3) := by decide +kernel
theorem dX4_settleOne_48 : decode cX4_settleOne 48 = .ok (.iconst 1, 1) := by decide +kernel
theorem dX4_settleOne_49 : decode cX4_settleOne 49 = .ok (.goto 5, 3) := by decide +kernel
theorem dX4_settleOne_52 : decode cX4_settleOne 52 = .ok (.iload 4, 2) := by decide +kernel
theorem dX4_settleOne_54 : decode cX4_settleOne 54 = .ok (.istore 4, 2) := by decide +kernel
theorem dX4_settleOne_56 : decode cX4_settleOne 56 = .ok (.iload_n 3, 1) := by decide +kernel
theorem dX4_settleOne_57 : decode cX4_settleOne 57 = .ok (.iload 4, 2) := by decide +kernel
theorem dX4_settleOne_59 : decode cX4_settleOne 59 = .ok (.idiv, 1) := by decide +kernel
theorem dX4_settleOne_60 : decode cX4_settleOne 60 = .ok (.istore 5, 2) := by decide +kernel
theorem dX4_settleOne_62 : decode cX4_settleOne 62 = .ok (.aload_n 0, 1) := by decide +kernel
theorem dX4_settleOne_63 : decode cX4_settleOne 63 = .ok (.getfield 7, 3) := by decide +kernel
theorem dX4_settleOne_66 : decode cX4_settleOne 66 = .ok (.iload_n 1, 1) := by decide +kernel
theorem dX4_settleOne_67 : decode cX4_settleOne 67 = .ok (.iconst 0, 1) := by decide +kernel
theorem dX4_settleOne_68 : decode cX4_settleOne 68 = .ok (.invokestatic 30, 3) := by decide +kernel
theorem dX4_settleOne_71 : decode cX4_settleOne 71 = .ok (.iload 4, 2) := by decide +kernel
theorem dX4_settleOne_73 : decode cX4_settleOne 73 = .ok (.iastore, 1) := by decide +kernel
theorem dX4_settleOne_74 : decode cX4_settleOne 74 = .ok (.aload_n 0, 1) := by decide +kernel
theorem dX4_settleOne_75 : decode cX4_settleOne 75 = .ok (.getfield 7, 3) := by decide +kernel
theorem dX4_settleOne_78 : decode cX4_settleOne 78 = .ok (.iload_n 1, 1) := by decide +kernel
theorem dX4_settleOne_79 : decode cX4_settleOne 79 = .ok (.iconst 1, 1) := by decide +kernel
theorem dX4_settleOne_80 : decode cX4_settleOne 80 = .ok (.invokestatic 30, 3) := by decide +kernel
theorem dX4_settleOne_83 : decode cX4_settleOne 83 = .ok (.iload 5, 2) := by decide +kernel
theorem dX4_settleOne_85 : decode cX4_settleOne 85 = .ok (.sipush 600, 3) := by decide +kernel
theorem dX4_settleOne_88 : decode cX4_settleOne 88 = .ok (.if_icmp .le 9, 3) := by decide +kernel
theorem dX4_settleOne_91 : decode cX4_settleOne 91 = .ok (.sipush 600, 3) := by decide +kernel
theorem dX4_settleOne_94 : decode cX4_settleOne 94 = .ok (.goto 5, 3) := by decide +kernel
theorem dX4_settleOne_97 : decode cX4_settleOne 97 = .ok (.iload 5, 2) := by decide +kernel
theorem dX4_settleOne_99 : decode cX4_settleOne 99 = .ok (.iastore, 1) := by decide +kernel
theorem dX4_settleOne_100 : decode cX4_settleOne 100 = .ok (.return_, 1) := by decide +kernel
set_option maxRecDepth 20000 in
theorem ggX4_settle_X4_in : GoodIn wsX4_settle wsX4_in := goodIn_r _ [5] (by decide +kernel) (by decide +kernel)
set_option maxRecDepth 20000 in
theorem gX4_settle_X4_in : GoodIn wsX4_settle (va_wsS RX4 26 yX4_in wsX4_in) := goodIn_app (goodIn_of _ (by decide +kernel)) ggX4_settle_X4_in
set_option maxRecDepth 20000 in
theorem ggX4_settle_X4_at : GoodIn wsX4_settle wsX4_at := goodIn_r _ [8] (by decide +kernel) (by decide +kernel)
set_option maxRecDepth 20000 in
theorem gX4_settle_X4_at : GoodIn wsX4_settle (va_wsS RX4 30 yX4_at wsX4_at) := goodIn_app (goodIn_of _ (by decide +kernel)) ggX4_settle_X4_at
set_option maxRecDepth 20000 in
theorem ggX4_settle_X4_settleOne : GoodIn wsX4_settle wsX4_settleOne := goodIn_r _ [12, 1, 6, 7, 4, 8, 21, 22, 23, 24, 25, 26] (by decide +kernel) (by decide +kernel)
set_option maxRecDepth 20000 in
theorem gX4_settle_X4_settleOne : GoodIn wsX4_settle (wsV RX4 85 RX4 yX4_settleOne wsX4_settleOne) := goodIn_app (goodIn_of _ (by decide +kernel)) ggX4_settle_X4_settleOne
set_option maxRecDepth 20000 in
theorem ggX4_settle_X4_allThick : GoodIn wsX4_settle wsX4_allThick := goodIn_r _ [16, 1, 17, 18, 19, 4, 20, 6, 7, 8, 21, 22, 23, 24, 25, 26] (by decide +kernel) (by decide +kernel)
set_option maxRecDepth 20000 in
theorem gX4_settle_X4_allThick : GoodIn wsX4_settle (wsV RX4 88 RX4 yX4_allThick wsX4_allThick) := goodIn_app (goodIn_of _ (by decide +kernel)) ggX4_settle_X4_allThick
theorem dX4_settle_0 : decode cX4_settle 0 = .ok (.iload_n 1, 1) := by decide +kernel
theorem dX4_settle_1 : decode cX4_settle 1 = .ok (.iconst 1, 1) := by decide +kernel
theorem dX4_settle_2 : decode cX4_settle 2 = .ok (.bipush 50, 2) := by decide +kernel
theorem dX4_settle_4 : decode cX4_settle 4 = .ok (.invokestatic 26, 3) := by decide +kernel
theorem dX4_settle_7 : decode cX4_settle 7 = .ok (.ifCond .ne 6, 3) := by decide +kernel
theorem dX4_settle_10 : decode cX4_settle 10 = .ok (.bipush (-2), 2) := by decide +kernel
theorem dX4_settle_12 : decode cX4_settle 12 = .ok (.ireturn, 1) := by decide +kernel
theorem dX4_settle_13 : decode cX4_settle 13 = .ok (.aload_n 0, 1) := by decide +kernel
theorem dX4_settle_14 : decode cX4_settle 14 = .ok (.getfield 7, 3) := by decide +kernel
theorem dX4_settle_17 : decode cX4_settle 17 = .ok (.iconst 0, 1) := by decide +kernel
theorem dX4_settle_18 : decode cX4_settle 18 = .ok (.iaload, 1) := by decide +kernel
theorem dX4_settle_19 : decode cX4_settle 19 = .ok (.ifCond .ne 6, 3) := by decide +kernel
theorem dX4_settle_22 : decode cX4_settle 22 = .ok (.bipush (-3), 2) := by decide +kernel
theorem dX4_settle_24 : decode cX4_settle 24 = .ok (.ireturn, 1) := by decide +kernel
theorem dX4_settle_25 : decode cX4_settle 25 = .ok (.iconst 0, 1) := by decide +kernel
theorem dX4_settle_26 : decode cX4_settle 26 = .ok (.istore_n 2, 1) := by decide +kernel
theorem dX4_settle_27 : decode cX4_settle 27 = .ok (.iload_n 2, 1) := by decide +kernel
theorem dX4_settle_28 : decode cX4_settle 28 = .ok (.aload_n 0, 1) := by decide +kernel
theorem dX4_settle_29 : decode cX4_settle 29 = .ok (.getfield 7, 3) := by decide +kernel
theorem dX4_settle_32 : decode cX4_settle 32 = .ok (.iconst 0, 1) := by decide +kernel
theorem dX4_settle_33 : decode cX4_settle 33 = .ok (.iaload, 1) := by decide +kernel
theorem dX4_settle_34 : decode cX4_settle 34 = .ok (.if_icmp .ge 29, 3) := by decide +kernel
theorem dX4_settle_37 : decode cX4_settle 37 = .ok (.aload_n 0, 1) := by decide +kernel
theorem dX4_settle_38 : decode cX4_settle 38 = .ok (.getfield 7, 3) := by decide +kernel
theorem dX4_settle_41 : decode cX4_settle 41 = .ok (.iload_n 2, 1) := by decide +kernel
theorem dX4_settle_42 : decode cX4_settle 42 = .ok (.iconst 2, 1) := by decide +kernel
theorem dX4_settle_43 : decode cX4_settle 43 = .ok (.invokestatic 30, 3) := by decide +kernel
theorem dX4_settle_46 : decode cX4_settle 46 = .ok (.iaload, 1) := by decide +kernel
theorem dX4_settle_47 : decode cX4_settle 47 = .ok (.iconst 4, 1) := by decide +kernel
theorem dX4_settle_48 : decode cX4_settle 48 = .ok (.if_icmp .eq 9, 3) := by decide +kernel
theorem dX4_settle_51 : decode cX4_settle 51 = .ok (.aload_n 0, 1) := by decide +kernel
theorem dX4_settle_52 : decode cX4_settle 52 = .ok (.iload_n 2, 1) := by decide +kernel
theorem dX4_settle_53 : decode cX4_settle 53 = .ok (.iload_n 1, 1) := by decide +kernel
theorem dX4_settle_54 : decode cX4_settle 54 = .ok (.invokevirtual 85, 3) := by decide +kernel
theorem dX4_settle_57 : decode cX4_settle 57 = .ok (.iinc 2 1, 3) := by decide +kernel
theorem dX4_settle_60 : decode cX4_settle 60 = .ok (.goto (-33), 3) := by decide +kernel
theorem dX4_settle_63 : decode cX4_settle 63 = .ok (.aload_n 0, 1) := by decide +kernel
theorem dX4_settle_64 : decode cX4_settle 64 = .ok (.invokevirtual 88, 3) := by decide +kernel
theorem dX4_settle_67 : decode cX4_settle 67 = .ok (.ireturn, 1) := by decide +kernel
set_option maxRecDepth 20000 in
theorem ggX4_melt_X4_in : GoodIn wsX4_melt wsX4_in := goodIn_r _ [5] (by decide +kernel) (by decide +kernel)
set_option maxRecDepth 20000 in
theorem gX4_melt_X4_in : GoodIn wsX4_melt (va_wsS RX4 26 yX4_in wsX4_in) := goodIn_app (goodIn_of _ (by decide +kernel)) ggX4_melt_X4_in
set_option maxRecDepth 20000 in
theorem ggX4_melt_X4_top : GoodIn wsX4_melt wsX4_top := goodIn_r _ [9, 1, 13, 14, 15, 16, 17, 18] (by decide +kernel) (by decide +kernel)
set_option maxRecDepth 20000 in
theorem gX4_melt_X4_top : GoodIn wsX4_melt (wsV RX4 57 RX4 yX4_top wsX4_top) := goodIn_app (goodIn_of _ (by decide +kernel)) ggX4_melt_X4_top
set_option maxRecDepth 20000 in
theorem ggX4_melt_X4_at : GoodIn wsX4_melt wsX4_at := goodIn_r _ [12] (by decide +kernel) (by decide +kernel)
set_option maxRecDepth 20000 in
theorem gX4_melt_X4_at : GoodIn wsX4_melt (va_wsS RX4 30 yX4_at wsX4_at) := goodIn_app (goodIn_of _ (by decide +kernel)) ggX4_melt_X4_at
theorem dX4_melt_0 : decode cX4_melt 0 = .ok (.iload_n 1, 1) := by decide +kernel
theorem dX4_melt_1 : decode cX4_melt 1 = .ok (.iconst 1, 1) := by decide +kernel
theorem dX4_melt_2 : decode cX4_melt 2 = .ok (.sipush 300, 3) := by decide +kernel
theorem dX4_melt_5 : decode cX4_melt 5 = .ok (.invokestatic 26, 3) := by decide +kernel
theorem dX4_melt_8 : decode cX4_melt 8 = .ok (.ifCond .ne 6, 3) := by decide +kernel
theorem dX4_melt_11 : decode cX4_melt 11 = .ok (.bipush (-2), 2) := by decide +kernel
theorem dX4_melt_13 : decode cX4_melt 13 = .ok (.ireturn, 1) := by decide +kernel
theorem dX4_melt_14 : decode cX4_melt 14 = .ok (.aload_n 0, 1) := by decide +kernel
theorem dX4_melt_15 : decode cX4_melt 15 = .ok (.getfield 7, 3) := by decide +kernel
theorem dX4_melt_18 : decode cX4_melt 18 = .ok (.iconst 0, 1) := by decide +kernel
theorem dX4_melt_19 : decode cX4_melt 19 = .ok (.iaload, 1) := by decide +kernel
theorem dX4_melt_20 : decode cX4_melt 20 = .ok (.ifCond .ne 6, 3) := by decide +kernel
theorem dX4_melt_23 : decode cX4_melt 23 = .ok (.bipush (-3), 2) := by decide +kernel
theorem dX4_melt_25 : decode cX4_melt 25 = .ok (.ireturn, 1) := by decide +kernel
theorem dX4_melt_26 : decode cX4_melt 26 = .ok (.iload_n 1, 1) := by decide +kernel
theorem dX4_melt_27 : decode cX4_melt 27 = .ok (.istore_n 2, 1) := by decide +kernel
theorem dX4_melt_28 : decode cX4_melt 28 = .ok (.aload_n 0, 1) := by decide +kernel
theorem dX4_melt_29 : decode cX4_melt 29 = .ok (.getfield 7, 3) := by decide +kernel
theorem dX4_melt_32 : decode cX4_melt 32 = .ok (.iconst 0, 1) := by decide +kernel
theorem dX4_melt_33 : decode cX4_melt 33 = .ok (.iaload, 1) := by decide +kernel
theorem dX4_melt_34 : decode cX4_melt 34 = .ok (.ifCond .le 49, 3) := by decide +kernel
theorem dX4_melt_37 : decode cX4_melt 37 = .ok (.aload_n 0, 1) := by decide +kernel
theorem dX4_melt_38 : decode cX4_melt 38 = .ok (.getfield 7, 3) := by decide +kernel
theorem dX4_melt_41 : decode cX4_melt 41 = .ok (.aload_n 0, 1) := by decide +kernel
theorem dX4_melt_42 : decode cX4_melt 42 = .ok (.invokevirtual 57, 3) := by decide +kernel
theorem dX4_melt_45 : decode cX4_melt 45 = .ok (.iconst 0, 1) := by decide +kernel
theorem dX4_melt_46 : decode cX4_melt 46 = .ok (.invokestatic 30, 3) := by decide +kernel
theorem dX4_melt_49 : decode cX4_melt 49 = .ok (.iaload, 1) := by decide +kernel
theorem dX4_melt_50 : decode cX4_melt 50 = .ok (.iload_n 2, 1) := by decide +kernel
theorem dX4_melt_51 : decode cX4_melt 51 = .ok (.if_icmp .gt 32, 3) := by decide +kernel
theorem dX4_melt_54 : decode cX4_melt 54 = .ok (.iload_n 2, 1) := by decide +kernel
theorem dX4_melt_55 : decode cX4_melt 55 = .ok (.aload_n 0, 1) := by decide +kernel
theorem dX4_melt_56 : decode cX4_melt 56 = .ok (.getfield 7, 3) := by decide +kernel
theorem dX4_melt_59 : decode cX4_melt 59 = .ok (.aload_n 0, 1) := by decide +kernel
theorem dX4_melt_60 : decode cX4_melt 60 = .ok (.invokevirtual 57, 3) := by decide +kernel
theorem dX4_melt_63 : decode cX4_melt 63 = .ok (.iconst 0, 1) := by decide +kernel
theorem dX4_melt_64 : decode cX4_melt 64 = .ok (.invokestatic 30, 3) := by decide +kernel
theorem dX4_melt_67 : decode cX4_melt 67 = .ok (.iaload, 1) := by decide +kernel
theorem dX4_melt_68 : decode cX4_melt 68 = .ok (.isub, 1) := by decide +kernel
theorem dX4_melt_69 : decode cX4_melt 69 = .ok (.istore_n 2, 1) := by decide +kernel
theorem dX4_melt_70 : decode cX4_melt 70 = .ok (.aload_n 0, 1) := by decide +kernel
theorem dX4_melt_71 : decode cX4_melt 71 = .ok (.getfield 7, 3) := by decide +kernel
theorem dX4_melt_74 : decode cX4_melt 74 = .ok (.iconst 0, 1) := by decide +kernel
theorem dX4_melt_75 : decode cX4_melt 75 = .ok (.dup2, 1) := by decide +kernel
theorem dX4_melt_76 : decode cX4_melt 76 = .ok (.iaload, 1) := by decide +kernel
theorem dX4_melt_77 : decode cX4_melt 77 = .ok (.iconst 1, 1) := by decide +kernel
theorem dX4_melt_78 : decode cX4_melt 78 = .ok (.isub, 1) := by decide +kernel
theorem dX4_melt_79 : decode cX4_melt 79 = .ok (.iastore, 1) := by decide +kernel
theorem dX4_melt_80 : decode cX4_melt 80 = .ok (.goto (-52), 3) := by decide +kernel
theorem dX4_melt_83 : decode cX4_melt 83 = .ok (.aload_n 0, 1) := by decide +kernel
theorem dX4_melt_84 : decode cX4_melt 84 = .ok (.getfield 7, 3) := by decide +kernel
theorem dX4_melt_87 : decode cX4_melt 87 = .ok (.iconst 0, 1) := by decide +kernel
theorem dX4_melt_88 : decode cX4_melt 88 = .ok (.iaload, 1) := by decide +kernel
theorem dX4_melt_89 : decode cX4_melt 89 = .ok (.ifCond .le 20, 3) := by decide +kernel
theorem dX4_melt_92 : decode cX4_melt 92 = .ok (.aload_n 0, 1) := by decide +kernel
theorem dX4_melt_93 : decode cX4_melt 93 = .ok (.getfield 7, 3) := by decide +kernel
theorem dX4_melt_96 : decode cX4_melt 96 = .ok (.aload_n 0, 1) := by decide +kernel
theorem dX4_melt_97 : decode cX4_melt 97 = .ok (.invokevirtual 57, 3) := by decide +kernel
theorem dX4_melt_100 : decode cX4_melt 100 = .ok (.iconst 0, 1) := by decide +kernel
theorem dX4_melt_101 : decode cX4_melt 101 = .ok (.invokestatic 30, 3) := by decide +kernel
theorem dX4_melt_104 : decode cX4_melt 104 = .ok (.dup2, 1) := by decide +kernel
theorem dX4_melt_105 : decode cX4_melt 105 = .ok (.iaload, 1) := by decide +kernel
theorem dX4_melt_106 : decode cX4_melt 106 = .ok (.iload_n 2, 1) := by decide +kernel
theorem dX4_melt_107 : decode cX4_melt 107 = .ok (.isub, 1) := by decide +kernel
theorem dX4_melt_108 : decode cX4_melt 108 = .ok (.iastore, 1) := by decide +kernel
theorem dX4_melt_109 : decode cX4_melt 109 = .ok (.aload_n 0, 1) := by decide +kernel
theorem dX4_melt_110 : decode cX4_melt 110 = .ok (.invokevirtual 57, 3) := by decide +kernel
theorem dX4_melt_113 : decode cX4_melt 113 = .ok (.istore_n 3, 1) := by decide +kernel
theorem dX4_melt_114 : decode cX4_melt 114 = .ok (.iload_n 3, 1) := by decide +kernel
theorem dX4_melt_115 : decode cX4_melt 115 = .ok (.ifCond .lt 34, 3) := by decide +kernel
theorem dX4_melt_118 : decode cX4_melt 118 = .ok (.aload_n 0, 1) := by decide +kernel
theorem dX4_melt_119 : decode cX4_melt 119 = .ok (.getfield 7, 3) := by decide +kernel
theorem dX4_melt_122 : decode cX4_melt 122 = .ok (.iload_n 3, 1) := by decide +kernel
theorem dX4_melt_123 : decode cX4_melt 123 = .ok (.iconst 2, 1) := by decide +kernel
theorem dX4_melt_124 : decode cX4_melt 124 = .ok (.invokestatic 30, 3) := by decide +kernel
theorem dX4_melt_127 : decode cX4_melt 127 = .ok (.iaload, 1) := by decide +kernel
theorem dX4_melt_128 : decode cX4_melt 128 = .ok (.iconst 4, 1) := by decide +kernel
theorem dX4_melt_129 : decode cX4_melt 129 = .ok (.if_icmp .eq 20, 3) := by decide +kernel
theorem dX4_melt_132 : decode cX4_melt 132 = .ok (.aload_n 0, 1) := by decide +kernel
theorem dX4_melt_133 : decode cX4_melt 133 = .ok (.getfield 7, 3) := by decide +kernel
theorem dX4_melt_136 : decode cX4_melt 136 = .ok (.iload_n 3, 1) := by decide +kernel
theorem dX4_melt_137 : decode cX4_melt 137 = .ok (.iconst 4, 1) := by decide +kernel
theorem dX4_melt_138 : decode cX4_melt 138 = .ok (.invokestatic 30, 3) := by decide +kernel
theorem dX4_melt_141 : decode cX4_melt 141 = .ok (.iconst 1, 1) := by decide +kernel
theorem dX4_melt_142 : decode cX4_melt 142 = .ok (.iastore, 1) := by decide +kernel
theorem dX4_melt_143 : decode cX4_melt 143 = .ok (.iinc 3 (-1), 3) := by decide +kernel
theorem dX4_melt_146 : decode cX4_melt 146 = .ok (.goto (-32), 3) := by decide +kernel
theorem dX4_melt_149 : decode cX4_melt 149 = .ok (.aload_n 0, 1) := by decide +kernel
theorem dX4_melt_150 : decode cX4_melt 150 = .ok (.getfield 7, 3) := by decide +kernel
theorem dX4_melt_153 : decode cX4_melt 153 = .ok (.iconst 0, 1) := by decide +kernel
theorem dX4_melt_154 : decode cX4_melt 154 = .ok (.iaload, 1) := by decide +kernel
theorem dX4_melt_155 : decode cX4_melt 155 = .ok (.ireturn, 1) := by decide +kernel
set_option maxRecDepth 20000 in
theorem ggX4_freeze_X4_at : GoodIn wsX4_freeze wsX4_at := goodIn_r _ [5] (by decide +kernel) (by decide +kernel)
set_option maxRecDepth 20000 in
theorem gX4_freeze_X4_at : GoodIn wsX4_freeze (va_wsS RX4 30 yX4_at wsX4_at) := goodIn_app (goodIn_of _ (by decide +kernel)) ggX4_freeze_X4_at
theorem dX4_freeze_0 : decode cX4_freeze 0 = .ok (.iconst 0, 1) := by decide +kernel
theorem dX4_freeze_1 : decode cX4_freeze 1 = .ok (.istore_n 1, 1) := by decide +kernel
theorem dX4_freeze_2 : decode cX4_freeze 2 = .ok (.iconst 0, 1) := by decide +kernel
theorem dX4_freeze_3 : decode cX4_freeze 3 = .ok (.istore_n 2, 1) := by decide +kernel
theorem dX4_freeze_4 : decode cX4_freeze 4 = .ok (.iload_n 2, 1) := by decide +kernel
theorem dX4_freeze_5 : decode cX4_freeze 5 = .ok (.aload_n 0, 1) := by decide +kernel
theorem dX4_freeze_6 : decode cX4_freeze 6 = .ok (.getfield 7, 3) := by decide +kernel
theorem dX4_freeze_9 : decode cX4_freeze 9 = .ok (.iconst 0, 1) := by decide +kernel
theorem dX4_freeze_10 : decode cX4_freeze 10 = .ok (.iaload, 1) := by decide +kernel
theorem dX4_freeze_11 : decode cX4_freeze 11 = .ok (.if_icmp .ge 59, 3) := by decide +kernel
theorem dX4_freeze_14 : decode cX4_freeze 14 = .ok (.aload_n 0, 1) := by decide +kernel
theorem dX4_freeze_15 : decode cX4_freeze 15 = .ok (.getfield 7, 3) := by decide +kernel
theorem dX4_freeze_18 : decode cX4_freeze 18 = .ok (.iload_n 2, 1) := by decide +kernel
theorem dX4_freeze_19 : decode cX4_freeze 19 = .ok (.iconst 4, 1) := by decide +kernel
theorem dX4_freeze_20 : decode cX4_freeze 20 = .ok (.invokestatic 30, 3) := by decide +kernel
theorem dX4_freeze_23 : decode cX4_freeze 23 = .ok (.iaload, 1) := by decide +kernel
theorem dX4_freeze_24 : decode cX4_freeze 24 = .ok (.iconst 1, 1) := by decide +kernel
theorem dX4_freeze_25 : decode cX4_freeze 25 = .ok (.if_icmp .ne 39, 3) := by decide +kernel
theorem dX4_freeze_28 : decode cX4_freeze 28 = .ok (.aload_n 0, 1) := by decide +kernel
theorem dX4_freeze_29 : decode cX4_freeze 29 = .ok (.getfield 7, 3) := by decide +kernel
theorem dX4_freeze_32 : decode cX4_freeze 32 = .ok (.iload_n 2, 1) := by decide +kernel
theorem dX4_freeze_33 : decode cX4_freeze 33 = .ok (.iconst 2, 1) := by decide +kernel
theorem dX4_freeze_34 : decode cX4_freeze 34 = .ok (.invokestatic 30, 3) := by decide +kernel
theorem dX4_freeze_37 : decode cX4_freeze 37 = .ok (.iconst 4, 1) := by decide +kernel
theorem dX4_freeze_38 : decode cX4_freeze 38 = .ok (.iastore, 1) := by decide +kernel
theorem dX4_freeze_39 : decode cX4_freeze 39 = .ok (.aload_n 0, 1) := by decide +kernel
theorem dX4_freeze_40 : decode cX4_freeze 40 = .ok (.getfield 7, 3) := by decide +kernel
theorem dX4_freeze_43 : decode cX4_freeze 43 = .ok (.iload_n 2, 1) := by decide +kernel
theorem dX4_freeze_44 : decode cX4_freeze 44 = .ok (.iconst 3, 1) := by decide +kernel
theorem dX4_freeze_45 : decode cX4_freeze 45 = .ok (.invokestatic 30, 3) := by decide +kernel
theorem dX4_freeze_48 : decode cX4_freeze 48 = .ok (.iconst 5, 1) := by decide +kernel
theorem dX4_freeze_49 : decode cX4_freeze 49 = .ok (.iastore, 1) := by decide +kernel
theorem dX4_freeze_50 : decode cX4_freeze 50 = .ok (.aload_n 0, 1) := by decide +kernel
theorem dX4_freeze_51 : decode cX4_freeze 51 = .ok (.getfield 7, 3) := by decide +kernel
theorem dX4_freeze_54 : decode cX4_freeze 54 = .ok (.iload_n 2, 1) := by decide +kernel
theorem dX4_freeze_55 : decode cX4_freeze 55 = .ok (.iconst 4, 1) := by decide +kernel
theorem dX4_freeze_56 : decode cX4_freeze 56 = .ok (.invokestatic 30, 3) := by decide +kernel
theorem dX4_freeze_59 : decode cX4_freeze 59 = .ok (.iconst 0, 1) := by decide +kernel
theorem dX4_freeze_60 : decode cX4_freeze 60 = .ok (.iastore, 1) := by decide +kernel
theorem dX4_freeze_61 : decode cX4_freeze 61 = .ok (.iinc 1 1, 3) := by decide +kernel
theorem dX4_freeze_64 : decode cX4_freeze 64 = .ok (.iinc 2 1, 3) := by decide +kernel
theorem dX4_freeze_67 : decode cX4_freeze 67 = .ok (.goto (-63), 3) := by decide +kernel
theorem dX4_freeze_70 : decode cX4_freeze 70 = .ok (.iload_n 1, 1) := by decide +kernel
theorem dX4_freeze_71 : decode cX4_freeze 71 = .ok (.ireturn, 1) := by decide +kernel
theorem dX4_slide_0 : decode cX4_slide 0 = .ok (.aload_n 0, 1) := by decide +kernel
theorem dX4_slide_1 : decode cX4_slide 1 = .ok (.getfield 7, 3) := by decide +kernel
theorem dX4_slide_4 : decode cX4_slide 4 = .ok (.iconst 0, 1) := by decide +kernel
theorem dX4_slide_5 : decode cX4_slide 5 = .ok (.iaload, 1) := by decide +kernel
theorem dX4_slide_6 : decode cX4_slide 6 = .ok (.ifCond .ne 6, 3) := by decide +kernel
theorem dX4_slide_9 : decode cX4_slide 9 = .ok (.bipush (-3), 2) := by decide +kernel
theorem dX4_slide_11 : decode cX4_slide 11 = .ok (.ireturn, 1) := by decide +kernel
theorem dX4_slide_12 : decode cX4_slide 12 = .ok (.aload_n 0, 1) := by decide +kernel
theorem dX4_slide_13 : decode cX4_slide 13 = .ok (.getfield 7, 3) := by decide +kernel
theorem dX4_slide_16 : decode cX4_slide 16 = .ok (.iconst 0, 1) := by decide +kernel
theorem dX4_slide_17 : decode cX4_slide 17 = .ok (.dup2, 1) := by decide +kernel
theorem dX4_slide_18 : decode cX4_slide 18 = .ok (.iaload, 1) := by decide +kernel
theorem dX4_slide_19 : decode cX4_slide 19 = .ok (.iconst 1, 1) := by decide +kernel
theorem dX4_slide_20 : decode cX4_slide 20 = .ok (.isub, 1) := by decide +kernel
theorem dX4_slide_21 : decode cX4_slide 21 = .ok (.iastore, 1) := by decide +kernel
theorem dX4_slide_22 : decode cX4_slide 22 = .ok (.aload_n 0, 1) := by decide +kernel
theorem dX4_slide_23 : decode cX4_slide 23 = .ok (.getfield 7, 3) := by decide +kernel
theorem dX4_slide_26 : decode cX4_slide 26 = .ok (.iconst 0, 1) := by decide +kernel
theorem dX4_slide_27 : decode cX4_slide 27 = .ok (.iaload, 1) := by decide +kernel
theorem dX4_slide_28 : decode cX4_slide 28 = .ok (.ireturn, 1) := by decide +kernel
set_option maxRecDepth 20000 in
theorem ggX4_heatIn_X4_in : GoodIn wsX4_heatIn wsX4_in := goodIn_r _ [4] (by decide +kernel) (by decide +kernel)
set_option maxRecDepth 20000 in
theorem gX4_heatIn_X4_in : GoodIn wsX4_heatIn (va_wsS RX4 26 yX4_in wsX4_in) := goodIn_app (goodIn_of _ (by decide +kernel)) ggX4_heatIn_X4_in
theorem dX4_heatIn_0 : decode cX4_heatIn 0 = .ok (.iload_n 1, 1) := by decide +kernel
theorem dX4_heatIn_1 : decode cX4_heatIn 1 = .ok (.bipush 6, 2) := by decide +kernel
theorem dX4_heatIn_3 : decode cX4_heatIn 3 = .ok (.bipush 18, 2) := by decide +kernel
theorem dX4_heatIn_5 : decode cX4_heatIn 5 = .ok (.invokestatic 26, 3) := by decide +kernel
theorem dX4_heatIn_8 : decode cX4_heatIn 8 = .ok (.ifCond .ne 5, 3) := by decide +kernel
theorem dX4_heatIn_11 : decode cX4_heatIn 11 = .ok (.iconst 0, 1) := by decide +kernel
theorem dX4_heatIn_12 : decode cX4_heatIn 12 = .ok (.ireturn, 1) := by decide +kernel
theorem dX4_heatIn_13 : decode cX4_heatIn 13 = .ok (.bipush 45, 2) := by decide +kernel
theorem dX4_heatIn_15 : decode cX4_heatIn 15 = .ok (.iload_n 0, 1) := by decide +kernel
theorem dX4_heatIn_16 : decode cX4_heatIn 16 = .ok (.imul, 1) := by decide +kernel
theorem dX4_heatIn_17 : decode cX4_heatIn 17 = .ok (.bipush 15, 2) := by decide +kernel
theorem dX4_heatIn_19 : decode cX4_heatIn 19 = .ok (.iload_n 1, 1) := by decide +kernel
theorem dX4_heatIn_20 : decode cX4_heatIn 20 = .ok (.imul, 1) := by decide +kernel
theorem dX4_heatIn_21 : decode cX4_heatIn 21 = .ok (.isub, 1) := by decide +kernel
theorem dX4_heatIn_22 : decode cX4_heatIn 22 = .ok (.istore_n 2, 1) := by decide +kernel
theorem dX4_heatIn_23 : decode cX4_heatIn 23 = .ok (.iload_n 2, 1) := by decide +kernel
theorem dX4_heatIn_24 : decode cX4_heatIn 24 = .ok (.ifCond .ge 8, 3) := by decide +kernel
theorem dX4_heatIn_27 : decode cX4_heatIn 27 = .ok (.iload_n 2, 1) := by decide +kernel
theorem dX4_heatIn_28 : decode cX4_heatIn 28 = .ok (.ineg, 1) := by decide +kernel
theorem dX4_heatIn_29 : decode cX4_heatIn 29 = .ok (.goto 4, 3) := by decide +kernel
theorem dX4_heatIn_32 : decode cX4_heatIn 32 = .ok (.iload_n 2, 1) := by decide +kernel
theorem dX4_heatIn_33 : decode cX4_heatIn 33 = .ok (.istore_n 2, 1) := by decide +kernel
theorem dX4_heatIn_34 : decode cX4_heatIn 34 = .ok (.iload_n 2, 1) := by decide +kernel
theorem dX4_heatIn_35 : decode cX4_heatIn 35 = .ok (.sipush 180, 3) := by decide +kernel
theorem dX4_heatIn_38 : decode cX4_heatIn 38 = .ok (.if_icmp .le 11, 3) := by decide +kernel
theorem dX4_heatIn_41 : decode cX4_heatIn 41 = .ok (.sipush 360, 3) := by decide +kernel
theorem dX4_heatIn_44 : decode cX4_heatIn 44 = .ok (.iload_n 2, 1) := by decide +kernel
theorem dX4_heatIn_45 : decode cX4_heatIn 45 = .ok (.isub, 1) := by decide +kernel
theorem dX4_heatIn_46 : decode cX4_heatIn 46 = .ok (.goto 4, 3) := by decide +kernel
theorem dX4_heatIn_49 : decode cX4_heatIn 49 = .ok (.iload_n 2, 1) := by decide +kernel
theorem dX4_heatIn_50 : decode cX4_heatIn 50 = .ok (.istore_n 2, 1) := by decide +kernel
theorem dX4_heatIn_51 : decode cX4_heatIn 51 = .ok (.iload_n 2, 1) := by decide +kernel
theorem dX4_heatIn_52 : decode cX4_heatIn 52 = .ok (.bipush 90, 2) := by decide +kernel
theorem dX4_heatIn_54 : decode cX4_heatIn 54 = .ok (.if_icmp .le 7, 3) := by decide +kernel
theorem dX4_heatIn_57 : decode cX4_heatIn 57 = .ok (.iconst 0, 1) := by decide +kernel
theorem dX4_heatIn_58 : decode cX4_heatIn 58 = .ok (.goto 7, 3) := by decide +kernel
theorem dX4_heatIn_61 : decode cX4_heatIn 61 = .ok (.bipush 90, 2) := by decide +kernel
theorem dX4_heatIn_63 : decode cX4_heatIn 63 = .ok (.iload_n 2, 1) := by decide +kernel
theorem dX4_heatIn_64 : decode cX4_heatIn 64 = .ok (.isub, 1) := by decide +kernel
theorem dX4_heatIn_65 : decode cX4_heatIn 65 = .ok (.ireturn, 1) := by decide +kernel
set_option maxRecDepth 20000 in
theorem ggX4_heatTill_X4_heatIn : GoodIn wsX4_heatTill wsX4_heatIn := goodIn_r _ [4, 5, 6, 3, 7] (by decide +kernel) (by decide +kernel)
set_option maxRecDepth 20000 in
theorem gX4_heatTill_X4_heatIn : GoodIn wsX4_heatTill (va_wsS RX4 91 yX4_heatIn wsX4_heatIn) := goodIn_app (goodIn_of _ (by decide +kernel)) ggX4_heatTill_X4_heatIn
theorem dX4_heatTill_0 : decode cX4_heatTill 0 = .ok (.iconst 0, 1) := by decide +kernel
theorem dX4_heatTill_1 : decode cX4_heatTill 1 = .ok (.istore_n 2, 1) := by decide +kernel
theorem dX4_heatTill_2 : decode cX4_heatTill 2 = .ok (.iconst 0, 1) := by decide +kernel
theorem dX4_heatTill_3 : decode cX4_heatTill 3 = .ok (.istore_n 3, 1) := by decide +kernel
theorem dX4_heatTill_4 : decode cX4_heatTill 4 = .ok (.iload_n 3, 1) := by decide +kernel
theorem dX4_heatTill_5 : decode cX4_heatTill 5 = .ok (.iload_n 1, 1) := by decide +kernel
theorem dX4_heatTill_6 : decode cX4_heatTill 6 = .ok (.if_icmp .gt 17, 3) := by decide +kernel
theorem dX4_heatTill_9 : decode cX4_heatTill 9 = .ok (.iload_n 2, 1) := by decide +kernel
theorem dX4_heatTill_10 : decode cX4_heatTill 10 = .ok (.iload_n 0, 1) := by decide +kernel
theorem dX4_heatTill_11 : decode cX4_heatTill 11 = .ok (.iload_n 3, 1) := by decide +kernel
theorem dX4_heatTill_12 : decode cX4_heatTill 12 = .ok (.invokestatic 91, 3) := by decide +kernel
theorem dX4_heatTill_15 : decode cX4_heatTill 15 = .ok (.iadd, 1) := by decide +kernel
theorem dX4_heatTill_16 : decode cX4_heatTill 16 = .ok (.istore_n 2, 1) := by decide +kernel
theorem dX4_heatTill_17 : decode cX4_heatTill 17 = .ok (.iinc 3 1, 3) := by decide +kernel
theorem dX4_heatTill_20 : decode cX4_heatTill 20 = .ok (.goto (-16), 3) := by decide +kernel
theorem dX4_heatTill_23 : decode cX4_heatTill 23 = .ok (.iload_n 2, 1) := by decide +kernel
theorem dX4_heatTill_24 : decode cX4_heatTill 24 = .ok (.ireturn, 1) := by decide +kernel
set_option maxRecDepth 20000 in
theorem ggX4_isSide_X4_in : GoodIn wsX4_isSide wsX4_in := goodIn_r _ [4] (by decide +kernel) (by decide +kernel)
set_option maxRecDepth 20000 in
theorem gX4_isSide_X4_in : GoodIn wsX4_isSide (va_wsS RX4 26 yX4_in wsX4_in) := goodIn_app (goodIn_of _ (by decide +kernel)) ggX4_isSide_X4_in
theorem dX4_isSide_0 : decode cX4_isSide 0 = .ok (.iload_n 0, 1) := by decide +kernel
theorem dX4_isSide_1 : decode cX4_isSide 1 = .ok (.iconst 0, 1) := by decide +kernel
theorem dX4_isSide_2 : decode cX4_isSide 2 = .ok (.bipush 7, 2) := by decide +kernel
theorem dX4_isSide_4 : decode cX4_isSide 4 = .ok (.invokestatic 26, 3) := by decide +kernel
theorem dX4_isSide_7 : decode cX4_isSide 7 = .ok (.ireturn, 1) := by decide +kernel
set_option maxRecDepth 20000 in
theorem ggX4_heat_X4_isSide : GoodIn wsX4_heat wsX4_isSide := goodIn_r _ [4, 5, 6, 3, 7] (by decide +kernel) (by decide +kernel)
set_option maxRecDepth 20000 in
theorem gX4_heat_X4_isSide : GoodIn wsX4_heat (va_wsS RX4 94 yX4_isSide wsX4_isSide) := goodIn_app (goodIn_of _ (by decide +kernel)) ggX4_heat_X4_isSide
set_option maxRecDepth 20000 in
theorem ggX4_heat_X4_in : GoodIn wsX4_heat wsX4_in := goodIn_r _ [7] (by decide +kernel) (by decide +kernel)
set_option maxRecDepth 20000 in
theorem gX4_heat_X4_in : GoodIn wsX4_heat (va_wsS RX4 26 yX4_in wsX4_in) := goodIn_app (goodIn_of _ (by decide +kernel)) ggX4_heat_X4_in
set_option maxRecDepth 20000 in
theorem ggX4_heat_X4_heatIn : GoodIn wsX4_heat wsX4_heatIn := goodIn_r _ [10, 5, 6, 3, 7] (by decide +kernel) (by decide +kernel)
set_option maxRecDepth 20000 in
theorem gX4_heat_X4_heatIn : GoodIn wsX4_heat (va_wsS RX4 91 yX4_heatIn wsX4_heatIn) := goodIn_app (goodIn_of _ (by decide +kernel)) ggX4_heat_X4_heatIn
set_option maxRecDepth 20000 in
theorem ggX4_heat_X4_heatTill : GoodIn wsX4_heat wsX4_heatTill := goodIn_r _ [13, 8, 9, 3, 10, 5, 6, 7] (by decide +kernel) (by decide +kernel)
set_option maxRecDepth 20000 in
theorem gX4_heat_X4_heatTill : GoodIn wsX4_heat (va_wsS RX4 97 yX4_heatTill wsX4_heatTill) := goodIn_app (goodIn_of _ (by decide +kernel)) ggX4_heat_X4_heatTill
theorem dX4_heat_0 : decode cX4_heat 0 = .ok (.iload_n 1, 1) := by decide +kernel
theorem dX4_heat_1 : decode cX4_heat 1 = .ok (.invokestatic 94, 3) := by decide +kernel
theorem dX4_heat_4 : decode cX4_heat 4 = .ok (.ifCond .ne 5, 3) := by decide +kernel
theorem dX4_heat_7 : decode cX4_heat 7 = .ok (.iconst (-1), 1) := by decide +kernel
theorem dX4_heat_8 : decode cX4_heat 8 = .ok (.ireturn, 1) := by decide +kernel
theorem dX4_heat_9 : decode cX4_heat 9 = .ok (.iload_n 2, 1) := by decide +kernel
theorem dX4_heat_10 : decode cX4_heat 10 = .ok (.iconst 0, 1) := by decide +kernel
theorem dX4_heat_11 : decode cX4_heat 11 = .ok (.bipush 23, 2) := by decide +kernel
theorem dX4_heat_13 : decode cX4_heat 13 = .ok (.invokestatic 26, 3) := by decide +kernel
theorem dX4_heat_16 : decode cX4_heat 16 = .ok (.ifCond .eq 12, 3) := by decide +kernel
theorem dX4_heat_19 : decode cX4_heat 19 = .ok (.iload_n 3, 1) := by decide +kernel
theorem dX4_heat_20 : decode cX4_heat 20 = .ok (.iconst 0, 1) := by decide +kernel
theorem dX4_heat_21 : decode cX4_heat 21 = .ok (.iconst 1, 1) := by decide +kernel
theorem dX4_heat_22 : decode cX4_heat 22 = .ok (.invokestatic 26, 3) := by decide +kernel
theorem dX4_heat_25 : decode cX4_heat 25 = .ok (.ifCond .ne 6, 3) := by decide +kernel
theorem dX4_heat_28 : decode cX4_heat 28 = .ok (.bipush (-2), 2) := by decide +kernel
theorem dX4_heat_30 : decode cX4_heat 30 = .ok (.ireturn, 1) := by decide +kernel
theorem dX4_heat_31 : decode cX4_heat 31 = .ok (.iload_n 3, 1) := by decide +kernel
theorem dX4_heat_32 : decode cX4_heat 32 = .ok (.ifCond .ne 11, 3) := by decide +kernel
theorem dX4_heat_35 : decode cX4_heat 35 = .ok (.iload_n 1, 1) := by decide +kernel
theorem dX4_heat_36 : decode cX4_heat 36 = .ok (.iload_n 2, 1) := by decide +kernel
theorem dX4_heat_37 : decode cX4_heat 37 = .ok (.invokestatic 91, 3) := by decide +kernel
theorem dX4_heat_40 : decode cX4_heat 40 = .ok (.goto 8, 3) := by decide +kernel
theorem dX4_heat_43 : decode cX4_heat 43 = .ok (.iload_n 1, 1) := by decide +kernel
theorem dX4_heat_44 : decode cX4_heat 44 = .ok (.iload_n 2, 1) := by decide +kernel
theorem dX4_heat_45 : decode cX4_heat 45 = .ok (.invokestatic 97, 3) := by decide +kernel
theorem dX4_heat_48 : decode cX4_heat 48 = .ok (.ireturn, 1) := by decide +kernel
set_option maxRecDepth 20000 in
theorem ggX4_warmHour_X4_heatTill : GoodIn wsX4_warmHour wsX4_heatTill := goodIn_r _ [4, 5, 6, 3, 7, 8, 9, 10] (by decide +kernel) (by decide +kernel)
set_option maxRecDepth 20000 in
theorem gX4_warmHour_X4_heatTill : GoodIn wsX4_warmHour (va_wsS RX4 97 yX4_heatTill wsX4_heatTill) := goodIn_app (goodIn_of _ (by decide +kernel)) ggX4_warmHour_X4_heatTill
theorem dX4_warmHour_0 : decode cX4_warmHour 0 = .ok (.iconst 0, 1) := by decide +kernel
theorem dX4_warmHour_1 : decode cX4_warmHour 1 = .ok (.istore_n 2, 1) := by decide +kernel
theorem dX4_warmHour_2 : decode cX4_warmHour 2 = .ok (.iload_n 2, 1) := by decide +kernel
theorem dX4_warmHour_3 : decode cX4_warmHour 3 = .ok (.bipush 24, 2) := by decide +kernel
theorem dX4_warmHour_5 : decode cX4_warmHour 5 = .ok (.if_icmp .ge 20, 3) := by decide +kernel
theorem dX4_warmHour_8 : decode cX4_warmHour 8 = .ok (.iload_n 0, 1) := by decide +kernel
theorem dX4_warmHour_9 : decode cX4_warmHour 9 = .ok (.iload_n 2, 1) := by decide +kernel
theorem dX4_warmHour_10 : decode cX4_warmHour 10 = .ok (.invokestatic 97, 3) := by decide +kernel
theorem dX4_warmHour_13 : decode cX4_warmHour 13 = .ok (.iload_n 1, 1) := by decide +kernel
theorem dX4_warmHour_14 : decode cX4_warmHour 14 = .ok (.if_icmp .lt 5, 3) := by decide +kernel
theorem dX4_warmHour_17 : decode cX4_warmHour 17 = .ok (.iload_n 2, 1) := by decide +kernel
theorem dX4_warmHour_18 : decode cX4_warmHour 18 = .ok (.ireturn, 1) := by decide +kernel
theorem dX4_warmHour_19 : decode cX4_warmHour 19 = .ok (.iinc 2 1, 3) := by decide +kernel
theorem dX4_warmHour_22 : decode cX4_warmHour 22 = .ok (.goto (-20), 3) := by decide +kernel
theorem dX4_warmHour_25 : decode cX4_warmHour 25 = .ok (.bipush (-6), 2) := by decide +kernel
theorem dX4_warmHour_27 : decode cX4_warmHour 27 = .ok (.ireturn, 1) := by decide +kernel
set_option maxRecDepth 20000 in
theorem ggX4_warm_X4_isSide : GoodIn wsX4_warm wsX4_isSide := goodIn_r _ [4, 5, 6, 3, 7] (by decide +kernel) (by decide +kernel)
set_option maxRecDepth 20000 in
theorem gX4_warm_X4_isSide : GoodIn wsX4_warm (va_wsS RX4 94 yX4_isSide wsX4_isSide) := goodIn_app (goodIn_of _ (by decide +kernel)) ggX4_warm_X4_isSide
set_option maxRecDepth 20000 in
theorem ggX4_warm_X4_in : GoodIn wsX4_warm wsX4_in := goodIn_r _ [7] (by decide +kernel) (by decide +kernel)
set_option maxRecDepth 20000 in
theorem gX4_warm_X4_in : GoodIn wsX4_warm (va_wsS RX4 26 yX4_in wsX4_in) := goodIn_app (goodIn_of _ (by decide +kernel)) ggX4_warm_X4_in
set_option maxRecDepth 20000 in
theorem ggX4_warm_X4_warmHour : GoodIn wsX4_warm wsX4_warmHour := goodIn_r _ [10, 11, 12, 3, 13, 14, 15, 16, 5, 6, 7] (by decide +kernel) (by decide +kernel)
set_option maxRecDepth 20000 in
theorem gX4_warm_X4_warmHour : GoodIn wsX4_warm (va_wsS RX4 100 yX4_warmHour wsX4_warmHour) := goodIn_app (goodIn_of _ (by decide +kernel)) ggX4_warm_X4_warmHour
theorem dX4_warm_0 : decode cX4_warm 0 = .ok (.iload_n 1, 1) := by decide +kernel
theorem dX4_warm_1 : decode cX4_warm 1 = .ok (.invokestatic 94, 3) := by decide +kernel
theorem dX4_warm_4 : decode cX4_warm 4 = .ok (.ifCond .ne 5, 3) := by decide +kernel
theorem dX4_warm_7 : decode cX4_warm 7 = .ok (.iconst (-1), 1) := by decide +kernel
theorem dX4_warm_8 : decode cX4_warm 8 = .ok (.ireturn, 1) := by decide +kernel
theorem dX4_warm_9 : decode cX4_warm 9 = .ok (.iload_n 2, 1) := by decide +kernel
theorem dX4_warm_10 : decode cX4_warm 10 = .ok (.iconst 1, 1) := by decide +kernel
theorem dX4_warm_11 : decode cX4_warm 11 = .ok (.sipush 999, 3) := by decide +kernel
theorem dX4_warm_14 : decode cX4_warm 14 = .ok (.invokestatic 26, 3) := by decide +kernel
theorem dX4_warm_17 : decode cX4_warm 17 = .ok (.ifCond .eq 11, 3) := by decide +kernel
theorem dX4_warm_20 : decode cX4_warm 20 = .ok (.iload_n 1, 1) := by decide +kernel
theorem dX4_warm_21 : decode cX4_warm 21 = .ok (.iload_n 2, 1) := by decide +kernel
theorem dX4_warm_22 : decode cX4_warm 22 = .ok (.invokestatic 100, 3) := by decide +kernel
theorem dX4_warm_25 : decode cX4_warm 25 = .ok (.goto 5, 3) := by decide +kernel
theorem dX4_warm_28 : decode cX4_warm 28 = .ok (.bipush (-2), 2) := by decide +kernel
theorem dX4_warm_30 : decode cX4_warm 30 = .ok (.ireturn, 1) := by decide +kernel
set_option maxRecDepth 20000 in
theorem ggX4_order_X4_in : GoodIn wsX4_order wsX4_in := goodIn_r _ [4] (by decide +kernel) (by decide +kernel)
set_option maxRecDepth 20000 in
theorem gX4_order_X4_in : GoodIn wsX4_order (va_wsS RX4 26 yX4_in wsX4_in) := goodIn_app (goodIn_of _ (by decide +kernel)) ggX4_order_X4_in
set_option maxRecDepth 20000 in
theorem ggX4_order_X4_warmHour : GoodIn wsX4_order wsX4_warmHour := goodIn_r _ [7, 8, 9, 3, 10, 11, 12, 13, 1, 2, 4] (by decide +kernel) (by decide +kernel)
set_option maxRecDepth 20000 in
theorem gX4_order_X4_warmHour : GoodIn wsX4_order (va_wsS RX4 100 yX4_warmHour wsX4_warmHour) := goodIn_app (goodIn_of _ (by decide +kernel)) ggX4_order_X4_warmHour
theorem dX4_order_0 : decode cX4_order 0 = .ok (.iload_n 1, 1) := by decide +kernel
theorem dX4_order_1 : decode cX4_order 1 = .ok (.iconst 1, 1) := by decide +kernel
theorem dX4_order_2 : decode cX4_order 2 = .ok (.sipush 999, 3) := by decide +kernel
theorem dX4_order_5 : decode cX4_order 5 = .ok (.invokestatic 26, 3) := by decide +kernel
theorem dX4_order_8 : decode cX4_order 8 = .ok (.ifCond .ne 6, 3) := by decide +kernel
theorem dX4_order_11 : decode cX4_order 11 = .ok (.bipush (-2), 2) := by decide +kernel
theorem dX4_order_13 : decode cX4_order 13 = .ok (.ireturn, 1) := by decide +kernel
theorem dX4_order_14 : decode cX4_order 14 = .ok (.iconst 0, 1) := by decide +kernel
theorem dX4_order_15 : decode cX4_order 15 = .ok (.istore_n 3, 1) := by decide +kernel
theorem dX4_order_16 : decode cX4_order 16 = .ok (.iconst 0, 1) := by decide +kernel
theorem dX4_order_17 : decode cX4_order 17 = .ok (.istore 4, 2) := by decide +kernel
theorem dX4_order_19 : decode cX4_order 19 = .ok (.iload 4, 2) := by decide +kernel
theorem dX4_order_21 : decode cX4_order 21 = .ok (.bipush 24, 2) := by decide +kernel
theorem dX4_order_23 : decode cX4_order 23 = .ok (.if_icmp .ge 47, 3) := by decide +kernel
theorem dX4_order_26 : decode cX4_order 26 = .ok (.iconst 0, 1) := by decide +kernel
theorem dX4_order_27 : decode cX4_order 27 = .ok (.istore 5, 2) := by decide +kernel
theorem dX4_order_29 : decode cX4_order 29 = .ok (.iload 5, 2) := by decide +kernel
theorem dX4_order_31 : decode cX4_order 31 = .ok (.bipush 8, 2) := by decide +kernel
theorem dX4_order_33 : decode cX4_order 33 = .ok (.if_icmp .ge 31, 3) := by decide +kernel
theorem dX4_order_36 : decode cX4_order 36 = .ok (.iload 5, 2) := by decide +kernel
theorem dX4_order_38 : decode cX4_order 38 = .ok (.iload_n 1, 1) := by decide +kernel
theorem dX4_order_39 : decode cX4_order 39 = .ok (.invokestatic 100, 3) := by decide +kernel
theorem dX4_order_42 : decode cX4_order 42 = .ok (.iload 4, 2) := by decide +kernel
theorem dX4_order_44 : decode cX4_order 44 = .ok (.if_icmp .ne 14, 3) := by decide +kernel
theorem dX4_order_47 : decode cX4_order 47 = .ok (.iload_n 3, 1) := by decide +kernel
theorem dX4_order_48 : decode cX4_order 48 = .ok (.iload_n 2, 1) := by decide +kernel
theorem dX4_order_49 : decode cX4_order 49 = .ok (.if_icmp .ne 6, 3) := by decide +kernel
theorem dX4_order_52 : decode cX4_order 52 = .ok (.iload 5, 2) := by decide +kernel
theorem dX4_order_54 : decode cX4_order 54 = .ok (.ireturn, 1) := by decide +kernel
theorem dX4_order_55 : decode cX4_order 55 = .ok (.iinc 3 1, 3) := by decide +kernel
theorem dX4_order_58 : decode cX4_order 58 = .ok (.iinc 5 1, 3) := by decide +kernel
theorem dX4_order_61 : decode cX4_order 61 = .ok (.goto (-32), 3) := by decide +kernel
theorem dX4_order_64 : decode cX4_order 64 = .ok (.iinc 4 1, 3) := by decide +kernel
theorem dX4_order_67 : decode cX4_order 67 = .ok (.goto (-48), 3) := by decide +kernel
theorem dX4_order_70 : decode cX4_order 70 = .ok (.iload_n 2, 1) := by decide +kernel
theorem dX4_order_71 : decode cX4_order 71 = .ok (.iconst (-1), 1) := by decide +kernel
theorem dX4_order_72 : decode cX4_order 72 = .ok (.if_icmp .ne 7, 3) := by decide +kernel
theorem dX4_order_75 : decode cX4_order 75 = .ok (.iload_n 3, 1) := by decide +kernel
theorem dX4_order_76 : decode cX4_order 76 = .ok (.goto 5, 3) := by decide +kernel
theorem dX4_order_79 : decode cX4_order 79 = .ok (.bipush (-6), 2) := by decide +kernel
theorem dX4_order_81 : decode cX4_order 81 = .ok (.ireturn, 1) := by decide +kernel
set_option maxRecDepth 20000 in
theorem ggX4_image_X4_in : GoodIn wsX4_image wsX4_in := goodIn_r _ [7] (by decide +kernel) (by decide +kernel)
set_option maxRecDepth 20000 in
theorem gX4_image_X4_in : GoodIn wsX4_image (va_wsS RX4 26 yX4_in wsX4_in) := goodIn_app (goodIn_of _ (by decide +kernel)) ggX4_image_X4_in
theorem dX4_image_0 : decode cX4_image 0 = .ok (.iload_n 1, 1) := by decide +kernel
theorem dX4_image_1 : decode cX4_image 1 = .ok (.iconst 0, 1) := by decide +kernel
theorem dX4_image_2 : decode cX4_image 2 = .ok (.iconst 1, 1) := by decide +kernel
theorem dX4_image_3 : decode cX4_image 3 = .ok (.invokestatic 26, 3) := by decide +kernel
theorem dX4_image_6 : decode cX4_image 6 = .ok (.ifCond .ne 6, 3) := by decide +kernel
theorem dX4_image_9 : decode cX4_image 9 = .ok (.bipush (-2), 2) := by decide +kernel
theorem dX4_image_11 : decode cX4_image 11 = .ok (.ireturn, 1) := by decide +kernel
theorem dX4_image_12 : decode cX4_image 12 = .ok (.iconst 0, 1) := by decide +kernel
theorem dX4_image_13 : decode cX4_image 13 = .ok (.istore_n 2, 1) := by decide +kernel
theorem dX4_image_14 : decode cX4_image 14 = .ok (.iload_n 2, 1) := by decide +kernel
theorem dX4_image_15 : decode cX4_image 15 = .ok (.bipush 57, 2) := by decide +kernel
theorem dX4_image_17 : decode cX4_image 17 = .ok (.if_icmp .ge 26, 3) := by decide +kernel
theorem dX4_image_20 : decode cX4_image 20 = .ok (.aload_n 0, 1) := by decide +kernel
theorem dX4_image_21 : decode cX4_image 21 = .ok (.getfield 13, 3) := by decide +kernel
theorem dX4_image_24 : decode cX4_image 24 = .ok (.bipush 57, 2) := by decide +kernel
theorem dX4_image_26 : decode cX4_image 26 = .ok (.iload_n 1, 1) := by decide +kernel
theorem dX4_image_27 : decode cX4_image 27 = .ok (.imul, 1) := by decide +kernel
theorem dX4_image_28 : decode cX4_image 28 = .ok (.iload_n 2, 1) := by decide +kernel
theorem dX4_image_29 : decode cX4_image 29 = .ok (.iadd, 1) := by decide +kernel
theorem dX4_image_30 : decode cX4_image 30 = .ok (.aload_n 0, 1) := by decide +kernel
theorem dX4_image_31 : decode cX4_image 31 = .ok (.getfield 7, 3) := by decide +kernel
theorem dX4_image_34 : decode cX4_image 34 = .ok (.iload_n 2, 1) := by decide +kernel
theorem dX4_image_35 : decode cX4_image 35 = .ok (.iaload, 1) := by decide +kernel
theorem dX4_image_36 : decode cX4_image 36 = .ok (.iastore, 1) := by decide +kernel
theorem dX4_image_37 : decode cX4_image 37 = .ok (.iinc 2 1, 3) := by decide +kernel
theorem dX4_image_40 : decode cX4_image 40 = .ok (.goto (-26), 3) := by decide +kernel
theorem dX4_image_43 : decode cX4_image 43 = .ok (.aload_n 0, 1) := by decide +kernel
theorem dX4_image_44 : decode cX4_image 44 = .ok (.getfield 16, 3) := by decide +kernel
theorem dX4_image_47 : decode cX4_image 47 = .ok (.iload_n 1, 1) := by decide +kernel
theorem dX4_image_48 : decode cX4_image 48 = .ok (.iconst 1, 1) := by decide +kernel
theorem dX4_image_49 : decode cX4_image 49 = .ok (.bastore, 1) := by decide +kernel
theorem dX4_image_50 : decode cX4_image 50 = .ok (.iconst 1, 1) := by decide +kernel
theorem dX4_image_51 : decode cX4_image 51 = .ok (.ireturn, 1) := by decide +kernel
set_option maxRecDepth 20000 in
theorem ggX4_restore_X4_in : GoodIn wsX4_restore wsX4_in := goodIn_r _ [7] (by decide +kernel) (by decide +kernel)
set_option maxRecDepth 20000 in
theorem gX4_restore_X4_in : GoodIn wsX4_restore (va_wsS RX4 26 yX4_in wsX4_in) := goodIn_app (goodIn_of _ (by decide +kernel)) ggX4_restore_X4_in
theorem dX4_restore_0 : decode cX4_restore 0 = .ok (.iload_n 1, 1) := by decide +kernel
theorem dX4_restore_1 : decode cX4_restore 1 = .ok (.iconst 0, 1) := by decide +kernel
theorem dX4_restore_2 : decode cX4_restore 2 = .ok (.iconst 1, 1) := by decide +kernel
theorem dX4_restore_3 : decode cX4_restore 3 = .ok (.invokestatic 26, 3) := by decide +kernel
theorem dX4_restore_6 : decode cX4_restore 6 = .ok (.ifCond .ne 6, 3) := by decide +kernel
theorem dX4_restore_9 : decode cX4_restore 9 = .ok (.bipush (-2), 2) := by decide +kernel
theorem dX4_restore_11 : decode cX4_restore 11 = .ok (.ireturn, 1) := by decide +kernel
theorem dX4_restore_12 : decode cX4_restore 12 = .ok (.aload_n 0, 1) := by decide +kernel
theorem dX4_restore_13 : decode cX4_restore 13 = .ok (.getfield 16, 3) := by decide +kernel
theorem dX4_restore_16 : decode cX4_restore 16 = .ok (.iload_n 1, 1) := by decide +kernel
theorem dX4_restore_17 : decode cX4_restore 17 = .ok (.baload, 1) := by decide +kernel
theorem dX4_restore_18 : decode cX4_restore 18 = .ok (.ifCond .ne 6, 3) := by decide +kernel
theorem dX4_restore_21 : decode cX4_restore 21 = .ok (.bipush (-3), 2) := by decide +kernel
theorem dX4_restore_23 : decode cX4_restore 23 = .ok (.ireturn, 1) := by decide +kernel
theorem dX4_restore_24 : decode cX4_restore 24 = .ok (.iconst 0, 1) := by decide +kernel
theorem dX4_restore_25 : decode cX4_restore 25 = .ok (.istore_n 2, 1) := by decide +kernel
theorem dX4_restore_26 : decode cX4_restore 26 = .ok (.iload_n 2, 1) := by decide +kernel
theorem dX4_restore_27 : decode cX4_restore 27 = .ok (.bipush 57, 2) := by decide +kernel
theorem dX4_restore_29 : decode cX4_restore 29 = .ok (.if_icmp .ge 26, 3) := by decide +kernel
theorem dX4_restore_32 : decode cX4_restore 32 = .ok (.aload_n 0, 1) := by decide +kernel
theorem dX4_restore_33 : decode cX4_restore 33 = .ok (.getfield 7, 3) := by decide +kernel
theorem dX4_restore_36 : decode cX4_restore 36 = .ok (.iload_n 2, 1) := by decide +kernel
theorem dX4_restore_37 : decode cX4_restore 37 = .ok (.aload_n 0, 1) := by decide +kernel
theorem dX4_restore_38 : decode cX4_restore 38 = .ok (.getfield 13, 3) := by decide +kernel
theorem dX4_restore_41 : decode cX4_restore 41 = .ok (.bipush 57, 2) := by decide +kernel
theorem dX4_restore_43 : decode cX4_restore 43 = .ok (.iload_n 1, 1) := by decide +kernel
theorem dX4_restore_44 : decode cX4_restore 44 = .ok (.imul, 1) := by decide +kernel
theorem dX4_restore_45 : decode cX4_restore 45 = .ok (.iload_n 2, 1) := by decide +kernel
theorem dX4_restore_46 : decode cX4_restore 46 = .ok (.iadd, 1) := by decide +kernel
theorem dX4_restore_47 : decode cX4_restore 47 = .ok (.iaload, 1) := by decide +kernel
theorem dX4_restore_48 : decode cX4_restore 48 = .ok (.iastore, 1) := by decide +kernel
theorem dX4_restore_49 : decode cX4_restore 49 = .ok (.iinc 2 1, 3) := by decide +kernel
theorem dX4_restore_52 : decode cX4_restore 52 = .ok (.goto (-26), 3) := by decide +kernel
theorem dX4_restore_55 : decode cX4_restore 55 = .ok (.iconst 1, 1) := by decide +kernel
theorem dX4_restore_56 : decode cX4_restore 56 = .ok (.ireturn, 1) := by decide +kernel
set_option maxRecDepth 20000 in
theorem ggX4_allWeight_X4_at : GoodIn wsX4_allWeight wsX4_at := goodIn_r _ [5] (by decide +kernel) (by decide +kernel)
set_option maxRecDepth 20000 in
theorem gX4_allWeight_X4_at : GoodIn wsX4_allWeight (va_wsS RX4 30 yX4_at wsX4_at) := goodIn_app (goodIn_of _ (by decide +kernel)) ggX4_allWeight_X4_at
theorem dX4_allWeight_0 : decode cX4_allWeight 0 = .ok (.iconst 0, 1) := by decide +kernel
theorem dX4_allWeight_1 : decode cX4_allWeight 1 = .ok (.istore_n 1, 1) := by decide +kernel
theorem dX4_allWeight_2 : decode cX4_allWeight 2 = .ok (.iconst 0, 1) := by decide +kernel
theorem dX4_allWeight_3 : decode cX4_allWeight 3 = .ok (.istore_n 2, 1) := by decide +kernel
theorem dX4_allWeight_4 : decode cX4_allWeight 4 = .ok (.iload_n 2, 1) := by decide +kernel
theorem dX4_allWeight_5 : decode cX4_allWeight 5 = .ok (.aload_n 0, 1) := by decide +kernel
theorem dX4_allWeight_6 : decode cX4_allWeight 6 = .ok (.getfield 7, 3) := by decide +kernel
theorem dX4_allWeight_9 : decode cX4_allWeight 9 = .ok (.iconst 0, 1) := by decide +kernel
theorem dX4_allWeight_10 : decode cX4_allWeight 10 = .ok (.iaload, 1) := by decide +kernel
theorem dX4_allWeight_11 : decode cX4_allWeight 11 = .ok (.if_icmp .ge 33, 3) := by decide +kernel
theorem dX4_allWeight_14 : decode cX4_allWeight 14 = .ok (.iload_n 1, 1) := by decide +kernel
theorem dX4_allWeight_15 : decode cX4_allWeight 15 = .ok (.aload_n 0, 1) := by decide +kernel
theorem dX4_allWeight_16 : decode cX4_allWeight 16 = .ok (.getfield 7, 3) := by decide +kernel
theorem dX4_allWeight_19 : decode cX4_allWeight 19 = .ok (.iload_n 2, 1) := by decide +kernel
theorem dX4_allWeight_20 : decode cX4_allWeight 20 = .ok (.iconst 0, 1) := by decide +kernel
theorem dX4_allWeight_21 : decode cX4_allWeight 21 = .ok (.invokestatic 30, 3) := by decide +kernel
theorem dX4_allWeight_24 : decode cX4_allWeight 24 = .ok (.iaload, 1) := by decide +kernel
theorem dX4_allWeight_25 : decode cX4_allWeight 25 = .ok (.aload_n 0, 1) := by decide +kernel
theorem dX4_allWeight_26 : decode cX4_allWeight 26 = .ok (.getfield 7, 3) := by decide +kernel
theorem dX4_allWeight_29 : decode cX4_allWeight 29 = .ok (.iload_n 2, 1) := by decide +kernel
theorem dX4_allWeight_30 : decode cX4_allWeight 30 = .ok (.iconst 1, 1) := by decide +kernel
theorem dX4_allWeight_31 : decode cX4_allWeight 31 = .ok (.invokestatic 30, 3) := by decide +kernel
theorem dX4_allWeight_34 : decode cX4_allWeight 34 = .ok (.iaload, 1) := by decide +kernel
theorem dX4_allWeight_35 : decode cX4_allWeight 35 = .ok (.imul, 1) := by decide +kernel
theorem dX4_allWeight_36 : decode cX4_allWeight 36 = .ok (.iadd, 1) := by decide +kernel
theorem dX4_allWeight_37 : decode cX4_allWeight 37 = .ok (.istore_n 1, 1) := by decide +kernel
theorem dX4_allWeight_38 : decode cX4_allWeight 38 = .ok (.iinc 2 1, 3) := by decide +kernel
theorem dX4_allWeight_41 : decode cX4_allWeight 41 = .ok (.goto (-37), 3) := by decide +kernel
theorem dX4_allWeight_44 : decode cX4_allWeight 44 = .ok (.iload_n 1, 1) := by decide +kernel
theorem dX4_allWeight_45 : decode cX4_allWeight 45 = .ok (.ireturn, 1) := by decide +kernel
set_option maxRecDepth 20000 in
theorem ggX4_count_X4_in : GoodIn wsX4_count wsX4_in := goodIn_r _ [6] (by decide +kernel) (by decide +kernel)
set_option maxRecDepth 20000 in
theorem gX4_count_X4_in : GoodIn wsX4_count (va_wsS RX4 26 yX4_in wsX4_in) := goodIn_app (goodIn_of _ (by decide +kernel)) ggX4_count_X4_in
set_option maxRecDepth 20000 in
theorem ggX4_count_X4_allThick : GoodIn wsX4_count wsX4_allThick := goodIn_r _ [10, 1, 11, 12, 13, 5, 14, 15, 16, 17, 22, 23, 24, 25, 26, 27] (by decide +kernel) (by decide +kernel)
set_option maxRecDepth 20000 in
theorem gX4_count_X4_allThick : GoodIn wsX4_count (wsV RX4 88 RX4 yX4_allThick wsX4_allThick) := goodIn_app (goodIn_of _ (by decide +kernel)) ggX4_count_X4_allThick
set_option maxRecDepth 20000 in
theorem ggX4_count_X4_allWeight : GoodIn wsX4_count wsX4_allWeight := goodIn_r _ [21, 1, 15, 16, 5, 17, 22, 23, 24, 25, 26, 27] (by decide +kernel) (by decide +kernel)
set_option maxRecDepth 20000 in
theorem gX4_count_X4_allWeight : GoodIn wsX4_count (wsV RX4 103 RX4 yX4_allWeight wsX4_allWeight) := goodIn_app (goodIn_of _ (by decide +kernel)) ggX4_count_X4_allWeight
theorem dX4_count_0 : decode cX4_count 0 = .ok (.iload_n 1, 1) := by decide +kernel
theorem dX4_count_1 : decode cX4_count 1 = .ok (.bipush 10, 2) := by decide +kernel
theorem dX4_count_3 : decode cX4_count 3 = .ok (.bipush 14, 2) := by decide +kernel
theorem dX4_count_5 : decode cX4_count 5 = .ok (.invokestatic 26, 3) := by decide +kernel
theorem dX4_count_8 : decode cX4_count 8 = .ok (.ifCond .eq 15, 3) := by decide +kernel
theorem dX4_count_11 : decode cX4_count 11 = .ok (.aload_n 0, 1) := by decide +kernel
theorem dX4_count_12 : decode cX4_count 12 = .ok (.getfield 7, 3) := by decide +kernel
theorem dX4_count_15 : decode cX4_count 15 = .ok (.iconst 2, 1) := by decide +kernel
theorem dX4_count_16 : decode cX4_count 16 = .ok (.iload_n 1, 1) := by decide +kernel
theorem dX4_count_17 : decode cX4_count 17 = .ok (.iadd, 1) := by decide +kernel
theorem dX4_count_18 : decode cX4_count 18 = .ok (.bipush 10, 2) := by decide +kernel
theorem dX4_count_20 : decode cX4_count 20 = .ok (.isub, 1) := by decide +kernel
theorem dX4_count_21 : decode cX4_count 21 = .ok (.iaload, 1) := by decide +kernel
theorem dX4_count_22 : decode cX4_count 22 = .ok (.ireturn, 1) := by decide +kernel
theorem dX4_count_23 : decode cX4_count 23 = .ok (.iload_n 1, 1) := by decide +kernel
theorem dX4_count_24 : decode cX4_count 24 = .ok (.tableswitch 90 0 4 #[36, 43, 48, 53, 60], 36) := by decide +kernel
theorem dX4_count_60 : decode cX4_count 60 = .ok (.aload_n 0, 1) := by decide +kernel
theorem dX4_count_61 : decode cX4_count 61 = .ok (.getfield 7, 3) := by decide +kernel
theorem dX4_count_64 : decode cX4_count 64 = .ok (.iconst 0, 1) := by decide +kernel
theorem dX4_count_65 : decode cX4_count 65 = .ok (.iaload, 1) := by decide +kernel
theorem dX4_count_66 : decode cX4_count 66 = .ok (.ireturn, 1) := by decide +kernel
theorem dX4_count_67 : decode cX4_count 67 = .ok (.aload_n 0, 1) := by decide +kernel
theorem dX4_count_68 : decode cX4_count 68 = .ok (.invokevirtual 88, 3) := by decide +kernel
theorem dX4_count_71 : decode cX4_count 71 = .ok (.ireturn, 1) := by decide +kernel
theorem dX4_count_72 : decode cX4_count 72 = .ok (.aload_n 0, 1) := by decide +kernel
theorem dX4_count_73 : decode cX4_count 73 = .ok (.invokevirtual 103, 3) := by decide +kernel
theorem dX4_count_76 : decode cX4_count 76 = .ok (.ireturn, 1) := by decide +kernel
theorem dX4_count_77 : decode cX4_count 77 = .ok (.aload_n 0, 1) := by decide +kernel
theorem dX4_count_78 : decode cX4_count 78 = .ok (.getfield 7, 3) := by decide +kernel
theorem dX4_count_81 : decode cX4_count 81 = .ok (.iconst 1, 1) := by decide +kernel
theorem dX4_count_82 : decode cX4_count 82 = .ok (.iaload, 1) := by decide +kernel
theorem dX4_count_83 : decode cX4_count 83 = .ok (.ireturn, 1) := by decide +kernel
theorem dX4_count_84 : decode cX4_count 84 = .ok (.aload_n 0, 1) := by decide +kernel
theorem dX4_count_85 : decode cX4_count 85 = .ok (.getfield 16, 3) := by decide +kernel
theorem dX4_count_88 : decode cX4_count 88 = .ok (.iconst 0, 1) := by decide +kernel
theorem dX4_count_89 : decode cX4_count 89 = .ok (.baload, 1) := by decide +kernel
theorem dX4_count_90 : decode cX4_count 90 = .ok (.ifCond .eq 7, 3) := by decide +kernel
theorem dX4_count_93 : decode cX4_count 93 = .ok (.iconst 1, 1) := by decide +kernel
theorem dX4_count_94 : decode cX4_count 94 = .ok (.goto 4, 3) := by decide +kernel
theorem dX4_count_97 : decode cX4_count 97 = .ok (.iconst 0, 1) := by decide +kernel
theorem dX4_count_98 : decode cX4_count 98 = .ok (.aload_n 0, 1) := by decide +kernel
theorem dX4_count_99 : decode cX4_count 99 = .ok (.getfield 16, 3) := by decide +kernel
theorem dX4_count_102 : decode cX4_count 102 = .ok (.iconst 1, 1) := by decide +kernel
theorem dX4_count_103 : decode cX4_count 103 = .ok (.baload, 1) := by decide +kernel
theorem dX4_count_104 : decode cX4_count 104 = .ok (.ifCond .eq 7, 3) := by decide +kernel
theorem dX4_count_107 : decode cX4_count 107 = .ok (.iconst 2, 1) := by decide +kernel
theorem dX4_count_108 : decode cX4_count 108 = .ok (.goto 4, 3) := by decide +kernel
theorem dX4_count_111 : decode cX4_count 111 = .ok (.iconst 0, 1) := by decide +kernel
theorem dX4_count_112 : decode cX4_count 112 = .ok (.iadd, 1) := by decide +kernel
theorem dX4_count_113 : decode cX4_count 113 = .ok (.ireturn, 1) := by decide +kernel
theorem dX4_count_114 : decode cX4_count 114 = .ok (.bipush (-2), 2) := by decide +kernel
theorem dX4_count_116 : decode cX4_count 116 = .ok (.ireturn, 1) := by decide +kernel
