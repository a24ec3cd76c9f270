theorem dX0_init_0 : decode cX0_init 0 = .ok (.aload_n 0, 1) := by decide +kernel
theorem dX0_init_1 : decode cX0_init 1 = .ok (.invokespecial 3, 3) := by decide +kernel
theorem dX0_init_4 : decode cX0_init 4 = .ok (.aload_n 0, 1) := by decide +kernel
theorem dX0_init_5 : decode cX0_init 5 = .ok (.iconst 0, 1) := by decide +kernel
theorem dX0_init_6 : decode cX0_init 6 = .ok (.putfield 9, 3) := by decide +kernel
theorem dX0_init_9 : decode cX0_init 9 = .ok (.aload_n 0, 1) := by decide +kernel
theorem dX0_init_10 : decode cX0_init 10 = .ok (.bipush 10, 2) := by decide +kernel
theorem dX0_init_12 : decode cX0_init 12 = .ok (.putfield 15, 3) := by decide +kernel
theorem dX0_init_15 : decode cX0_init 15 = .ok (.aload_n 0, 1) := by decide +kernel
theorem dX0_init_16 : decode cX0_init 16 = .ok (.bipush 10, 2) := by decide +kernel
theorem dX0_init_18 : decode cX0_init 18 = .ok (.newarray .int, 2) := by decide +kernel
theorem dX0_init_20 : decode cX0_init 20 = .ok (.putfield 18, 3) := by decide +kernel
theorem dX0_init_23 : decode cX0_init 23 = .ok (.aload_n 0, 1) := by decide +kernel
theorem dX0_init_24 : decode cX0_init 24 = .ok (.bipush 10, 2) := by decide +kernel
theorem dX0_init_26 : decode cX0_init 26 = .ok (.newarray .int, 2) := by decide +kernel
theorem dX0_init_28 : decode cX0_init 28 = .ok (.putfield 22, 3) := by decide +kernel
theorem dX0_init_31 : decode cX0_init 31 = .ok (.aload_n 0, 1) := by decide +kernel
theorem dX0_init_32 : decode cX0_init 32 = .ok (.bipush 10, 2) := by decide +kernel
theorem dX0_init_34 : decode cX0_init 34 = .ok (.newarray .int, 2) := by decide +kernel
theorem dX0_init_36 : decode cX0_init 36 = .ok (.putfield 25, 3) := by decide +kernel
theorem dX0_init_39 : decode cX0_init 39 = .ok (.aload_n 0, 1) := by decide +kernel
theorem dX0_init_40 : decode cX0_init 40 = .ok (.bipush 10, 2) := by decide +kernel
theorem dX0_init_42 : decode cX0_init 42 = .ok (.newarray .int, 2) := by decide +kernel
theorem dX0_init_44 : decode cX0_init 44 = .ok (.putfield 28, 3) := by decide +kernel
theorem dX0_init_47 : decode cX0_init 47 = .ok (.aload_n 0, 1) := by decide +kernel
theorem dX0_init_48 : decode cX0_init 48 = .ok (.bipush 10, 2) := by decide +kernel
theorem dX0_init_50 : decode cX0_init 50 = .ok (.newarray .boolean, 2) := by decide +kernel
theorem dX0_init_52 : decode cX0_init 52 = .ok (.putfield 31, 3) := by decide +kernel
theorem dX0_init_55 : decode cX0_init 55 = .ok (.aload_n 0, 1) := by decide +kernel
theorem dX0_init_56 : decode cX0_init 56 = .ok (.getstatic 35, 3) := by decide +kernel
theorem dX0_init_59 : decode cX0_init 59 = .ok (.invokevirtual 38, 3) := by decide +kernel
theorem dX0_init_62 : decode cX0_init 62 = .ok (.checkcast 39, 3) := by decide +kernel
theorem dX0_init_65 : decode cX0_init 65 = .ok (.putfield 43, 3) := by decide +kernel
theorem dX0_init_68 : decode cX0_init 68 = .ok (.return_, 1) := by decide +kernel
theorem dX0_takeFrom_0 : decode cX0_takeFrom 0 = .ok (.aload_n 0, 1) := by decide +kernel
theorem dX0_takeFrom_1 : decode cX0_takeFrom 1 = .ok (.aload_n 1, 1) := by decide +kernel
theorem dX0_takeFrom_2 : decode cX0_takeFrom 2 = .ok (.getfield 9, 3) := by decide +kernel
theorem dX0_takeFrom_5 : decode cX0_takeFrom 5 = .ok (.putfield 9, 3) := by decide +kernel
theorem dX0_takeFrom_8 : decode cX0_takeFrom 8 = .ok (.aload_n 0, 1) := by decide +kernel
theorem dX0_takeFrom_9 : decode cX0_takeFrom 9 = .ok (.aload_n 1, 1) := by decide +kernel
theorem dX0_takeFrom_10 : decode cX0_takeFrom 10 = .ok (.getfield 15, 3) := by decide +kernel
theorem dX0_takeFrom_13 : decode cX0_takeFrom 13 = .ok (.putfield 15, 3) := by decide +kernel
theorem dX0_takeFrom_16 : decode cX0_takeFrom 16 = .ok (.aload_n 1, 1) := by decide +kernel
theorem dX0_takeFrom_17 : decode cX0_takeFrom 17 = .ok (.getfield 18, 3) := by decide +kernel
theorem dX0_takeFrom_20 : decode cX0_takeFrom 20 = .ok (.iconst 0, 1) := by decide +kernel
theorem dX0_takeFrom_21 : decode cX0_takeFrom 21 = .ok (.aload_n 0, 1) := by decide +kernel
theorem dX0_takeFrom_22 : decode cX0_takeFrom 22 = .ok (.getfield 18, 3) := by decide +kernel
theorem dX0_takeFrom_25 : decode cX0_takeFrom 25 = .ok (.iconst 0, 1) := by decide +kernel
theorem dX0_takeFrom_26 : decode cX0_takeFrom 26 = .ok (.bipush 10, 2) := by decide +kernel
theorem dX0_takeFrom_28 : decode cX0_takeFrom 28 = .ok (.invokestatic 46, 3) := by decide +kernel
theorem dX0_takeFrom_31 : decode cX0_takeFrom 31 = .ok (.aload_n 1, 1) := by decide +kernel
theorem dX0_takeFrom_32 : decode cX0_takeFrom 32 = .ok (.getfield 22, 3) := by decide +kernel
theorem dX0_takeFrom_35 : decode cX0_takeFrom 35 = .ok (.iconst 0, 1) := by decide +kernel
theorem dX0_takeFrom_36 : decode cX0_takeFrom 36 = .ok (.aload_n 0, 1) := by decide +kernel
theorem dX0_takeFrom_37 : decode cX0_takeFrom 37 = .ok (.getfield 22, 3) := by decide +kernel
theorem dX0_takeFrom_40 : decode cX0_takeFrom 40 = .ok (.iconst 0, 1) := by decide +kernel
theorem dX0_takeFrom_41 : decode cX0_takeFrom 41 = .ok (.bipush 10, 2) := by decide +kernel
theorem dX0_takeFrom_43 : decode cX0_takeFrom 43 = .ok (.invokestatic 46, 3) := by decide +kernel
theorem dX0_takeFrom_46 : decode cX0_takeFrom 46 = .ok (.aload_n 1, 1) := by decide +kernel
theorem dX0_takeFrom_47 : decode cX0_takeFrom 47 = .ok (.getfield 25, 3) := by decide +kernel
theorem dX0_takeFrom_50 : decode cX0_takeFrom 50 = .ok (.iconst 0, 1) := by decide +kernel
theorem dX0_takeFrom_51 : decode cX0_takeFrom 51 = .ok (.aload_n 0, 1) := by decide +kernel
theorem dX0_takeFrom_52 : decode cX0_takeFrom 52 = .ok (.getfield 25, 3) := by decide +kernel
theorem dX0_takeFrom_55 : decode cX0_takeFrom 55 = .ok (.iconst 0, 1) := by decide +kernel
theorem dX0_takeFrom_56 : decode cX0_takeFrom 56 = .ok (.bipush 10, 2) := by decide +kernel
theorem dX0_takeFrom_58 : decode cX0_takeFrom 58 = .ok (.invokestatic 46, 3) := by decide +kernel
theorem dX0_takeFrom_61 : decode cX0_takeFrom 61 = .ok (.aload_n 1, 1) := by decide +kernel
theorem dX0_takeFrom_62 : decode cX0_takeFrom 62 = .ok (.getfield 28, 3) := by decide +kernel
theorem dX0_takeFrom_65 : decode cX0_takeFrom 65 = .ok (.iconst 0, 1) := by decide +kernel
theorem dX0_takeFrom_66 : decode cX0_takeFrom 66 = .ok (.aload_n 0, 1) := by decide +kernel
theorem dX0_takeFrom_67 : decode cX0_takeFrom 67 = .ok (.getfield 28, 3) := by decide +kernel
theorem dX0_takeFrom_70 : decode cX0_takeFrom 70 = .ok (.iconst 0, 1) := by decide +kernel
theorem dX0_takeFrom_71 : decode cX0_takeFrom 71 = .ok (.bipush 10, 2) := by decide +kernel
theorem dX0_takeFrom_73 : decode cX0_takeFrom 73 = .ok (.invokestatic 46, 3) := by decide +kernel
theorem dX0_takeFrom_76 : decode cX0_takeFrom 76 = .ok (.aload_n 1, 1) := by decide +kernel
theorem dX0_takeFrom_77 : decode cX0_takeFrom 77 = .ok (.getfield 31, 3) := by decide +kernel
theorem dX0_takeFrom_80 : decode cX0_takeFrom 80 = .ok (.iconst 0, 1) := by decide +kernel
theorem dX0_takeFrom_81 : decode cX0_takeFrom 81 = .ok (.aload_n 0, 1) := by decide +kernel
theorem dX0_takeFrom_82 : decode cX0_takeFrom 82 = .ok (.getfield 31, 3) := by decide +kernel
theorem dX0_takeFrom_85 : decode cX0_takeFrom 85 = .ok (.iconst 0, 1) := by decide +kernel
theorem dX0_takeFrom_86 : decode cX0_takeFrom 86 = .ok (.bipush 10, 2) := by decide +kernel
theorem dX0_takeFrom_88 : decode cX0_takeFrom 88 = .ok (.invokestatic 46, 3) := by decide +kernel
theorem dX0_takeFrom_91 : decode cX0_takeFrom 91 = .ok (.aload_n 1, 1) := by decide +kernel
theorem dX0_takeFrom_92 : decode cX0_takeFrom 92 = .ok (.getfield 43, 3) := by decide +kernel
theorem dX0_takeFrom_95 : decode cX0_takeFrom 95 = .ok (.iconst 0, 1) := by decide +kernel
theorem dX0_takeFrom_96 : decode cX0_takeFrom 96 = .ok (.aload_n 0, 1) := by decide +kernel
theorem dX0_takeFrom_97 : decode cX0_takeFrom 97 = .ok (.getfield 43, 3) := by decide +kernel
theorem dX0_takeFrom_100 : decode cX0_takeFrom 100 = .ok (.iconst 0, 1) := by decide +kernel
theorem dX0_takeFrom_101 : decode cX0_takeFrom 101 = .ok (.iconst 5, 1) := by decide +kernel
theorem dX0_takeFrom_102 : decode cX0_takeFrom 102 = .ok (.invokestatic 46, 3) := by decide +kernel
theorem dX0_takeFrom_105 : decode cX0_takeFrom 105 = .ok (.return_, 1) := by decide +kernel
set_option maxRecDepth 20000 in
theorem ggX0_has_X3_within : GoodIn wsX0_has wsX3_within := goodIn_r _ [4] (by decide +kernel) (by decide +kernel)
set_option maxRecDepth 20000 in
theorem gX0_has_X3_within_n52 : GoodIn wsX0_has (wsX3_within) := ggX0_has_X3_within
theorem dX0_has_0 : decode cX0_has 0 = .ok (.iload_n 1, 1) := by decide +kernel
theorem dX0_has_1 : decode cX0_has 1 = .ok (.iconst 0, 1) := by decide +kernel
theorem dX0_has_2 : decode cX0_has 2 = .ok (.aload_n 0, 1) := by decide +kernel
theorem dX0_has_3 : decode cX0_has 3 = .ok (.getfield 9, 3) := by decide +kernel
theorem dX0_has_6 : decode cX0_has 6 = .ok (.iconst 1, 1) := by decide +kernel
theorem dX0_has_7 : decode cX0_has 7 = .ok (.isub, 1) := by decide +kernel
theorem dX0_has_8 : decode cX0_has 8 = .ok (.invokestatic 52, 3) := by decide +kernel
theorem dX0_has_11 : decode cX0_has 11 = .ok (.ireturn, 1) := by decide +kernel
theorem dX0_addTop_0 : decode cX0_addTop 0 = .ok (.aload_n 0, 1) := by decide +kernel
theorem dX0_addTop_1 : decode cX0_addTop 1 = .ok (.getfield 9, 3) := by decide +kernel
theorem dX0_addTop_4 : decode cX0_addTop 4 = .ok (.istore 5, 2) := by decide +kernel
theorem dX0_addTop_6 : decode cX0_addTop 6 = .ok (.aload_n 0, 1) := by decide +kernel
theorem dX0_addTop_7 : decode cX0_addTop 7 = .ok (.getfield 18, 3) := by decide +kernel
theorem dX0_addTop_10 : decode cX0_addTop 10 = .ok (.iload 5, 2) := by decide +kernel
theorem dX0_addTop_12 : decode cX0_addTop 12 = .ok (.iload_n 1, 1) := by decide +kernel
theorem dX0_addTop_13 : decode cX0_addTop 13 = .ok (.iastore, 1) := by decide +kernel
theorem dX0_addTop_14 : decode cX0_addTop 14 = .ok (.aload_n 0, 1) := by decide +kernel
theorem dX0_addTop_15 : decode cX0_addTop 15 = .ok (.getfield 22, 3) := by decide +kernel
theorem dX0_addTop_18 : decode cX0_addTop 18 = .ok (.iload 5, 2) := by decide +kernel
theorem dX0_addTop_20 : decode cX0_addTop 20 = .ok (.iload_n 2, 1) := by decide +kernel
theorem dX0_addTop_21 : decode cX0_addTop 21 = .ok (.iastore, 1) := by decide +kernel
theorem dX0_addTop_22 : decode cX0_addTop 22 = .ok (.aload_n 0, 1) := by decide +kernel
theorem dX0_addTop_23 : decode cX0_addTop 23 = .ok (.getfield 25, 3) := by decide +kernel
theorem dX0_addTop_26 : decode cX0_addTop 26 = .ok (.iload 5, 2) := by decide +kernel
theorem dX0_addTop_28 : decode cX0_addTop 28 = .ok (.iload_n 3, 1) := by decide +kernel
theorem dX0_addTop_29 : decode cX0_addTop 29 = .ok (.iastore, 1) := by decide +kernel
theorem dX0_addTop_30 : decode cX0_addTop 30 = .ok (.aload_n 0, 1) := by decide +kernel
theorem dX0_addTop_31 : decode cX0_addTop 31 = .ok (.getfield 28, 3) := by decide +kernel
theorem dX0_addTop_34 : decode cX0_addTop 34 = .ok (.iload 5, 2) := by decide +kernel
theorem dX0_addTop_36 : decode cX0_addTop 36 = .ok (.iload 4, 2) := by decide +kernel
theorem dX0_addTop_38 : decode cX0_addTop 38 = .ok (.iastore, 1) := by decide +kernel
theorem dX0_addTop_39 : decode cX0_addTop 39 = .ok (.aload_n 0, 1) := by decide +kernel
theorem dX0_addTop_40 : decode cX0_addTop 40 = .ok (.getfield 31, 3) := by decide +kernel
theorem dX0_addTop_43 : decode cX0_addTop 43 = .ok (.iload 5, 2) := by decide +kernel
theorem dX0_addTop_45 : decode cX0_addTop 45 = .ok (.iconst 0, 1) := by decide +kernel
theorem dX0_addTop_46 : decode cX0_addTop 46 = .ok (.bastore, 1) := by decide +kernel
theorem dX0_addTop_47 : decode cX0_addTop 47 = .ok (.aload_n 0, 1) := by decide +kernel
theorem dX0_addTop_48 : decode cX0_addTop 48 = .ok (.iload 5, 2) := by decide +kernel
theorem dX0_addTop_50 : decode cX0_addTop 50 = .ok (.iconst 1, 1) := by decide +kernel
theorem dX0_addTop_51 : decode cX0_addTop 51 = .ok (.iadd, 1) := by decide +kernel
theorem dX0_addTop_52 : decode cX0_addTop 52 = .ok (.putfield 9, 3) := by decide +kernel
theorem dX0_addTop_55 : decode cX0_addTop 55 = .ok (.iload 5, 2) := by decide +kernel
theorem dX0_addTop_57 : decode cX0_addTop 57 = .ok (.ireturn, 1) := by decide +kernel
theorem dX0_strength_0 : decode cX0_strength 0 = .ok (.aload_n 0, 1) := by decide +kernel
theorem dX0_strength_1 : decode cX0_strength 1 = .ok (.getfield 43, 3) := by decide +kernel
theorem dX0_strength_4 : decode cX0_strength 4 = .ok (.aload_n 0, 1) := by decide +kernel
theorem dX0_strength_5 : decode cX0_strength 5 = .ok (.getfield 25, 3) := by decide +kernel
theorem dX0_strength_8 : decode cX0_strength 8 = .ok (.iload_n 1, 1) := by decide +kernel
theorem dX0_strength_9 : decode cX0_strength 9 = .ok (.iaload, 1) := by decide +kernel
theorem dX0_strength_10 : decode cX0_strength 10 = .ok (.iaload, 1) := by decide +kernel
theorem dX0_strength_11 : decode cX0_strength 11 = .ok (.aload_n 0, 1) := by decide +kernel
theorem dX0_strength_12 : decode cX0_strength 12 = .ok (.getfield 28, 3) := by decide +kernel
theorem dX0_strength_15 : decode cX0_strength 15 = .ok (.iload_n 1, 1) := by decide +kernel
theorem dX0_strength_16 : decode cX0_strength 16 = .ok (.iaload, 1) := by decide +kernel
theorem dX0_strength_17 : decode cX0_strength 17 = .ok (.imul, 1) := by decide +kernel
theorem dX0_strength_18 : decode cX0_strength 18 = .ok (.aload_n 0, 1) := by decide +kernel
theorem dX0_strength_19 : decode cX0_strength 19 = .ok (.getfield 22, 3) := by decide +kernel
theorem dX0_strength_22 : decode cX0_strength 22 = .ok (.iload_n 1, 1) := by decide +kernel
theorem dX0_strength_23 : decode cX0_strength 23 = .ok (.iaload, 1) := by decide +kernel
theorem dX0_strength_24 : decode cX0_strength 24 = .ok (.imul, 1) := by decide +kernel
theorem dX0_strength_25 : decode cX0_strength 25 = .ok (.bipush 100, 2) := by decide +kernel
theorem dX0_strength_27 : decode cX0_strength 27 = .ok (.idiv, 1) := by decide +kernel
theorem dX0_strength_28 : decode cX0_strength 28 = .ok (.istore_n 2, 1) := by decide +kernel
theorem dX0_strength_29 : decode cX0_strength 29 = .ok (.aload_n 0, 1) := by decide +kernel
theorem dX0_strength_30 : decode cX0_strength 30 = .ok (.getfield 31, 3) := by decide +kernel
theorem dX0_strength_33 : decode cX0_strength 33 = .ok (.iload_n 1, 1) := by decide +kernel
theorem dX0_strength_34 : decode cX0_strength 34 = .ok (.baload, 1) := by decide +kernel
theorem dX0_strength_35 : decode cX0_strength 35 = .ok (.ifCond .eq 9, 3) := by decide +kernel
theorem dX0_strength_38 : decode cX0_strength 38 = .ok (.iload_n 2, 1) := by decide +kernel
theorem dX0_strength_39 : decode cX0_strength 39 = .ok (.iconst 2, 1) := by decide +kernel
theorem dX0_strength_40 : decode cX0_strength 40 = .ok (.idiv, 1) := by decide +kernel
theorem dX0_strength_41 : decode cX0_strength 41 = .ok (.goto 4, 3) := by decide +kernel
theorem dX0_strength_44 : decode cX0_strength 44 = .ok (.iload_n 2, 1) := by decide +kernel
theorem dX0_strength_45 : decode cX0_strength 45 = .ok (.ireturn, 1) := by decide +kernel
theorem dX0_depth_0 : decode cX0_depth 0 = .ok (.iconst 0, 1) := by decide +kernel
theorem dX0_depth_1 : decode cX0_depth 1 = .ok (.istore_n 3, 1) := by decide +kernel
theorem dX0_depth_2 : decode cX0_depth 2 = .ok (.iload_n 1, 1) := by decide +kernel
theorem dX0_depth_3 : decode cX0_depth 3 = .ok (.iconst 1, 1) := by decide +kernel
theorem dX0_depth_4 : decode cX0_depth 4 = .ok (.iadd, 1) := by decide +kernel
theorem dX0_depth_5 : decode cX0_depth 5 = .ok (.istore 4, 2) := by decide +kernel
theorem dX0_depth_7 : decode cX0_depth 7 = .ok (.iload 4, 2) := by decide +kernel
theorem dX0_depth_9 : decode cX0_depth 9 = .ok (.iload_n 2, 1) := by decide +kernel
theorem dX0_depth_10 : decode cX0_depth 10 = .ok (.if_icmp .ge 19, 3) := by decide +kernel
theorem dX0_depth_13 : decode cX0_depth 13 = .ok (.iload_n 3, 1) := by decide +kernel
theorem dX0_depth_14 : decode cX0_depth 14 = .ok (.aload_n 0, 1) := by decide +kernel
theorem dX0_depth_15 : decode cX0_depth 15 = .ok (.getfield 18, 3) := by decide +kernel
theorem dX0_depth_18 : decode cX0_depth 18 = .ok (.iload 4, 2) := by decide +kernel
theorem dX0_depth_20 : decode cX0_depth 20 = .ok (.iaload, 1) := by decide +kernel
theorem dX0_depth_21 : decode cX0_depth 21 = .ok (.iadd, 1) := by decide +kernel
theorem dX0_depth_22 : decode cX0_depth 22 = .ok (.istore_n 3, 1) := by decide +kernel
theorem dX0_depth_23 : decode cX0_depth 23 = .ok (.iinc 4 1, 3) := by decide +kernel
theorem dX0_depth_26 : decode cX0_depth 26 = .ok (.goto (-19), 3) := by decide +kernel
theorem dX0_depth_29 : decode cX0_depth 29 = .ok (.iload_n 3, 1) := by decide +kernel
theorem dX0_depth_30 : decode cX0_depth 30 = .ok (.ireturn, 1) := by decide +kernel
theorem dX0_massAbove_0 : decode cX0_massAbove 0 = .ok (.iconst 0, 1) := by decide +kernel
theorem dX0_massAbove_1 : decode cX0_massAbove 1 = .ok (.istore_n 3, 1) := by decide +kernel
theorem dX0_massAbove_2 : decode cX0_massAbove 2 = .ok (.iload_n 1, 1) := by decide +kernel
theorem dX0_massAbove_3 : decode cX0_massAbove 3 = .ok (.iconst 1, 1) := by decide +kernel
theorem dX0_massAbove_4 : decode cX0_massAbove 4 = .ok (.iadd, 1) := by decide +kernel
theorem dX0_massAbove_5 : decode cX0_massAbove 5 = .ok (.istore 4, 2) := by decide +kernel
theorem dX0_massAbove_7 : decode cX0_massAbove 7 = .ok (.iload 4, 2) := by decide +kernel
theorem dX0_massAbove_9 : decode cX0_massAbove 9 = .ok (.iload_n 2, 1) := by decide +kernel
theorem dX0_massAbove_10 : decode cX0_massAbove 10 = .ok (.if_icmp .ge 27, 3) := by decide +kernel
theorem dX0_massAbove_13 : decode cX0_massAbove 13 = .ok (.iload_n 3, 1) := by decide +kernel
theorem dX0_massAbove_14 : decode cX0_massAbove 14 = .ok (.aload_n 0, 1) := by decide +kernel
theorem dX0_massAbove_15 : decode cX0_massAbove 15 = .ok (.getfield 18, 3) := by decide +kernel
theorem dX0_massAbove_18 : decode cX0_massAbove 18 = .ok (.iload 4, 2) := by decide +kernel
theorem dX0_massAbove_20 : decode cX0_massAbove 20 = .ok (.iaload, 1) := by decide +kernel
theorem dX0_massAbove_21 : decode cX0_massAbove 21 = .ok (.aload_n 0, 1) := by decide +kernel
theorem dX0_massAbove_22 : decode cX0_massAbove 22 = .ok (.getfield 22, 3) := by decide +kernel
theorem dX0_massAbove_25 : decode cX0_massAbove 25 = .ok (.iload 4, 2) := by decide +kernel
theorem dX0_massAbove_27 : decode cX0_massAbove 27 = .ok (.iaload, 1) := by decide +kernel
theorem dX0_massAbove_28 : decode cX0_massAbove 28 = .ok (.imul, 1) := by decide +kernel
theorem dX0_massAbove_29 : decode cX0_massAbove 29 = .ok (.iadd, 1) := by decide +kernel
theorem dX0_massAbove_30 : decode cX0_massAbove 30 = .ok (.istore_n 3, 1) := by decide +kernel
theorem dX0_massAbove_31 : decode cX0_massAbove 31 = .ok (.iinc 4 1, 3) := by decide +kernel
theorem dX0_massAbove_34 : decode cX0_massAbove 34 = .ok (.goto (-27), 3) := by decide +kernel
theorem dX0_massAbove_37 : decode cX0_massAbove 37 = .ok (.iload_n 3, 1) := by decide +kernel
theorem dX0_massAbove_38 : decode cX0_massAbove 38 = .ok (.ireturn, 1) := by decide +kernel
set_option maxRecDepth 20000 in
theorem ggX0_load_X0_massAbove : GoodIn wsX0_load wsX0_massAbove := goodIn_r _ [5, 6, 7, 8, 9, 10, 11, 12, 13, 14, 15] (by decide +kernel) (by decide +kernel)
set_option maxRecDepth 20000 in
theorem gX0_load_X0_massAbove : GoodIn wsX0_load (wsV RX0 56 RX0 yX0_massAbove wsX0_massAbove) := goodIn_app (goodIn_of _ (by decide +kernel)) ggX0_load_X0_massAbove
theorem dX0_load_0 : decode cX0_load 0 = .ok (.aload_n 0, 1) := by decide +kernel
theorem dX0_load_1 : decode cX0_load 1 = .ok (.iload_n 1, 1) := by decide +kernel
theorem dX0_load_2 : decode cX0_load 2 = .ok (.iload_n 2, 1) := by decide +kernel
theorem dX0_load_3 : decode cX0_load 3 = .ok (.invokevirtual 56, 3) := by decide +kernel
theorem dX0_load_6 : decode cX0_load 6 = .ok (.bipush 100, 2) := by decide +kernel
theorem dX0_load_8 : decode cX0_load 8 = .ok (.idiv, 1) := by decide +kernel
theorem dX0_load_9 : decode cX0_load 9 = .ok (.ireturn, 1) := by decide +kernel
set_option maxRecDepth 20000 in
theorem ggX0_press_X0_depth : GoodIn wsX0_press wsX0_depth := goodIn_r _ [5, 6, 10, 11, 12, 13, 14, 15, 16, 17] (by decide +kernel) (by decide +kernel)
set_option maxRecDepth 20000 in
theorem gX0_press_X0_depth : GoodIn wsX0_press (wsV RX0 60 RX0 yX0_depth wsX0_depth) := goodIn_app (goodIn_of _ (by decide +kernel)) ggX0_press_X0_depth
set_option maxRecDepth 20000 in
theorem ggX0_press_X3_cut : GoodIn wsX0_press wsX3_cut := goodIn_r _ [9] (by decide +kernel) (by decide +kernel)
set_option maxRecDepth 20000 in
theorem gX0_press_X3_cut_n63 : GoodIn wsX0_press (wsX3_cut) := ggX0_press_X3_cut
theorem dX0_press_0 : decode cX0_press 0 = .ok (.bipush 100, 2) := by decide +kernel
theorem dX0_press_2 : decode cX0_press 2 = .ok (.iload_n 3, 1) := by decide +kernel
theorem dX0_press_3 : decode cX0_press 3 = .ok (.imul, 1) := by decide +kernel
theorem dX0_press_4 : decode cX0_press 4 = .ok (.aload_n 0, 1) := by decide +kernel
theorem dX0_press_5 : decode cX0_press 5 = .ok (.iload_n 1, 1) := by decide +kernel
theorem dX0_press_6 : decode cX0_press 6 = .ok (.iload_n 2, 1) := by decide +kernel
theorem dX0_press_7 : decode cX0_press 7 = .ok (.invokevirtual 60, 3) := by decide +kernel
theorem dX0_press_10 : decode cX0_press 10 = .ok (.bipush 10, 2) := by decide +kernel
theorem dX0_press_12 : decode cX0_press 12 = .ok (.iadd, 1) := by decide +kernel
theorem dX0_press_13 : decode cX0_press 13 = .ok (.invokestatic 63, 3) := by decide +kernel
theorem dX0_press_16 : decode cX0_press 16 = .ok (.ireturn, 1) := by decide +kernel
set_option maxRecDepth 20000 in
theorem ggX0_shear_X0_load : GoodIn wsX0_shear wsX0_load := goodIn_r _ [6, 7, 8, 9, 5, 10, 11, 12, 13, 14, 15, 16, 17, 18, 19, 20] (by decide +kernel) (by decide +kernel)
set_option maxRecDepth 20000 in
theorem gX0_shear_X0_load : GoodIn wsX0_shear (wsV RX0 66 RX0 yX0_load wsX0_load) := goodIn_app (goodIn_of _ (by decide +kernel)) ggX0_shear_X0_load
theorem dX0_shear_0 : decode cX0_shear 0 = .ok (.aload_n 0, 1) := by decide +kernel
theorem dX0_shear_1 : decode cX0_shear 1 = .ok (.iload_n 1, 1) := by decide +kernel
theorem dX0_shear_2 : decode cX0_shear 2 = .ok (.aload_n 0, 1) := by decide +kernel
theorem dX0_shear_3 : decode cX0_shear 3 = .ok (.getfield 9, 3) := by decide +kernel
theorem dX0_shear_6 : decode cX0_shear 6 = .ok (.invokevirtual 66, 3) := by decide +kernel
theorem dX0_shear_9 : decode cX0_shear 9 = .ok (.iload_n 2, 1) := by decide +kernel
theorem dX0_shear_10 : decode cX0_shear 10 = .ok (.imul, 1) := by decide +kernel
theorem dX0_shear_11 : decode cX0_shear 11 = .ok (.bipush 100, 2) := by decide +kernel
theorem dX0_shear_13 : decode cX0_shear 13 = .ok (.idiv, 1) := by decide +kernel
theorem dX0_shear_14 : decode cX0_shear 14 = .ok (.ireturn, 1) := by decide +kernel
set_option maxRecDepth 20000 in
theorem ggX0_margin_X0_shear : GoodIn wsX0_margin wsX0_shear := goodIn_r _ [5, 6, 7, 8, 9, 4, 10, 11, 12, 13, 14, 15, 16, 25, 26, 27, 28, 29, 30, 31, 32] (by decide +kernel) (by decide +kernel)
set_option maxRecDepth 20000 in
theorem gX0_margin_X0_shear : GoodIn wsX0_margin (wsV RX0 69 RX0 yX0_shear wsX0_shear) := goodIn_app (goodIn_of _ (by decide +kernel)) ggX0_margin_X0_shear
set_option maxRecDepth 20000 in
theorem ggX0_margin_X0_strength : GoodIn wsX0_margin wsX0_strength := goodIn_r _ [20, 21, 22, 23, 16, 24, 25, 26, 27, 28, 29, 30, 31, 32] (by decide +kernel) (by decide +kernel)
set_option maxRecDepth 20000 in
theorem gX0_margin_X0_strength : GoodIn wsX0_margin (wsV RX0 72 RX0 yX0_strength wsX0_strength) := goodIn_app (goodIn_of _ (by decide +kernel)) ggX0_margin_X0_strength
theorem dX0_margin_0 : decode cX0_margin 0 = .ok (.aload_n 0, 1) := by decide +kernel
theorem dX0_margin_1 : decode cX0_margin 1 = .ok (.iload_n 1, 1) := by decide +kernel
theorem dX0_margin_2 : decode cX0_margin 2 = .ok (.iload_n 2, 1) := by decide +kernel
theorem dX0_margin_3 : decode cX0_margin 3 = .ok (.invokevirtual 69, 3) := by decide +kernel
theorem dX0_margin_6 : decode cX0_margin 6 = .ok (.istore_n 3, 1) := by decide +kernel
theorem dX0_margin_7 : decode cX0_margin 7 = .ok (.iload_n 3, 1) := by decide +kernel
theorem dX0_margin_8 : decode cX0_margin 8 = .ok (.ifCond .ne 9, 3) := by decide +kernel
theorem dX0_margin_11 : decode cX0_margin 11 = .ok (.sipush 9999, 3) := by decide +kernel
theorem dX0_margin_14 : decode cX0_margin 14 = .ok (.goto 13, 3) := by decide +kernel
theorem dX0_margin_17 : decode cX0_margin 17 = .ok (.bipush 100, 2) := by decide +kernel
theorem dX0_margin_19 : decode cX0_margin 19 = .ok (.aload_n 0, 1) := by decide +kernel
theorem dX0_margin_20 : decode cX0_margin 20 = .ok (.iload_n 1, 1) := by decide +kernel
theorem dX0_margin_21 : decode cX0_margin 21 = .ok (.invokevirtual 72, 3) := by decide +kernel
theorem dX0_margin_24 : decode cX0_margin 24 = .ok (.imul, 1) := by decide +kernel
theorem dX0_margin_25 : decode cX0_margin 25 = .ok (.iload_n 3, 1) := by decide +kernel
theorem dX0_margin_26 : decode cX0_margin 26 = .ok (.idiv, 1) := by decide +kernel
theorem dX0_margin_27 : decode cX0_margin 27 = .ok (.ireturn, 1) := by decide +kernel
set_option maxRecDepth 20000 in
theorem ggX0_allThick_X0_depth : GoodIn wsX0_allThick wsX0_depth := goodIn_r _ [6, 7, 8, 9, 10, 11, 12, 13, 14, 15] (by decide +kernel) (by decide +kernel)
set_option maxRecDepth 20000 in
theorem gX0_allThick_X0_depth : GoodIn wsX0_allThick (wsV RX0 60 RX0 yX0_depth wsX0_depth) := goodIn_app (goodIn_of _ (by decide +kernel)) ggX0_allThick_X0_depth
theorem dX0_allThick_0 : decode cX0_allThick 0 = .ok (.aload_n 0, 1) := by decide +kernel
theorem dX0_allThick_1 : decode cX0_allThick 1 = .ok (.iconst (-1), 1) := by decide +kernel
theorem dX0_allThick_2 : decode cX0_allThick 2 = .ok (.aload_n 0, 1) := by decide +kernel
theorem dX0_allThick_3 : decode cX0_allThick 3 = .ok (.getfield 9, 3) := by decide +kernel
theorem dX0_allThick_6 : decode cX0_allThick 6 = .ok (.invokevirtual 60, 3) := by decide +kernel
theorem dX0_allThick_9 : decode cX0_allThick 9 = .ok (.ireturn, 1) := by decide +kernel
set_option maxRecDepth 20000 in
theorem ggX0_leastMargin_X0_margin : GoodIn wsX0_leastMargin wsX0_margin := goodIn_r _ [6, 7, 8, 9, 5, 10, 1, 11, 12, 13, 14, 15, 16, 17, 18, 19, 20, 21, 22, 23, 24, 25, 26, 27, 28, 29, 30, 31, 32, 33, 34, 35, 36] (by decide +kernel) (by decide +kernel)
set_option maxRecDepth 20000 in
theorem gX0_leastMargin_X0_margin : GoodIn wsX0_leastMargin (wsV RX0 76 RX0 yX0_margin wsX0_margin) := goodIn_app (goodIn_of _ (by decide +kernel)) ggX0_leastMargin_X0_margin
theorem dX0_leastMargin_0 : decode cX0_leastMargin 0 = .ok (.bipush (-6), 2) := by decide +kernel
theorem dX0_leastMargin_2 : decode cX0_leastMargin 2 = .ok (.istore_n 2, 1) := by decide +kernel
theorem dX0_leastMargin_3 : decode cX0_leastMargin 3 = .ok (.iconst 0, 1) := by decide +kernel
theorem dX0_leastMargin_4 : decode cX0_leastMargin 4 = .ok (.istore_n 3, 1) := by decide +kernel
theorem dX0_leastMargin_5 : decode cX0_leastMargin 5 = .ok (.aload_n 0, 1) := by decide +kernel
theorem dX0_leastMargin_6 : decode cX0_leastMargin 6 = .ok (.getfield 9, 3) := by decide +kernel
theorem dX0_leastMargin_9 : decode cX0_leastMargin 9 = .ok (.iconst 2, 1) := by decide +kernel
theorem dX0_leastMargin_10 : decode cX0_leastMargin 10 = .ok (.isub, 1) := by decide +kernel
theorem dX0_leastMargin_11 : decode cX0_leastMargin 11 = .ok (.istore 4, 2) := by decide +kernel
theorem dX0_leastMargin_13 : decode cX0_leastMargin 13 = .ok (.iload 4, 2) := by decide +kernel
theorem dX0_leastMargin_15 : decode cX0_leastMargin 15 = .ok (.ifCond .lt 36, 3) := by decide +kernel
theorem dX0_leastMargin_18 : decode cX0_leastMargin 18 = .ok (.aload_n 0, 1) := by decide +kernel
theorem dX0_leastMargin_19 : decode cX0_leastMargin 19 = .ok (.iload 4, 2) := by decide +kernel
theorem dX0_leastMargin_21 : decode cX0_leastMargin 21 = .ok (.iload_n 1, 1) := by decide +kernel
theorem dX0_leastMargin_22 : decode cX0_leastMargin 22 = .ok (.invokevirtual 76, 3) := by decide +kernel
theorem dX0_leastMargin_25 : decode cX0_leastMargin 25 = .ok (.istore 5, 2) := by decide +kernel
theorem dX0_leastMargin_27 : decode cX0_leastMargin 27 = .ok (.iload_n 2, 1) := by decide +kernel
theorem dX0_leastMargin_28 : decode cX0_leastMargin 28 = .ok (.bipush (-6), 2) := by decide +kernel
theorem dX0_leastMargin_30 : decode cX0_leastMargin 30 = .ok (.if_icmp .eq 9, 3) := by decide +kernel
theorem dX0_leastMargin_33 : decode cX0_leastMargin 33 = .ok (.iload 5, 2) := by decide +kernel
theorem dX0_leastMargin_35 : decode cX0_leastMargin 35 = .ok (.iload_n 3, 1) := by decide +kernel
theorem dX0_leastMargin_36 : decode cX0_leastMargin 36 = .ok (.if_icmp .ge 9, 3) := by decide +kernel
theorem dX0_leastMargin_39 : decode cX0_leastMargin 39 = .ok (.iload 4, 2) := by decide +kernel
theorem dX0_leastMargin_41 : decode cX0_leastMargin 41 = .ok (.istore_n 2, 1) := by decide +kernel
theorem dX0_leastMargin_42 : decode cX0_leastMargin 42 = .ok (.iload 5, 2) := by decide +kernel
theorem dX0_leastMargin_44 : decode cX0_leastMargin 44 = .ok (.istore_n 3, 1) := by decide +kernel
theorem dX0_leastMargin_45 : decode cX0_leastMargin 45 = .ok (.iinc 4 (-1), 3) := by decide +kernel
theorem dX0_leastMargin_48 : decode cX0_leastMargin 48 = .ok (.goto (-35), 3) := by decide +kernel
theorem dX0_leastMargin_51 : decode cX0_leastMargin 51 = .ok (.iload_n 2, 1) := by decide +kernel
theorem dX0_leastMargin_52 : decode cX0_leastMargin 52 = .ok (.ireturn, 1) := by decide +kernel
set_option maxRecDepth 20000 in
theorem ggX0_breaking_X0_load : GoodIn wsX0_breaking wsX0_load := goodIn_r _ [5, 6, 7, 8, 4, 9, 10, 11, 31, 32, 33, 34, 35, 36, 37, 38] (by decide +kernel) (by decide +kernel)
set_option maxRecDepth 20000 in
theorem gX0_breaking_X0_load : GoodIn wsX0_breaking (wsV RX0 66 RX0 yX0_load wsX0_load) := goodIn_app (goodIn_of _ (by decide +kernel)) ggX0_breaking_X0_load
set_option maxRecDepth 20000 in
theorem ggX0_breaking_X0_press : GoodIn wsX0_breaking wsX0_press := goodIn_r _ [15, 16, 17, 18, 4, 19, 10, 20, 21, 22, 31, 32, 33, 34, 35, 36, 37, 38] (by decide +kernel) (by decide +kernel)
set_option maxRecDepth 20000 in
theorem gX0_breaking_X0_press : GoodIn wsX0_breaking (wsV RX0 79 RX0 yX0_press wsX0_press) := goodIn_app (goodIn_of _ (by decide +kernel)) ggX0_breaking_X0_press
set_option maxRecDepth 20000 in
theorem ggX0_breaking_X0_strength : GoodIn wsX0_breaking wsX0_strength := goodIn_r _ [26, 27, 28, 29, 11, 30, 31, 32, 33, 34, 35, 36, 37, 38] (by decide +kernel) (by decide +kernel)
set_option maxRecDepth 20000 in
theorem gX0_breaking_X0_strength : GoodIn wsX0_breaking (wsV RX0 72 RX0 yX0_strength wsX0_strength) := goodIn_app (goodIn_of _ (by decide +kernel)) ggX0_breaking_X0_strength
theorem dX0_breaking_0 : decode cX0_breaking 0 = .ok (.iload_n 1, 1) := by decide +kernel
theorem dX0_breaking_1 : decode cX0_breaking 1 = .ok (.iconst 2, 1) := by decide +kernel
theorem dX0_breaking_2 : decode cX0_breaking 2 = .ok (.isub, 1) := by decide +kernel
theorem dX0_breaking_3 : decode cX0_breaking 3 = .ok (.istore_n 3, 1) := by decide +kernel
theorem dX0_breaking_4 : decode cX0_breaking 4 = .ok (.iload_n 3, 1) := by decide +kernel
theorem dX0_breaking_5 : decode cX0_breaking 5 = .ok (.ifCond .lt 33, 3) := by decide +kernel
theorem dX0_breaking_8 : decode cX0_breaking 8 = .ok (.aload_n 0, 1) := by decide +kernel
theorem dX0_breaking_9 : decode cX0_breaking 9 = .ok (.iload_n 3, 1) := by decide +kernel
theorem dX0_breaking_10 : decode cX0_breaking 10 = .ok (.iload_n 1, 1) := by decide +kernel
theorem dX0_breaking_11 : decode cX0_breaking 11 = .ok (.invokevirtual 66, 3) := by decide +kernel
theorem dX0_breaking_14 : decode cX0_breaking 14 = .ok (.aload_n 0, 1) := by decide +kernel
theorem dX0_breaking_15 : decode cX0_breaking 15 = .ok (.iload_n 3, 1) := by decide +kernel
theorem dX0_breaking_16 : decode cX0_breaking 16 = .ok (.iload_n 1, 1) := by decide +kernel
theorem dX0_breaking_17 : decode cX0_breaking 17 = .ok (.iload_n 2, 1) := by decide +kernel
theorem dX0_breaking_18 : decode cX0_breaking 18 = .ok (.invokevirtual 79, 3) := by decide +kernel
theorem dX0_breaking_21 : decode cX0_breaking 21 = .ok (.iadd, 1) := by decide +kernel
theorem dX0_breaking_22 : decode cX0_breaking 22 = .ok (.aload_n 0, 1) := by decide +kernel
theorem dX0_breaking_23 : decode cX0_breaking 23 = .ok (.iload_n 3, 1) := by decide +kernel
theorem dX0_breaking_24 : decode cX0_breaking 24 = .ok (.invokevirtual 72, 3) := by decide +kernel
theorem dX0_breaking_27 : decode cX0_breaking 27 = .ok (.if_icmp .lt 5, 3) := by decide +kernel
theorem dX0_breaking_30 : decode cX0_breaking 30 = .ok (.iload_n 3, 1) := by decide +kernel
theorem dX0_breaking_31 : decode cX0_breaking 31 = .ok (.ireturn, 1) := by decide +kernel
theorem dX0_breaking_32 : decode cX0_breaking 32 = .ok (.iinc 3 (-1), 3) := by decide +kernel
theorem dX0_breaking_35 : decode cX0_breaking 35 = .ok (.goto (-31), 3) := by decide +kernel
theorem dX0_breaking_38 : decode cX0_breaking 38 = .ok (.bipush (-6), 2) := by decide +kernel
theorem dX0_breaking_40 : decode cX0_breaking 40 = .ok (.ireturn, 1) := by decide +kernel
set_option maxRecDepth 20000 in
theorem ggX0_slabGoes_X0_shear : GoodIn wsX0_slabGoes wsX0_shear := goodIn_r _ [6, 1, 7, 8, 9, 5, 10, 11, 12, 13, 14, 15, 16, 36, 37, 38, 39, 40, 41, 42, 43] (by decide +kernel) (by decide +kernel)
set_option maxRecDepth 20000 in
theorem gX0_slabGoes_X0_shear : GoodIn wsX0_slabGoes (wsV RX0 69 RX0 yX0_shear wsX0_shear) := goodIn_app (goodIn_of _ (by decide +kernel)) ggX0_slabGoes_X0_shear
set_option maxRecDepth 20000 in
theorem ggX0_slabGoes_X0_press : GoodIn wsX0_slabGoes wsX0_press := goodIn_r _ [20, 21, 22, 23, 5, 24, 15, 25, 26, 27, 36, 37, 38, 39, 40, 41, 42, 43] (by decide +kernel) (by decide +kernel)
set_option maxRecDepth 20000 in
theorem gX0_slabGoes_X0_press : GoodIn wsX0_slabGoes (wsV RX0 79 RX0 yX0_press wsX0_press) := goodIn_app (goodIn_of _ (by decide +kernel)) ggX0_slabGoes_X0_press
set_option maxRecDepth 20000 in
theorem ggX0_slabGoes_X0_strength : GoodIn wsX0_slabGoes wsX0_strength := goodIn_r _ [31, 32, 33, 34, 16, 35, 36, 37, 38, 39, 40, 41, 42, 43] (by decide +kernel) (by decide +kernel)
set_option maxRecDepth 20000 in
theorem gX0_slabGoes_X0_strength : GoodIn wsX0_slabGoes (wsV RX0 72 RX0 yX0_strength wsX0_strength) := goodIn_app (goodIn_of _ (by decide +kernel)) ggX0_slabGoes_X0_strength
theorem dX0_slabGoes_0 : decode cX0_slabGoes 0 = .ok (.aload_n 0, 1) := by decide +kernel
theorem dX0_slabGoes_1 : decode cX0_slabGoes 1 = .ok (.iload_n 1, 1) := by decide +kernel
theorem dX0_slabGoes_2 : decode cX0_slabGoes 2 = .ok (.iload_n 2, 1) := by decide +kernel
theorem dX0_slabGoes_3 : decode cX0_slabGoes 3 = .ok (.invokevirtual 69, 3) := by decide +kernel
theorem dX0_slabGoes_6 : decode cX0_slabGoes 6 = .ok (.aload_n 0, 1) := by decide +kernel
theorem dX0_slabGoes_7 : decode cX0_slabGoes 7 = .ok (.iload_n 1, 1) := by decide +kernel
theorem dX0_slabGoes_8 : decode cX0_slabGoes 8 = .ok (.aload_n 0, 1) := by decide +kernel
theorem dX0_slabGoes_9 : decode cX0_slabGoes 9 = .ok (.getfield 9, 3) := by decide +kernel
theorem dX0_slabGoes_12 : decode cX0_slabGoes 12 = .ok (.iload_n 3, 1) := by decide +kernel
theorem dX0_slabGoes_13 : decode cX0_slabGoes 13 = .ok (.invokevirtual 79, 3) := by decide +kernel
theorem dX0_slabGoes_16 : decode cX0_slabGoes 16 = .ok (.iadd, 1) := by decide +kernel
theorem dX0_slabGoes_17 : decode cX0_slabGoes 17 = .ok (.aload_n 0, 1) := by decide +kernel
theorem dX0_slabGoes_18 : decode cX0_slabGoes 18 = .ok (.iload_n 1, 1) := by decide +kernel
theorem dX0_slabGoes_19 : decode cX0_slabGoes 19 = .ok (.invokevirtual 72, 3) := by decide +kernel
theorem dX0_slabGoes_22 : decode cX0_slabGoes 22 = .ok (.if_icmp .lt 7, 3) := by decide +kernel
theorem dX0_slabGoes_25 : decode cX0_slabGoes 25 = .ok (.iconst 1, 1) := by decide +kernel
theorem dX0_slabGoes_26 : decode cX0_slabGoes 26 = .ok (.goto 4, 3) := by decide +kernel
theorem dX0_slabGoes_29 : decode cX0_slabGoes 29 = .ok (.iconst 0, 1) := by decide +kernel
theorem dX0_slabGoes_30 : decode cX0_slabGoes 30 = .ok (.ireturn, 1) := by decide +kernel
set_option maxRecDepth 20000 in
theorem ggX0_going_X0_slabGoes : GoodIn wsX0_going wsX0_slabGoes := goodIn_r _ [6, 1, 7, 8, 9, 5, 10, 11, 12, 13, 14, 15, 16, 17, 18, 19, 20, 21, 22, 23, 24, 25, 26, 27, 28, 29, 30, 31, 32, 33, 34, 35, 36, 37, 38, 39, 40, 41, 42, 43, 44, 45, 46, 47] (by decide +kernel) (by decide +kernel)
set_option maxRecDepth 20000 in
theorem gX0_going_X0_slabGoes : GoodIn wsX0_going (wsV RX0 83 RX0 yX0_slabGoes wsX0_slabGoes) := goodIn_app (goodIn_of _ (by decide +kernel)) ggX0_going_X0_slabGoes
theorem dX0_going_0 : decode cX0_going 0 = .ok (.aload_n 0, 1) := by decide +kernel
theorem dX0_going_1 : decode cX0_going 1 = .ok (.getfield 9, 3) := by decide +kernel
theorem dX0_going_4 : decode cX0_going 4 = .ok (.iconst 2, 1) := by decide +kernel
theorem dX0_going_5 : decode cX0_going 5 = .ok (.isub, 1) := by decide +kernel
theorem dX0_going_6 : decode cX0_going 6 = .ok (.istore_n 3, 1) := by decide +kernel
theorem dX0_going_7 : decode cX0_going 7 = .ok (.iload_n 3, 1) := by decide +kernel
theorem dX0_going_8 : decode cX0_going 8 = .ok (.ifCond .lt 21, 3) := by decide +kernel
theorem dX0_going_11 : decode cX0_going 11 = .ok (.aload_n 0, 1) := by decide +kernel
theorem dX0_going_12 : decode cX0_going 12 = .ok (.iload_n 3, 1) := by decide +kernel
theorem dX0_going_13 : decode cX0_going 13 = .ok (.iload_n 1, 1) := by decide +kernel
theorem dX0_going_14 : decode cX0_going 14 = .ok (.iload_n 2, 1) := by decide +kernel
theorem dX0_going_15 : decode cX0_going 15 = .ok (.invokevirtual 83, 3) := by decide +kernel
theorem dX0_going_18 : decode cX0_going 18 = .ok (.ifCond .eq 5, 3) := by decide +kernel
theorem dX0_going_21 : decode cX0_going 21 = .ok (.iload_n 3, 1) := by decide +kernel
theorem dX0_going_22 : decode cX0_going 22 = .ok (.ireturn, 1) := by decide +kernel
theorem dX0_going_23 : decode cX0_going 23 = .ok (.iinc 3 (-1), 3) := by decide +kernel
theorem dX0_going_26 : decode cX0_going 26 = .ok (.goto (-19), 3) := by decide +kernel
theorem dX0_going_29 : decode cX0_going 29 = .ok (.bipush (-6), 2) := by decide +kernel
theorem dX0_going_31 : decode cX0_going 31 = .ok (.ireturn, 1) := by decide +kernel
set_option maxRecDepth 20000 in
theorem ggX0_packTop_X3_cut : GoodIn wsX0_packTop wsX3_cut := goodIn_r _ [14] (by decide +kernel) (by decide +kernel)
set_option maxRecDepth 20000 in
theorem gX0_packTop_X3_cut_n63 : GoodIn wsX0_packTop (wsX3_cut) := ggX0_packTop_X3_cut
theorem dX0_packTop_0 : decode cX0_packTop 0 = .ok (.aload_n 0, 1) := by decide +kernel
theorem dX0_packTop_1 : decode cX0_packTop 1 = .ok (.getfield 9, 3) := by decide +kernel
theorem dX0_packTop_4 : decode cX0_packTop 4 = .ok (.iconst 1, 1) := by decide +kernel
theorem dX0_packTop_5 : decode cX0_packTop 5 = .ok (.isub, 1) := by decide +kernel
theorem dX0_packTop_6 : decode cX0_packTop 6 = .ok (.istore_n 2, 1) := by decide +kernel
theorem dX0_packTop_7 : decode cX0_packTop 7 = .ok (.aload_n 0, 1) := by decide +kernel
theorem dX0_packTop_8 : decode cX0_packTop 8 = .ok (.getfield 22, 3) := by decide +kernel
theorem dX0_packTop_11 : decode cX0_packTop 11 = .ok (.iload_n 2, 1) := by decide +kernel
theorem dX0_packTop_12 : decode cX0_packTop 12 = .ok (.iaload, 1) := by decide +kernel
theorem dX0_packTop_13 : decode cX0_packTop 13 = .ok (.istore_n 3, 1) := by decide +kernel
theorem dX0_packTop_14 : decode cX0_packTop 14 = .ok (.aload_n 0, 1) := by decide +kernel
theorem dX0_packTop_15 : decode cX0_packTop 15 = .ok (.getfield 22, 3) := by decide +kernel
theorem dX0_packTop_18 : decode cX0_packTop 18 = .ok (.iload_n 2, 1) := by decide +kernel
theorem dX0_packTop_19 : decode cX0_packTop 19 = .ok (.sipush 600, 3) := by decide +kernel
theorem dX0_packTop_22 : decode cX0_packTop 22 = .ok (.iload_n 3, 1) := by decide +kernel
theorem dX0_packTop_23 : decode cX0_packTop 23 = .ok (.iload_n 1, 1) := by decide +kernel
theorem dX0_packTop_24 : decode cX0_packTop 24 = .ok (.iadd, 1) := by decide +kernel
theorem dX0_packTop_25 : decode cX0_packTop 25 = .ok (.invokestatic 86, 3) := by decide +kernel
theorem dX0_packTop_28 : decode cX0_packTop 28 = .ok (.iastore, 1) := by decide +kernel
theorem dX0_packTop_29 : decode cX0_packTop 29 = .ok (.aload_n 0, 1) := by decide +kernel
theorem dX0_packTop_30 : decode cX0_packTop 30 = .ok (.getfield 18, 3) := by decide +kernel
theorem dX0_packTop_33 : decode cX0_packTop 33 = .ok (.iload_n 2, 1) := by decide +kernel
theorem dX0_packTop_34 : decode cX0_packTop 34 = .ok (.iconst 1, 1) := by decide +kernel
theorem dX0_packTop_35 : decode cX0_packTop 35 = .ok (.aload_n 0, 1) := by decide +kernel
theorem dX0_packTop_36 : decode cX0_packTop 36 = .ok (.getfield 18, 3) := by decide +kernel
theorem dX0_packTop_39 : decode cX0_packTop 39 = .ok (.iload_n 2, 1) := by decide +kernel
theorem dX0_packTop_40 : decode cX0_packTop 40 = .ok (.iaload, 1) := by decide +kernel
theorem dX0_packTop_41 : decode cX0_packTop 41 = .ok (.iload_n 3, 1) := by decide +kernel
theorem dX0_packTop_42 : decode cX0_packTop 42 = .ok (.imul, 1) := by decide +kernel
theorem dX0_packTop_43 : decode cX0_packTop 43 = .ok (.aload_n 0, 1) := by decide +kernel
theorem dX0_packTop_44 : decode cX0_packTop 44 = .ok (.getfield 22, 3) := by decide +kernel
theorem dX0_packTop_47 : decode cX0_packTop 47 = .ok (.iload_n 2, 1) := by decide +kernel
theorem dX0_packTop_48 : decode cX0_packTop 48 = .ok (.iaload, 1) := by decide +kernel
theorem dX0_packTop_49 : decode cX0_packTop 49 = .ok (.invokestatic 63, 3) := by decide +kernel
theorem dX0_packTop_52 : decode cX0_packTop 52 = .ok (.invokestatic 91, 3) := by decide +kernel
theorem dX0_packTop_55 : decode cX0_packTop 55 = .ok (.iastore, 1) := by decide +kernel
theorem dX0_packTop_56 : decode cX0_packTop 56 = .ok (.aload_n 0, 1) := by decide +kernel
theorem dX0_packTop_57 : decode cX0_packTop 57 = .ok (.getfield 28, 3) := by decide +kernel
theorem dX0_packTop_60 : decode cX0_packTop 60 = .ok (.iload_n 2, 1) := by decide +kernel
theorem dX0_packTop_61 : decode cX0_packTop 61 = .ok (.iconst 5, 1) := by decide +kernel
theorem dX0_packTop_62 : decode cX0_packTop 62 = .ok (.aload_n 0, 1) := by decide +kernel
theorem dX0_packTop_63 : decode cX0_packTop 63 = .ok (.getfield 28, 3) := by decide +kernel
theorem dX0_packTop_66 : decode cX0_packTop 66 = .ok (.iload_n 2, 1) := by decide +kernel
theorem dX0_packTop_67 : decode cX0_packTop 67 = .ok (.iaload, 1) := by decide +kernel
theorem dX0_packTop_68 : decode cX0_packTop 68 = .ok (.iconst 1, 1) := by decide +kernel
theorem dX0_packTop_69 : decode cX0_packTop 69 = .ok (.iadd, 1) := by decide +kernel
theorem dX0_packTop_70 : decode cX0_packTop 70 = .ok (.invokestatic 86, 3) := by decide +kernel
theorem dX0_packTop_73 : decode cX0_packTop 73 = .ok (.iastore, 1) := by decide +kernel
theorem dX0_packTop_74 : decode cX0_packTop 74 = .ok (.aload_n 0, 1) := by decide +kernel
theorem dX0_packTop_75 : decode cX0_packTop 75 = .ok (.getfield 28, 3) := by decide +kernel
theorem dX0_packTop_78 : decode cX0_packTop 78 = .ok (.iload_n 2, 1) := by decide +kernel
theorem dX0_packTop_79 : decode cX0_packTop 79 = .ok (.iaload, 1) := by decide +kernel
theorem dX0_packTop_80 : decode cX0_packTop 80 = .ok (.ireturn, 1) := by decide +kernel
set_option maxRecDepth 20000 in
theorem ggX0_settleAll_X3_cut : GoodIn wsX0_settleAll wsX3_cut := goodIn_r _ [14] (by decide +kernel) (by decide +kernel)
set_option maxRecDepth 20000 in
theorem gX0_settleAll_X3_cut_n63 : GoodIn wsX0_settleAll (wsX3_cut) := ggX0_settleAll_X3_cut
theorem dX0_settleAll_0 : decode cX0_settleAll 0 = .ok (.iconst 0, 1) := by decide +kernel
theorem dX0_settleAll_1 : decode cX0_settleAll 1 = .ok (.istore_n 2, 1) := by decide +kernel
theorem dX0_settleAll_2 : decode cX0_settleAll 2 = .ok (.iload_n 2, 1) := by decide +kernel
theorem dX0_settleAll_3 : decode cX0_settleAll 3 = .ok (.aload_n 0, 1) := by decide +kernel
theorem dX0_settleAll_4 : decode cX0_settleAll 4 = .ok (.getfield 9, 3) := by decide +kernel
theorem dX0_settleAll_7 : decode cX0_settleAll 7 = .ok (.if_icmp .ge 79, 3) := by decide +kernel
theorem dX0_settleAll_10 : decode cX0_settleAll 10 = .ok (.aload_n 0, 1) := by decide +kernel
theorem dX0_settleAll_11 : decode cX0_settleAll 11 = .ok (.getfield 25, 3) := by decide +kernel
theorem dX0_settleAll_14 : decode cX0_settleAll 14 = .ok (.iload_n 2, 1) := by decide +kernel
theorem dX0_settleAll_15 : decode cX0_settleAll 15 = .ok (.iaload, 1) := by decide +kernel
theorem dX0_settleAll_16 : decode cX0_settleAll 16 = .ok (.iconst 4, 1) := by decide +kernel
theorem dX0_settleAll_17 : decode cX0_settleAll 17 = .ok (.if_icmp .eq 63, 3) := by decide +kernel
theorem dX0_settleAll_20 : decode cX0_settleAll 20 = .ok (.aload_n 0, 1) := by decide +kernel
theorem dX0_settleAll_21 : decode cX0_settleAll 21 = .ok (.getfield 18, 3) := by decide +kernel
theorem dX0_settleAll_24 : decode cX0_settleAll 24 = .ok (.iload_n 2, 1) := by decide +kernel
theorem dX0_settleAll_25 : decode cX0_settleAll 25 = .ok (.iaload, 1) := by decide +kernel
theorem dX0_settleAll_26 : decode cX0_settleAll 26 = .ok (.aload_n 0, 1) := by decide +kernel
theorem dX0_settleAll_27 : decode cX0_settleAll 27 = .ok (.getfield 22, 3) := by decide +kernel
theorem dX0_settleAll_30 : decode cX0_settleAll 30 = .ok (.iload_n 2, 1) := by decide +kernel
theorem dX0_settleAll_31 : decode cX0_settleAll 31 = .ok (.iaload, 1) := by decide +kernel
theorem dX0_settleAll_32 : decode cX0_settleAll 32 = .ok (.imul, 1) := by decide +kernel
theorem dX0_settleAll_33 : decode cX0_settleAll 33 = .ok (.istore_n 3, 1) := by decide +kernel
theorem dX0_settleAll_34 : decode cX0_settleAll 34 = .ok (.aload_n 0, 1) := by decide +kernel
theorem dX0_settleAll_35 : decode cX0_settleAll 35 = .ok (.getfield 18, 3) := by decide +kernel
theorem dX0_settleAll_38 : decode cX0_settleAll 38 = .ok (.iload_n 2, 1) := by decide +kernel
theorem dX0_settleAll_39 : decode cX0_settleAll 39 = .ok (.iconst 1, 1) := by decide +kernel
theorem dX0_settleAll_40 : decode cX0_settleAll 40 = .ok (.aload_n 0, 1) := by decide +kernel
theorem dX0_settleAll_41 : decode cX0_settleAll 41 = .ok (.getfield 18, 3) := by decide +kernel
theorem dX0_settleAll_44 : decode cX0_settleAll 44 = .ok (.iload_n 2, 1) := by decide +kernel
theorem dX0_settleAll_45 : decode cX0_settleAll 45 = .ok (.iaload, 1) := by decide +kernel
theorem dX0_settleAll_46 : decode cX0_settleAll 46 = .ok (.bipush 100, 2) := by decide +kernel
theorem dX0_settleAll_48 : decode cX0_settleAll 48 = .ok (.iload_n 1, 1) := by decide +kernel
theorem dX0_settleAll_49 : decode cX0_settleAll 49 = .ok (.isub, 1) := by decide +kernel
theorem dX0_settleAll_50 : decode cX0_settleAll 50 = .ok (.imul, 1) := by decide +kernel
theorem dX0_settleAll_51 : decode cX0_settleAll 51 = .ok (.bipush 100, 2) := by decide +kernel
theorem dX0_settleAll_53 : decode cX0_settleAll 53 = .ok (.idiv, 1) := by decide +kernel
theorem dX0_settleAll_54 : decode cX0_settleAll 54 = .ok (.invokestatic 91, 3) := by decide +kernel
theorem dX0_settleAll_57 : decode cX0_settleAll 57 = .ok (.iastore, 1) := by decide +kernel
theorem dX0_settleAll_58 : decode cX0_settleAll 58 = .ok (.aload_n 0, 1) := by decide +kernel
theorem dX0_settleAll_59 : decode cX0_settleAll 59 = .ok (.getfield 22, 3) := by decide +kernel
theorem dX0_settleAll_62 : decode cX0_settleAll 62 = .ok (.iload_n 2, 1) := by decide +kernel
theorem dX0_settleAll_63 : decode cX0_settleAll 63 = .ok (.sipush 600, 3) := by decide +kernel
theorem dX0_settleAll_66 : decode cX0_settleAll 66 = .ok (.iload_n 3, 1) := by decide +kernel
theorem dX0_settleAll_67 : decode cX0_settleAll 67 = .ok (.aload_n 0, 1) := by decide +kernel
theorem dX0_settleAll_68 : decode cX0_settleAll 68 = .ok (.getfield 18, 3) := by decide +kernel
theorem dX0_settleAll_71 : decode cX0_settleAll 71 = .ok (.iload_n 2, 1) := by decide +kernel
theorem dX0_settleAll_72 : decode cX0_settleAll 72 = .ok (.iaload, 1) := by decide +kernel
theorem dX0_settleAll_73 : decode cX0_settleAll 73 = .ok (.invokestatic 63, 3) := by decide +kernel
theorem dX0_settleAll_76 : decode cX0_settleAll 76 = .ok (.invokestatic 86, 3) := by decide +kernel
theorem dX0_settleAll_79 : decode cX0_settleAll 79 = .ok (.iastore, 1) := by decide +kernel
theorem dX0_settleAll_80 : decode cX0_settleAll 80 = .ok (.iinc 2 1, 3) := by decide +kernel
theorem dX0_settleAll_83 : decode cX0_settleAll 83 = .ok (.goto (-81), 3) := by decide +kernel
theorem dX0_settleAll_86 : decode cX0_settleAll 86 = .ok (.return_, 1) := by decide +kernel
theorem dX0_meltAway_0 : decode cX0_meltAway 0 = .ok (.iload_n 1, 1) := by decide +kernel
theorem dX0_meltAway_1 : decode cX0_meltAway 1 = .ok (.istore_n 2, 1) := by decide +kernel
theorem dX0_meltAway_2 : decode cX0_meltAway 2 = .ok (.aload_n 0, 1) := by decide +kernel
theorem dX0_meltAway_3 : decode cX0_meltAway 3 = .ok (.getfield 9, 3) := by decide +kernel
theorem dX0_meltAway_6 : decode cX0_meltAway 6 = .ok (.ifCond .le 45, 3) := by decide +kernel
theorem dX0_meltAway_9 : decode cX0_meltAway 9 = .ok (.iload_n 2, 1) := by decide +kernel
theorem dX0_meltAway_10 : decode cX0_meltAway 10 = .ok (.aload_n 0, 1) := by decide +kernel
theorem dX0_meltAway_11 : decode cX0_meltAway 11 = .ok (.getfield 18, 3) := by decide +kernel
theorem dX0_meltAway_14 : decode cX0_meltAway 14 = .ok (.aload_n 0, 1) := by decide +kernel
theorem dX0_meltAway_15 : decode cX0_meltAway 15 = .ok (.getfield 9, 3) := by decide +kernel
theorem dX0_meltAway_18 : decode cX0_meltAway 18 = .ok (.iconst 1, 1) := by decide +kernel
theorem dX0_meltAway_19 : decode cX0_meltAway 19 = .ok (.isub, 1) := by decide +kernel
theorem dX0_meltAway_20 : decode cX0_meltAway 20 = .ok (.iaload, 1) := by decide +kernel
theorem dX0_meltAway_21 : decode cX0_meltAway 21 = .ok (.if_icmp .lt 30, 3) := by decide +kernel
theorem dX0_meltAway_24 : decode cX0_meltAway 24 = .ok (.iload_n 2, 1) := by decide +kernel
theorem dX0_meltAway_25 : decode cX0_meltAway 25 = .ok (.aload_n 0, 1) := by decide +kernel
theorem dX0_meltAway_26 : decode cX0_meltAway 26 = .ok (.getfield 18, 3) := by decide +kernel
theorem dX0_meltAway_29 : decode cX0_meltAway 29 = .ok (.aload_n 0, 1) := by decide +kernel
theorem dX0_meltAway_30 : decode cX0_meltAway 30 = .ok (.getfield 9, 3) := by decide +kernel
theorem dX0_meltAway_33 : decode cX0_meltAway 33 = .ok (.iconst 1, 1) := by decide +kernel
theorem dX0_meltAway_34 : decode cX0_meltAway 34 = .ok (.isub, 1) := by decide +kernel
theorem dX0_meltAway_35 : decode cX0_meltAway 35 = .ok (.iaload, 1) := by decide +kernel
theorem dX0_meltAway_36 : decode cX0_meltAway 36 = .ok (.isub, 1) := by decide +kernel
theorem dX0_meltAway_37 : decode cX0_meltAway 37 = .ok (.istore_n 2, 1) := by decide +kernel
theorem dX0_meltAway_38 : decode cX0_meltAway 38 = .ok (.aload_n 0, 1) := by decide +kernel
theorem dX0_meltAway_39 : decode cX0_meltAway 39 = .ok (.dup, 1) := by decide +kernel
theorem dX0_meltAway_40 : decode cX0_meltAway 40 = .ok (.getfield 9, 3) := by decide +kernel
theorem dX0_meltAway_43 : decode cX0_meltAway 43 = .ok (.iconst 1, 1) := by decide +kernel
theorem dX0_meltAway_44 : decode cX0_meltAway 44 = .ok (.isub, 1) := by decide +kernel
theorem dX0_meltAway_45 : decode cX0_meltAway 45 = .ok (.putfield 9, 3) := by decide +kernel
theorem dX0_meltAway_48 : decode cX0_meltAway 48 = .ok (.goto (-46), 3) := by decide +kernel
theorem dX0_meltAway_51 : decode cX0_meltAway 51 = .ok (.aload_n 0, 1) := by decide +kernel
theorem dX0_meltAway_52 : decode cX0_meltAway 52 = .ok (.getfield 9, 3) := by decide +kernel
theorem dX0_meltAway_55 : decode cX0_meltAway 55 = .ok (.ifCond .le 18, 3) := by decide +kernel
theorem dX0_meltAway_58 : decode cX0_meltAway 58 = .ok (.aload_n 0, 1) := by decide +kernel
theorem dX0_meltAway_59 : decode cX0_meltAway 59 = .ok (.getfield 18, 3) := by decide +kernel
theorem dX0_meltAway_62 : decode cX0_meltAway 62 = .ok (.aload_n 0, 1) := by decide +kernel
theorem dX0_meltAway_63 : decode cX0_meltAway 63 = .ok (.getfield 9, 3) := by decide +kernel
theorem dX0_meltAway_66 : decode cX0_meltAway 66 = .ok (.iconst 1, 1) := by decide +kernel
theorem dX0_meltAway_67 : decode cX0_meltAway 67 = .ok (.isub, 1) := by decide +kernel
theorem dX0_meltAway_68 : decode cX0_meltAway 68 = .ok (.dup2, 1) := by decide +kernel
theorem dX0_meltAway_69 : decode cX0_meltAway 69 = .ok (.iaload, 1) := by decide +kernel
theorem dX0_meltAway_70 : decode cX0_meltAway 70 = .ok (.iload_n 2, 1) := by decide +kernel
theorem dX0_meltAway_71 : decode cX0_meltAway 71 = .ok (.isub, 1) := by decide +kernel
theorem dX0_meltAway_72 : decode cX0_meltAway 72 = .ok (.iastore, 1) := by decide +kernel
theorem dX0_meltAway_73 : decode cX0_meltAway 73 = .ok (.return_, 1) := by decide +kernel
theorem dX0_wetFromTop_0 : decode cX0_wetFromTop 0 = .ok (.aload_n 0, 1) := by decide +kernel
theorem dX0_wetFromTop_1 : decode cX0_wetFromTop 1 = .ok (.getfield 9, 3) := by decide +kernel
theorem dX0_wetFromTop_4 : decode cX0_wetFromTop 4 = .ok (.iconst 1, 1) := by decide +kernel
theorem dX0_wetFromTop_5 : decode cX0_wetFromTop 5 = .ok (.isub, 1) := by decide +kernel
theorem dX0_wetFromTop_6 : decode cX0_wetFromTop 6 = .ok (.istore_n 1, 1) := by decide +kernel
theorem dX0_wetFromTop_7 : decode cX0_wetFromTop 7 = .ok (.iload_n 1, 1) := by decide +kernel
theorem dX0_wetFromTop_8 : decode cX0_wetFromTop 8 = .ok (.ifCond .lt 26, 3) := by decide +kernel
theorem dX0_wetFromTop_11 : decode cX0_wetFromTop 11 = .ok (.aload_n 0, 1) := by decide +kernel
theorem dX0_wetFromTop_12 : decode cX0_wetFromTop 12 = .ok (.getfield 25, 3) := by decide +kernel
theorem dX0_wetFromTop_15 : decode cX0_wetFromTop 15 = .ok (.iload_n 1, 1) := by decide +kernel
theorem dX0_wetFromTop_16 : decode cX0_wetFromTop 16 = .ok (.iaload, 1) := by decide +kernel
theorem dX0_wetFromTop_17 : decode cX0_wetFromTop 17 = .ok (.iconst 4, 1) := by decide +kernel
theorem dX0_wetFromTop_18 : decode cX0_wetFromTop 18 = .ok (.if_icmp .eq 16, 3) := by decide +kernel
theorem dX0_wetFromTop_21 : decode cX0_wetFromTop 21 = .ok (.aload_n 0, 1) := by decide +kernel
theorem dX0_wetFromTop_22 : decode cX0_wetFromTop 22 = .ok (.getfield 31, 3) := by decide +kernel
theorem dX0_wetFromTop_25 : decode cX0_wetFromTop 25 = .ok (.iload_n 1, 1) := by decide +kernel
theorem dX0_wetFromTop_26 : decode cX0_wetFromTop 26 = .ok (.iconst 1, 1) := by decide +kernel
theorem dX0_wetFromTop_27 : decode cX0_wetFromTop 27 = .ok (.bastore, 1) := by decide +kernel
theorem dX0_wetFromTop_28 : decode cX0_wetFromTop 28 = .ok (.iinc 1 (-1), 3) := by decide +kernel
theorem dX0_wetFromTop_31 : decode cX0_wetFromTop 31 = .ok (.goto (-24), 3) := by decide +kernel
theorem dX0_wetFromTop_34 : decode cX0_wetFromTop 34 = .ok (.return_, 1) := by decide +kernel
theorem dX0_freezeWet_0 : decode cX0_freezeWet 0 = .ok (.iconst 0, 1) := by decide +kernel
theorem dX0_freezeWet_1 : decode cX0_freezeWet 1 = .ok (.istore_n 1, 1) := by decide +kernel
theorem dX0_freezeWet_2 : decode cX0_freezeWet 2 = .ok (.iconst 0, 1) := by decide +kernel
theorem dX0_freezeWet_3 : decode cX0_freezeWet 3 = .ok (.istore_n 2, 1) := by decide +kernel
theorem dX0_freezeWet_4 : decode cX0_freezeWet 4 = .ok (.iload_n 2, 1) := by decide +kernel
theorem dX0_freezeWet_5 : decode cX0_freezeWet 5 = .ok (.aload_n 0, 1) := by decide +kernel
theorem dX0_freezeWet_6 : decode cX0_freezeWet 6 = .ok (.getfield 9, 3) := by decide +kernel
theorem dX0_freezeWet_9 : decode cX0_freezeWet 9 = .ok (.if_icmp .ge 42, 3) := by decide +kernel
theorem dX0_freezeWet_12 : decode cX0_freezeWet 12 = .ok (.aload_n 0, 1) := by decide +kernel
theorem dX0_freezeWet_13 : decode cX0_freezeWet 13 = .ok (.getfield 31, 3) := by decide +kernel
theorem dX0_freezeWet_16 : decode cX0_freezeWet 16 = .ok (.iload_n 2, 1) := by decide +kernel
theorem dX0_freezeWet_17 : decode cX0_freezeWet 17 = .ok (.baload, 1) := by decide +kernel
theorem dX0_freezeWet_18 : decode cX0_freezeWet 18 = .ok (.ifCond .eq 27, 3) := by decide +kernel
theorem dX0_freezeWet_21 : decode cX0_freezeWet 21 = .ok (.aload_n 0, 1) := by decide +kernel
theorem dX0_freezeWet_22 : decode cX0_freezeWet 22 = .ok (.getfield 25, 3) := by decide +kernel
theorem dX0_freezeWet_25 : decode cX0_freezeWet 25 = .ok (.iload_n 2, 1) := by decide +kernel
theorem dX0_freezeWet_26 : decode cX0_freezeWet 26 = .ok (.iconst 4, 1) := by decide +kernel
theorem dX0_freezeWet_27 : decode cX0_freezeWet 27 = .ok (.iastore, 1) := by decide +kernel
theorem dX0_freezeWet_28 : decode cX0_freezeWet 28 = .ok (.aload_n 0, 1) := by decide +kernel
theorem dX0_freezeWet_29 : decode cX0_freezeWet 29 = .ok (.getfield 28, 3) := by decide +kernel
theorem dX0_freezeWet_32 : decode cX0_freezeWet 32 = .ok (.iload_n 2, 1) := by decide +kernel
theorem dX0_freezeWet_33 : decode cX0_freezeWet 33 = .ok (.iconst 5, 1) := by decide +kernel
theorem dX0_freezeWet_34 : decode cX0_freezeWet 34 = .ok (.iastore, 1) := by decide +kernel
theorem dX0_freezeWet_35 : decode cX0_freezeWet 35 = .ok (.aload_n 0, 1) := by decide +kernel
theorem dX0_freezeWet_36 : decode cX0_freezeWet 36 = .ok (.getfield 31, 3) := by decide +kernel
theorem dX0_freezeWet_39 : decode cX0_freezeWet 39 = .ok (.iload_n 2, 1) := by decide +kernel
theorem dX0_freezeWet_40 : decode cX0_freezeWet 40 = .ok (.iconst 0, 1) := by decide +kernel
theorem dX0_freezeWet_41 : decode cX0_freezeWet 41 = .ok (.bastore, 1) := by decide +kernel
theorem dX0_freezeWet_42 : decode cX0_freezeWet 42 = .ok (.iinc 1 1, 3) := by decide +kernel
theorem dX0_freezeWet_45 : decode cX0_freezeWet 45 = .ok (.iinc 2 1, 3) := by decide +kernel
theorem dX0_freezeWet_48 : decode cX0_freezeWet 48 = .ok (.goto (-44), 3) := by decide +kernel
theorem dX0_freezeWet_51 : decode cX0_freezeWet 51 = .ok (.iload_n 1, 1) := by decide +kernel
theorem dX0_freezeWet_52 : decode cX0_freezeWet 52 = .ok (.ireturn, 1) := by decide +kernel
set_option maxRecDepth 20000 in
theorem ggX1_heatIn_X3_within : GoodIn wsX1_heatIn wsX3_within := goodIn_r _ [13] (by decide +kernel) (by decide +kernel)
set_option maxRecDepth 20000 in
theorem gX1_heatIn_X3_within_n9 : GoodIn wsX1_heatIn (wsX3_within) := ggX1_heatIn_X3_within
theorem dX1_heatIn_0 : decode cX1_heatIn 0 = .ok (.iload_n 1, 1) := by decide +kernel
theorem dX1_heatIn_1 : decode cX1_heatIn 1 = .ok (.bipush 6, 2) := by decide +kernel
theorem dX1_heatIn_3 : decode cX1_heatIn 3 = .ok (.bipush 18, 2) := by decide +kernel
theorem dX1_heatIn_5 : decode cX1_heatIn 5 = .ok (.invokestatic 9, 3) := by decide +kernel
theorem dX1_heatIn_8 : decode cX1_heatIn 8 = .ok (.ifCond .ne 5, 3) := by decide +kernel
theorem dX1_heatIn_11 : decode cX1_heatIn 11 = .ok (.iconst 0, 1) := by decide +kernel
theorem dX1_heatIn_12 : decode cX1_heatIn 12 = .ok (.ireturn, 1) := by decide +kernel
theorem dX1_heatIn_13 : decode cX1_heatIn 13 = .ok (.bipush 45, 2) := by decide +kernel
theorem dX1_heatIn_15 : decode cX1_heatIn 15 = .ok (.iload_n 0, 1) := by decide +kernel
theorem dX1_heatIn_16 : decode cX1_heatIn 16 = .ok (.imul, 1) := by decide +kernel
theorem dX1_heatIn_17 : decode cX1_heatIn 17 = .ok (.bipush 15, 2) := by decide +kernel
theorem dX1_heatIn_19 : decode cX1_heatIn 19 = .ok (.iload_n 1, 1) := by decide +kernel
theorem dX1_heatIn_20 : decode cX1_heatIn 20 = .ok (.imul, 1) := by decide +kernel
theorem dX1_heatIn_21 : decode cX1_heatIn 21 = .ok (.isub, 1) := by decide +kernel
theorem dX1_heatIn_22 : decode cX1_heatIn 22 = .ok (.invokestatic 13, 3) := by decide +kernel
theorem dX1_heatIn_25 : decode cX1_heatIn 25 = .ok (.istore_n 2, 1) := by decide +kernel
theorem dX1_heatIn_26 : decode cX1_heatIn 26 = .ok (.iload_n 2, 1) := by decide +kernel
theorem dX1_heatIn_27 : decode cX1_heatIn 27 = .ok (.sipush 360, 3) := by decide +kernel
theorem dX1_heatIn_30 : decode cX1_heatIn 30 = .ok (.iload_n 2, 1) := by decide +kernel
theorem dX1_heatIn_31 : decode cX1_heatIn 31 = .ok (.isub, 1) := by decide +kernel
theorem dX1_heatIn_32 : decode cX1_heatIn 32 = .ok (.invokestatic 19, 3) := by decide +kernel
theorem dX1_heatIn_35 : decode cX1_heatIn 35 = .ok (.istore_n 3, 1) := by decide +kernel
theorem dX1_heatIn_36 : decode cX1_heatIn 36 = .ok (.iconst 0, 1) := by decide +kernel
theorem dX1_heatIn_37 : decode cX1_heatIn 37 = .ok (.bipush 90, 2) := by decide +kernel
theorem dX1_heatIn_39 : decode cX1_heatIn 39 = .ok (.iload_n 3, 1) := by decide +kernel
theorem dX1_heatIn_40 : decode cX1_heatIn 40 = .ok (.isub, 1) := by decide +kernel
theorem dX1_heatIn_41 : decode cX1_heatIn 41 = .ok (.invokestatic 23, 3) := by decide +kernel
theorem dX1_heatIn_44 : decode cX1_heatIn 44 = .ok (.ireturn, 1) := by decide +kernel
set_option maxRecDepth 20000 in
theorem ggX1_heatUpTo_X1_heatIn : GoodIn wsX1_heatUpTo wsX1_heatIn := goodIn_r _ [4, 5, 6, 7, 8, 9, 10, 11, 12, 13, 14, 15, 16, 17] (by decide +kernel) (by decide +kernel)
set_option maxRecDepth 20000 in
theorem gX1_heatUpTo_X1_heatIn : GoodIn wsX1_heatUpTo (va_wsS RX1 26 yX1_heatIn wsX1_heatIn) := goodIn_app (goodIn_of _ (by decide +kernel)) ggX1_heatUpTo_X1_heatIn
theorem dX1_heatUpTo_0 : decode cX1_heatUpTo 0 = .ok (.iconst 0, 1) := by decide +kernel
theorem dX1_heatUpTo_1 : decode cX1_heatUpTo 1 = .ok (.istore_n 2, 1) := by decide +kernel
theorem dX1_heatUpTo_2 : decode cX1_heatUpTo 2 = .ok (.iconst 0, 1) := by decide +kernel
theorem dX1_heatUpTo_3 : decode cX1_heatUpTo 3 = .ok (.istore_n 3, 1) := by decide +kernel
theorem dX1_heatUpTo_4 : decode cX1_heatUpTo 4 = .ok (.iload_n 3, 1) := by decide +kernel
theorem dX1_heatUpTo_5 : decode cX1_heatUpTo 5 = .ok (.iload_n 1, 1) := by decide +kernel
theorem dX1_heatUpTo_6 : decode cX1_heatUpTo 6 = .ok (.if_icmp .gt 17, 3) := by decide +kernel
theorem dX1_heatUpTo_9 : decode cX1_heatUpTo 9 = .ok (.iload_n 2, 1) := by decide +kernel
theorem dX1_heatUpTo_10 : decode cX1_heatUpTo 10 = .ok (.iload_n 0, 1) := by decide +kernel
theorem dX1_heatUpTo_11 : decode cX1_heatUpTo 11 = .ok (.iload_n 3, 1) := by decide +kernel
theorem dX1_heatUpTo_12 : decode cX1_heatUpTo 12 = .ok (.invokestatic 26, 3) := by decide +kernel
theorem dX1_heatUpTo_15 : decode cX1_heatUpTo 15 = .ok (.iadd, 1) := by decide +kernel
theorem dX1_heatUpTo_16 : decode cX1_heatUpTo 16 = .ok (.istore_n 2, 1) := by decide +kernel
theorem dX1_heatUpTo_17 : decode cX1_heatUpTo 17 = .ok (.iinc 3 1, 3) := by decide +kernel
theorem dX1_heatUpTo_20 : decode cX1_heatUpTo 20 = .ok (.goto (-16), 3) := by decide +kernel
theorem dX1_heatUpTo_23 : decode cX1_heatUpTo 23 = .ok (.iload_n 2, 1) := by decide +kernel
theorem dX1_heatUpTo_24 : decode cX1_heatUpTo 24 = .ok (.ireturn, 1) := by decide +kernel
set_option maxRecDepth 20000 in
theorem ggX1_warmHour_X1_heatIn : GoodIn wsX1_warmHour wsX1_heatIn := goodIn_r _ [4, 5, 6, 7, 8, 9, 10, 11, 12, 13, 14, 15, 16, 17] (by decide +kernel) (by decide +kernel)
set_option maxRecDepth 20000 in
theorem gX1_warmHour_X1_heatIn : GoodIn wsX1_warmHour (va_wsS RX1 26 yX1_heatIn wsX1_heatIn) := goodIn_app (goodIn_of _ (by decide +kernel)) ggX1_warmHour_X1_heatIn
theorem dX1_warmHour_0 : decode cX1_warmHour 0 = .ok (.iconst 0, 1) := by decide +kernel
theorem dX1_warmHour_1 : decode cX1_warmHour 1 = .ok (.istore_n 2, 1) := by decide +kernel
theorem dX1_warmHour_2 : decode cX1_warmHour 2 = .ok (.iconst 0, 1) := by decide +kernel
theorem dX1_warmHour_3 : decode cX1_warmHour 3 = .ok (.istore_n 3, 1) := by decide +kernel
theorem dX1_warmHour_4 : decode cX1_warmHour 4 = .ok (.iload_n 3, 1) := by decide +kernel
theorem dX1_warmHour_5 : decode cX1_warmHour 5 = .ok (.bipush 24, 2) := by decide +kernel
theorem dX1_warmHour_7 : decode cX1_warmHour 7 = .ok (.if_icmp .ge 24, 3) := by decide +kernel
theorem dX1_warmHour_10 : decode cX1_warmHour 10 = .ok (.iload_n 2, 1) := by decide +kernel
theorem dX1_warmHour_11 : decode cX1_warmHour 11 = .ok (.iload_n 0, 1) := by decide +kernel
theorem dX1_warmHour_12 : decode cX1_warmHour 12 = .ok (.iload_n 3, 1) := by decide +kernel
theorem dX1_warmHour_13 : decode cX1_warmHour 13 = .ok (.invokestatic 26, 3) := by decide +kernel
theorem dX1_warmHour_16 : decode cX1_warmHour 16 = .ok (.iadd, 1) := by decide +kernel
theorem dX1_warmHour_17 : decode cX1_warmHour 17 = .ok (.istore_n 2, 1) := by decide +kernel
theorem dX1_warmHour_18 : decode cX1_warmHour 18 = .ok (.iload_n 2, 1) := by decide +kernel
theorem dX1_warmHour_19 : decode cX1_warmHour 19 = .ok (.iload_n 1, 1) := by decide +kernel
theorem dX1_warmHour_20 : decode cX1_warmHour 20 = .ok (.if_icmp .lt 5, 3) := by decide +kernel
theorem dX1_warmHour_23 : decode cX1_warmHour 23 = .ok (.iload_n 3, 1) := by decide +kernel
theorem dX1_warmHour_24 : decode cX1_warmHour 24 = .ok (.ireturn, 1) := by decide +kernel
theorem dX1_warmHour_25 : decode cX1_warmHour 25 = .ok (.iinc 3 1, 3) := by decide +kernel
theorem dX1_warmHour_28 : decode cX1_warmHour 28 = .ok (.goto (-24), 3) := by decide +kernel
theorem dX1_warmHour_31 : decode cX1_warmHour 31 = .ok (.bipush (-6), 2) := by decide +kernel
theorem dX1_warmHour_33 : decode cX1_warmHour 33 = .ok (.ireturn, 1) := by decide +kernel
set_option maxRecDepth 20000 in
theorem ggX1_warmSides_X1_warmHour : GoodIn wsX1_warmSides wsX1_warmHour := goodIn_r _ [4, 5, 6, 3, 7, 8, 9, 10, 11, 12, 13, 14, 15, 16, 17, 18, 19, 20] (by decide +kernel) (by decide +kernel)
set_option maxRecDepth 20000 in
theorem gX1_warmSides_X1_warmHour : GoodIn wsX1_warmSides (va_wsS RX1 31 yX1_warmHour wsX1_warmHour) := goodIn_app (goodIn_of _ (by decide +kernel)) ggX1_warmSides_X1_warmHour
theorem dX1_warmSides_0 : decode cX1_warmSides 0 = .ok (.iconst 0, 1) := by decide +kernel
theorem dX1_warmSides_1 : decode cX1_warmSides 1 = .ok (.istore_n 1, 1) := by decide +kernel
theorem dX1_warmSides_2 : decode cX1_warmSides 2 = .ok (.iconst 0, 1) := by decide +kernel
theorem dX1_warmSides_3 : decode cX1_warmSides 3 = .ok (.istore_n 2, 1) := by decide +kernel
theorem dX1_warmSides_4 : decode cX1_warmSides 4 = .ok (.iload_n 2, 1) := by decide +kernel
theorem dX1_warmSides_5 : decode cX1_warmSides 5 = .ok (.bipush 8, 2) := by decide +kernel
theorem dX1_warmSides_7 : decode cX1_warmSides 7 = .ok (.if_icmp .ge 22, 3) := by decide +kernel
theorem dX1_warmSides_10 : decode cX1_warmSides 10 = .ok (.iload_n 2, 1) := by decide +kernel
theorem dX1_warmSides_11 : decode cX1_warmSides 11 = .ok (.iload_n 0, 1) := by decide +kernel
theorem dX1_warmSides_12 : decode cX1_warmSides 12 = .ok (.invokestatic 31, 3) := by decide +kernel
theorem dX1_warmSides_15 : decode cX1_warmSides 15 = .ok (.bipush (-6), 2) := by decide +kernel
theorem dX1_warmSides_17 : decode cX1_warmSides 17 = .ok (.if_icmp .eq 6, 3) := by decide +kernel
theorem dX1_warmSides_20 : decode cX1_warmSides 20 = .ok (.iinc 1 1, 3) := by decide +kernel
theorem dX1_warmSides_23 : decode cX1_warmSides 23 = .ok (.iinc 2 1, 3) := by decide +kernel
theorem dX1_warmSides_26 : decode cX1_warmSides 26 = .ok (.goto (-22), 3) := by decide +kernel
theorem dX1_warmSides_29 : decode cX1_warmSides 29 = .ok (.iload_n 1, 1) := by decide +kernel
theorem dX1_warmSides_30 : decode cX1_warmSides 30 = .ok (.ireturn, 1) := by decide +kernel
set_option maxRecDepth 20000 in
theorem ggX1_sideAtPlace_X1_warmHour : GoodIn wsX1_sideAtPlace wsX1_warmHour := goodIn_r _ [4, 5, 6, 3, 7, 8, 9, 10, 11, 12, 13, 14, 15, 16, 17, 18, 19, 20] (by decide +kernel) (by decide +kernel)
set_option maxRecDepth 20000 in
theorem gX1_sideAtPlace_X1_warmHour : GoodIn wsX1_sideAtPlace (va_wsS RX1 31 yX1_warmHour wsX1_warmHour) := goodIn_app (goodIn_of _ (by decide +kernel)) ggX1_sideAtPlace_X1_warmHour
theorem dX1_sideAtPlace_0 : decode cX1_sideAtPlace 0 = .ok (.iconst 0, 1) := by decide +kernel
theorem dX1_sideAtPlace_1 : decode cX1_sideAtPlace 1 = .ok (.istore_n 2, 1) := by decide +kernel
theorem dX1_sideAtPlace_2 : decode cX1_sideAtPlace 2 = .ok (.iconst 0, 1) := by decide +kernel
theorem dX1_sideAtPlace_3 : decode cX1_sideAtPlace 3 = .ok (.istore_n 3, 1) := by decide +kernel
theorem dX1_sideAtPlace_4 : decode cX1_sideAtPlace 4 = .ok (.iload_n 3, 1) := by decide +kernel
theorem dX1_sideAtPlace_5 : decode cX1_sideAtPlace 5 = .ok (.bipush 24, 2) := by decide +kernel
theorem dX1_sideAtPlace_7 : decode cX1_sideAtPlace 7 = .ok (.if_icmp .ge 46, 3) := by decide +kernel
theorem dX1_sideAtPlace_10 : decode cX1_sideAtPlace 10 = .ok (.iconst 0, 1) := by decide +kernel
theorem dX1_sideAtPlace_11 : decode cX1_sideAtPlace 11 = .ok (.istore 4, 2) := by decide +kernel
theorem dX1_sideAtPlace_13 : decode cX1_sideAtPlace 13 = .ok (.iload 4, 2) := by decide +kernel
theorem dX1_sideAtPlace_15 : decode cX1_sideAtPlace 15 = .ok (.bipush 8, 2) := by decide +kernel
theorem dX1_sideAtPlace_17 : decode cX1_sideAtPlace 17 = .ok (.if_icmp .ge 30, 3) := by decide +kernel
theorem dX1_sideAtPlace_20 : decode cX1_sideAtPlace 20 = .ok (.iload 4, 2) := by decide +kernel
theorem dX1_sideAtPlace_22 : decode cX1_sideAtPlace 22 = .ok (.iload_n 0, 1) := by decide +kernel
theorem dX1_sideAtPlace_23 : decode cX1_sideAtPlace 23 = .ok (.invokestatic 31, 3) := by decide +kernel
theorem dX1_sideAtPlace_26 : decode cX1_sideAtPlace 26 = .ok (.iload_n 3, 1) := by decide +kernel
theorem dX1_sideAtPlace_27 : decode cX1_sideAtPlace 27 = .ok (.if_icmp .ne 14, 3) := by decide +kernel
theorem dX1_sideAtPlace_30 : decode cX1_sideAtPlace 30 = .ok (.iload_n 2, 1) := by decide +kernel
theorem dX1_sideAtPlace_31 : decode cX1_sideAtPlace 31 = .ok (.iload_n 1, 1) := by decide +kernel
theorem dX1_sideAtPlace_32 : decode cX1_sideAtPlace 32 = .ok (.if_icmp .ne 6, 3) := by decide +kernel
theorem dX1_sideAtPlace_35 : decode cX1_sideAtPlace 35 = .ok (.iload 4, 2) := by decide +kernel
theorem dX1_sideAtPlace_37 : decode cX1_sideAtPlace 37 = .ok (.ireturn, 1) := by decide +kernel
theorem dX1_sideAtPlace_38 : decode cX1_sideAtPlace 38 = .ok (.iinc 2 1, 3) := by decide +kernel
theorem dX1_sideAtPlace_41 : decode cX1_sideAtPlace 41 = .ok (.iinc 4 1, 3) := by decide +kernel
theorem dX1_sideAtPlace_44 : decode cX1_sideAtPlace 44 = .ok (.goto (-31), 3) := by decide +kernel
theorem dX1_sideAtPlace_47 : decode cX1_sideAtPlace 47 = .ok (.iinc 3 1, 3) := by decide +kernel
theorem dX1_sideAtPlace_50 : decode cX1_sideAtPlace 50 = .ok (.goto (-46), 3) := by decide +kernel
theorem dX1_sideAtPlace_53 : decode cX1_sideAtPlace 53 = .ok (.bipush (-6), 2) := by decide +kernel
theorem dX1_sideAtPlace_55 : decode cX1_sideAtPlace 55 = .ok (.ireturn, 1) := by decide +kernel
theorem dX2_init_0 : decode cX2_init 0 = .ok (.aload_n 0, 1) := by decide +kernel
theorem dX2_init_1 : decode cX2_init 1 = .ok (.invokespecial 3, 3) := by decide +kernel
theorem dX2_init_4 : decode cX2_init 4 = .ok (.aload_n 0, 1) := by decide +kernel
theorem dX2_init_5 : decode cX2_init 5 = .ok (.iconst 0, 1) := by decide +kernel
theorem dX2_init_6 : decode cX2_init 6 = .ok (.putfield 9, 3) := by decide +kernel
theorem dX2_init_9 : decode cX2_init 9 = .ok (.aload_n 0, 1) := by decide +kernel
theorem dX2_init_10 : decode cX2_init 10 = .ok (.bipush 10, 2) := by decide +kernel
theorem dX2_init_12 : decode cX2_init 12 = .ok (.newarray .int, 2) := by decide +kernel
theorem dX2_init_14 : decode cX2_init 14 = .ok (.putfield 15, 3) := by decide +kernel
theorem dX2_init_17 : decode cX2_init 17 = .ok (.aload_n 0, 1) := by decide +kernel
theorem dX2_init_18 : decode cX2_init 18 = .ok (.bipush 10, 2) := by decide +kernel
theorem dX2_init_20 : decode cX2_init 20 = .ok (.newarray .int, 2) := by decide +kernel
theorem dX2_init_22 : decode cX2_init 22 = .ok (.putfield 19, 3) := by decide +kernel
theorem dX2_init_25 : decode cX2_init 25 = .ok (.return_, 1) := by decide +kernel
theorem dX2_weightOf_0 : decode cX2_weightOf 0 = .ok (.iload_n 0, 1) := by decide +kernel
theorem dX2_weightOf_1 : decode cX2_weightOf 1 = .ok (.bipush 10, 2) := by decide +kernel
theorem dX2_weightOf_3 : decode cX2_weightOf 3 = .ok (.if_icmp .gt 5, 3) := by decide +kernel
theorem dX2_weightOf_6 : decode cX2_weightOf 6 = .ok (.iload_n 1, 1) := by decide +kernel
theorem dX2_weightOf_7 : decode cX2_weightOf 7 = .ok (.ireturn, 1) := by decide +kernel
theorem dX2_weightOf_8 : decode cX2_weightOf 8 = .ok (.iload_n 0, 1) := by decide +kernel
theorem dX2_weightOf_9 : decode cX2_weightOf 9 = .ok (.bipush 20, 2) := by decide +kernel
theorem dX2_weightOf_11 : decode cX2_weightOf 11 = .ok (.if_icmp .gt 9, 3) := by decide +kernel
theorem dX2_weightOf_14 : decode cX2_weightOf 14 = .ok (.iconst 2, 1) := by decide +kernel
theorem dX2_weightOf_15 : decode cX2_weightOf 15 = .ok (.iload_n 1, 1) := by decide +kernel
theorem dX2_weightOf_16 : decode cX2_weightOf 16 = .ok (.imul, 1) := by decide +kernel
theorem dX2_weightOf_17 : decode cX2_weightOf 17 = .ok (.goto 6, 3) := by decide +kernel
theorem dX2_weightOf_20 : decode cX2_weightOf 20 = .ok (.iconst 4, 1) := by decide +kernel
theorem dX2_weightOf_21 : decode cX2_weightOf 21 = .ok (.iload_n 1, 1) := by decide +kernel
theorem dX2_weightOf_22 : decode cX2_weightOf 22 = .ok (.imul, 1) := by decide +kernel
theorem dX2_weightOf_23 : decode cX2_weightOf 23 = .ok (.ireturn, 1) := by decide +kernel
set_option maxRecDepth 20000 in
theorem ggX2_run_X2_weightOf : GoodIn wsX2_run wsX2_weightOf := goodIn_r _ [9] (by decide +kernel) (by decide +kernel)
set_option maxRecDepth 20000 in
theorem gX2_run_X2_weightOf : GoodIn wsX2_run (va_wsS RX2 30 yX2_weightOf wsX2_weightOf) := goodIn_app (goodIn_of _ (by decide +kernel)) ggX2_run_X2_weightOf
set_option maxRecDepth 20000 in
theorem ggX2_run_X0_breaking : GoodIn wsX2_run wsX0_breaking := goodIn_r _ [14, 15, 16, 17, 13, 18, 19, 20, 21, 22, 23, 24, 25, 26, 27, 28, 29, 30, 31, 32, 33, 34, 35, 36, 37, 38, 39, 40, 41, 42, 43, 47, 48, 49, 50, 51, 52, 53, 54] (by decide +kernel) (by decide +kernel)
set_option maxRecDepth 20000 in
theorem gX2_run_X0_breaking : GoodIn wsX2_run (wsV RX2 34 RX0 yX0_breaking wsX0_breaking) := goodIn_app (goodIn_of _ (by decide +kernel)) ggX2_run_X0_breaking
theorem dX2_run_0 : decode cX2_run 0 = .ok (.aload_n 0, 1) := by decide +kernel
theorem dX2_run_1 : decode cX2_run 1 = .ok (.iconst 0, 1) := by decide +kernel
theorem dX2_run_2 : decode cX2_run 2 = .ok (.putfield 9, 3) := by decide +kernel
theorem dX2_run_5 : decode cX2_run 5 = .ok (.aload_n 1, 1) := by decide +kernel
theorem dX2_run_6 : decode cX2_run 6 = .ok (.getfield 22, 3) := by decide +kernel
theorem dX2_run_9 : decode cX2_run 9 = .ok (.istore_n 2, 1) := by decide +kernel
theorem dX2_run_10 : decode cX2_run 10 = .ok (.iconst 1, 1) := by decide +kernel
theorem dX2_run_11 : decode cX2_run 11 = .ok (.istore_n 3, 1) := by decide +kernel
theorem dX2_run_12 : decode cX2_run 12 = .ok (.iload_n 3, 1) := by decide +kernel
theorem dX2_run_13 : decode cX2_run 13 = .ok (.bipush 30, 2) := by decide +kernel
theorem dX2_run_15 : decode cX2_run 15 = .ok (.if_icmp .gt 76, 3) := by decide +kernel
theorem dX2_run_18 : decode cX2_run 18 = .ok (.aload_n 1, 1) := by decide +kernel
theorem dX2_run_19 : decode cX2_run 19 = .ok (.iload_n 2, 1) := by decide +kernel
theorem dX2_run_20 : decode cX2_run 20 = .ok (.iload_n 3, 1) := by decide +kernel
theorem dX2_run_21 : decode cX2_run 21 = .ok (.aload_n 1, 1) := by decide +kernel
theorem dX2_run_22 : decode cX2_run 22 = .ok (.getfield 27, 3) := by decide +kernel
theorem dX2_run_25 : decode cX2_run 25 = .ok (.invokestatic 30, 3) := by decide +kernel
theorem dX2_run_28 : decode cX2_run 28 = .ok (.invokevirtual 34, 3) := by decide +kernel
theorem dX2_run_31 : decode cX2_run 31 = .ok (.istore 4, 2) := by decide +kernel
theorem dX2_run_33 : decode cX2_run 33 = .ok (.iload 4, 2) := by decide +kernel
theorem dX2_run_35 : decode cX2_run 35 = .ok (.bipush (-6), 2) := by decide +kernel
theorem dX2_run_37 : decode cX2_run 37 = .ok (.if_icmp .eq 48, 3) := by decide +kernel
theorem dX2_run_40 : decode cX2_run 40 = .ok (.aload_n 0, 1) := by decide +kernel
theorem dX2_run_41 : decode cX2_run 41 = .ok (.getfield 9, 3) := by decide +kernel
theorem dX2_run_44 : decode cX2_run 44 = .ok (.bipush 10, 2) := by decide +kernel
theorem dX2_run_46 : decode cX2_run 46 = .ok (.if_icmp .ge 39, 3) := by decide +kernel
theorem dX2_run_49 : decode cX2_run 49 = .ok (.aload_n 0, 1) := by decide +kernel
theorem dX2_run_50 : decode cX2_run 50 = .ok (.getfield 15, 3) := by decide +kernel
theorem dX2_run_53 : decode cX2_run 53 = .ok (.aload_n 0, 1) := by decide +kernel
theorem dX2_run_54 : decode cX2_run 54 = .ok (.getfield 9, 3) := by decide +kernel
theorem dX2_run_57 : decode cX2_run 57 = .ok (.iload_n 3, 1) := by decide +kernel
theorem dX2_run_58 : decode cX2_run 58 = .ok (.iastore, 1) := by decide +kernel
theorem dX2_run_59 : decode cX2_run 59 = .ok (.aload_n 0, 1) := by decide +kernel
theorem dX2_run_60 : decode cX2_run 60 = .ok (.getfield 19, 3) := by decide +kernel
theorem dX2_run_63 : decode cX2_run 63 = .ok (.aload_n 0, 1) := by decide +kernel
theorem dX2_run_64 : decode cX2_run 64 = .ok (.getfield 9, 3) := by decide +kernel
theorem dX2_run_67 : decode cX2_run 67 = .ok (.iload 4, 2) := by decide +kernel
theorem dX2_run_69 : decode cX2_run 69 = .ok (.iastore, 1) := by decide +kernel
theorem dX2_run_70 : decode cX2_run 70 = .ok (.aload_n 0, 1) := by decide +kernel
theorem dX2_run_71 : decode cX2_run 71 = .ok (.dup, 1) := by decide +kernel
theorem dX2_run_72 : decode cX2_run 72 = .ok (.getfield 9, 3) := by decide +kernel
theorem dX2_run_75 : decode cX2_run 75 = .ok (.iconst 1, 1) := by decide +kernel
theorem dX2_run_76 : decode cX2_run 76 = .ok (.iadd, 1) := by decide +kernel
theorem dX2_run_77 : decode cX2_run 77 = .ok (.putfield 9, 3) := by decide +kernel
theorem dX2_run_80 : decode cX2_run 80 = .ok (.iload 4, 2) := by decide +kernel
theorem dX2_run_82 : decode cX2_run 82 = .ok (.iconst 1, 1) := by decide +kernel
theorem dX2_run_83 : decode cX2_run 83 = .ok (.iadd, 1) := by decide +kernel
theorem dX2_run_84 : decode cX2_run 84 = .ok (.istore_n 2, 1) := by decide +kernel
theorem dX2_run_85 : decode cX2_run 85 = .ok (.iinc 3 1, 3) := by decide +kernel
theorem dX2_run_88 : decode cX2_run 88 = .ok (.goto (-76), 3) := by decide +kernel
theorem dX2_run_91 : decode cX2_run 91 = .ok (.return_, 1) := by decide +kernel
theorem dX2_isClean_0 : decode cX2_isClean 0 = .ok (.aload_n 0, 1) := by decide +kernel
theorem dX2_isClean_1 : decode cX2_isClean 1 = .ok (.getfield 19, 3) := by decide +kernel
theorem dX2_isClean_4 : decode cX2_isClean 4 = .ok (.iload_n 2, 1) := by decide +kernel
theorem dX2_isClean_5 : decode cX2_isClean 5 = .ok (.iaload, 1) := by decide +kernel
theorem dX2_isClean_6 : decode cX2_isClean 6 = .ok (.istore_n 3, 1) := by decide +kernel
theorem dX2_isClean_7 : decode cX2_isClean 7 = .ok (.aload_n 1, 1) := by decide +kernel
theorem dX2_isClean_8 : decode cX2_isClean 8 = .ok (.getfield 37, 3) := by decide +kernel
theorem dX2_isClean_11 : decode cX2_isClean 11 = .ok (.iload_n 3, 1) := by decide +kernel
theorem dX2_isClean_12 : decode cX2_isClean 12 = .ok (.iconst 1, 1) := by decide +kernel
theorem dX2_isClean_13 : decode cX2_isClean 13 = .ok (.iadd, 1) := by decide +kernel
theorem dX2_isClean_14 : decode cX2_isClean 14 = .ok (.iaload, 1) := by decide +kernel
theorem dX2_isClean_15 : decode cX2_isClean 15 = .ok (.aload_n 1, 1) := by decide +kernel
theorem dX2_isClean_16 : decode cX2_isClean 16 = .ok (.getfield 37, 3) := by decide +kernel
theorem dX2_isClean_19 : decode cX2_isClean 19 = .ok (.iload_n 3, 1) := by decide +kernel
theorem dX2_isClean_20 : decode cX2_isClean 20 = .ok (.iaload, 1) := by decide +kernel
theorem dX2_isClean_21 : decode cX2_isClean 21 = .ok (.isub, 1) := by decide +kernel
theorem dX2_isClean_22 : decode cX2_isClean 22 = .ok (.invokestatic 40, 3) := by decide +kernel
theorem dX2_isClean_25 : decode cX2_isClean 25 = .ok (.iconst 2, 1) := by decide +kernel
theorem dX2_isClean_26 : decode cX2_isClean 26 = .ok (.if_icmp .lt 7, 3) := by decide +kernel
theorem dX2_isClean_29 : decode cX2_isClean 29 = .ok (.iconst 1, 1) := by decide +kernel
theorem dX2_isClean_30 : decode cX2_isClean 30 = .ok (.goto 4, 3) := by decide +kernel
theorem dX2_isClean_33 : decode cX2_isClean 33 = .ok (.iconst 0, 1) := by decide +kernel
theorem dX2_isClean_34 : decode cX2_isClean 34 = .ok (.ireturn, 1) := by decide +kernel
