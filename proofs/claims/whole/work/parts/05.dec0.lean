theorem dX1_init_0 : decode cX1_init 0 = .ok (.aload_n 0, 1) := by decide +kernel
theorem dX1_init_1 : decode cX1_init 1 = .ok (.invokespecial 3, 3) := by decide +kernel
theorem dX1_init_4 : decode cX1_init 4 = .ok (.aload_n 0, 1) := by decide +kernel
theorem dX1_init_5 : decode cX1_init 5 = .ok (.iconst (-1), 1) := by decide +kernel
theorem dX1_init_6 : decode cX1_init 6 = .ok (.putfield 9, 3) := by decide +kernel
theorem dX1_init_9 : decode cX1_init 9 = .ok (.aload_n 0, 1) := by decide +kernel
theorem dX1_init_10 : decode cX1_init 10 = .ok (.bipush 8, 2) := by decide +kernel
theorem dX1_init_12 : decode cX1_init 12 = .ok (.newarray .int, 2) := by decide +kernel
theorem dX1_init_14 : decode cX1_init 14 = .ok (.putfield 15, 3) := by decide +kernel
theorem dX1_init_17 : decode cX1_init 17 = .ok (.return_, 1) := by decide +kernel
theorem dX1_copyFrom_0 : decode cX1_copyFrom 0 = .ok (.aload_n 0, 1) := by decide +kernel
theorem dX1_copyFrom_1 : decode cX1_copyFrom 1 = .ok (.aload_n 1, 1) := by decide +kernel
theorem dX1_copyFrom_2 : decode cX1_copyFrom 2 = .ok (.getfield 19, 3) := by decide +kernel
theorem dX1_copyFrom_5 : decode cX1_copyFrom 5 = .ok (.putfield 19, 3) := by decide +kernel
theorem dX1_copyFrom_8 : decode cX1_copyFrom 8 = .ok (.aload_n 0, 1) := by decide +kernel
theorem dX1_copyFrom_9 : decode cX1_copyFrom 9 = .ok (.aload_n 1, 1) := by decide +kernel
theorem dX1_copyFrom_10 : decode cX1_copyFrom 10 = .ok (.getfield 22, 3) := by decide +kernel
theorem dX1_copyFrom_13 : decode cX1_copyFrom 13 = .ok (.putfield 22, 3) := by decide +kernel
theorem dX1_copyFrom_16 : decode cX1_copyFrom 16 = .ok (.aload_n 0, 1) := by decide +kernel
theorem dX1_copyFrom_17 : decode cX1_copyFrom 17 = .ok (.aload_n 1, 1) := by decide +kernel
theorem dX1_copyFrom_18 : decode cX1_copyFrom 18 = .ok (.getfield 25, 3) := by decide +kernel
theorem dX1_copyFrom_21 : decode cX1_copyFrom 21 = .ok (.putfield 25, 3) := by decide +kernel
theorem dX1_copyFrom_24 : decode cX1_copyFrom 24 = .ok (.aload_n 0, 1) := by decide +kernel
theorem dX1_copyFrom_25 : decode cX1_copyFrom 25 = .ok (.aload_n 1, 1) := by decide +kernel
theorem dX1_copyFrom_26 : decode cX1_copyFrom 26 = .ok (.getfield 28, 3) := by decide +kernel
theorem dX1_copyFrom_29 : decode cX1_copyFrom 29 = .ok (.putfield 28, 3) := by decide +kernel
theorem dX1_copyFrom_32 : decode cX1_copyFrom 32 = .ok (.aload_n 0, 1) := by decide +kernel
theorem dX1_copyFrom_33 : decode cX1_copyFrom 33 = .ok (.aload_n 1, 1) := by decide +kernel
theorem dX1_copyFrom_34 : decode cX1_copyFrom 34 = .ok (.getfield 31, 3) := by decide +kernel
theorem dX1_copyFrom_37 : decode cX1_copyFrom 37 = .ok (.putfield 31, 3) := by decide +kernel
theorem dX1_copyFrom_40 : decode cX1_copyFrom 40 = .ok (.aload_n 0, 1) := by decide +kernel
theorem dX1_copyFrom_41 : decode cX1_copyFrom 41 = .ok (.aload_n 1, 1) := by decide +kernel
theorem dX1_copyFrom_42 : decode cX1_copyFrom 42 = .ok (.getfield 34, 3) := by decide +kernel
theorem dX1_copyFrom_45 : decode cX1_copyFrom 45 = .ok (.putfield 34, 3) := by decide +kernel
theorem dX1_copyFrom_48 : decode cX1_copyFrom 48 = .ok (.aload_n 0, 1) := by decide +kernel
theorem dX1_copyFrom_49 : decode cX1_copyFrom 49 = .ok (.aload_n 1, 1) := by decide +kernel
theorem dX1_copyFrom_50 : decode cX1_copyFrom 50 = .ok (.getfield 9, 3) := by decide +kernel
theorem dX1_copyFrom_53 : decode cX1_copyFrom 53 = .ok (.putfield 9, 3) := by decide +kernel
theorem dX1_copyFrom_56 : decode cX1_copyFrom 56 = .ok (.aload_n 0, 1) := by decide +kernel
theorem dX1_copyFrom_57 : decode cX1_copyFrom 57 = .ok (.aload_n 1, 1) := by decide +kernel
theorem dX1_copyFrom_58 : decode cX1_copyFrom 58 = .ok (.getfield 37, 3) := by decide +kernel
theorem dX1_copyFrom_61 : decode cX1_copyFrom 61 = .ok (.putfield 37, 3) := by decide +kernel
theorem dX1_copyFrom_64 : decode cX1_copyFrom 64 = .ok (.aload_n 0, 1) := by decide +kernel
theorem dX1_copyFrom_65 : decode cX1_copyFrom 65 = .ok (.aload_n 1, 1) := by decide +kernel
theorem dX1_copyFrom_66 : decode cX1_copyFrom 66 = .ok (.getfield 40, 3) := by decide +kernel
theorem dX1_copyFrom_69 : decode cX1_copyFrom 69 = .ok (.putfield 40, 3) := by decide +kernel
theorem dX1_copyFrom_72 : decode cX1_copyFrom 72 = .ok (.aload_n 0, 1) := by decide +kernel
theorem dX1_copyFrom_73 : decode cX1_copyFrom 73 = .ok (.aload_n 1, 1) := by decide +kernel
theorem dX1_copyFrom_74 : decode cX1_copyFrom 74 = .ok (.getfield 43, 3) := by decide +kernel
theorem dX1_copyFrom_77 : decode cX1_copyFrom 77 = .ok (.putfield 43, 3) := by decide +kernel
theorem dX1_copyFrom_80 : decode cX1_copyFrom 80 = .ok (.iconst 0, 1) := by decide +kernel
theorem dX1_copyFrom_81 : decode cX1_copyFrom 81 = .ok (.istore_n 2, 1) := by decide +kernel
theorem dX1_copyFrom_82 : decode cX1_copyFrom 82 = .ok (.iload_n 2, 1) := by decide +kernel
theorem dX1_copyFrom_83 : decode cX1_copyFrom 83 = .ok (.bipush 8, 2) := by decide +kernel
theorem dX1_copyFrom_85 : decode cX1_copyFrom 85 = .ok (.if_icmp .ge 21, 3) := by decide +kernel
theorem dX1_copyFrom_88 : decode cX1_copyFrom 88 = .ok (.aload_n 0, 1) := by decide +kernel
theorem dX1_copyFrom_89 : decode cX1_copyFrom 89 = .ok (.getfield 15, 3) := by decide +kernel
theorem dX1_copyFrom_92 : decode cX1_copyFrom 92 = .ok (.iload_n 2, 1) := by decide +kernel
theorem dX1_copyFrom_93 : decode cX1_copyFrom 93 = .ok (.aload_n 1, 1) := by decide +kernel
theorem dX1_copyFrom_94 : decode cX1_copyFrom 94 = .ok (.getfield 15, 3) := by decide +kernel
theorem dX1_copyFrom_97 : decode cX1_copyFrom 97 = .ok (.iload_n 2, 1) := by decide +kernel
theorem dX1_copyFrom_98 : decode cX1_copyFrom 98 = .ok (.iaload, 1) := by decide +kernel
theorem dX1_copyFrom_99 : decode cX1_copyFrom 99 = .ok (.iastore, 1) := by decide +kernel
theorem dX1_copyFrom_100 : decode cX1_copyFrom 100 = .ok (.iinc 2 1, 3) := by decide +kernel
theorem dX1_copyFrom_103 : decode cX1_copyFrom 103 = .ok (.goto (-21), 3) := by decide +kernel
theorem dX1_copyFrom_106 : decode cX1_copyFrom 106 = .ok (.return_, 1) := by decide +kernel
theorem dX1_tear_0 : decode cX1_tear 0 = .ok (.aload_n 0, 1) := by decide +kernel
theorem dX1_tear_1 : decode cX1_tear 1 = .ok (.aload_n 0, 1) := by decide +kernel
theorem dX1_tear_2 : decode cX1_tear 2 = .ok (.getfield 22, 3) := by decide +kernel
theorem dX1_tear_5 : decode cX1_tear 5 = .ok (.iconst 1, 1) := by decide +kernel
theorem dX1_tear_6 : decode cX1_tear 6 = .ok (.iadd, 1) := by decide +kernel
theorem dX1_tear_7 : decode cX1_tear 7 = .ok (.bipush 6, 2) := by decide +kernel
theorem dX1_tear_9 : decode cX1_tear 9 = .ok (.invokestatic 47, 3) := by decide +kernel
theorem dX1_tear_12 : decode cX1_tear 12 = .ok (.putfield 22, 3) := by decide +kernel
theorem dX1_tear_15 : decode cX1_tear 15 = .ok (.aload_n 0, 1) := by decide +kernel
theorem dX1_tear_16 : decode cX1_tear 16 = .ok (.dup, 1) := by decide +kernel
theorem dX1_tear_17 : decode cX1_tear 17 = .ok (.getfield 37, 3) := by decide +kernel
theorem dX1_tear_20 : decode cX1_tear 20 = .ok (.iconst 1, 1) := by decide +kernel
theorem dX1_tear_21 : decode cX1_tear 21 = .ok (.iadd, 1) := by decide +kernel
theorem dX1_tear_22 : decode cX1_tear 22 = .ok (.putfield 37, 3) := by decide +kernel
theorem dX1_tear_25 : decode cX1_tear 25 = .ok (.return_, 1) := by decide +kernel
theorem dX2_init_0 : decode cX2_init 0 = .ok (.aload_n 0, 1) := by decide +kernel
theorem dX2_init_1 : decode cX2_init 1 = .ok (.invokespecial 1, 3) := by decide +kernel
theorem dX2_init_4 : decode cX2_init 4 = .ok (.return_, 1) := by decide +kernel
theorem dX2_copyFrom_0 : decode cX2_copyFrom 0 = .ok (.aload_n 0, 1) := by decide +kernel
theorem dX2_copyFrom_1 : decode cX2_copyFrom 1 = .ok (.aload_n 1, 1) := by decide +kernel
theorem dX2_copyFrom_2 : decode cX2_copyFrom 2 = .ok (.getfield 7, 3) := by decide +kernel
theorem dX2_copyFrom_5 : decode cX2_copyFrom 5 = .ok (.putfield 7, 3) := by decide +kernel
theorem dX2_copyFrom_8 : decode cX2_copyFrom 8 = .ok (.aload_n 0, 1) := by decide +kernel
theorem dX2_copyFrom_9 : decode cX2_copyFrom 9 = .ok (.aload_n 1, 1) := by decide +kernel
theorem dX2_copyFrom_10 : decode cX2_copyFrom 10 = .ok (.getfield 13, 3) := by decide +kernel
theorem dX2_copyFrom_13 : decode cX2_copyFrom 13 = .ok (.putfield 13, 3) := by decide +kernel
theorem dX2_copyFrom_16 : decode cX2_copyFrom 16 = .ok (.aload_n 0, 1) := by decide +kernel
theorem dX2_copyFrom_17 : decode cX2_copyFrom 17 = .ok (.aload_n 1, 1) := by decide +kernel
theorem dX2_copyFrom_18 : decode cX2_copyFrom 18 = .ok (.getfield 16, 3) := by decide +kernel
theorem dX2_copyFrom_21 : decode cX2_copyFrom 21 = .ok (.putfield 16, 3) := by decide +kernel
theorem dX2_copyFrom_24 : decode cX2_copyFrom 24 = .ok (.aload_n 0, 1) := by decide +kernel
theorem dX2_copyFrom_25 : decode cX2_copyFrom 25 = .ok (.aload_n 1, 1) := by decide +kernel
theorem dX2_copyFrom_26 : decode cX2_copyFrom 26 = .ok (.getfield 19, 3) := by decide +kernel
theorem dX2_copyFrom_29 : decode cX2_copyFrom 29 = .ok (.putfield 19, 3) := by decide +kernel
theorem dX2_copyFrom_32 : decode cX2_copyFrom 32 = .ok (.return_, 1) := by decide +kernel
theorem dX3_init_0 : decode cX3_init 0 = .ok (.aload_n 0, 1) := by decide +kernel
theorem dX3_init_1 : decode cX3_init 1 = .ok (.invokespecial 3, 3) := by decide +kernel
theorem dX3_init_4 : decode cX3_init 4 = .ok (.aload_n 0, 1) := by decide +kernel
theorem dX3_init_5 : decode cX3_init 5 = .ok (.bipush 6, 2) := by decide +kernel
theorem dX3_init_7 : decode cX3_init 7 = .ok (.newarray .int, 2) := by decide +kernel
theorem dX3_init_9 : decode cX3_init 9 = .ok (.putfield 9, 3) := by decide +kernel
theorem dX3_init_12 : decode cX3_init 12 = .ok (.return_, 1) := by decide +kernel
theorem dX3_copyFrom_0 : decode cX3_copyFrom 0 = .ok (.aload_n 0, 1) := by decide +kernel
theorem dX3_copyFrom_1 : decode cX3_copyFrom 1 = .ok (.aload_n 1, 1) := by decide +kernel
theorem dX3_copyFrom_2 : decode cX3_copyFrom 2 = .ok (.getfield 15, 3) := by decide +kernel
theorem dX3_copyFrom_5 : decode cX3_copyFrom 5 = .ok (.putfield 15, 3) := by decide +kernel
theorem dX3_copyFrom_8 : decode cX3_copyFrom 8 = .ok (.aload_n 0, 1) := by decide +kernel
theorem dX3_copyFrom_9 : decode cX3_copyFrom 9 = .ok (.aload_n 1, 1) := by decide +kernel
theorem dX3_copyFrom_10 : decode cX3_copyFrom 10 = .ok (.getfield 19, 3) := by decide +kernel
theorem dX3_copyFrom_13 : decode cX3_copyFrom 13 = .ok (.putfield 19, 3) := by decide +kernel
theorem dX3_copyFrom_16 : decode cX3_copyFrom 16 = .ok (.aload_n 0, 1) := by decide +kernel
theorem dX3_copyFrom_17 : decode cX3_copyFrom 17 = .ok (.aload_n 1, 1) := by decide +kernel
theorem dX3_copyFrom_18 : decode cX3_copyFrom 18 = .ok (.getfield 22, 3) := by decide +kernel
theorem dX3_copyFrom_21 : decode cX3_copyFrom 21 = .ok (.putfield 22, 3) := by decide +kernel
theorem dX3_copyFrom_24 : decode cX3_copyFrom 24 = .ok (.iconst 1, 1) := by decide +kernel
theorem dX3_copyFrom_25 : decode cX3_copyFrom 25 = .ok (.istore_n 2, 1) := by decide +kernel
theorem dX3_copyFrom_26 : decode cX3_copyFrom 26 = .ok (.iload_n 2, 1) := by decide +kernel
theorem dX3_copyFrom_27 : decode cX3_copyFrom 27 = .ok (.iconst 5, 1) := by decide +kernel
theorem dX3_copyFrom_28 : decode cX3_copyFrom 28 = .ok (.if_icmp .gt 21, 3) := by decide +kernel
theorem dX3_copyFrom_31 : decode cX3_copyFrom 31 = .ok (.aload_n 0, 1) := by decide +kernel
theorem dX3_copyFrom_32 : decode cX3_copyFrom 32 = .ok (.getfield 9, 3) := by decide +kernel
theorem dX3_copyFrom_35 : decode cX3_copyFrom 35 = .ok (.iload_n 2, 1) := by decide +kernel
theorem dX3_copyFrom_36 : decode cX3_copyFrom 36 = .ok (.aload_n 1, 1) := by decide +kernel
theorem dX3_copyFrom_37 : decode cX3_copyFrom 37 = .ok (.getfield 9, 3) := by decide +kernel
theorem dX3_copyFrom_40 : decode cX3_copyFrom 40 = .ok (.iload_n 2, 1) := by decide +kernel
theorem dX3_copyFrom_41 : decode cX3_copyFrom 41 = .ok (.iaload, 1) := by decide +kernel
theorem dX3_copyFrom_42 : decode cX3_copyFrom 42 = .ok (.iastore, 1) := by decide +kernel
theorem dX3_copyFrom_43 : decode cX3_copyFrom 43 = .ok (.iinc 2 1, 3) := by decide +kernel
theorem dX3_copyFrom_46 : decode cX3_copyFrom 46 = .ok (.goto (-20), 3) := by decide +kernel
theorem dX3_copyFrom_49 : decode cX3_copyFrom 49 = .ok (.return_, 1) := by decide +kernel
theorem dX3_allFish_0 : decode cX3_allFish 0 = .ok (.iconst 0, 1) := by decide +kernel
theorem dX3_allFish_1 : decode cX3_allFish 1 = .ok (.istore_n 1, 1) := by decide +kernel
theorem dX3_allFish_2 : decode cX3_allFish 2 = .ok (.iconst 1, 1) := by decide +kernel
theorem dX3_allFish_3 : decode cX3_allFish 3 = .ok (.istore_n 2, 1) := by decide +kernel
theorem dX3_allFish_4 : decode cX3_allFish 4 = .ok (.iload_n 2, 1) := by decide +kernel
theorem dX3_allFish_5 : decode cX3_allFish 5 = .ok (.iconst 5, 1) := by decide +kernel
theorem dX3_allFish_6 : decode cX3_allFish 6 = .ok (.if_icmp .gt 18, 3) := by decide +kernel
theorem dX3_allFish_9 : decode cX3_allFish 9 = .ok (.iload_n 1, 1) := by decide +kernel
theorem dX3_allFish_10 : decode cX3_allFish 10 = .ok (.aload_n 0, 1) := by decide +kernel
theorem dX3_allFish_11 : decode cX3_allFish 11 = .ok (.getfield 9, 3) := by decide +kernel
theorem dX3_allFish_14 : decode cX3_allFish 14 = .ok (.iload_n 2, 1) := by decide +kernel
theorem dX3_allFish_15 : decode cX3_allFish 15 = .ok (.iaload, 1) := by decide +kernel
theorem dX3_allFish_16 : decode cX3_allFish 16 = .ok (.iadd, 1) := by decide +kernel
theorem dX3_allFish_17 : decode cX3_allFish 17 = .ok (.istore_n 1, 1) := by decide +kernel
theorem dX3_allFish_18 : decode cX3_allFish 18 = .ok (.iinc 2 1, 3) := by decide +kernel
theorem dX3_allFish_21 : decode cX3_allFish 21 = .ok (.goto (-17), 3) := by decide +kernel
theorem dX3_allFish_24 : decode cX3_allFish 24 = .ok (.iload_n 1, 1) := by decide +kernel
theorem dX3_allFish_25 : decode cX3_allFish 25 = .ok (.ireturn, 1) := by decide +kernel
theorem dX3_grow_0 : decode cX3_grow 0 = .ok (.iconst 4, 1) := by decide +kernel
theorem dX3_grow_1 : decode cX3_grow 1 = .ok (.istore_n 1, 1) := by decide +kernel
theorem dX3_grow_2 : decode cX3_grow 2 = .ok (.iload_n 1, 1) := by decide +kernel
theorem dX3_grow_3 : decode cX3_grow 3 = .ok (.iconst 1, 1) := by decide +kernel
theorem dX3_grow_4 : decode cX3_grow 4 = .ok (.if_icmp .lt 51, 3) := by decide +kernel
theorem dX3_grow_7 : decode cX3_grow 7 = .ok (.aload_n 0, 1) := by decide +kernel
theorem dX3_grow_8 : decode cX3_grow 8 = .ok (.getfield 9, 3) := by decide +kernel
theorem dX3_grow_11 : decode cX3_grow 11 = .ok (.iload_n 1, 1) := by decide +kernel
theorem dX3_grow_12 : decode cX3_grow 12 = .ok (.iaload, 1) := by decide +kernel
theorem dX3_grow_13 : decode cX3_grow 13 = .ok (.iconst 5, 1) := by decide +kernel
theorem dX3_grow_14 : decode cX3_grow 14 = .ok (.idiv, 1) := by decide +kernel
theorem dX3_grow_15 : decode cX3_grow 15 = .ok (.istore_n 2, 1) := by decide +kernel
theorem dX3_grow_16 : decode cX3_grow 16 = .ok (.aload_n 0, 1) := by decide +kernel
theorem dX3_grow_17 : decode cX3_grow 17 = .ok (.getfield 9, 3) := by decide +kernel
theorem dX3_grow_20 : decode cX3_grow 20 = .ok (.iload_n 1, 1) := by decide +kernel
theorem dX3_grow_21 : decode cX3_grow 21 = .ok (.dup2, 1) := by decide +kernel
theorem dX3_grow_22 : decode cX3_grow 22 = .ok (.iaload, 1) := by decide +kernel
theorem dX3_grow_23 : decode cX3_grow 23 = .ok (.iload_n 2, 1) := by decide +kernel
theorem dX3_grow_24 : decode cX3_grow 24 = .ok (.isub, 1) := by decide +kernel
theorem dX3_grow_25 : decode cX3_grow 25 = .ok (.iastore, 1) := by decide +kernel
theorem dX3_grow_26 : decode cX3_grow 26 = .ok (.aload_n 0, 1) := by decide +kernel
theorem dX3_grow_27 : decode cX3_grow 27 = .ok (.getfield 9, 3) := by decide +kernel
theorem dX3_grow_30 : decode cX3_grow 30 = .ok (.iload_n 1, 1) := by decide +kernel
theorem dX3_grow_31 : decode cX3_grow 31 = .ok (.iconst 1, 1) := by decide +kernel
theorem dX3_grow_32 : decode cX3_grow 32 = .ok (.iadd, 1) := by decide +kernel
theorem dX3_grow_33 : decode cX3_grow 33 = .ok (.aload_n 0, 1) := by decide +kernel
theorem dX3_grow_34 : decode cX3_grow 34 = .ok (.getfield 9, 3) := by decide +kernel
theorem dX3_grow_37 : decode cX3_grow 37 = .ok (.iload_n 1, 1) := by decide +kernel
theorem dX3_grow_38 : decode cX3_grow 38 = .ok (.iconst 1, 1) := by decide +kernel
theorem dX3_grow_39 : decode cX3_grow 39 = .ok (.iadd, 1) := by decide +kernel
theorem dX3_grow_40 : decode cX3_grow 40 = .ok (.iaload, 1) := by decide +kernel
theorem dX3_grow_41 : decode cX3_grow 41 = .ok (.iload_n 2, 1) := by decide +kernel
theorem dX3_grow_42 : decode cX3_grow 42 = .ok (.iadd, 1) := by decide +kernel
theorem dX3_grow_43 : decode cX3_grow 43 = .ok (.bipush 99, 2) := by decide +kernel
theorem dX3_grow_45 : decode cX3_grow 45 = .ok (.invokestatic 25, 3) := by decide +kernel
theorem dX3_grow_48 : decode cX3_grow 48 = .ok (.iastore, 1) := by decide +kernel
theorem dX3_grow_49 : decode cX3_grow 49 = .ok (.iinc 1 (-1), 3) := by decide +kernel
theorem dX3_grow_52 : decode cX3_grow 52 = .ok (.goto (-50), 3) := by decide +kernel
theorem dX3_grow_55 : decode cX3_grow 55 = .ok (.aload_n 0, 1) := by decide +kernel
theorem dX3_grow_56 : decode cX3_grow 56 = .ok (.getfield 9, 3) := by decide +kernel
theorem dX3_grow_59 : decode cX3_grow 59 = .ok (.iconst 1, 1) := by decide +kernel
theorem dX3_grow_60 : decode cX3_grow 60 = .ok (.aload_n 0, 1) := by decide +kernel
theorem dX3_grow_61 : decode cX3_grow 61 = .ok (.getfield 9, 3) := by decide +kernel
theorem dX3_grow_64 : decode cX3_grow 64 = .ok (.iconst 1, 1) := by decide +kernel
theorem dX3_grow_65 : decode cX3_grow 65 = .ok (.iaload, 1) := by decide +kernel
theorem dX3_grow_66 : decode cX3_grow 66 = .ok (.aload_n 0, 1) := by decide +kernel
theorem dX3_grow_67 : decode cX3_grow 67 = .ok (.invokevirtual 31, 3) := by decide +kernel
theorem dX3_grow_70 : decode cX3_grow 70 = .ok (.bipush 6, 2) := by decide +kernel
theorem dX3_grow_72 : decode cX3_grow 72 = .ok (.idiv, 1) := by decide +kernel
theorem dX3_grow_73 : decode cX3_grow 73 = .ok (.iadd, 1) := by decide +kernel
theorem dX3_grow_74 : decode cX3_grow 74 = .ok (.bipush 99, 2) := by decide +kernel
theorem dX3_grow_76 : decode cX3_grow 76 = .ok (.invokestatic 25, 3) := by decide +kernel
theorem dX3_grow_79 : decode cX3_grow 79 = .ok (.iastore, 1) := by decide +kernel
theorem dX3_grow_80 : decode cX3_grow 80 = .ok (.return_, 1) := by decide +kernel
theorem dX4_init_0 : decode cX4_init 0 = .ok (.aload_n 0, 1) := by decide +kernel
theorem dX4_init_1 : decode cX4_init 1 = .ok (.invokespecial 1, 3) := by decide +kernel
theorem dX4_init_4 : decode cX4_init 4 = .ok (.aload_n 0, 1) := by decide +kernel
theorem dX4_init_5 : decode cX4_init 5 = .ok (.iload_n 1, 1) := by decide +kernel
theorem dX4_init_6 : decode cX4_init 6 = .ok (.iconst 0, 1) := by decide +kernel
theorem dX4_init_7 : decode cX4_init 7 = .ok (.invokestatic 7, 3) := by decide +kernel
theorem dX4_init_10 : decode cX4_init 10 = .ok (.newarray .long, 2) := by decide +kernel
theorem dX4_init_12 : decode cX4_init 12 = .ok (.putfield 13, 3) := by decide +kernel
theorem dX4_init_15 : decode cX4_init 15 = .ok (.return_, 1) := by decide +kernel
theorem dX4_find_0 : decode cX4_find 0 = .ok (.iconst 0, 1) := by decide +kernel
theorem dX4_find_1 : decode cX4_find 1 = .ok (.istore_n 3, 1) := by decide +kernel
theorem dX4_find_2 : decode cX4_find 2 = .ok (.iload_n 3, 1) := by decide +kernel
theorem dX4_find_3 : decode cX4_find 3 = .ok (.aload_n 0, 1) := by decide +kernel
theorem dX4_find_4 : decode cX4_find 4 = .ok (.getfield 19, 3) := by decide +kernel
theorem dX4_find_7 : decode cX4_find 7 = .ok (.if_icmp .ge 22, 3) := by decide +kernel
theorem dX4_find_10 : decode cX4_find 10 = .ok (.aload_n 0, 1) := by decide +kernel
theorem dX4_find_11 : decode cX4_find 11 = .ok (.getfield 13, 3) := by decide +kernel
theorem dX4_find_14 : decode cX4_find 14 = .ok (.iload_n 3, 1) := by decide +kernel
theorem dX4_find_15 : decode cX4_find 15 = .ok (.laload, 1) := by decide +kernel
theorem dX4_find_16 : decode cX4_find 16 = .ok (.lload_n 1, 1) := by decide +kernel
theorem dX4_find_17 : decode cX4_find 17 = .ok (.lcmp, 1) := by decide +kernel
theorem dX4_find_18 : decode cX4_find 18 = .ok (.ifCond .ne 5, 3) := by decide +kernel
theorem dX4_find_21 : decode cX4_find 21 = .ok (.iload_n 3, 1) := by decide +kernel
theorem dX4_find_22 : decode cX4_find 22 = .ok (.ireturn, 1) := by decide +kernel
theorem dX4_find_23 : decode cX4_find 23 = .ok (.iinc 3 1, 3) := by decide +kernel
theorem dX4_find_26 : decode cX4_find 26 = .ok (.goto (-24), 3) := by decide +kernel
theorem dX4_find_29 : decode cX4_find 29 = .ok (.iconst (-1), 1) := by decide +kernel
theorem dX4_find_30 : decode cX4_find 30 = .ok (.ireturn, 1) := by decide +kernel
theorem dX4_add_0 : decode cX4_add 0 = .ok (.aload_n 0, 1) := by decide +kernel
theorem dX4_add_1 : decode cX4_add 1 = .ok (.getfield 19, 3) := by decide +kernel
theorem dX4_add_4 : decode cX4_add 4 = .ok (.aload_n 0, 1) := by decide +kernel
theorem dX4_add_5 : decode cX4_add 5 = .ok (.getfield 13, 3) := by decide +kernel
theorem dX4_add_8 : decode cX4_add 8 = .ok (.arraylength, 1) := by decide +kernel
theorem dX4_add_9 : decode cX4_add 9 = .ok (.if_icmp .lt 5, 3) := by decide +kernel
theorem dX4_add_12 : decode cX4_add 12 = .ok (.iconst 0, 1) := by decide +kernel
theorem dX4_add_13 : decode cX4_add 13 = .ok (.ireturn, 1) := by decide +kernel
theorem dX4_add_14 : decode cX4_add 14 = .ok (.aload_n 0, 1) := by decide +kernel
theorem dX4_add_15 : decode cX4_add 15 = .ok (.getfield 13, 3) := by decide +kernel
theorem dX4_add_18 : decode cX4_add 18 = .ok (.aload_n 0, 1) := by decide +kernel
theorem dX4_add_19 : decode cX4_add 19 = .ok (.getfield 19, 3) := by decide +kernel
theorem dX4_add_22 : decode cX4_add 22 = .ok (.lload_n 1, 1) := by decide +kernel
theorem dX4_add_23 : decode cX4_add 23 = .ok (.lastore, 1) := by decide +kernel
theorem dX4_add_24 : decode cX4_add 24 = .ok (.aload_n 0, 1) := by decide +kernel
theorem dX4_add_25 : decode cX4_add 25 = .ok (.dup, 1) := by decide +kernel
theorem dX4_add_26 : decode cX4_add 26 = .ok (.getfield 19, 3) := by decide +kernel
theorem dX4_add_29 : decode cX4_add 29 = .ok (.iconst 1, 1) := by decide +kernel
theorem dX4_add_30 : decode cX4_add 30 = .ok (.iadd, 1) := by decide +kernel
theorem dX4_add_31 : decode cX4_add 31 = .ok (.putfield 19, 3) := by decide +kernel
theorem dX4_add_34 : decode cX4_add 34 = .ok (.iconst 1, 1) := by decide +kernel
theorem dX4_add_35 : decode cX4_add 35 = .ok (.ireturn, 1) := by decide +kernel
theorem dX5_init_0 : decode cX5_init 0 = .ok (.aload_n 0, 1) := by decide +kernel
theorem dX5_init_1 : decode cX5_init 1 = .ok (.invokespecial 3, 3) := by decide +kernel
theorem dX5_init_4 : decode cX5_init 4 = .ok (.aload_n 0, 1) := by decide +kernel
theorem dX5_init_5 : decode cX5_init 5 = .ok (.iconst (-1), 1) := by decide +kernel
theorem dX5_init_6 : decode cX5_init 6 = .ok (.putfield 9, 3) := by decide +kernel
theorem dX5_init_9 : decode cX5_init 9 = .ok (.aload_n 0, 1) := by decide +kernel
theorem dX5_init_10 : decode cX5_init 10 = .ok (.bipush 8, 2) := by decide +kernel
theorem dX5_init_12 : decode cX5_init 12 = .ok (.newarray .int, 2) := by decide +kernel
theorem dX5_init_14 : decode cX5_init 14 = .ok (.putfield 15, 3) := by decide +kernel
theorem dX5_init_17 : decode cX5_init 17 = .ok (.return_, 1) := by decide +kernel
theorem dX5_copyFrom_0 : decode cX5_copyFrom 0 = .ok (.aload_n 0, 1) := by decide +kernel
theorem dX5_copyFrom_1 : decode cX5_copyFrom 1 = .ok (.aload_n 1, 1) := by decide +kernel
theorem dX5_copyFrom_2 : decode cX5_copyFrom 2 = .ok (.getfield 9, 3) := by decide +kernel
theorem dX5_copyFrom_5 : decode cX5_copyFrom 5 = .ok (.putfield 9, 3) := by decide +kernel
theorem dX5_copyFrom_8 : decode cX5_copyFrom 8 = .ok (.aload_n 0, 1) := by decide +kernel
theorem dX5_copyFrom_9 : decode cX5_copyFrom 9 = .ok (.aload_n 1, 1) := by decide +kernel
theorem dX5_copyFrom_10 : decode cX5_copyFrom 10 = .ok (.getfield 19, 3) := by decide +kernel
theorem dX5_copyFrom_13 : decode cX5_copyFrom 13 = .ok (.putfield 19, 3) := by decide +kernel
theorem dX5_copyFrom_16 : decode cX5_copyFrom 16 = .ok (.aload_n 0, 1) := by decide +kernel
theorem dX5_copyFrom_17 : decode cX5_copyFrom 17 = .ok (.aload_n 1, 1) := by decide +kernel
theorem dX5_copyFrom_18 : decode cX5_copyFrom 18 = .ok (.getfield 22, 3) := by decide +kernel
theorem dX5_copyFrom_21 : decode cX5_copyFrom 21 = .ok (.putfield 22, 3) := by decide +kernel
theorem dX5_copyFrom_24 : decode cX5_copyFrom 24 = .ok (.aload_n 0, 1) := by decide +kernel
theorem dX5_copyFrom_25 : decode cX5_copyFrom 25 = .ok (.aload_n 1, 1) := by decide +kernel
theorem dX5_copyFrom_26 : decode cX5_copyFrom 26 = .ok (.getfield 25, 3) := by decide +kernel
theorem dX5_copyFrom_29 : decode cX5_copyFrom 29 = .ok (.putfield 25, 3) := by decide +kernel
theorem dX5_copyFrom_32 : decode cX5_copyFrom 32 = .ok (.aload_n 0, 1) := by decide +kernel
theorem dX5_copyFrom_33 : decode cX5_copyFrom 33 = .ok (.aload_n 1, 1) := by decide +kernel
theorem dX5_copyFrom_34 : decode cX5_copyFrom 34 = .ok (.getfield 28, 3) := by decide +kernel
theorem dX5_copyFrom_37 : decode cX5_copyFrom 37 = .ok (.putfield 28, 3) := by decide +kernel
theorem dX5_copyFrom_40 : decode cX5_copyFrom 40 = .ok (.aload_n 0, 1) := by decide +kernel
theorem dX5_copyFrom_41 : decode cX5_copyFrom 41 = .ok (.aload_n 1, 1) := by decide +kernel
theorem dX5_copyFrom_42 : decode cX5_copyFrom 42 = .ok (.getfield 31, 3) := by decide +kernel
theorem dX5_copyFrom_45 : decode cX5_copyFrom 45 = .ok (.putfield 31, 3) := by decide +kernel
theorem dX5_copyFrom_48 : decode cX5_copyFrom 48 = .ok (.aload_n 0, 1) := by decide +kernel
theorem dX5_copyFrom_49 : decode cX5_copyFrom 49 = .ok (.aload_n 1, 1) := by decide +kernel
theorem dX5_copyFrom_50 : decode cX5_copyFrom 50 = .ok (.getfield 34, 3) := by decide +kernel
theorem dX5_copyFrom_53 : decode cX5_copyFrom 53 = .ok (.putfield 34, 3) := by decide +kernel
theorem dX5_copyFrom_56 : decode cX5_copyFrom 56 = .ok (.iconst 0, 1) := by decide +kernel
theorem dX5_copyFrom_57 : decode cX5_copyFrom 57 = .ok (.istore_n 2, 1) := by decide +kernel
theorem dX5_copyFrom_58 : decode cX5_copyFrom 58 = .ok (.iload_n 2, 1) := by decide +kernel
theorem dX5_copyFrom_59 : decode cX5_copyFrom 59 = .ok (.bipush 8, 2) := by decide +kernel
theorem dX5_copyFrom_61 : decode cX5_copyFrom 61 = .ok (.if_icmp .ge 21, 3) := by decide +kernel
theorem dX5_copyFrom_64 : decode cX5_copyFrom 64 = .ok (.aload_n 0, 1) := by decide +kernel
theorem dX5_copyFrom_65 : decode cX5_copyFrom 65 = .ok (.getfield 15, 3) := by decide +kernel
theorem dX5_copyFrom_68 : decode cX5_copyFrom 68 = .ok (.iload_n 2, 1) := by decide +kernel
theorem dX5_copyFrom_69 : decode cX5_copyFrom 69 = .ok (.aload_n 1, 1) := by decide +kernel
theorem dX5_copyFrom_70 : decode cX5_copyFrom 70 = .ok (.getfield 15, 3) := by decide +kernel
theorem dX5_copyFrom_73 : decode cX5_copyFrom 73 = .ok (.iload_n 2, 1) := by decide +kernel
theorem dX5_copyFrom_74 : decode cX5_copyFrom 74 = .ok (.iaload, 1) := by decide +kernel
theorem dX5_copyFrom_75 : decode cX5_copyFrom 75 = .ok (.iastore, 1) := by decide +kernel
theorem dX5_copyFrom_76 : decode cX5_copyFrom 76 = .ok (.iinc 2 1, 3) := by decide +kernel
theorem dX5_copyFrom_79 : decode cX5_copyFrom 79 = .ok (.goto (-21), 3) := by decide +kernel
theorem dX5_copyFrom_82 : decode cX5_copyFrom 82 = .ok (.return_, 1) := by decide +kernel
theorem dX5_splits_0 : decode cX5_splits 0 = .ok (.aload_n 0, 1) := by decide +kernel
theorem dX5_splits_1 : decode cX5_splits 1 = .ok (.getfield 9, 3) := by decide +kernel
theorem dX5_splits_4 : decode cX5_splits 4 = .ok (.ifCond .ge 7, 3) := by decide +kernel
theorem dX5_splits_7 : decode cX5_splits 7 = .ok (.iconst 1, 1) := by decide +kernel
theorem dX5_splits_8 : decode cX5_splits 8 = .ok (.goto 4, 3) := by decide +kernel
theorem dX5_splits_11 : decode cX5_splits 11 = .ok (.iconst 0, 1) := by decide +kernel
theorem dX5_splits_12 : decode cX5_splits 12 = .ok (.ireturn, 1) := by decide +kernel
theorem dX5_has_0 : decode cX5_has 0 = .ok (.iconst 0, 1) := by decide +kernel
theorem dX5_has_1 : decode cX5_has 1 = .ok (.istore_n 2, 1) := by decide +kernel
theorem dX5_has_2 : decode cX5_has 2 = .ok (.iload_n 2, 1) := by decide +kernel
theorem dX5_has_3 : decode cX5_has 3 = .ok (.aload_n 0, 1) := by decide +kernel
theorem dX5_has_4 : decode cX5_has 4 = .ok (.getfield 25, 3) := by decide +kernel
theorem dX5_has_7 : decode cX5_has 7 = .ok (.if_icmp .ge 21, 3) := by decide +kernel
theorem dX5_has_10 : decode cX5_has 10 = .ok (.aload_n 0, 1) := by decide +kernel
theorem dX5_has_11 : decode cX5_has 11 = .ok (.getfield 15, 3) := by decide +kernel
theorem dX5_has_14 : decode cX5_has 14 = .ok (.iload_n 2, 1) := by decide +kernel
theorem dX5_has_15 : decode cX5_has 15 = .ok (.iaload, 1) := by decide +kernel
theorem dX5_has_16 : decode cX5_has 16 = .ok (.iload_n 1, 1) := by decide +kernel
theorem dX5_has_17 : decode cX5_has 17 = .ok (.if_icmp .ne 5, 3) := by decide +kernel
theorem dX5_has_20 : decode cX5_has 20 = .ok (.iconst 1, 1) := by decide +kernel
theorem dX5_has_21 : decode cX5_has 21 = .ok (.ireturn, 1) := by decide +kernel
theorem dX5_has_22 : decode cX5_has 22 = .ok (.iinc 2 1, 3) := by decide +kernel
theorem dX5_has_25 : decode cX5_has 25 = .ok (.goto (-23), 3) := by decide +kernel
theorem dX5_has_28 : decode cX5_has 28 = .ok (.iconst 0, 1) := by decide +kernel
theorem dX5_has_29 : decode cX5_has 29 = .ok (.ireturn, 1) := by decide +kernel
theorem dX5_add_0 : decode cX5_add 0 = .ok (.aload_n 0, 1) := by decide +kernel
theorem dX5_add_1 : decode cX5_add 1 = .ok (.getfield 25, 3) := by decide +kernel
theorem dX5_add_4 : decode cX5_add 4 = .ok (.bipush 8, 2) := by decide +kernel
theorem dX5_add_6 : decode cX5_add 6 = .ok (.if_icmp .ge 23, 3) := by decide +kernel
theorem dX5_add_9 : decode cX5_add 9 = .ok (.aload_n 0, 1) := by decide +kernel
theorem dX5_add_10 : decode cX5_add 10 = .ok (.getfield 15, 3) := by decide +kernel
theorem dX5_add_13 : decode cX5_add 13 = .ok (.aload_n 0, 1) := by decide +kernel
theorem dX5_add_14 : decode cX5_add 14 = .ok (.getfield 25, 3) := by decide +kernel
theorem dX5_add_17 : decode cX5_add 17 = .ok (.iload_n 1, 1) := by decide +kernel
theorem dX5_add_18 : decode cX5_add 18 = .ok (.iastore, 1) := by decide +kernel
theorem dX5_add_19 : decode cX5_add 19 = .ok (.aload_n 0, 1) := by decide +kernel
theorem dX5_add_20 : decode cX5_add 20 = .ok (.dup, 1) := by decide +kernel
theorem dX5_add_21 : decode cX5_add 21 = .ok (.getfield 25, 3) := by decide +kernel
theorem dX5_add_24 : decode cX5_add 24 = .ok (.iconst 1, 1) := by decide +kernel
theorem dX5_add_25 : decode cX5_add 25 = .ok (.iadd, 1) := by decide +kernel
theorem dX5_add_26 : decode cX5_add 26 = .ok (.putfield 25, 3) := by decide +kernel
theorem dX5_add_29 : decode cX5_add 29 = .ok (.return_, 1) := by decide +kernel
theorem dX6_init_0 : decode cX6_init 0 = .ok (.aload_n 0, 1) := by decide +kernel
theorem dX6_init_1 : decode cX6_init 1 = .ok (.invokespecial 3, 3) := by decide +kernel
theorem dX6_init_4 : decode cX6_init 4 = .ok (.aload_n 0, 1) := by decide +kernel
theorem dX6_init_5 : decode cX6_init 5 = .ok (.iconst (-1), 1) := by decide +kernel
theorem dX6_init_6 : decode cX6_init 6 = .ok (.putfield 9, 3) := by decide +kernel
theorem dX6_init_9 : decode cX6_init 9 = .ok (.aload_n 0, 1) := by decide +kernel
theorem dX6_init_10 : decode cX6_init 10 = .ok (.new 15, 3) := by decide +kernel
theorem dX6_init_13 : decode cX6_init 13 = .ok (.dup, 1) := by decide +kernel
theorem dX6_init_14 : decode cX6_init 14 = .ok (.bipush 8, 2) := by decide +kernel
theorem dX6_init_16 : decode cX6_init 16 = .ok (.invokespecial 17, 3) := by decide +kernel
theorem dX6_init_19 : decode cX6_init 19 = .ok (.putfield 20, 3) := by decide +kernel
theorem dX6_init_22 : decode cX6_init 22 = .ok (.aload_n 0, 1) := by decide +kernel
theorem dX6_init_23 : decode cX6_init 23 = .ok (.new 15, 3) := by decide +kernel
theorem dX6_init_26 : decode cX6_init 26 = .ok (.dup, 1) := by decide +kernel
theorem dX6_init_27 : decode cX6_init 27 = .ok (.bipush 8, 2) := by decide +kernel
theorem dX6_init_29 : decode cX6_init 29 = .ok (.invokespecial 17, 3) := by decide +kernel
theorem dX6_init_32 : decode cX6_init 32 = .ok (.putfield 24, 3) := by decide +kernel
theorem dX6_init_35 : decode cX6_init 35 = .ok (.aload_n 0, 1) := by decide +kernel
theorem dX6_init_36 : decode cX6_init 36 = .ok (.new 15, 3) := by decide +kernel
theorem dX6_init_39 : decode cX6_init 39 = .ok (.dup, 1) := by decide +kernel
theorem dX6_init_40 : decode cX6_init 40 = .ok (.bipush 6, 2) := by decide +kernel
theorem dX6_init_42 : decode cX6_init 42 = .ok (.invokespecial 17, 3) := by decide +kernel
theorem dX6_init_45 : decode cX6_init 45 = .ok (.putfield 27, 3) := by decide +kernel
theorem dX6_init_48 : decode cX6_init 48 = .ok (.aload_n 0, 1) := by decide +kernel
theorem dX6_init_49 : decode cX6_init 49 = .ok (.aload_n 1, 1) := by decide +kernel
theorem dX6_init_50 : decode cX6_init 50 = .ok (.putfield 30, 3) := by decide +kernel
theorem dX6_init_53 : decode cX6_init 53 = .ok (.aload_n 0, 1) := by decide +kernel
theorem dX6_init_54 : decode cX6_init 54 = .ok (.aload_n 2, 1) := by decide +kernel
theorem dX6_init_55 : decode cX6_init 55 = .ok (.putfield 34, 3) := by decide +kernel
theorem dX6_init_58 : decode cX6_init 58 = .ok (.return_, 1) := by decide +kernel
theorem dX6_read_0 : decode cX6_read 0 = .ok (.aload_n 0, 1) := by decide +kernel
theorem dX6_read_1 : decode cX6_read 1 = .ok (.getfield 34, 3) := by decide +kernel
theorem dX6_read_4 : decode cX6_read 4 = .ok (.invokevirtual 38, 3) := by decide +kernel
theorem dX6_read_7 : decode cX6_read 7 = .ok (.iconst 1, 1) := by decide +kernel
theorem dX6_read_8 : decode cX6_read 8 = .ok (.istore_n 1, 1) := by decide +kernel
theorem dX6_read_9 : decode cX6_read 9 = .ok (.iconst 0, 1) := by decide +kernel
theorem dX6_read_10 : decode cX6_read 10 = .ok (.istore_n 2, 1) := by decide +kernel
theorem dX6_read_11 : decode cX6_read 11 = .ok (.iload_n 2, 1) := by decide +kernel
theorem dX6_read_12 : decode cX6_read 12 = .ok (.sipush 400, 3) := by decide +kernel
theorem dX6_read_15 : decode cX6_read 15 = .ok (.if_icmp .ge 117, 3) := by decide +kernel
theorem dX6_read_18 : decode cX6_read 18 = .ok (.iload_n 1, 1) := by decide +kernel
theorem dX6_read_19 : decode cX6_read 19 = .ok (.ifCond .eq 113, 3) := by decide +kernel
theorem dX6_read_22 : decode cX6_read 22 = .ok (.aload_n 0, 1) := by decide +kernel
theorem dX6_read_23 : decode cX6_read 23 = .ok (.invokevirtual 43, 3) := by decide +kernel
theorem dX6_read_26 : decode cX6_read 26 = .ok (.getstatic 47, 3) := by decide +kernel
theorem dX6_read_29 : decode cX6_read 29 = .ok (.if_acmp .eq 103, 3) := by decide +kernel
theorem dX6_read_32 : decode cX6_read 32 = .ok (.getstatic 53, 3) := by decide +kernel
theorem dX6_read_35 : decode cX6_read 35 = .ok (.aload_n 0, 1) := by decide +kernel
theorem dX6_read_36 : decode cX6_read 36 = .ok (.invokevirtual 43, 3) := by decide +kernel
theorem dX6_read_39 : decode cX6_read 39 = .ok (.invokevirtual 59, 3) := by decide +kernel
theorem dX6_read_42 : decode cX6_read 42 = .ok (.iaload, 1) := by decide +kernel
theorem dX6_read_43 : decode cX6_read 43 = .ok (.tableswitch 61 1 4 #[29, 37, 45, 53], 29) := by decide +kernel
theorem dX6_read_72 : decode cX6_read 72 = .ok (.aload_n 0, 1) := by decide +kernel
theorem dX6_read_73 : decode cX6_read 73 = .ok (.invokevirtual 63, 3) := by decide +kernel
theorem dX6_read_76 : decode cX6_read 76 = .ok (.istore_n 1, 1) := by decide +kernel
theorem dX6_read_77 : decode cX6_read 77 = .ok (.goto 29, 3) := by decide +kernel
theorem dX6_read_80 : decode cX6_read 80 = .ok (.aload_n 0, 1) := by decide +kernel
theorem dX6_read_81 : decode cX6_read 81 = .ok (.invokevirtual 67, 3) := by decide +kernel
theorem dX6_read_84 : decode cX6_read 84 = .ok (.istore_n 1, 1) := by decide +kernel
theorem dX6_read_85 : decode cX6_read 85 = .ok (.goto 21, 3) := by decide +kernel
theorem dX6_read_88 : decode cX6_read 88 = .ok (.aload_n 0, 1) := by decide +kernel
theorem dX6_read_89 : decode cX6_read 89 = .ok (.invokevirtual 70, 3) := by decide +kernel
theorem dX6_read_92 : decode cX6_read 92 = .ok (.istore_n 1, 1) := by decide +kernel
theorem dX6_read_93 : decode cX6_read 93 = .ok (.goto 13, 3) := by decide +kernel
theorem dX6_read_96 : decode cX6_read 96 = .ok (.aload_n 0, 1) := by decide +kernel
theorem dX6_read_97 : decode cX6_read 97 = .ok (.invokevirtual 73, 3) := by decide +kernel
theorem dX6_read_100 : decode cX6_read 100 = .ok (.istore_n 1, 1) := by decide +kernel
theorem dX6_read_101 : decode cX6_read 101 = .ok (.goto 5, 3) := by decide +kernel
theorem dX6_read_104 : decode cX6_read 104 = .ok (.iconst 0, 1) := by decide +kernel
theorem dX6_read_105 : decode cX6_read 105 = .ok (.istore_n 1, 1) := by decide +kernel
theorem dX6_read_106 : decode cX6_read 106 = .ok (.iload_n 1, 1) := by decide +kernel
theorem dX6_read_107 : decode cX6_read 107 = .ok (.ifCond .eq 17, 3) := by decide +kernel
theorem dX6_read_110 : decode cX6_read 110 = .ok (.aload_n 0, 1) := by decide +kernel
theorem dX6_read_111 : decode cX6_read 111 = .ok (.getstatic 76, 3) := by decide +kernel
theorem dX6_read_114 : decode cX6_read 114 = .ok (.invokevirtual 79, 3) := by decide +kernel
theorem dX6_read_117 : decode cX6_read 117 = .ok (.ifCond .eq 7, 3) := by decide +kernel
theorem dX6_read_120 : decode cX6_read 120 = .ok (.iconst 1, 1) := by decide +kernel
theorem dX6_read_121 : decode cX6_read 121 = .ok (.goto 4, 3) := by decide +kernel
theorem dX6_read_124 : decode cX6_read 124 = .ok (.iconst 0, 1) := by decide +kernel
theorem dX6_read_125 : decode cX6_read 125 = .ok (.istore_n 1, 1) := by decide +kernel
theorem dX6_read_126 : decode cX6_read 126 = .ok (.iinc 2 1, 3) := by decide +kernel
theorem dX6_read_129 : decode cX6_read 129 = .ok (.goto (-118), 3) := by decide +kernel
theorem dX6_read_132 : decode cX6_read 132 = .ok (.iload_n 1, 1) := by decide +kernel
theorem dX6_read_133 : decode cX6_read 133 = .ok (.ifCond .ne 24, 3) := by decide +kernel
theorem dX6_read_136 : decode cX6_read 136 = .ok (.aload_n 0, 1) := by decide +kernel
theorem dX6_read_137 : decode cX6_read 137 = .ok (.iconst 1, 1) := by decide +kernel
theorem dX6_read_138 : decode cX6_read 138 = .ok (.putfield 83, 3) := by decide +kernel
theorem dX6_read_141 : decode cX6_read 141 = .ok (.aload_n 0, 1) := by decide +kernel
theorem dX6_read_142 : decode cX6_read 142 = .ok (.aload_n 0, 1) := by decide +kernel
theorem dX6_read_143 : decode cX6_read 143 = .ok (.getfield 30, 3) := by decide +kernel
theorem dX6_read_146 : decode cX6_read 146 = .ok (.getfield 86, 3) := by decide +kernel
theorem dX6_read_149 : decode cX6_read 149 = .ok (.aload_n 0, 1) := by decide +kernel
theorem dX6_read_150 : decode cX6_read 150 = .ok (.getfield 91, 3) := by decide +kernel
theorem dX6_read_153 : decode cX6_read 153 = .ok (.iaload, 1) := by decide +kernel
theorem dX6_read_154 : decode cX6_read 154 = .ok (.putfield 9, 3) := by decide +kernel
theorem dX6_read_157 : decode cX6_read 157 = .ok (.aload_n 0, 1) := by decide +kernel
theorem dX6_read_158 : decode cX6_read 158 = .ok (.getfield 83, 3) := by decide +kernel
theorem dX6_read_161 : decode cX6_read 161 = .ok (.ireturn, 1) := by decide +kernel
theorem dX6_groundLine_0 : decode cX6_groundLine 0 = .ok (.aload_n 0, 1) := by decide +kernel
theorem dX6_groundLine_1 : decode cX6_groundLine 1 = .ok (.getstatic 94, 3) := by decide +kernel
theorem dX6_groundLine_4 : decode cX6_groundLine 4 = .ok (.invokevirtual 79, 3) := by decide +kernel
theorem dX6_groundLine_7 : decode cX6_groundLine 7 = .ok (.ifCond .eq 14, 3) := by decide +kernel
theorem dX6_groundLine_10 : decode cX6_groundLine 10 = .ok (.aload_n 0, 1) := by decide +kernel
theorem dX6_groundLine_11 : decode cX6_groundLine 11 = .ok (.aload_n 0, 1) := by decide +kernel
theorem dX6_groundLine_12 : decode cX6_groundLine 12 = .ok (.getfield 20, 3) := by decide +kernel
theorem dX6_groundLine_15 : decode cX6_groundLine 15 = .ok (.invokevirtual 97, 3) := by decide +kernel
theorem dX6_groundLine_18 : decode cX6_groundLine 18 = .ok (.ifCond .ne 5, 3) := by decide +kernel
theorem dX6_groundLine_21 : decode cX6_groundLine 21 = .ok (.iconst 0, 1) := by decide +kernel
theorem dX6_groundLine_22 : decode cX6_groundLine 22 = .ok (.ireturn, 1) := by decide +kernel
theorem dX6_groundLine_23 : decode cX6_groundLine 23 = .ok (.aload_n 0, 1) := by decide +kernel
theorem dX6_groundLine_24 : decode cX6_groundLine 24 = .ok (.getfield 34, 3) := by decide +kernel
theorem dX6_groundLine_27 : decode cX6_groundLine 27 = .ok (.invokevirtual 101, 3) := by decide +kernel
theorem dX6_groundLine_30 : decode cX6_groundLine 30 = .ok (.astore_n 1, 1) := by decide +kernel
theorem dX6_groundLine_31 : decode cX6_groundLine 31 = .ok (.aload_n 0, 1) := by decide +kernel
theorem dX6_groundLine_32 : decode cX6_groundLine 32 = .ok (.getstatic 105, 3) := by decide +kernel
theorem dX6_groundLine_35 : decode cX6_groundLine 35 = .ok (.invokevirtual 79, 3) := by decide +kernel
theorem dX6_groundLine_38 : decode cX6_groundLine 38 = .ok (.ifCond .eq 13, 3) := by decide +kernel
theorem dX6_groundLine_41 : decode cX6_groundLine 41 = .ok (.aload_n 0, 1) := by decide +kernel
theorem dX6_groundLine_42 : decode cX6_groundLine 42 = .ok (.iconst 1, 1) := by decide +kernel
theorem dX6_groundLine_43 : decode cX6_groundLine 43 = .ok (.bipush 8, 2) := by decide +kernel
theorem dX6_groundLine_45 : decode cX6_groundLine 45 = .ok (.invokevirtual 108, 3) := by decide +kernel
theorem dX6_groundLine_48 : decode cX6_groundLine 48 = .ok (.ifCond .ne 5, 3) := by decide +kernel
theorem dX6_groundLine_51 : decode cX6_groundLine 51 = .ok (.iconst 0, 1) := by decide +kernel
theorem dX6_groundLine_52 : decode cX6_groundLine 52 = .ok (.ireturn, 1) := by decide +kernel
theorem dX6_groundLine_53 : decode cX6_groundLine 53 = .ok (.aload_n 1, 1) := by decide +kernel
theorem dX6_groundLine_54 : decode cX6_groundLine 54 = .ok (.aload_n 0, 1) := by decide +kernel
theorem dX6_groundLine_55 : decode cX6_groundLine 55 = .ok (.getfield 112, 3) := by decide +kernel
theorem dX6_groundLine_58 : decode cX6_groundLine 58 = .ok (.putfield 115, 3) := by decide +kernel
theorem dX6_groundLine_61 : decode cX6_groundLine 61 = .ok (.aload_n 0, 1) := by decide +kernel
theorem dX6_groundLine_62 : decode cX6_groundLine 62 = .ok (.getstatic 120, 3) := by decide +kernel
theorem dX6_groundLine_65 : decode cX6_groundLine 65 = .ok (.invokevirtual 79, 3) := by decide +kernel
theorem dX6_groundLine_68 : decode cX6_groundLine 68 = .ok (.ifCond .eq 12, 3) := by decide +kernel
theorem dX6_groundLine_71 : decode cX6_groundLine 71 = .ok (.aload_n 0, 1) := by decide +kernel
theorem dX6_groundLine_72 : decode cX6_groundLine 72 = .ok (.iconst 1, 1) := by decide +kernel
theorem dX6_groundLine_73 : decode cX6_groundLine 73 = .ok (.aload_n 1, 1) := by decide +kernel
theorem dX6_groundLine_74 : decode cX6_groundLine 74 = .ok (.invokevirtual 123, 3) := by decide +kernel
theorem dX6_groundLine_77 : decode cX6_groundLine 77 = .ok (.ifCond .ne 5, 3) := by decide +kernel
theorem dX6_groundLine_80 : decode cX6_groundLine 80 = .ok (.iconst 0, 1) := by decide +kernel
theorem dX6_groundLine_81 : decode cX6_groundLine 81 = .ok (.ireturn, 1) := by decide +kernel
theorem dX6_groundLine_82 : decode cX6_groundLine 82 = .ok (.iconst 2, 1) := by decide +kernel
theorem dX6_groundLine_83 : decode cX6_groundLine 83 = .ok (.istore_n 2, 1) := by decide +kernel
theorem dX6_groundLine_84 : decode cX6_groundLine 84 = .ok (.iload_n 2, 1) := by decide +kernel
theorem dX6_groundLine_85 : decode cX6_groundLine 85 = .ok (.sipush 400, 3) := by decide +kernel
theorem dX6_groundLine_88 : decode cX6_groundLine 88 = .ok (.if_icmp .gt 30, 3) := by decide +kernel
theorem dX6_groundLine_91 : decode cX6_groundLine 91 = .ok (.aload_n 0, 1) := by decide +kernel
theorem dX6_groundLine_92 : decode cX6_groundLine 92 = .ok (.getstatic 127, 3) := by decide +kernel
theorem dX6_groundLine_95 : decode cX6_groundLine 95 = .ok (.invokevirtual 79, 3) := by decide +kernel
theorem dX6_groundLine_98 : decode cX6_groundLine 98 = .ok (.ifCond .eq 20, 3) := by decide +kernel
theorem dX6_groundLine_101 : decode cX6_groundLine 101 = .ok (.aload_n 0, 1) := by decide +kernel
theorem dX6_groundLine_102 : decode cX6_groundLine 102 = .ok (.iload_n 2, 1) := by decide +kernel
theorem dX6_groundLine_103 : decode cX6_groundLine 103 = .ok (.aload_n 1, 1) := by decide +kernel
theorem dX6_groundLine_104 : decode cX6_groundLine 104 = .ok (.invokevirtual 123, 3) := by decide +kernel
theorem dX6_groundLine_107 : decode cX6_groundLine 107 = .ok (.ifCond .ne 5, 3) := by decide +kernel
theorem dX6_groundLine_110 : decode cX6_groundLine 110 = .ok (.iconst 0, 1) := by decide +kernel
theorem dX6_groundLine_111 : decode cX6_groundLine 111 = .ok (.ireturn, 1) := by decide +kernel
theorem dX6_groundLine_112 : decode cX6_groundLine 112 = .ok (.iinc 2 1, 3) := by decide +kernel
theorem dX6_groundLine_115 : decode cX6_groundLine 115 = .ok (.goto (-31), 3) := by decide +kernel
theorem dX6_groundLine_118 : decode cX6_groundLine 118 = .ok (.iconst 1, 1) := by decide +kernel
theorem dX6_groundLine_119 : decode cX6_groundLine 119 = .ok (.ireturn, 1) := by decide +kernel
theorem dX6_takeFish_0 : decode cX6_takeFish 0 = .ok (.aload_n 0, 1) := by decide +kernel
theorem dX6_takeFish_1 : decode cX6_takeFish 1 = .ok (.invokevirtual 43, 3) := by decide +kernel
theorem dX6_takeFish_4 : decode cX6_takeFish 4 = .ok (.getstatic 130, 3) := by decide +kernel
theorem dX6_takeFish_7 : decode cX6_takeFish 7 = .ok (.if_acmp .ne 13, 3) := by decide +kernel
theorem dX6_takeFish_10 : decode cX6_takeFish 10 = .ok (.iload_n 1, 1) := by decide +kernel
theorem dX6_takeFish_11 : decode cX6_takeFish 11 = .ok (.iconst 5, 1) := by decide +kernel
theorem dX6_takeFish_12 : decode cX6_takeFish 12 = .ok (.if_icmp .le 8, 3) := by decide +kernel
theorem dX6_takeFish_15 : decode cX6_takeFish 15 = .ok (.aload_n 0, 1) := by decide +kernel
theorem dX6_takeFish_16 : decode cX6_takeFish 16 = .ok (.iconst 4, 1) := by decide +kernel
theorem dX6_takeFish_17 : decode cX6_takeFish 17 = .ok (.invokevirtual 133, 3) := by decide +kernel
theorem dX6_takeFish_20 : decode cX6_takeFish 20 = .ok (.aload_n 0, 1) := by decide +kernel
theorem dX6_takeFish_21 : decode cX6_takeFish 21 = .ok (.iconst 0, 1) := by decide +kernel
theorem dX6_takeFish_22 : decode cX6_takeFish 22 = .ok (.bipush 99, 2) := by decide +kernel
theorem dX6_takeFish_24 : decode cX6_takeFish 24 = .ok (.invokevirtual 108, 3) := by decide +kernel
theorem dX6_takeFish_27 : decode cX6_takeFish 27 = .ok (.ifCond .ne 5, 3) := by decide +kernel
theorem dX6_takeFish_30 : decode cX6_takeFish 30 = .ok (.iconst 0, 1) := by decide +kernel
theorem dX6_takeFish_31 : decode cX6_takeFish 31 = .ok (.ireturn, 1) := by decide +kernel
theorem dX6_takeFish_32 : decode cX6_takeFish 32 = .ok (.iload_n 1, 1) := by decide +kernel
theorem dX6_takeFish_33 : decode cX6_takeFish 33 = .ok (.iconst 5, 1) := by decide +kernel
theorem dX6_takeFish_34 : decode cX6_takeFish 34 = .ok (.if_icmp .gt 13, 3) := by decide +kernel
theorem dX6_takeFish_37 : decode cX6_takeFish 37 = .ok (.aload_n 2, 1) := by decide +kernel
theorem dX6_takeFish_38 : decode cX6_takeFish 38 = .ok (.getfield 136, 3) := by decide +kernel
theorem dX6_takeFish_41 : decode cX6_takeFish 41 = .ok (.iload_n 1, 1) := by decide +kernel
theorem dX6_takeFish_42 : decode cX6_takeFish 42 = .ok (.aload_n 0, 1) := by decide +kernel
theorem dX6_takeFish_43 : decode cX6_takeFish 43 = .ok (.getfield 112, 3) := by decide +kernel
theorem dX6_takeFish_46 : decode cX6_takeFish 46 = .ok (.iastore, 1) := by decide +kernel
theorem dX6_takeFish_47 : decode cX6_takeFish 47 = .ok (.iconst 1, 1) := by decide +kernel
theorem dX6_takeFish_48 : decode cX6_takeFish 48 = .ok (.ireturn, 1) := by decide +kernel
theorem dX6_fisherLine_0 : decode cX6_fisherLine 0 = .ok (.aload_n 0, 1) := by decide +kernel
theorem dX6_fisherLine_1 : decode cX6_fisherLine 1 = .ok (.getstatic 139, 3) := by decide +kernel
theorem dX6_fisherLine_4 : decode cX6_fisherLine 4 = .ok (.invokevirtual 79, 3) := by decide +kernel
theorem dX6_fisherLine_7 : decode cX6_fisherLine 7 = .ok (.ifCond .eq 14, 3) := by decide +kernel
theorem dX6_fisherLine_10 : decode cX6_fisherLine 10 = .ok (.aload_n 0, 1) := by decide +kernel
theorem dX6_fisherLine_11 : decode cX6_fisherLine 11 = .ok (.aload_n 0, 1) := by decide +kernel
theorem dX6_fisherLine_12 : decode cX6_fisherLine 12 = .ok (.getfield 24, 3) := by decide +kernel
theorem dX6_fisherLine_15 : decode cX6_fisherLine 15 = .ok (.invokevirtual 97, 3) := by decide +kernel
theorem dX6_fisherLine_18 : decode cX6_fisherLine 18 = .ok (.ifCond .ne 5, 3) := by decide +kernel
theorem dX6_fisherLine_21 : decode cX6_fisherLine 21 = .ok (.iconst 0, 1) := by decide +kernel
theorem dX6_fisherLine_22 : decode cX6_fisherLine 22 = .ok (.ireturn, 1) := by decide +kernel
theorem dX6_fisherLine_23 : decode cX6_fisherLine 23 = .ok (.aload_n 0, 1) := by decide +kernel
theorem dX6_fisherLine_24 : decode cX6_fisherLine 24 = .ok (.getfield 34, 3) := by decide +kernel
theorem dX6_fisherLine_27 : decode cX6_fisherLine 27 = .ok (.invokevirtual 142, 3) := by decide +kernel
theorem dX6_fisherLine_30 : decode cX6_fisherLine 30 = .ok (.astore_n 1, 1) := by decide +kernel
theorem dX6_fisherLine_31 : decode cX6_fisherLine 31 = .ok (.aload_n 0, 1) := by decide +kernel
theorem dX6_fisherLine_32 : decode cX6_fisherLine 32 = .ok (.getstatic 146, 3) := by decide +kernel
theorem dX6_fisherLine_35 : decode cX6_fisherLine 35 = .ok (.invokevirtual 79, 3) := by decide +kernel
theorem dX6_fisherLine_38 : decode cX6_fisherLine 38 = .ok (.ifCond .eq 12, 3) := by decide +kernel
theorem dX6_fisherLine_41 : decode cX6_fisherLine 41 = .ok (.aload_n 0, 1) := by decide +kernel
theorem dX6_fisherLine_42 : decode cX6_fisherLine 42 = .ok (.iconst 1, 1) := by decide +kernel
theorem dX6_fisherLine_43 : decode cX6_fisherLine 43 = .ok (.iconst 5, 1) := by decide +kernel
theorem dX6_fisherLine_44 : decode cX6_fisherLine 44 = .ok (.invokevirtual 108, 3) := by decide +kernel
theorem dX6_fisherLine_47 : decode cX6_fisherLine 47 = .ok (.ifCond .ne 5, 3) := by decide +kernel
theorem dX6_fisherLine_50 : decode cX6_fisherLine 50 = .ok (.iconst 0, 1) := by decide +kernel
theorem dX6_fisherLine_51 : decode cX6_fisherLine 51 = .ok (.ireturn, 1) := by decide +kernel
theorem dX6_fisherLine_52 : decode cX6_fisherLine 52 = .ok (.aload_n 1, 1) := by decide +kernel
theorem dX6_fisherLine_53 : decode cX6_fisherLine 53 = .ok (.aload_n 0, 1) := by decide +kernel
theorem dX6_fisherLine_54 : decode cX6_fisherLine 54 = .ok (.getfield 112, 3) := by decide +kernel
theorem dX6_fisherLine_57 : decode cX6_fisherLine 57 = .ok (.putfield 149, 3) := by decide +kernel
theorem dX6_fisherLine_60 : decode cX6_fisherLine 60 = .ok (.aload_n 1, 1) := by decide +kernel
theorem dX6_fisherLine_61 : decode cX6_fisherLine 61 = .ok (.aload_n 0, 1) := by decide +kernel
theorem dX6_fisherLine_62 : decode cX6_fisherLine 62 = .ok (.getfield 112, 3) := by decide +kernel
theorem dX6_fisherLine_65 : decode cX6_fisherLine 65 = .ok (.putfield 154, 3) := by decide +kernel
theorem dX6_fisherLine_68 : decode cX6_fisherLine 68 = .ok (.aload_n 0, 1) := by decide +kernel
theorem dX6_fisherLine_69 : decode cX6_fisherLine 69 = .ok (.getstatic 157, 3) := by decide +kernel
theorem dX6_fisherLine_72 : decode cX6_fisherLine 72 = .ok (.invokevirtual 79, 3) := by decide +kernel
theorem dX6_fisherLine_75 : decode cX6_fisherLine 75 = .ok (.ifCond .eq 13, 3) := by decide +kernel
theorem dX6_fisherLine_78 : decode cX6_fisherLine 78 = .ok (.aload_n 0, 1) := by decide +kernel
theorem dX6_fisherLine_79 : decode cX6_fisherLine 79 = .ok (.iconst 1, 1) := by decide +kernel
theorem dX6_fisherLine_80 : decode cX6_fisherLine 80 = .ok (.bipush 99, 2) := by decide +kernel
theorem dX6_fisherLine_82 : decode cX6_fisherLine 82 = .ok (.invokevirtual 108, 3) := by decide +kernel
theorem dX6_fisherLine_85 : decode cX6_fisherLine 85 = .ok (.ifCond .ne 5, 3) := by decide +kernel
theorem dX6_fisherLine_88 : decode cX6_fisherLine 88 = .ok (.iconst 0, 1) := by decide +kernel
theorem dX6_fisherLine_89 : decode cX6_fisherLine 89 = .ok (.ireturn, 1) := by decide +kernel
theorem dX6_fisherLine_90 : decode cX6_fisherLine 90 = .ok (.aload_n 1, 1) := by decide +kernel
theorem dX6_fisherLine_91 : decode cX6_fisherLine 91 = .ok (.aload_n 0, 1) := by decide +kernel
theorem dX6_fisherLine_92 : decode cX6_fisherLine 92 = .ok (.getfield 112, 3) := by decide +kernel
theorem dX6_fisherLine_95 : decode cX6_fisherLine 95 = .ok (.putfield 160, 3) := by decide +kernel
theorem dX6_fisherLine_98 : decode cX6_fisherLine 98 = .ok (.aload_n 0, 1) := by decide +kernel
theorem dX6_fisherLine_99 : decode cX6_fisherLine 99 = .ok (.getstatic 163, 3) := by decide +kernel
theorem dX6_fisherLine_102 : decode cX6_fisherLine 102 = .ok (.invokevirtual 79, 3) := by decide +kernel
theorem dX6_fisherLine_105 : decode cX6_fisherLine 105 = .ok (.ifCond .eq 13, 3) := by decide +kernel
theorem dX6_fisherLine_108 : decode cX6_fisherLine 108 = .ok (.aload_n 0, 1) := by decide +kernel
theorem dX6_fisherLine_109 : decode cX6_fisherLine 109 = .ok (.iconst 1, 1) := by decide +kernel
theorem dX6_fisherLine_110 : decode cX6_fisherLine 110 = .ok (.bipush 40, 2) := by decide +kernel
theorem dX6_fisherLine_112 : decode cX6_fisherLine 112 = .ok (.invokevirtual 108, 3) := by decide +kernel
theorem dX6_fisherLine_115 : decode cX6_fisherLine 115 = .ok (.ifCond .ne 5, 3) := by decide +kernel
theorem dX6_fisherLine_118 : decode cX6_fisherLine 118 = .ok (.iconst 0, 1) := by decide +kernel
theorem dX6_fisherLine_119 : decode cX6_fisherLine 119 = .ok (.ireturn, 1) := by decide +kernel
theorem dX6_fisherLine_120 : decode cX6_fisherLine 120 = .ok (.aload_n 1, 1) := by decide +kernel
theorem dX6_fisherLine_121 : decode cX6_fisherLine 121 = .ok (.aload_n 0, 1) := by decide +kernel
theorem dX6_fisherLine_122 : decode cX6_fisherLine 122 = .ok (.getfield 112, 3) := by decide +kernel
theorem dX6_fisherLine_125 : decode cX6_fisherLine 125 = .ok (.putfield 166, 3) := by decide +kernel
theorem dX6_fisherLine_128 : decode cX6_fisherLine 128 = .ok (.iconst 1, 1) := by decide +kernel
theorem dX6_fisherLine_129 : decode cX6_fisherLine 129 = .ok (.ireturn, 1) := by decide +kernel
theorem dX6_goLine_0 : decode cX6_goLine 0 = .ok (.aload_n 0, 1) := by decide +kernel
theorem dX6_goLine_1 : decode cX6_goLine 1 = .ok (.getfield 34, 3) := by decide +kernel
theorem dX6_goLine_4 : decode cX6_goLine 4 = .ok (.getfield 169, 3) := by decide +kernel
theorem dX6_goLine_7 : decode cX6_goLine 7 = .ok (.bipush 24, 2) := by decide +kernel
theorem dX6_goLine_9 : decode cX6_goLine 9 = .ok (.if_icmp .lt 8, 3) := by decide +kernel
theorem dX6_goLine_12 : decode cX6_goLine 12 = .ok (.aload_n 0, 1) := by decide +kernel
theorem dX6_goLine_13 : decode cX6_goLine 13 = .ok (.iconst 4, 1) := by decide +kernel
theorem dX6_goLine_14 : decode cX6_goLine 14 = .ok (.invokevirtual 133, 3) := by decide +kernel
theorem dX6_goLine_17 : decode cX6_goLine 17 = .ok (.aload_n 0, 1) := by decide +kernel
theorem dX6_goLine_18 : decode cX6_goLine 18 = .ok (.getfield 34, 3) := by decide +kernel
theorem dX6_goLine_21 : decode cX6_goLine 21 = .ok (.invokevirtual 172, 3) := by decide +kernel
theorem dX6_goLine_24 : decode cX6_goLine 24 = .ok (.astore_n 1, 1) := by decide +kernel
theorem dX6_goLine_25 : decode cX6_goLine 25 = .ok (.aload_n 0, 1) := by decide +kernel
theorem dX6_goLine_26 : decode cX6_goLine 26 = .ok (.getstatic 176, 3) := by decide +kernel
theorem dX6_goLine_29 : decode cX6_goLine 29 = .ok (.invokevirtual 79, 3) := by decide +kernel
theorem dX6_goLine_32 : decode cX6_goLine 32 = .ok (.ifCond .eq 14, 3) := by decide +kernel
theorem dX6_goLine_35 : decode cX6_goLine 35 = .ok (.aload_n 0, 1) := by decide +kernel
theorem dX6_goLine_36 : decode cX6_goLine 36 = .ok (.aload_n 0, 1) := by decide +kernel
theorem dX6_goLine_37 : decode cX6_goLine 37 = .ok (.getfield 24, 3) := by decide +kernel
theorem dX6_goLine_40 : decode cX6_goLine 40 = .ok (.invokevirtual 179, 3) := by decide +kernel
theorem dX6_goLine_43 : decode cX6_goLine 43 = .ok (.ifCond .ne 5, 3) := by decide +kernel
theorem dX6_goLine_46 : decode cX6_goLine 46 = .ok (.iconst 0, 1) := by decide +kernel
theorem dX6_goLine_47 : decode cX6_goLine 47 = .ok (.ireturn, 1) := by decide +kernel
theorem dX6_goLine_48 : decode cX6_goLine 48 = .ok (.aload_n 1, 1) := by decide +kernel
theorem dX6_goLine_49 : decode cX6_goLine 49 = .ok (.aload_n 0, 1) := by decide +kernel
theorem dX6_goLine_50 : decode cX6_goLine 50 = .ok (.getfield 112, 3) := by decide +kernel
theorem dX6_goLine_53 : decode cX6_goLine 53 = .ok (.putfield 182, 3) := by decide +kernel
theorem dX6_goLine_56 : decode cX6_goLine 56 = .ok (.aload_n 0, 1) := by decide +kernel
theorem dX6_goLine_57 : decode cX6_goLine 57 = .ok (.getstatic 187, 3) := by decide +kernel
theorem dX6_goLine_60 : decode cX6_goLine 60 = .ok (.invokevirtual 79, 3) := by decide +kernel
theorem dX6_goLine_63 : decode cX6_goLine 63 = .ok (.ifCond .eq 14, 3) := by decide +kernel
theorem dX6_goLine_66 : decode cX6_goLine 66 = .ok (.aload_n 0, 1) := by decide +kernel
theorem dX6_goLine_67 : decode cX6_goLine 67 = .ok (.aload_n 0, 1) := by decide +kernel
theorem dX6_goLine_68 : decode cX6_goLine 68 = .ok (.getfield 20, 3) := by decide +kernel
theorem dX6_goLine_71 : decode cX6_goLine 71 = .ok (.invokevirtual 179, 3) := by decide +kernel
theorem dX6_goLine_74 : decode cX6_goLine 74 = .ok (.ifCond .ne 5, 3) := by decide +kernel
theorem dX6_goLine_77 : decode cX6_goLine 77 = .ok (.iconst 0, 1) := by decide +kernel
theorem dX6_goLine_78 : decode cX6_goLine 78 = .ok (.ireturn, 1) := by decide +kernel
theorem dX6_goLine_79 : decode cX6_goLine 79 = .ok (.aload_n 1, 1) := by decide +kernel
theorem dX6_goLine_80 : decode cX6_goLine 80 = .ok (.aload_n 0, 1) := by decide +kernel
theorem dX6_goLine_81 : decode cX6_goLine 81 = .ok (.getfield 112, 3) := by decide +kernel
theorem dX6_goLine_84 : decode cX6_goLine 84 = .ok (.putfield 190, 3) := by decide +kernel
theorem dX6_goLine_87 : decode cX6_goLine 87 = .ok (.aload_n 1, 1) := by decide +kernel
theorem dX6_goLine_88 : decode cX6_goLine 88 = .ok (.aload_n 0, 1) := by decide +kernel
theorem dX6_goLine_89 : decode cX6_goLine 89 = .ok (.getfield 34, 3) := by decide +kernel
theorem dX6_goLine_92 : decode cX6_goLine 92 = .ok (.getfield 193, 3) := by decide +kernel
theorem dX6_goLine_95 : decode cX6_goLine 95 = .ok (.getfield 197, 3) := by decide +kernel
theorem dX6_goLine_98 : decode cX6_goLine 98 = .ok (.putfield 202, 3) := by decide +kernel
theorem dX6_goLine_101 : decode cX6_goLine 101 = .ok (.aload_n 0, 1) := by decide +kernel
theorem dX6_goLine_102 : decode cX6_goLine 102 = .ok (.getstatic 205, 3) := by decide +kernel
theorem dX6_goLine_105 : decode cX6_goLine 105 = .ok (.invokevirtual 79, 3) := by decide +kernel
theorem dX6_goLine_108 : decode cX6_goLine 108 = .ok (.ifCond .eq 13, 3) := by decide +kernel
theorem dX6_goLine_111 : decode cX6_goLine 111 = .ok (.aload_n 0, 1) := by decide +kernel
theorem dX6_goLine_112 : decode cX6_goLine 112 = .ok (.iconst 0, 1) := by decide +kernel
theorem dX6_goLine_113 : decode cX6_goLine 113 = .ok (.invokevirtual 208, 3) := by decide +kernel
theorem dX6_goLine_116 : decode cX6_goLine 116 = .ok (.ifCond .ne 5, 3) := by decide +kernel
theorem dX6_goLine_119 : decode cX6_goLine 119 = .ok (.iconst 0, 1) := by decide +kernel
theorem dX6_goLine_120 : decode cX6_goLine 120 = .ok (.ireturn, 1) := by decide +kernel
theorem dX6_goLine_121 : decode cX6_goLine 121 = .ok (.aload_n 1, 1) := by decide +kernel
theorem dX6_goLine_122 : decode cX6_goLine 122 = .ok (.aload_n 0, 1) := by decide +kernel
theorem dX6_goLine_123 : decode cX6_goLine 123 = .ok (.getfield 34, 3) := by decide +kernel
theorem dX6_goLine_126 : decode cX6_goLine 126 = .ok (.getfield 193, 3) := by decide +kernel
theorem dX6_goLine_129 : decode cX6_goLine 129 = .ok (.getfield 197, 3) := by decide +kernel
theorem dX6_goLine_132 : decode cX6_goLine 132 = .ok (.putfield 212, 3) := by decide +kernel
theorem dX6_goLine_135 : decode cX6_goLine 135 = .ok (.iconst 1, 1) := by decide +kernel
theorem dX6_goLine_136 : decode cX6_goLine 136 = .ok (.ireturn, 1) := by decide +kernel
theorem dX6_pactLine_0 : decode cX6_pactLine 0 = .ok (.aload_n 0, 1) := by decide +kernel
theorem dX6_pactLine_1 : decode cX6_pactLine 1 = .ok (.getstatic 215, 3) := by decide +kernel
theorem dX6_pactLine_4 : decode cX6_pactLine 4 = .ok (.invokevirtual 79, 3) := by decide +kernel
theorem dX6_pactLine_7 : decode cX6_pactLine 7 = .ok (.ifCond .eq 14, 3) := by decide +kernel
theorem dX6_pactLine_10 : decode cX6_pactLine 10 = .ok (.aload_n 0, 1) := by decide +kernel
theorem dX6_pactLine_11 : decode cX6_pactLine 11 = .ok (.aload_n 0, 1) := by decide +kernel
theorem dX6_pactLine_12 : decode cX6_pactLine 12 = .ok (.getfield 27, 3) := by decide +kernel
theorem dX6_pactLine_15 : decode cX6_pactLine 15 = .ok (.invokevirtual 97, 3) := by decide +kernel
theorem dX6_pactLine_18 : decode cX6_pactLine 18 = .ok (.ifCond .ne 5, 3) := by decide +kernel
theorem dX6_pactLine_21 : decode cX6_pactLine 21 = .ok (.iconst 0, 1) := by decide +kernel
theorem dX6_pactLine_22 : decode cX6_pactLine 22 = .ok (.ireturn, 1) := by decide +kernel
theorem dX6_pactLine_23 : decode cX6_pactLine 23 = .ok (.aload_n 0, 1) := by decide +kernel
theorem dX6_pactLine_24 : decode cX6_pactLine 24 = .ok (.getfield 34, 3) := by decide +kernel
theorem dX6_pactLine_27 : decode cX6_pactLine 27 = .ok (.invokevirtual 218, 3) := by decide +kernel
theorem dX6_pactLine_30 : decode cX6_pactLine 30 = .ok (.astore_n 1, 1) := by decide +kernel
theorem dX6_pactLine_31 : decode cX6_pactLine 31 = .ok (.aload_n 0, 1) := by decide +kernel
theorem dX6_pactLine_32 : decode cX6_pactLine 32 = .ok (.getstatic 222, 3) := by decide +kernel
theorem dX6_pactLine_35 : decode cX6_pactLine 35 = .ok (.invokevirtual 79, 3) := by decide +kernel
theorem dX6_pactLine_38 : decode cX6_pactLine 38 = .ok (.ifCond .eq 11, 3) := by decide +kernel
theorem dX6_pactLine_41 : decode cX6_pactLine 41 = .ok (.aload_n 0, 1) := by decide +kernel
theorem dX6_pactLine_42 : decode cX6_pactLine 42 = .ok (.aload_n 1, 1) := by decide +kernel
theorem dX6_pactLine_43 : decode cX6_pactLine 43 = .ok (.invokevirtual 225, 3) := by decide +kernel
theorem dX6_pactLine_46 : decode cX6_pactLine 46 = .ok (.ifCond .ne 5, 3) := by decide +kernel
theorem dX6_pactLine_49 : decode cX6_pactLine 49 = .ok (.iconst 0, 1) := by decide +kernel
theorem dX6_pactLine_50 : decode cX6_pactLine 50 = .ok (.ireturn, 1) := by decide +kernel
theorem dX6_pactLine_51 : decode cX6_pactLine 51 = .ok (.iconst 0, 1) := by decide +kernel
theorem dX6_pactLine_52 : decode cX6_pactLine 52 = .ok (.istore_n 2, 1) := by decide +kernel
theorem dX6_pactLine_53 : decode cX6_pactLine 53 = .ok (.iload_n 2, 1) := by decide +kernel
theorem dX6_pactLine_54 : decode cX6_pactLine 54 = .ok (.sipush 400, 3) := by decide +kernel
theorem dX6_pactLine_57 : decode cX6_pactLine 57 = .ok (.if_icmp .ge 29, 3) := by decide +kernel
theorem dX6_pactLine_60 : decode cX6_pactLine 60 = .ok (.aload_n 0, 1) := by decide +kernel
theorem dX6_pactLine_61 : decode cX6_pactLine 61 = .ok (.getstatic 127, 3) := by decide +kernel
theorem dX6_pactLine_64 : decode cX6_pactLine 64 = .ok (.invokevirtual 79, 3) := by decide +kernel
theorem dX6_pactLine_67 : decode cX6_pactLine 67 = .ok (.ifCond .eq 19, 3) := by decide +kernel
theorem dX6_pactLine_70 : decode cX6_pactLine 70 = .ok (.aload_n 0, 1) := by decide +kernel
theorem dX6_pactLine_71 : decode cX6_pactLine 71 = .ok (.aload_n 1, 1) := by decide +kernel
theorem dX6_pactLine_72 : decode cX6_pactLine 72 = .ok (.invokevirtual 225, 3) := by decide +kernel
theorem dX6_pactLine_75 : decode cX6_pactLine 75 = .ok (.ifCond .ne 5, 3) := by decide +kernel
theorem dX6_pactLine_78 : decode cX6_pactLine 78 = .ok (.iconst 0, 1) := by decide +kernel
theorem dX6_pactLine_79 : decode cX6_pactLine 79 = .ok (.ireturn, 1) := by decide +kernel
theorem dX6_pactLine_80 : decode cX6_pactLine 80 = .ok (.iinc 2 1, 3) := by decide +kernel
theorem dX6_pactLine_83 : decode cX6_pactLine 83 = .ok (.goto (-30), 3) := by decide +kernel
theorem dX6_pactLine_86 : decode cX6_pactLine 86 = .ok (.aload_n 0, 1) := by decide +kernel
theorem dX6_pactLine_87 : decode cX6_pactLine 87 = .ok (.getstatic 229, 3) := by decide +kernel
theorem dX6_pactLine_90 : decode cX6_pactLine 90 = .ok (.invokevirtual 79, 3) := by decide +kernel
theorem dX6_pactLine_93 : decode cX6_pactLine 93 = .ok (.ifCond .eq 5, 3) := by decide +kernel
theorem dX6_pactLine_96 : decode cX6_pactLine 96 = .ok (.iconst 1, 1) := by decide +kernel
theorem dX6_pactLine_97 : decode cX6_pactLine 97 = .ok (.ireturn, 1) := by decide +kernel
theorem dX6_pactLine_98 : decode cX6_pactLine 98 = .ok (.aload_n 0, 1) := by decide +kernel
theorem dX6_pactLine_99 : decode cX6_pactLine 99 = .ok (.getstatic 232, 3) := by decide +kernel
theorem dX6_pactLine_102 : decode cX6_pactLine 102 = .ok (.invokevirtual 79, 3) := by decide +kernel
theorem dX6_pactLine_105 : decode cX6_pactLine 105 = .ok (.ifCond .eq 14, 3) := by decide +kernel
theorem dX6_pactLine_108 : decode cX6_pactLine 108 = .ok (.aload_n 0, 1) := by decide +kernel
theorem dX6_pactLine_109 : decode cX6_pactLine 109 = .ok (.aload_n 0, 1) := by decide +kernel
theorem dX6_pactLine_110 : decode cX6_pactLine 110 = .ok (.getfield 20, 3) := by decide +kernel
theorem dX6_pactLine_113 : decode cX6_pactLine 113 = .ok (.invokevirtual 179, 3) := by decide +kernel
theorem dX6_pactLine_116 : decode cX6_pactLine 116 = .ok (.ifCond .ne 5, 3) := by decide +kernel
theorem dX6_pactLine_119 : decode cX6_pactLine 119 = .ok (.iconst 0, 1) := by decide +kernel
theorem dX6_pactLine_120 : decode cX6_pactLine 120 = .ok (.ireturn, 1) := by decide +kernel
theorem dX6_pactLine_121 : decode cX6_pactLine 121 = .ok (.aload_n 1, 1) := by decide +kernel
theorem dX6_pactLine_122 : decode cX6_pactLine 122 = .ok (.aload_n 0, 1) := by decide +kernel
theorem dX6_pactLine_123 : decode cX6_pactLine 123 = .ok (.getfield 112, 3) := by decide +kernel
theorem dX6_pactLine_126 : decode cX6_pactLine 126 = .ok (.putfield 235, 3) := by decide +kernel
theorem dX6_pactLine_129 : decode cX6_pactLine 129 = .ok (.aload_n 1, 1) := by decide +kernel
theorem dX6_pactLine_130 : decode cX6_pactLine 130 = .ok (.aload_n 0, 1) := by decide +kernel
theorem dX6_pactLine_131 : decode cX6_pactLine 131 = .ok (.getfield 34, 3) := by decide +kernel
theorem dX6_pactLine_134 : decode cX6_pactLine 134 = .ok (.getfield 193, 3) := by decide +kernel
theorem dX6_pactLine_137 : decode cX6_pactLine 137 = .ok (.getfield 197, 3) := by decide +kernel
theorem dX6_pactLine_140 : decode cX6_pactLine 140 = .ok (.putfield 238, 3) := by decide +kernel
theorem dX6_pactLine_143 : decode cX6_pactLine 143 = .ok (.aload_n 0, 1) := by decide +kernel
theorem dX6_pactLine_144 : decode cX6_pactLine 144 = .ok (.getstatic 241, 3) := by decide +kernel
theorem dX6_pactLine_147 : decode cX6_pactLine 147 = .ok (.invokevirtual 79, 3) := by decide +kernel
theorem dX6_pactLine_150 : decode cX6_pactLine 150 = .ok (.ifCond .eq 11, 3) := by decide +kernel
theorem dX6_pactLine_153 : decode cX6_pactLine 153 = .ok (.aload_n 0, 1) := by decide +kernel
theorem dX6_pactLine_154 : decode cX6_pactLine 154 = .ok (.iconst 0, 1) := by decide +kernel
theorem dX6_pactLine_155 : decode cX6_pactLine 155 = .ok (.invokevirtual 244, 3) := by decide +kernel
theorem dX6_pactLine_158 : decode cX6_pactLine 158 = .ok (.ifCond .ne 5, 3) := by decide +kernel
theorem dX6_pactLine_161 : decode cX6_pactLine 161 = .ok (.iconst 0, 1) := by decide +kernel
theorem dX6_pactLine_162 : decode cX6_pactLine 162 = .ok (.ireturn, 1) := by decide +kernel
theorem dX6_pactLine_163 : decode cX6_pactLine 163 = .ok (.aload_n 1, 1) := by decide +kernel
theorem dX6_pactLine_164 : decode cX6_pactLine 164 = .ok (.aload_n 0, 1) := by decide +kernel
theorem dX6_pactLine_165 : decode cX6_pactLine 165 = .ok (.getfield 34, 3) := by decide +kernel
theorem dX6_pactLine_168 : decode cX6_pactLine 168 = .ok (.getfield 193, 3) := by decide +kernel
theorem dX6_pactLine_171 : decode cX6_pactLine 171 = .ok (.getfield 197, 3) := by decide +kernel
theorem dX6_pactLine_174 : decode cX6_pactLine 174 = .ok (.putfield 247, 3) := by decide +kernel
theorem dX6_pactLine_177 : decode cX6_pactLine 177 = .ok (.iconst 1, 1) := by decide +kernel
theorem dX6_pactLine_178 : decode cX6_pactLine 178 = .ok (.ireturn, 1) := by decide +kernel
theorem dX6_takeMember_0 : decode cX6_takeMember 0 = .ok (.aload_n 0, 1) := by decide +kernel
theorem dX6_takeMember_1 : decode cX6_takeMember 1 = .ok (.invokevirtual 43, 3) := by decide +kernel
theorem dX6_takeMember_4 : decode cX6_takeMember 4 = .ok (.getstatic 250, 3) := by decide +kernel
theorem dX6_takeMember_7 : decode cX6_takeMember 7 = .ok (.if_acmp .ne 35, 3) := by decide +kernel
theorem dX6_takeMember_10 : decode cX6_takeMember 10 = .ok (.aload_n 1, 1) := by decide +kernel
theorem dX6_takeMember_11 : decode cX6_takeMember 11 = .ok (.aload_n 0, 1) := by decide +kernel
theorem dX6_takeMember_12 : decode cX6_takeMember 12 = .ok (.getfield 24, 3) := by decide +kernel
theorem dX6_takeMember_15 : decode cX6_takeMember 15 = .ok (.aload_n 0, 1) := by decide +kernel
theorem dX6_takeMember_16 : decode cX6_takeMember 16 = .ok (.getfield 30, 3) := by decide +kernel
theorem dX6_takeMember_19 : decode cX6_takeMember 19 = .ok (.getfield 253, 3) := by decide +kernel
theorem dX6_takeMember_22 : decode cX6_takeMember 22 = .ok (.aload_n 0, 1) := by decide +kernel
theorem dX6_takeMember_23 : decode cX6_takeMember 23 = .ok (.getfield 91, 3) := by decide +kernel
theorem dX6_takeMember_26 : decode cX6_takeMember 26 = .ok (.laload, 1) := by decide +kernel
theorem dX6_takeMember_27 : decode cX6_takeMember 27 = .ok (.invokevirtual 257, 3) := by decide +kernel
theorem dX6_takeMember_30 : decode cX6_takeMember 30 = .ok (.invokevirtual 261, 3) := by decide +kernel
theorem dX6_takeMember_33 : decode cX6_takeMember 33 = .ok (.ifCond .eq 9, 3) := by decide +kernel
theorem dX6_takeMember_36 : decode cX6_takeMember 36 = .ok (.aload_n 0, 1) := by decide +kernel
theorem dX6_takeMember_37 : decode cX6_takeMember 37 = .ok (.bipush 6, 2) := by decide +kernel
theorem dX6_takeMember_39 : decode cX6_takeMember 39 = .ok (.invokevirtual 133, 3) := by decide +kernel
theorem dX6_takeMember_42 : decode cX6_takeMember 42 = .ok (.aload_n 0, 1) := by decide +kernel
theorem dX6_takeMember_43 : decode cX6_takeMember 43 = .ok (.aload_n 0, 1) := by decide +kernel
theorem dX6_takeMember_44 : decode cX6_takeMember 44 = .ok (.getfield 24, 3) := by decide +kernel
theorem dX6_takeMember_47 : decode cX6_takeMember 47 = .ok (.invokevirtual 179, 3) := by decide +kernel
theorem dX6_takeMember_50 : decode cX6_takeMember 50 = .ok (.ifCond .ne 5, 3) := by decide +kernel
theorem dX6_takeMember_53 : decode cX6_takeMember 53 = .ok (.iconst 0, 1) := by decide +kernel
theorem dX6_takeMember_54 : decode cX6_takeMember 54 = .ok (.ireturn, 1) := by decide +kernel
theorem dX6_takeMember_55 : decode cX6_takeMember 55 = .ok (.aload_n 1, 1) := by decide +kernel
theorem dX6_takeMember_56 : decode cX6_takeMember 56 = .ok (.aload_n 0, 1) := by decide +kernel
theorem dX6_takeMember_57 : decode cX6_takeMember 57 = .ok (.getfield 112, 3) := by decide +kernel
theorem dX6_takeMember_60 : decode cX6_takeMember 60 = .ok (.invokevirtual 264, 3) := by decide +kernel
theorem dX6_takeMember_63 : decode cX6_takeMember 63 = .ok (.iconst 1, 1) := by decide +kernel
theorem dX6_takeMember_64 : decode cX6_takeMember 64 = .ok (.ireturn, 1) := by decide +kernel
theorem dX6_test_0 : decode cX6_test 0 = .ok (.aload_n 0, 1) := by decide +kernel
theorem dX6_test_1 : decode cX6_test 1 = .ok (.iload_n 1, 1) := by decide +kernel
theorem dX6_test_2 : decode cX6_test 2 = .ok (.invokevirtual 267, 3) := by decide +kernel
theorem dX6_test_5 : decode cX6_test 5 = .ok (.ifCond .ne 5, 3) := by decide +kernel
theorem dX6_test_8 : decode cX6_test 8 = .ok (.iconst 0, 1) := by decide +kernel
theorem dX6_test_9 : decode cX6_test 9 = .ok (.ireturn, 1) := by decide +kernel
theorem dX6_test_10 : decode cX6_test 10 = .ok (.iconst 0, 1) := by decide +kernel
theorem dX6_test_11 : decode cX6_test 11 = .ok (.istore_n 2, 1) := by decide +kernel
theorem dX6_test_12 : decode cX6_test 12 = .ok (.iload_n 2, 1) := by decide +kernel
theorem dX6_test_13 : decode cX6_test 13 = .ok (.sipush 400, 3) := by decide +kernel
theorem dX6_test_16 : decode cX6_test 16 = .ok (.if_icmp .ge 43, 3) := by decide +kernel
theorem dX6_test_19 : decode cX6_test 19 = .ok (.aload_n 0, 1) := by decide +kernel
theorem dX6_test_20 : decode cX6_test 20 = .ok (.getstatic 270, 3) := by decide +kernel
theorem dX6_test_23 : decode cX6_test 23 = .ok (.invokevirtual 79, 3) := by decide +kernel
theorem dX6_test_26 : decode cX6_test 26 = .ok (.ifCond .eq 33, 3) := by decide +kernel
theorem dX6_test_29 : decode cX6_test 29 = .ok (.aload_n 0, 1) := by decide +kernel
theorem dX6_test_30 : decode cX6_test 30 = .ok (.iload_n 1, 1) := by decide +kernel
theorem dX6_test_31 : decode cX6_test 31 = .ok (.invokevirtual 267, 3) := by decide +kernel
theorem dX6_test_34 : decode cX6_test 34 = .ok (.ifCond .ne 5, 3) := by decide +kernel
theorem dX6_test_37 : decode cX6_test 37 = .ok (.iconst 0, 1) := by decide +kernel
theorem dX6_test_38 : decode cX6_test 38 = .ok (.ireturn, 1) := by decide +kernel
theorem dX6_test_39 : decode cX6_test 39 = .ok (.aload_n 0, 1) := by decide +kernel
theorem dX6_test_40 : decode cX6_test 40 = .ok (.getfield 34, 3) := by decide +kernel
theorem dX6_test_43 : decode cX6_test 43 = .ok (.getfield 193, 3) := by decide +kernel
theorem dX6_test_46 : decode cX6_test 46 = .ok (.getstatic 270, 3) := by decide +kernel
theorem dX6_test_49 : decode cX6_test 49 = .ok (.iconst 0, 1) := by decide +kernel
theorem dX6_test_50 : decode cX6_test 50 = .ok (.invokevirtual 273, 3) := by decide +kernel
theorem dX6_test_53 : decode cX6_test 53 = .ok (.iinc 2 1, 3) := by decide +kernel
theorem dX6_test_56 : decode cX6_test 56 = .ok (.goto (-44), 3) := by decide +kernel
theorem dX6_test_59 : decode cX6_test 59 = .ok (.iconst 1, 1) := by decide +kernel
theorem dX6_test_60 : decode cX6_test 60 = .ok (.ireturn, 1) := by decide +kernel
theorem dX6_both_0 : decode cX6_both 0 = .ok (.aload_n 0, 1) := by decide +kernel
theorem dX6_both_1 : decode cX6_both 1 = .ok (.iload_n 1, 1) := by decide +kernel
theorem dX6_both_2 : decode cX6_both 2 = .ok (.invokevirtual 276, 3) := by decide +kernel
theorem dX6_both_5 : decode cX6_both 5 = .ok (.ifCond .ne 5, 3) := by decide +kernel
theorem dX6_both_8 : decode cX6_both 8 = .ok (.iconst 0, 1) := by decide +kernel
theorem dX6_both_9 : decode cX6_both 9 = .ok (.ireturn, 1) := by decide +kernel
theorem dX6_both_10 : decode cX6_both 10 = .ok (.iconst 0, 1) := by decide +kernel
theorem dX6_both_11 : decode cX6_both 11 = .ok (.istore_n 2, 1) := by decide +kernel
theorem dX6_both_12 : decode cX6_both 12 = .ok (.iload_n 2, 1) := by decide +kernel
theorem dX6_both_13 : decode cX6_both 13 = .ok (.sipush 400, 3) := by decide +kernel
theorem dX6_both_16 : decode cX6_both 16 = .ok (.if_icmp .ge 43, 3) := by decide +kernel
theorem dX6_both_19 : decode cX6_both 19 = .ok (.aload_n 0, 1) := by decide +kernel
theorem dX6_both_20 : decode cX6_both 20 = .ok (.getstatic 279, 3) := by decide +kernel
theorem dX6_both_23 : decode cX6_both 23 = .ok (.invokevirtual 79, 3) := by decide +kernel
theorem dX6_both_26 : decode cX6_both 26 = .ok (.ifCond .eq 33, 3) := by decide +kernel
theorem dX6_both_29 : decode cX6_both 29 = .ok (.aload_n 0, 1) := by decide +kernel
theorem dX6_both_30 : decode cX6_both 30 = .ok (.iload_n 1, 1) := by decide +kernel
theorem dX6_both_31 : decode cX6_both 31 = .ok (.invokevirtual 276, 3) := by decide +kernel
theorem dX6_both_34 : decode cX6_both 34 = .ok (.ifCond .ne 5, 3) := by decide +kernel
theorem dX6_both_37 : decode cX6_both 37 = .ok (.iconst 0, 1) := by decide +kernel
theorem dX6_both_38 : decode cX6_both 38 = .ok (.ireturn, 1) := by decide +kernel
theorem dX6_both_39 : decode cX6_both 39 = .ok (.aload_n 0, 1) := by decide +kernel
theorem dX6_both_40 : decode cX6_both 40 = .ok (.getfield 34, 3) := by decide +kernel
theorem dX6_both_43 : decode cX6_both 43 = .ok (.getfield 193, 3) := by decide +kernel
theorem dX6_both_46 : decode cX6_both 46 = .ok (.getstatic 279, 3) := by decide +kernel
theorem dX6_both_49 : decode cX6_both 49 = .ok (.iconst 0, 1) := by decide +kernel
theorem dX6_both_50 : decode cX6_both 50 = .ok (.invokevirtual 273, 3) := by decide +kernel
theorem dX6_both_53 : decode cX6_both 53 = .ok (.iinc 2 1, 3) := by decide +kernel
theorem dX6_both_56 : decode cX6_both 56 = .ok (.goto (-44), 3) := by decide +kernel
theorem dX6_both_59 : decode cX6_both 59 = .ok (.iconst 1, 1) := by decide +kernel
theorem dX6_both_60 : decode cX6_both 60 = .ok (.ireturn, 1) := by decide +kernel
theorem dX6_single_0 : decode cX6_single 0 = .ok (.aload_n 0, 1) := by decide +kernel
theorem dX6_single_1 : decode cX6_single 1 = .ok (.invokevirtual 43, 3) := by decide +kernel
theorem dX6_single_4 : decode cX6_single 4 = .ok (.astore_n 2, 1) := by decide +kernel
theorem dX6_single_5 : decode cX6_single 5 = .ok (.getstatic 53, 3) := by decide +kernel
theorem dX6_single_8 : decode cX6_single 8 = .ok (.aload_n 2, 1) := by decide +kernel
theorem dX6_single_9 : decode cX6_single 9 = .ok (.invokevirtual 59, 3) := by decide +kernel
theorem dX6_single_12 : decode cX6_single 12 = .ok (.iaload, 1) := by decide +kernel
theorem dX6_single_13 : decode cX6_single 13 = .ok (.tableswitch 155 5 7 #[27, 71, 113], 27) := by decide +kernel
theorem dX6_single_40 : decode cX6_single 40 = .ok (.iload_n 1, 1) := by decide +kernel
theorem dX6_single_41 : decode cX6_single 41 = .ok (.bipush 8, 2) := by decide +kernel
theorem dX6_single_43 : decode cX6_single 43 = .ok (.if_icmp .ge 23, 3) := by decide +kernel
theorem dX6_single_46 : decode cX6_single 46 = .ok (.aload_n 0, 1) := by decide +kernel
theorem dX6_single_47 : decode cX6_single 47 = .ok (.getstatic 282, 3) := by decide +kernel
theorem dX6_single_50 : decode cX6_single 50 = .ok (.invokevirtual 79, 3) := by decide +kernel
theorem dX6_single_53 : decode cX6_single 53 = .ok (.ifCond .eq 13, 3) := by decide +kernel
theorem dX6_single_56 : decode cX6_single 56 = .ok (.aload_n 0, 1) := by decide +kernel
theorem dX6_single_57 : decode cX6_single 57 = .ok (.iload_n 1, 1) := by decide +kernel
theorem dX6_single_58 : decode cX6_single 58 = .ok (.iconst 1, 1) := by decide +kernel
theorem dX6_single_59 : decode cX6_single 59 = .ok (.iadd, 1) := by decide +kernel
theorem dX6_single_60 : decode cX6_single 60 = .ok (.invokevirtual 276, 3) := by decide +kernel
theorem dX6_single_63 : decode cX6_single 63 = .ok (.ifCond .ne 5, 3) := by decide +kernel
theorem dX6_single_66 : decode cX6_single 66 = .ok (.iconst 0, 1) := by decide +kernel
theorem dX6_single_67 : decode cX6_single 67 = .ok (.ireturn, 1) := by decide +kernel
theorem dX6_single_68 : decode cX6_single 68 = .ok (.aload_n 0, 1) := by decide +kernel
theorem dX6_single_69 : decode cX6_single 69 = .ok (.getfield 34, 3) := by decide +kernel
theorem dX6_single_72 : decode cX6_single 72 = .ok (.getfield 193, 3) := by decide +kernel
theorem dX6_single_75 : decode cX6_single 75 = .ok (.getstatic 282, 3) := by decide +kernel
theorem dX6_single_78 : decode cX6_single 78 = .ok (.iconst 0, 1) := by decide +kernel
theorem dX6_single_79 : decode cX6_single 79 = .ok (.invokevirtual 273, 3) := by decide +kernel
theorem dX6_single_82 : decode cX6_single 82 = .ok (.iconst 1, 1) := by decide +kernel
theorem dX6_single_83 : decode cX6_single 83 = .ok (.ireturn, 1) := by decide +kernel
theorem dX6_single_84 : decode cX6_single 84 = .ok (.iload_n 1, 1) := by decide +kernel
theorem dX6_single_85 : decode cX6_single 85 = .ok (.bipush 8, 2) := by decide +kernel
theorem dX6_single_87 : decode cX6_single 87 = .ok (.if_icmp .ge 37, 3) := by decide +kernel
theorem dX6_single_90 : decode cX6_single 90 = .ok (.aload_n 0, 1) := by decide +kernel
theorem dX6_single_91 : decode cX6_single 91 = .ok (.getstatic 285, 3) := by decide +kernel
theorem dX6_single_94 : decode cX6_single 94 = .ok (.invokevirtual 79, 3) := by decide +kernel
theorem dX6_single_97 : decode cX6_single 97 = .ok (.ifCond .eq 27, 3) := by decide +kernel
theorem dX6_single_100 : decode cX6_single 100 = .ok (.aload_n 0, 1) := by decide +kernel
theorem dX6_single_101 : decode cX6_single 101 = .ok (.iload_n 1, 1) := by decide +kernel
theorem dX6_single_102 : decode cX6_single 102 = .ok (.iconst 1, 1) := by decide +kernel
theorem dX6_single_103 : decode cX6_single 103 = .ok (.iadd, 1) := by decide +kernel
theorem dX6_single_104 : decode cX6_single 104 = .ok (.invokevirtual 208, 3) := by decide +kernel
theorem dX6_single_107 : decode cX6_single 107 = .ok (.ifCond .eq 17, 3) := by decide +kernel
theorem dX6_single_110 : decode cX6_single 110 = .ok (.aload_n 0, 1) := by decide +kernel
theorem dX6_single_111 : decode cX6_single 111 = .ok (.getstatic 288, 3) := by decide +kernel
theorem dX6_single_114 : decode cX6_single 114 = .ok (.invokevirtual 79, 3) := by decide +kernel
theorem dX6_single_117 : decode cX6_single 117 = .ok (.ifCond .eq 7, 3) := by decide +kernel
theorem dX6_single_120 : decode cX6_single 120 = .ok (.iconst 1, 1) := by decide +kernel
theorem dX6_single_121 : decode cX6_single 121 = .ok (.goto 4, 3) := by decide +kernel
theorem dX6_single_124 : decode cX6_single 124 = .ok (.iconst 0, 1) := by decide +kernel
theorem dX6_single_125 : decode cX6_single 125 = .ok (.ireturn, 1) := by decide +kernel
theorem dX6_single_126 : decode cX6_single 126 = .ok (.aload_n 0, 1) := by decide +kernel
theorem dX6_single_127 : decode cX6_single 127 = .ok (.getstatic 291, 3) := by decide +kernel
theorem dX6_single_130 : decode cX6_single 130 = .ok (.invokevirtual 79, 3) := by decide +kernel
theorem dX6_single_133 : decode cX6_single 133 = .ok (.ifCond .eq 14, 3) := by decide +kernel
theorem dX6_single_136 : decode cX6_single 136 = .ok (.aload_n 0, 1) := by decide +kernel
theorem dX6_single_137 : decode cX6_single 137 = .ok (.aload_n 0, 1) := by decide +kernel
theorem dX6_single_138 : decode cX6_single 138 = .ok (.getfield 24, 3) := by decide +kernel
theorem dX6_single_141 : decode cX6_single 141 = .ok (.invokevirtual 179, 3) := by decide +kernel
theorem dX6_single_144 : decode cX6_single 144 = .ok (.ifCond .ne 5, 3) := by decide +kernel
theorem dX6_single_147 : decode cX6_single 147 = .ok (.iconst 0, 1) := by decide +kernel
theorem dX6_single_148 : decode cX6_single 148 = .ok (.ireturn, 1) := by decide +kernel
theorem dX6_single_149 : decode cX6_single 149 = .ok (.aload_n 0, 1) := by decide +kernel
theorem dX6_single_150 : decode cX6_single 150 = .ok (.getfield 34, 3) := by decide +kernel
theorem dX6_single_153 : decode cX6_single 153 = .ok (.getfield 193, 3) := by decide +kernel
theorem dX6_single_156 : decode cX6_single 156 = .ok (.getstatic 291, 3) := by decide +kernel
theorem dX6_single_159 : decode cX6_single 159 = .ok (.aload_n 0, 1) := by decide +kernel
theorem dX6_single_160 : decode cX6_single 160 = .ok (.getfield 112, 3) := by decide +kernel
theorem dX6_single_163 : decode cX6_single 163 = .ok (.invokevirtual 273, 3) := by decide +kernel
theorem dX6_single_166 : decode cX6_single 166 = .ok (.iconst 1, 1) := by decide +kernel
theorem dX6_single_167 : decode cX6_single 167 = .ok (.ireturn, 1) := by decide +kernel
theorem dX6_single_168 : decode cX6_single 168 = .ok (.aload_n 0, 1) := by decide +kernel
theorem dX6_single_169 : decode cX6_single 169 = .ok (.iload_n 1, 1) := by decide +kernel
theorem dX6_single_170 : decode cX6_single 170 = .ok (.invokevirtual 244, 3) := by decide +kernel
theorem dX6_single_173 : decode cX6_single 173 = .ok (.ifCond .eq 15, 3) := by decide +kernel
theorem dX6_single_176 : decode cX6_single 176 = .ok (.aload_n 0, 1) := by decide +kernel
theorem dX6_single_177 : decode cX6_single 177 = .ok (.iload_n 1, 1) := by decide +kernel
theorem dX6_single_178 : decode cX6_single 178 = .ok (.invokevirtual 294, 3) := by decide +kernel
theorem dX6_single_181 : decode cX6_single 181 = .ok (.ifCond .eq 7, 3) := by decide +kernel
theorem dX6_single_184 : decode cX6_single 184 = .ok (.iconst 1, 1) := by decide +kernel
theorem dX6_single_185 : decode cX6_single 185 = .ok (.goto 4, 3) := by decide +kernel
theorem dX6_single_188 : decode cX6_single 188 = .ok (.iconst 0, 1) := by decide +kernel
theorem dX6_single_189 : decode cX6_single 189 = .ok (.ireturn, 1) := by decide +kernel
theorem dX6_comparedSum_0 : decode cX6_comparedSum 0 = .ok (.aload_n 0, 1) := by decide +kernel
theorem dX6_comparedSum_1 : decode cX6_comparedSum 1 = .ok (.invokevirtual 43, 3) := by decide +kernel
theorem dX6_comparedSum_4 : decode cX6_comparedSum 4 = .ok (.astore_n 2, 1) := by decide +kernel
theorem dX6_comparedSum_5 : decode cX6_comparedSum 5 = .ok (.getstatic 53, 3) := by decide +kernel
theorem dX6_comparedSum_8 : decode cX6_comparedSum 8 = .ok (.aload_n 2, 1) := by decide +kernel
theorem dX6_comparedSum_9 : decode cX6_comparedSum 9 = .ok (.invokevirtual 59, 3) := by decide +kernel
theorem dX6_comparedSum_12 : decode cX6_comparedSum 12 = .ok (.iaload, 1) := by decide +kernel
theorem dX6_comparedSum_13 : decode cX6_comparedSum 13 = .ok (.tableswitch 67 8 12 #[35, 35, 35, 35, 35], 35) := by decide +kernel
theorem dX6_comparedSum_48 : decode cX6_comparedSum 48 = .ok (.aload_n 0, 1) := by decide +kernel
theorem dX6_comparedSum_49 : decode cX6_comparedSum 49 = .ok (.aload_n 2, 1) := by decide +kernel
theorem dX6_comparedSum_50 : decode cX6_comparedSum 50 = .ok (.invokevirtual 79, 3) := by decide +kernel
theorem dX6_comparedSum_53 : decode cX6_comparedSum 53 = .ok (.ifCond .eq 11, 3) := by decide +kernel
theorem dX6_comparedSum_56 : decode cX6_comparedSum 56 = .ok (.aload_n 0, 1) := by decide +kernel
theorem dX6_comparedSum_57 : decode cX6_comparedSum 57 = .ok (.iload_n 1, 1) := by decide +kernel
theorem dX6_comparedSum_58 : decode cX6_comparedSum 58 = .ok (.invokevirtual 244, 3) := by decide +kernel
theorem dX6_comparedSum_61 : decode cX6_comparedSum 61 = .ok (.ifCond .ne 5, 3) := by decide +kernel
theorem dX6_comparedSum_64 : decode cX6_comparedSum 64 = .ok (.iconst 0, 1) := by decide +kernel
theorem dX6_comparedSum_65 : decode cX6_comparedSum 65 = .ok (.ireturn, 1) := by decide +kernel
theorem dX6_comparedSum_66 : decode cX6_comparedSum 66 = .ok (.aload_n 0, 1) := by decide +kernel
theorem dX6_comparedSum_67 : decode cX6_comparedSum 67 = .ok (.getfield 34, 3) := by decide +kernel
theorem dX6_comparedSum_70 : decode cX6_comparedSum 70 = .ok (.getfield 193, 3) := by decide +kernel
theorem dX6_comparedSum_73 : decode cX6_comparedSum 73 = .ok (.aload_n 2, 1) := by decide +kernel
theorem dX6_comparedSum_74 : decode cX6_comparedSum 74 = .ok (.iconst 0, 1) := by decide +kernel
theorem dX6_comparedSum_75 : decode cX6_comparedSum 75 = .ok (.invokevirtual 273, 3) := by decide +kernel
theorem dX6_comparedSum_78 : decode cX6_comparedSum 78 = .ok (.iconst 1, 1) := by decide +kernel
theorem dX6_comparedSum_79 : decode cX6_comparedSum 79 = .ok (.ireturn, 1) := by decide +kernel
theorem dX6_comparedSum_80 : decode cX6_comparedSum 80 = .ok (.iconst 0, 1) := by decide +kernel
theorem dX6_comparedSum_81 : decode cX6_comparedSum 81 = .ok (.ireturn, 1) := by decide +kernel
theorem dX6_sum_0 : decode cX6_sum 0 = .ok (.aload_n 0, 1) := by decide +kernel
theorem dX6_sum_1 : decode cX6_sum 1 = .ok (.iload_n 1, 1) := by decide +kernel
theorem dX6_sum_2 : decode cX6_sum 2 = .ok (.invokevirtual 297, 3) := by decide +kernel
theorem dX6_sum_5 : decode cX6_sum 5 = .ok (.ifCond .ne 5, 3) := by decide +kernel
theorem dX6_sum_8 : decode cX6_sum 8 = .ok (.iconst 0, 1) := by decide +kernel
theorem dX6_sum_9 : decode cX6_sum 9 = .ok (.ireturn, 1) := by decide +kernel
theorem dX6_sum_10 : decode cX6_sum 10 = .ok (.iconst 0, 1) := by decide +kernel
theorem dX6_sum_11 : decode cX6_sum 11 = .ok (.istore_n 2, 1) := by decide +kernel
theorem dX6_sum_12 : decode cX6_sum 12 = .ok (.iload_n 2, 1) := by decide +kernel
theorem dX6_sum_13 : decode cX6_sum 13 = .ok (.sipush 400, 3) := by decide +kernel
theorem dX6_sum_16 : decode cX6_sum 16 = .ok (.if_icmp .ge 64, 3) := by decide +kernel
theorem dX6_sum_19 : decode cX6_sum 19 = .ok (.aload_n 0, 1) := by decide +kernel
theorem dX6_sum_20 : decode cX6_sum 20 = .ok (.invokevirtual 43, 3) := by decide +kernel
theorem dX6_sum_23 : decode cX6_sum 23 = .ok (.getstatic 300, 3) := by decide +kernel
theorem dX6_sum_26 : decode cX6_sum 26 = .ok (.if_acmp .eq 13, 3) := by decide +kernel
theorem dX6_sum_29 : decode cX6_sum 29 = .ok (.aload_n 0, 1) := by decide +kernel
theorem dX6_sum_30 : decode cX6_sum 30 = .ok (.invokevirtual 43, 3) := by decide +kernel
theorem dX6_sum_33 : decode cX6_sum 33 = .ok (.getstatic 303, 3) := by decide +kernel
theorem dX6_sum_36 : decode cX6_sum 36 = .ok (.if_acmp .ne 44, 3) := by decide +kernel
theorem dX6_sum_39 : decode cX6_sum 39 = .ok (.aload_n 0, 1) := by decide +kernel
theorem dX6_sum_40 : decode cX6_sum 40 = .ok (.invokevirtual 43, 3) := by decide +kernel
theorem dX6_sum_43 : decode cX6_sum 43 = .ok (.astore_n 3, 1) := by decide +kernel
theorem dX6_sum_44 : decode cX6_sum 44 = .ok (.aload_n 0, 1) := by decide +kernel
theorem dX6_sum_45 : decode cX6_sum 45 = .ok (.aload_n 3, 1) := by decide +kernel
theorem dX6_sum_46 : decode cX6_sum 46 = .ok (.invokevirtual 79, 3) := by decide +kernel
theorem dX6_sum_49 : decode cX6_sum 49 = .ok (.ifCond .eq 11, 3) := by decide +kernel
theorem dX6_sum_52 : decode cX6_sum 52 = .ok (.aload_n 0, 1) := by decide +kernel
theorem dX6_sum_53 : decode cX6_sum 53 = .ok (.iload_n 1, 1) := by decide +kernel
theorem dX6_sum_54 : decode cX6_sum 54 = .ok (.invokevirtual 297, 3) := by decide +kernel
theorem dX6_sum_57 : decode cX6_sum 57 = .ok (.ifCond .ne 5, 3) := by decide +kernel
theorem dX6_sum_60 : decode cX6_sum 60 = .ok (.iconst 0, 1) := by decide +kernel
theorem dX6_sum_61 : decode cX6_sum 61 = .ok (.ireturn, 1) := by decide +kernel
theorem dX6_sum_62 : decode cX6_sum 62 = .ok (.aload_n 0, 1) := by decide +kernel
theorem dX6_sum_63 : decode cX6_sum 63 = .ok (.getfield 34, 3) := by decide +kernel
theorem dX6_sum_66 : decode cX6_sum 66 = .ok (.getfield 193, 3) := by decide +kernel
theorem dX6_sum_69 : decode cX6_sum 69 = .ok (.aload_n 3, 1) := by decide +kernel
theorem dX6_sum_70 : decode cX6_sum 70 = .ok (.iconst 0, 1) := by decide +kernel
theorem dX6_sum_71 : decode cX6_sum 71 = .ok (.invokevirtual 273, 3) := by decide +kernel
theorem dX6_sum_74 : decode cX6_sum 74 = .ok (.iinc 2 1, 3) := by decide +kernel
theorem dX6_sum_77 : decode cX6_sum 77 = .ok (.goto (-65), 3) := by decide +kernel
theorem dX6_sum_80 : decode cX6_sum 80 = .ok (.iconst 1, 1) := by decide +kernel
theorem dX6_sum_81 : decode cX6_sum 81 = .ok (.ireturn, 1) := by decide +kernel
theorem dX6_product_0 : decode cX6_product 0 = .ok (.aload_n 0, 1) := by decide +kernel
theorem dX6_product_1 : decode cX6_product 1 = .ok (.iload_n 1, 1) := by decide +kernel
theorem dX6_product_2 : decode cX6_product 2 = .ok (.invokevirtual 306, 3) := by decide +kernel
theorem dX6_product_5 : decode cX6_product 5 = .ok (.ifCond .ne 5, 3) := by decide +kernel
theorem dX6_product_8 : decode cX6_product 8 = .ok (.iconst 0, 1) := by decide +kernel
theorem dX6_product_9 : decode cX6_product 9 = .ok (.ireturn, 1) := by decide +kernel
theorem dX6_product_10 : decode cX6_product 10 = .ok (.iconst 0, 1) := by decide +kernel
theorem dX6_product_11 : decode cX6_product 11 = .ok (.istore_n 2, 1) := by decide +kernel
theorem dX6_product_12 : decode cX6_product 12 = .ok (.iload_n 2, 1) := by decide +kernel
theorem dX6_product_13 : decode cX6_product 13 = .ok (.sipush 400, 3) := by decide +kernel
theorem dX6_product_16 : decode cX6_product 16 = .ok (.if_icmp .ge 64, 3) := by decide +kernel
theorem dX6_product_19 : decode cX6_product 19 = .ok (.aload_n 0, 1) := by decide +kernel
theorem dX6_product_20 : decode cX6_product 20 = .ok (.invokevirtual 43, 3) := by decide +kernel
theorem dX6_product_23 : decode cX6_product 23 = .ok (.getstatic 309, 3) := by decide +kernel
theorem dX6_product_26 : decode cX6_product 26 = .ok (.if_acmp .eq 13, 3) := by decide +kernel
theorem dX6_product_29 : decode cX6_product 29 = .ok (.aload_n 0, 1) := by decide +kernel
theorem dX6_product_30 : decode cX6_product 30 = .ok (.invokevirtual 43, 3) := by decide +kernel
theorem dX6_product_33 : decode cX6_product 33 = .ok (.getstatic 312, 3) := by decide +kernel
theorem dX6_product_36 : decode cX6_product 36 = .ok (.if_acmp .ne 44, 3) := by decide +kernel
theorem dX6_product_39 : decode cX6_product 39 = .ok (.aload_n 0, 1) := by decide +kernel
theorem dX6_product_40 : decode cX6_product 40 = .ok (.invokevirtual 43, 3) := by decide +kernel
theorem dX6_product_43 : decode cX6_product 43 = .ok (.astore_n 3, 1) := by decide +kernel
theorem dX6_product_44 : decode cX6_product 44 = .ok (.aload_n 0, 1) := by decide +kernel
theorem dX6_product_45 : decode cX6_product 45 = .ok (.aload_n 3, 1) := by decide +kernel
theorem dX6_product_46 : decode cX6_product 46 = .ok (.invokevirtual 79, 3) := by decide +kernel
theorem dX6_product_49 : decode cX6_product 49 = .ok (.ifCond .eq 11, 3) := by decide +kernel
theorem dX6_product_52 : decode cX6_product 52 = .ok (.aload_n 0, 1) := by decide +kernel
theorem dX6_product_53 : decode cX6_product 53 = .ok (.iload_n 1, 1) := by decide +kernel
theorem dX6_product_54 : decode cX6_product 54 = .ok (.invokevirtual 306, 3) := by decide +kernel
theorem dX6_product_57 : decode cX6_product 57 = .ok (.ifCond .ne 5, 3) := by decide +kernel
theorem dX6_product_60 : decode cX6_product 60 = .ok (.iconst 0, 1) := by decide +kernel
theorem dX6_product_61 : decode cX6_product 61 = .ok (.ireturn, 1) := by decide +kernel
theorem dX6_product_62 : decode cX6_product 62 = .ok (.aload_n 0, 1) := by decide +kernel
theorem dX6_product_63 : decode cX6_product 63 = .ok (.getfield 34, 3) := by decide +kernel
theorem dX6_product_66 : decode cX6_product 66 = .ok (.getfield 193, 3) := by decide +kernel
theorem dX6_product_69 : decode cX6_product 69 = .ok (.aload_n 3, 1) := by decide +kernel
theorem dX6_product_70 : decode cX6_product 70 = .ok (.iconst 0, 1) := by decide +kernel
theorem dX6_product_71 : decode cX6_product 71 = .ok (.invokevirtual 273, 3) := by decide +kernel
theorem dX6_product_74 : decode cX6_product 74 = .ok (.iinc 2 1, 3) := by decide +kernel
theorem dX6_product_77 : decode cX6_product 77 = .ok (.goto (-65), 3) := by decide +kernel
theorem dX6_product_80 : decode cX6_product 80 = .ok (.iconst 1, 1) := by decide +kernel
theorem dX6_product_81 : decode cX6_product 81 = .ok (.ireturn, 1) := by decide +kernel
theorem dX6_value_0 : decode cX6_value 0 = .ok (.aload_n 0, 1) := by decide +kernel
theorem dX6_value_1 : decode cX6_value 1 = .ok (.invokevirtual 43, 3) := by decide +kernel
theorem dX6_value_4 : decode cX6_value 4 = .ok (.astore_n 2, 1) := by decide +kernel
theorem dX6_value_5 : decode cX6_value 5 = .ok (.getstatic 53, 3) := by decide +kernel
theorem dX6_value_8 : decode cX6_value 8 = .ok (.aload_n 2, 1) := by decide +kernel
theorem dX6_value_9 : decode cX6_value 9 = .ok (.invokevirtual 59, 3) := by decide +kernel
theorem dX6_value_12 : decode cX6_value 12 = .ok (.iaload, 1) := by decide +kernel
theorem dX6_value_13 : decode cX6_value 13 = .ok (.tableswitch 288 13 23 #[59, 71, 80, 80, 80, 108, 108, 136, 175, 215, 215], 59) := by decide +kernel
theorem dX6_value_72 : decode cX6_value 72 = .ok (.aload_n 0, 1) := by decide +kernel
theorem dX6_value_73 : decode cX6_value 73 = .ok (.iconst 0, 1) := by decide +kernel
theorem dX6_value_74 : decode cX6_value 74 = .ok (.ldc_w 315, 3) := by decide +kernel
theorem dX6_value_77 : decode cX6_value 77 = .ok (.invokevirtual 108, 3) := by decide +kernel
theorem dX6_value_80 : decode cX6_value 80 = .ok (.istore_n 3, 1) := by decide +kernel
theorem dX6_value_81 : decode cX6_value 81 = .ok (.goto 222, 3) := by decide +kernel
theorem dX6_value_84 : decode cX6_value 84 = .ok (.aload_n 0, 1) := by decide +kernel
theorem dX6_value_85 : decode cX6_value 85 = .ok (.aload_n 2, 1) := by decide +kernel
theorem dX6_value_86 : decode cX6_value 86 = .ok (.invokevirtual 79, 3) := by decide +kernel
theorem dX6_value_89 : decode cX6_value 89 = .ok (.istore_n 3, 1) := by decide +kernel
theorem dX6_value_90 : decode cX6_value 90 = .ok (.goto 213, 3) := by decide +kernel
theorem dX6_value_93 : decode cX6_value 93 = .ok (.aload_n 0, 1) := by decide +kernel
theorem dX6_value_94 : decode cX6_value 94 = .ok (.aload_n 2, 1) := by decide +kernel
theorem dX6_value_95 : decode cX6_value 95 = .ok (.invokevirtual 79, 3) := by decide +kernel
theorem dX6_value_98 : decode cX6_value 98 = .ok (.ifCond .eq 18, 3) := by decide +kernel
theorem dX6_value_101 : decode cX6_value 101 = .ok (.aload_n 0, 1) := by decide +kernel
theorem dX6_value_102 : decode cX6_value 102 = .ok (.aload_n 0, 1) := by decide +kernel
theorem dX6_value_103 : decode cX6_value 103 = .ok (.getfield 24, 3) := by decide +kernel
theorem dX6_value_106 : decode cX6_value 106 = .ok (.invokevirtual 179, 3) := by decide +kernel
theorem dX6_value_109 : decode cX6_value 109 = .ok (.ifCond .eq 7, 3) := by decide +kernel
theorem dX6_value_112 : decode cX6_value 112 = .ok (.iconst 1, 1) := by decide +kernel
theorem dX6_value_113 : decode cX6_value 113 = .ok (.goto 4, 3) := by decide +kernel
theorem dX6_value_116 : decode cX6_value 116 = .ok (.iconst 0, 1) := by decide +kernel
theorem dX6_value_117 : decode cX6_value 117 = .ok (.istore_n 3, 1) := by decide +kernel
theorem dX6_value_118 : decode cX6_value 118 = .ok (.goto 185, 3) := by decide +kernel
theorem dX6_value_121 : decode cX6_value 121 = .ok (.aload_n 0, 1) := by decide +kernel
theorem dX6_value_122 : decode cX6_value 122 = .ok (.aload_n 2, 1) := by decide +kernel
theorem dX6_value_123 : decode cX6_value 123 = .ok (.invokevirtual 79, 3) := by decide +kernel
theorem dX6_value_126 : decode cX6_value 126 = .ok (.ifCond .eq 18, 3) := by decide +kernel
theorem dX6_value_129 : decode cX6_value 129 = .ok (.aload_n 0, 1) := by decide +kernel
theorem dX6_value_130 : decode cX6_value 130 = .ok (.aload_n 0, 1) := by decide +kernel
theorem dX6_value_131 : decode cX6_value 131 = .ok (.getfield 20, 3) := by decide +kernel
theorem dX6_value_134 : decode cX6_value 134 = .ok (.invokevirtual 179, 3) := by decide +kernel
theorem dX6_value_137 : decode cX6_value 137 = .ok (.ifCond .eq 7, 3) := by decide +kernel
theorem dX6_value_140 : decode cX6_value 140 = .ok (.iconst 1, 1) := by decide +kernel
theorem dX6_value_141 : decode cX6_value 141 = .ok (.goto 4, 3) := by decide +kernel
theorem dX6_value_144 : decode cX6_value 144 = .ok (.iconst 0, 1) := by decide +kernel
theorem dX6_value_145 : decode cX6_value 145 = .ok (.istore_n 3, 1) := by decide +kernel
theorem dX6_value_146 : decode cX6_value 146 = .ok (.goto 157, 3) := by decide +kernel
theorem dX6_value_149 : decode cX6_value 149 = .ok (.getstatic 316, 3) := by decide +kernel
theorem dX6_value_152 : decode cX6_value 152 = .ok (.astore_n 2, 1) := by decide +kernel
theorem dX6_value_153 : decode cX6_value 153 = .ok (.iload_n 1, 1) := by decide +kernel
theorem dX6_value_154 : decode cX6_value 154 = .ok (.bipush 8, 2) := by decide +kernel
theorem dX6_value_156 : decode cX6_value 156 = .ok (.if_icmp .ge 27, 3) := by decide +kernel
theorem dX6_value_159 : decode cX6_value 159 = .ok (.aload_n 0, 1) := by decide +kernel
theorem dX6_value_160 : decode cX6_value 160 = .ok (.getstatic 303, 3) := by decide +kernel
theorem dX6_value_163 : decode cX6_value 163 = .ok (.invokevirtual 79, 3) := by decide +kernel
theorem dX6_value_166 : decode cX6_value 166 = .ok (.ifCond .eq 17, 3) := by decide +kernel
theorem dX6_value_169 : decode cX6_value 169 = .ok (.aload_n 0, 1) := by decide +kernel
theorem dX6_value_170 : decode cX6_value 170 = .ok (.iload_n 1, 1) := by decide +kernel
theorem dX6_value_171 : decode cX6_value 171 = .ok (.iconst 1, 1) := by decide +kernel
theorem dX6_value_172 : decode cX6_value 172 = .ok (.iadd, 1) := by decide +kernel
theorem dX6_value_173 : decode cX6_value 173 = .ok (.invokevirtual 306, 3) := by decide +kernel
theorem dX6_value_176 : decode cX6_value 176 = .ok (.ifCond .eq 7, 3) := by decide +kernel
theorem dX6_value_179 : decode cX6_value 179 = .ok (.iconst 1, 1) := by decide +kernel
theorem dX6_value_180 : decode cX6_value 180 = .ok (.goto 4, 3) := by decide +kernel
theorem dX6_value_183 : decode cX6_value 183 = .ok (.iconst 0, 1) := by decide +kernel
theorem dX6_value_184 : decode cX6_value 184 = .ok (.istore_n 3, 1) := by decide +kernel
theorem dX6_value_185 : decode cX6_value 185 = .ok (.goto 118, 3) := by decide +kernel
theorem dX6_value_188 : decode cX6_value 188 = .ok (.iload_n 1, 1) := by decide +kernel
theorem dX6_value_189 : decode cX6_value 189 = .ok (.bipush 8, 2) := by decide +kernel
theorem dX6_value_191 : decode cX6_value 191 = .ok (.if_icmp .ge 35, 3) := by decide +kernel
theorem dX6_value_194 : decode cX6_value 194 = .ok (.aload_n 0, 1) := by decide +kernel
theorem dX6_value_195 : decode cX6_value 195 = .ok (.aload_n 2, 1) := by decide +kernel
theorem dX6_value_196 : decode cX6_value 196 = .ok (.invokevirtual 79, 3) := by decide +kernel
theorem dX6_value_199 : decode cX6_value 199 = .ok (.ifCond .eq 27, 3) := by decide +kernel
theorem dX6_value_202 : decode cX6_value 202 = .ok (.aload_n 0, 1) := by decide +kernel
theorem dX6_value_203 : decode cX6_value 203 = .ok (.iload_n 1, 1) := by decide +kernel
theorem dX6_value_204 : decode cX6_value 204 = .ok (.iconst 1, 1) := by decide +kernel
theorem dX6_value_205 : decode cX6_value 205 = .ok (.iadd, 1) := by decide +kernel
theorem dX6_value_206 : decode cX6_value 206 = .ok (.invokevirtual 244, 3) := by decide +kernel
theorem dX6_value_209 : decode cX6_value 209 = .ok (.ifCond .eq 17, 3) := by decide +kernel
theorem dX6_value_212 : decode cX6_value 212 = .ok (.aload_n 0, 1) := by decide +kernel
theorem dX6_value_213 : decode cX6_value 213 = .ok (.getstatic 319, 3) := by decide +kernel
theorem dX6_value_216 : decode cX6_value 216 = .ok (.invokevirtual 79, 3) := by decide +kernel
theorem dX6_value_219 : decode cX6_value 219 = .ok (.ifCond .eq 7, 3) := by decide +kernel
theorem dX6_value_222 : decode cX6_value 222 = .ok (.iconst 1, 1) := by decide +kernel
theorem dX6_value_223 : decode cX6_value 223 = .ok (.goto 4, 3) := by decide +kernel
theorem dX6_value_226 : decode cX6_value 226 = .ok (.iconst 0, 1) := by decide +kernel
theorem dX6_value_227 : decode cX6_value 227 = .ok (.ireturn, 1) := by decide +kernel
theorem dX6_value_228 : decode cX6_value 228 = .ok (.aload_n 0, 1) := by decide +kernel
theorem dX6_value_229 : decode cX6_value 229 = .ok (.aload_n 2, 1) := by decide +kernel
theorem dX6_value_230 : decode cX6_value 230 = .ok (.invokevirtual 79, 3) := by decide +kernel
theorem dX6_value_233 : decode cX6_value 233 = .ok (.ifCond .eq 63, 3) := by decide +kernel
theorem dX6_value_236 : decode cX6_value 236 = .ok (.iload_n 1, 1) := by decide +kernel
theorem dX6_value_237 : decode cX6_value 237 = .ok (.bipush 8, 2) := by decide +kernel
theorem dX6_value_239 : decode cX6_value 239 = .ok (.if_icmp .ge 57, 3) := by decide +kernel
theorem dX6_value_242 : decode cX6_value 242 = .ok (.aload_n 0, 1) := by decide +kernel
theorem dX6_value_243 : decode cX6_value 243 = .ok (.getstatic 322, 3) := by decide +kernel
theorem dX6_value_246 : decode cX6_value 246 = .ok (.invokevirtual 79, 3) := by decide +kernel
theorem dX6_value_249 : decode cX6_value 249 = .ok (.ifCond .eq 47, 3) := by decide +kernel
theorem dX6_value_252 : decode cX6_value 252 = .ok (.aload_n 0, 1) := by decide +kernel
theorem dX6_value_253 : decode cX6_value 253 = .ok (.iload_n 1, 1) := by decide +kernel
theorem dX6_value_254 : decode cX6_value 254 = .ok (.iconst 1, 1) := by decide +kernel
theorem dX6_value_255 : decode cX6_value 255 = .ok (.iadd, 1) := by decide +kernel
theorem dX6_value_256 : decode cX6_value 256 = .ok (.invokevirtual 244, 3) := by decide +kernel
theorem dX6_value_259 : decode cX6_value 259 = .ok (.ifCond .eq 37, 3) := by decide +kernel
theorem dX6_value_262 : decode cX6_value 262 = .ok (.aload_n 0, 1) := by decide +kernel
theorem dX6_value_263 : decode cX6_value 263 = .ok (.getstatic 127, 3) := by decide +kernel
theorem dX6_value_266 : decode cX6_value 266 = .ok (.invokevirtual 79, 3) := by decide +kernel
theorem dX6_value_269 : decode cX6_value 269 = .ok (.ifCond .eq 27, 3) := by decide +kernel
theorem dX6_value_272 : decode cX6_value 272 = .ok (.aload_n 0, 1) := by decide +kernel
theorem dX6_value_273 : decode cX6_value 273 = .ok (.iload_n 1, 1) := by decide +kernel
theorem dX6_value_274 : decode cX6_value 274 = .ok (.iconst 1, 1) := by decide +kernel
theorem dX6_value_275 : decode cX6_value 275 = .ok (.iadd, 1) := by decide +kernel
theorem dX6_value_276 : decode cX6_value 276 = .ok (.invokevirtual 244, 3) := by decide +kernel
theorem dX6_value_279 : decode cX6_value 279 = .ok (.ifCond .eq 17, 3) := by decide +kernel
theorem dX6_value_282 : decode cX6_value 282 = .ok (.aload_n 0, 1) := by decide +kernel
theorem dX6_value_283 : decode cX6_value 283 = .ok (.getstatic 319, 3) := by decide +kernel
theorem dX6_value_286 : decode cX6_value 286 = .ok (.invokevirtual 79, 3) := by decide +kernel
theorem dX6_value_289 : decode cX6_value 289 = .ok (.ifCond .eq 7, 3) := by decide +kernel
theorem dX6_value_292 : decode cX6_value 292 = .ok (.iconst 1, 1) := by decide +kernel
theorem dX6_value_293 : decode cX6_value 293 = .ok (.goto 4, 3) := by decide +kernel
theorem dX6_value_296 : decode cX6_value 296 = .ok (.iconst 0, 1) := by decide +kernel
theorem dX6_value_297 : decode cX6_value 297 = .ok (.istore_n 3, 1) := by decide +kernel
theorem dX6_value_298 : decode cX6_value 298 = .ok (.goto 5, 3) := by decide +kernel
theorem dX6_value_301 : decode cX6_value 301 = .ok (.iconst 0, 1) := by decide +kernel
theorem dX6_value_302 : decode cX6_value 302 = .ok (.ireturn, 1) := by decide +kernel
theorem dX6_value_303 : decode cX6_value 303 = .ok (.aload_n 0, 1) := by decide +kernel
theorem dX6_value_304 : decode cX6_value 304 = .ok (.getfield 34, 3) := by decide +kernel
theorem dX6_value_307 : decode cX6_value 307 = .ok (.getfield 193, 3) := by decide +kernel
theorem dX6_value_310 : decode cX6_value 310 = .ok (.aload_n 2, 1) := by decide +kernel
theorem dX6_value_311 : decode cX6_value 311 = .ok (.aload_n 0, 1) := by decide +kernel
theorem dX6_value_312 : decode cX6_value 312 = .ok (.getfield 112, 3) := by decide +kernel
theorem dX6_value_315 : decode cX6_value 315 = .ok (.invokevirtual 273, 3) := by decide +kernel
theorem dX6_value_318 : decode cX6_value 318 = .ok (.iload_n 3, 1) := by decide +kernel
theorem dX6_value_319 : decode cX6_value 319 = .ok (.ireturn, 1) := by decide +kernel
theorem dX6_takeNew_0 : decode cX6_takeNew 0 = .ok (.aload_n 0, 1) := by decide +kernel
theorem dX6_takeNew_1 : decode cX6_takeNew 1 = .ok (.invokevirtual 43, 3) := by decide +kernel
theorem dX6_takeNew_4 : decode cX6_takeNew 4 = .ok (.getstatic 250, 3) := by decide +kernel
theorem dX6_takeNew_7 : decode cX6_takeNew 7 = .ok (.if_acmp .eq 5, 3) := by decide +kernel
theorem dX6_takeNew_10 : decode cX6_takeNew 10 = .ok (.iconst 0, 1) := by decide +kernel
theorem dX6_takeNew_11 : decode cX6_takeNew 11 = .ok (.ireturn, 1) := by decide +kernel
theorem dX6_takeNew_12 : decode cX6_takeNew 12 = .ok (.aload_n 0, 1) := by decide +kernel
theorem dX6_takeNew_13 : decode cX6_takeNew 13 = .ok (.getfield 30, 3) := by decide +kernel
theorem dX6_takeNew_16 : decode cX6_takeNew 16 = .ok (.getfield 253, 3) := by decide +kernel
theorem dX6_takeNew_19 : decode cX6_takeNew 19 = .ok (.aload_n 0, 1) := by decide +kernel
theorem dX6_takeNew_20 : decode cX6_takeNew 20 = .ok (.getfield 91, 3) := by decide +kernel
theorem dX6_takeNew_23 : decode cX6_takeNew 23 = .ok (.laload, 1) := by decide +kernel
theorem dX6_takeNew_24 : decode cX6_takeNew 24 = .ok (.lstore_n 2, 1) := by decide +kernel
theorem dX6_takeNew_25 : decode cX6_takeNew 25 = .ok (.aload_n 1, 1) := by decide +kernel
theorem dX6_takeNew_26 : decode cX6_takeNew 26 = .ok (.lload_n 2, 1) := by decide +kernel
theorem dX6_takeNew_27 : decode cX6_takeNew 27 = .ok (.invokevirtual 257, 3) := by decide +kernel
theorem dX6_takeNew_30 : decode cX6_takeNew 30 = .ok (.ifCond .lt 11, 3) := by decide +kernel
theorem dX6_takeNew_33 : decode cX6_takeNew 33 = .ok (.aload_n 0, 1) := by decide +kernel
theorem dX6_takeNew_34 : decode cX6_takeNew 34 = .ok (.iconst 2, 1) := by decide +kernel
theorem dX6_takeNew_35 : decode cX6_takeNew 35 = .ok (.invokevirtual 133, 3) := by decide +kernel
theorem dX6_takeNew_38 : decode cX6_takeNew 38 = .ok (.goto 16, 3) := by decide +kernel
theorem dX6_takeNew_41 : decode cX6_takeNew 41 = .ok (.aload_n 1, 1) := by decide +kernel
theorem dX6_takeNew_42 : decode cX6_takeNew 42 = .ok (.lload_n 2, 1) := by decide +kernel
theorem dX6_takeNew_43 : decode cX6_takeNew 43 = .ok (.invokevirtual 325, 3) := by decide +kernel
theorem dX6_takeNew_46 : decode cX6_takeNew 46 = .ok (.ifCond .ne 8, 3) := by decide +kernel
theorem dX6_takeNew_49 : decode cX6_takeNew 49 = .ok (.aload_n 0, 1) := by decide +kernel
theorem dX6_takeNew_50 : decode cX6_takeNew 50 = .ok (.iconst 4, 1) := by decide +kernel
theorem dX6_takeNew_51 : decode cX6_takeNew 51 = .ok (.invokevirtual 133, 3) := by decide +kernel
theorem dX6_takeNew_54 : decode cX6_takeNew 54 = .ok (.aload_n 0, 1) := by decide +kernel
theorem dX6_takeNew_55 : decode cX6_takeNew 55 = .ok (.getstatic 250, 3) := by decide +kernel
theorem dX6_takeNew_58 : decode cX6_takeNew 58 = .ok (.invokevirtual 79, 3) := by decide +kernel
theorem dX6_takeNew_61 : decode cX6_takeNew 61 = .ok (.ireturn, 1) := by decide +kernel
theorem dX6_takeKnown_0 : decode cX6_takeKnown 0 = .ok (.aload_n 0, 1) := by decide +kernel
theorem dX6_takeKnown_1 : decode cX6_takeKnown 1 = .ok (.invokevirtual 43, 3) := by decide +kernel
theorem dX6_takeKnown_4 : decode cX6_takeKnown 4 = .ok (.getstatic 250, 3) := by decide +kernel
theorem dX6_takeKnown_7 : decode cX6_takeKnown 7 = .ok (.if_acmp .eq 5, 3) := by decide +kernel
theorem dX6_takeKnown_10 : decode cX6_takeKnown 10 = .ok (.iconst 0, 1) := by decide +kernel
theorem dX6_takeKnown_11 : decode cX6_takeKnown 11 = .ok (.ireturn, 1) := by decide +kernel
theorem dX6_takeKnown_12 : decode cX6_takeKnown 12 = .ok (.aload_n 0, 1) := by decide +kernel
theorem dX6_takeKnown_13 : decode cX6_takeKnown 13 = .ok (.aload_n 1, 1) := by decide +kernel
theorem dX6_takeKnown_14 : decode cX6_takeKnown 14 = .ok (.aload_n 0, 1) := by decide +kernel
theorem dX6_takeKnown_15 : decode cX6_takeKnown 15 = .ok (.getfield 30, 3) := by decide +kernel
theorem dX6_takeKnown_18 : decode cX6_takeKnown 18 = .ok (.getfield 253, 3) := by decide +kernel
theorem dX6_takeKnown_21 : decode cX6_takeKnown 21 = .ok (.aload_n 0, 1) := by decide +kernel
theorem dX6_takeKnown_22 : decode cX6_takeKnown 22 = .ok (.getfield 91, 3) := by decide +kernel
theorem dX6_takeKnown_25 : decode cX6_takeKnown 25 = .ok (.laload, 1) := by decide +kernel
theorem dX6_takeKnown_26 : decode cX6_takeKnown 26 = .ok (.invokevirtual 257, 3) := by decide +kernel
theorem dX6_takeKnown_29 : decode cX6_takeKnown 29 = .ok (.putfield 112, 3) := by decide +kernel
theorem dX6_takeKnown_32 : decode cX6_takeKnown 32 = .ok (.aload_n 0, 1) := by decide +kernel
theorem dX6_takeKnown_33 : decode cX6_takeKnown 33 = .ok (.getfield 112, 3) := by decide +kernel
theorem dX6_takeKnown_36 : decode cX6_takeKnown 36 = .ok (.ifCond .ge 13, 3) := by decide +kernel
theorem dX6_takeKnown_39 : decode cX6_takeKnown 39 = .ok (.aload_n 0, 1) := by decide +kernel
theorem dX6_takeKnown_40 : decode cX6_takeKnown 40 = .ok (.iconst 3, 1) := by decide +kernel
theorem dX6_takeKnown_41 : decode cX6_takeKnown 41 = .ok (.invokevirtual 133, 3) := by decide +kernel
theorem dX6_takeKnown_44 : decode cX6_takeKnown 44 = .ok (.aload_n 0, 1) := by decide +kernel
theorem dX6_takeKnown_45 : decode cX6_takeKnown 45 = .ok (.iconst 0, 1) := by decide +kernel
theorem dX6_takeKnown_46 : decode cX6_takeKnown 46 = .ok (.putfield 112, 3) := by decide +kernel
theorem dX6_takeKnown_49 : decode cX6_takeKnown 49 = .ok (.aload_n 0, 1) := by decide +kernel
theorem dX6_takeKnown_50 : decode cX6_takeKnown 50 = .ok (.getstatic 250, 3) := by decide +kernel
theorem dX6_takeKnown_53 : decode cX6_takeKnown 53 = .ok (.invokevirtual 79, 3) := by decide +kernel
theorem dX6_takeKnown_56 : decode cX6_takeKnown 56 = .ok (.ireturn, 1) := by decide +kernel
theorem dX6_takeNumber_0 : decode cX6_takeNumber 0 = .ok (.aload_n 0, 1) := by decide +kernel
theorem dX6_takeNumber_1 : decode cX6_takeNumber 1 = .ok (.invokevirtual 43, 3) := by decide +kernel
theorem dX6_takeNumber_4 : decode cX6_takeNumber 4 = .ok (.getstatic 130, 3) := by decide +kernel
theorem dX6_takeNumber_7 : decode cX6_takeNumber 7 = .ok (.if_acmp .eq 5, 3) := by decide +kernel
theorem dX6_takeNumber_10 : decode cX6_takeNumber 10 = .ok (.iconst 0, 1) := by decide +kernel
theorem dX6_takeNumber_11 : decode cX6_takeNumber 11 = .ok (.ireturn, 1) := by decide +kernel
theorem dX6_takeNumber_12 : decode cX6_takeNumber 12 = .ok (.aload_n 0, 1) := by decide +kernel
theorem dX6_takeNumber_13 : decode cX6_takeNumber 13 = .ok (.aload_n 0, 1) := by decide +kernel
theorem dX6_takeNumber_14 : decode cX6_takeNumber 14 = .ok (.getfield 30, 3) := by decide +kernel
theorem dX6_takeNumber_17 : decode cX6_takeNumber 17 = .ok (.getfield 253, 3) := by decide +kernel
theorem dX6_takeNumber_20 : decode cX6_takeNumber 20 = .ok (.aload_n 0, 1) := by decide +kernel
theorem dX6_takeNumber_21 : decode cX6_takeNumber 21 = .ok (.getfield 91, 3) := by decide +kernel
theorem dX6_takeNumber_24 : decode cX6_takeNumber 24 = .ok (.laload, 1) := by decide +kernel
theorem dX6_takeNumber_25 : decode cX6_takeNumber 25 = .ok (.l2i, 1) := by decide +kernel
theorem dX6_takeNumber_26 : decode cX6_takeNumber 26 = .ok (.putfield 112, 3) := by decide +kernel
theorem dX6_takeNumber_29 : decode cX6_takeNumber 29 = .ok (.aload_n 0, 1) := by decide +kernel
theorem dX6_takeNumber_30 : decode cX6_takeNumber 30 = .ok (.getfield 112, 3) := by decide +kernel
theorem dX6_takeNumber_33 : decode cX6_takeNumber 33 = .ok (.iload_n 1, 1) := by decide +kernel
theorem dX6_takeNumber_34 : decode cX6_takeNumber 34 = .ok (.if_icmp .lt 11, 3) := by decide +kernel
theorem dX6_takeNumber_37 : decode cX6_takeNumber 37 = .ok (.aload_n 0, 1) := by decide +kernel
theorem dX6_takeNumber_38 : decode cX6_takeNumber 38 = .ok (.getfield 112, 3) := by decide +kernel
theorem dX6_takeNumber_41 : decode cX6_takeNumber 41 = .ok (.iload_n 2, 1) := by decide +kernel
theorem dX6_takeNumber_42 : decode cX6_takeNumber 42 = .ok (.if_icmp .le 8, 3) := by decide +kernel
theorem dX6_takeNumber_45 : decode cX6_takeNumber 45 = .ok (.aload_n 0, 1) := by decide +kernel
theorem dX6_takeNumber_46 : decode cX6_takeNumber 46 = .ok (.iconst 5, 1) := by decide +kernel
theorem dX6_takeNumber_47 : decode cX6_takeNumber 47 = .ok (.invokevirtual 133, 3) := by decide +kernel
theorem dX6_takeNumber_50 : decode cX6_takeNumber 50 = .ok (.aload_n 0, 1) := by decide +kernel
theorem dX6_takeNumber_51 : decode cX6_takeNumber 51 = .ok (.getstatic 130, 3) := by decide +kernel
theorem dX6_takeNumber_54 : decode cX6_takeNumber 54 = .ok (.invokevirtual 79, 3) := by decide +kernel
theorem dX6_takeNumber_57 : decode cX6_takeNumber 57 = .ok (.ireturn, 1) := by decide +kernel
theorem dX6_sign_0 : decode cX6_sign 0 = .ok (.aload_n 0, 1) := by decide +kernel
theorem dX6_sign_1 : decode cX6_sign 1 = .ok (.getfield 30, 3) := by decide +kernel
theorem dX6_sign_4 : decode cX6_sign 4 = .ok (.getfield 328, 3) := by decide +kernel
theorem dX6_sign_7 : decode cX6_sign 7 = .ok (.aload_n 0, 1) := by decide +kernel
theorem dX6_sign_8 : decode cX6_sign 8 = .ok (.getfield 91, 3) := by decide +kernel
theorem dX6_sign_11 : decode cX6_sign 11 = .ok (.aaload, 1) := by decide +kernel
theorem dX6_sign_12 : decode cX6_sign 12 = .ok (.areturn, 1) := by decide +kernel
theorem dX6_take_0 : decode cX6_take 0 = .ok (.aload_n 0, 1) := by decide +kernel
theorem dX6_take_1 : decode cX6_take 1 = .ok (.invokevirtual 43, 3) := by decide +kernel
theorem dX6_take_4 : decode cX6_take 4 = .ok (.aload_n 1, 1) := by decide +kernel
theorem dX6_take_5 : decode cX6_take 5 = .ok (.if_acmp .ne 13, 3) := by decide +kernel
theorem dX6_take_8 : decode cX6_take 8 = .ok (.aload_n 0, 1) := by decide +kernel
theorem dX6_take_9 : decode cX6_take 9 = .ok (.getfield 91, 3) := by decide +kernel
theorem dX6_take_12 : decode cX6_take 12 = .ok (.sipush 400, 3) := by decide +kernel
theorem dX6_take_15 : decode cX6_take 15 = .ok (.if_icmp .lt 5, 3) := by decide +kernel
theorem dX6_take_18 : decode cX6_take 18 = .ok (.iconst 0, 1) := by decide +kernel
theorem dX6_take_19 : decode cX6_take 19 = .ok (.ireturn, 1) := by decide +kernel
theorem dX6_take_20 : decode cX6_take 20 = .ok (.aload_n 0, 1) := by decide +kernel
theorem dX6_take_21 : decode cX6_take 21 = .ok (.dup, 1) := by decide +kernel
theorem dX6_take_22 : decode cX6_take 22 = .ok (.getfield 91, 3) := by decide +kernel
theorem dX6_take_25 : decode cX6_take 25 = .ok (.iconst 1, 1) := by decide +kernel
theorem dX6_take_26 : decode cX6_take 26 = .ok (.iadd, 1) := by decide +kernel
theorem dX6_take_27 : decode cX6_take 27 = .ok (.putfield 91, 3) := by decide +kernel
theorem dX6_take_30 : decode cX6_take 30 = .ok (.iconst 1, 1) := by decide +kernel
theorem dX6_take_31 : decode cX6_take 31 = .ok (.ireturn, 1) := by decide +kernel
theorem dX6_noteError_0 : decode cX6_noteError 0 = .ok (.aload_n 0, 1) := by decide +kernel
theorem dX6_noteError_1 : decode cX6_noteError 1 = .ok (.getfield 83, 3) := by decide +kernel
theorem dX6_noteError_4 : decode cX6_noteError 4 = .ok (.ifCond .ne 24, 3) := by decide +kernel
theorem dX6_noteError_7 : decode cX6_noteError 7 = .ok (.aload_n 0, 1) := by decide +kernel
theorem dX6_noteError_8 : decode cX6_noteError 8 = .ok (.iload_n 1, 1) := by decide +kernel
theorem dX6_noteError_9 : decode cX6_noteError 9 = .ok (.putfield 83, 3) := by decide +kernel
theorem dX6_noteError_12 : decode cX6_noteError 12 = .ok (.aload_n 0, 1) := by decide +kernel
theorem dX6_noteError_13 : decode cX6_noteError 13 = .ok (.aload_n 0, 1) := by decide +kernel
theorem dX6_noteError_14 : decode cX6_noteError 14 = .ok (.getfield 30, 3) := by decide +kernel
theorem dX6_noteError_17 : decode cX6_noteError 17 = .ok (.getfield 86, 3) := by decide +kernel
theorem dX6_noteError_20 : decode cX6_noteError 20 = .ok (.aload_n 0, 1) := by decide +kernel
theorem dX6_noteError_21 : decode cX6_noteError 21 = .ok (.getfield 91, 3) := by decide +kernel
theorem dX6_noteError_24 : decode cX6_noteError 24 = .ok (.iaload, 1) := by decide +kernel
theorem dX6_noteError_25 : decode cX6_noteError 25 = .ok (.putfield 9, 3) := by decide +kernel
theorem dX6_noteError_28 : decode cX6_noteError 28 = .ok (.return_, 1) := by decide +kernel
theorem dX7_init_0 : decode cX7_init 0 = .ok (.aload_n 0, 1) := by decide +kernel
theorem dX7_init_1 : decode cX7_init 1 = .ok (.invokespecial 3, 3) := by decide +kernel
theorem dX7_init_4 : decode cX7_init 4 = .ok (.aload_n 0, 1) := by decide +kernel
theorem dX7_init_5 : decode cX7_init 5 = .ok (.iconst 1, 1) := by decide +kernel
theorem dX7_init_6 : decode cX7_init 6 = .ok (.putfield 9, 3) := by decide +kernel
theorem dX7_init_9 : decode cX7_init 9 = .ok (.aload_n 0, 1) := by decide +kernel
theorem dX7_init_10 : decode cX7_init 10 = .ok (.bipush 8, 2) := by decide +kernel
theorem dX7_init_12 : decode cX7_init 12 = .ok (.anewarray 15, 3) := by decide +kernel
theorem dX7_init_15 : decode cX7_init 15 = .ok (.putfield 17, 3) := by decide +kernel
theorem dX7_init_18 : decode cX7_init 18 = .ok (.aload_n 0, 1) := by decide +kernel
theorem dX7_init_19 : decode cX7_init 19 = .ok (.bipush 8, 2) := by decide +kernel
theorem dX7_init_21 : decode cX7_init 21 = .ok (.anewarray 21, 3) := by decide +kernel
theorem dX7_init_24 : decode cX7_init 24 = .ok (.putfield 23, 3) := by decide +kernel
theorem dX7_init_27 : decode cX7_init 27 = .ok (.aload_n 0, 1) := by decide +kernel
theorem dX7_init_28 : decode cX7_init 28 = .ok (.bipush 24, 2) := by decide +kernel
theorem dX7_init_30 : decode cX7_init 30 = .ok (.anewarray 27, 3) := by decide +kernel
theorem dX7_init_33 : decode cX7_init 33 = .ok (.putfield 29, 3) := by decide +kernel
theorem dX7_init_36 : decode cX7_init 36 = .ok (.aload_n 0, 1) := by decide +kernel
theorem dX7_init_37 : decode cX7_init 37 = .ok (.bipush 6, 2) := by decide +kernel
theorem dX7_init_39 : decode cX7_init 39 = .ok (.anewarray 33, 3) := by decide +kernel
theorem dX7_init_42 : decode cX7_init 42 = .ok (.putfield 35, 3) := by decide +kernel
theorem dX7_init_45 : decode cX7_init 45 = .ok (.aload_n 0, 1) := by decide +kernel
theorem dX7_init_46 : decode cX7_init 46 = .ok (.new 39, 3) := by decide +kernel
theorem dX7_init_49 : decode cX7_init 49 = .ok (.dup, 1) := by decide +kernel
theorem dX7_init_50 : decode cX7_init 50 = .ok (.invokespecial 41, 3) := by decide +kernel
theorem dX7_init_53 : decode cX7_init 53 = .ok (.putfield 42, 3) := by decide +kernel
theorem dX7_init_56 : decode cX7_init 56 = .ok (.aload_n 0, 1) := by decide +kernel
theorem dX7_init_57 : decode cX7_init 57 = .ok (.bipush 8, 2) := by decide +kernel
theorem dX7_init_59 : decode cX7_init 59 = .ok (.newarray .int, 2) := by decide +kernel
theorem dX7_init_61 : decode cX7_init 61 = .ok (.putfield 46, 3) := by decide +kernel
theorem dX7_init_64 : decode cX7_init 64 = .ok (.aload_n 0, 1) := by decide +kernel
theorem dX7_init_65 : decode cX7_init 65 = .ok (.bipush 8, 2) := by decide +kernel
theorem dX7_init_67 : decode cX7_init 67 = .ok (.newarray .int, 2) := by decide +kernel
theorem dX7_init_69 : decode cX7_init 69 = .ok (.putfield 50, 3) := by decide +kernel
theorem dX7_init_72 : decode cX7_init 72 = .ok (.aload_n 0, 1) := by decide +kernel
theorem dX7_init_73 : decode cX7_init 73 = .ok (.bipush 6, 2) := by decide +kernel
theorem dX7_init_75 : decode cX7_init 75 = .ok (.newarray .int, 2) := by decide +kernel
theorem dX7_init_77 : decode cX7_init 77 = .ok (.putfield 53, 3) := by decide +kernel
theorem dX7_init_80 : decode cX7_init 80 = .ok (.aload_n 0, 1) := by decide +kernel
theorem dX7_init_81 : decode cX7_init 81 = .ok (.new 15, 3) := by decide +kernel
theorem dX7_init_84 : decode cX7_init 84 = .ok (.dup, 1) := by decide +kernel
theorem dX7_init_85 : decode cX7_init 85 = .ok (.invokespecial 56, 3) := by decide +kernel
theorem dX7_init_88 : decode cX7_init 88 = .ok (.putfield 57, 3) := by decide +kernel
theorem dX7_init_91 : decode cX7_init 91 = .ok (.aload_n 0, 1) := by decide +kernel
theorem dX7_init_92 : decode cX7_init 92 = .ok (.new 21, 3) := by decide +kernel
theorem dX7_init_95 : decode cX7_init 95 = .ok (.dup, 1) := by decide +kernel
theorem dX7_init_96 : decode cX7_init 96 = .ok (.invokespecial 61, 3) := by decide +kernel
theorem dX7_init_99 : decode cX7_init 99 = .ok (.putfield 62, 3) := by decide +kernel
theorem dX7_init_102 : decode cX7_init 102 = .ok (.aload_n 0, 1) := by decide +kernel
theorem dX7_init_103 : decode cX7_init 103 = .ok (.new 33, 3) := by decide +kernel
theorem dX7_init_106 : decode cX7_init 106 = .ok (.dup, 1) := by decide +kernel
theorem dX7_init_107 : decode cX7_init 107 = .ok (.invokespecial 66, 3) := by decide +kernel
theorem dX7_init_110 : decode cX7_init 110 = .ok (.putfield 67, 3) := by decide +kernel
theorem dX7_init_113 : decode cX7_init 113 = .ok (.iconst 0, 1) := by decide +kernel
theorem dX7_init_114 : decode cX7_init 114 = .ok (.istore_n 1, 1) := by decide +kernel
theorem dX7_init_115 : decode cX7_init 115 = .ok (.iload_n 1, 1) := by decide +kernel
theorem dX7_init_116 : decode cX7_init 116 = .ok (.bipush 8, 2) := by decide +kernel
theorem dX7_init_118 : decode cX7_init 118 = .ok (.if_icmp .ge 22, 3) := by decide +kernel
theorem dX7_init_121 : decode cX7_init 121 = .ok (.aload_n 0, 1) := by decide +kernel
theorem dX7_init_122 : decode cX7_init 122 = .ok (.getfield 17, 3) := by decide +kernel
theorem dX7_init_125 : decode cX7_init 125 = .ok (.iload_n 1, 1) := by decide +kernel
theorem dX7_init_126 : decode cX7_init 126 = .ok (.new 15, 3) := by decide +kernel
theorem dX7_init_129 : decode cX7_init 129 = .ok (.dup, 1) := by decide +kernel
theorem dX7_init_130 : decode cX7_init 130 = .ok (.invokespecial 56, 3) := by decide +kernel
theorem dX7_init_133 : decode cX7_init 133 = .ok (.aastore, 1) := by decide +kernel
theorem dX7_init_134 : decode cX7_init 134 = .ok (.iinc 1 1, 3) := by decide +kernel
theorem dX7_init_137 : decode cX7_init 137 = .ok (.goto (-22), 3) := by decide +kernel
theorem dX7_init_140 : decode cX7_init 140 = .ok (.iconst 0, 1) := by decide +kernel
theorem dX7_init_141 : decode cX7_init 141 = .ok (.istore_n 1, 1) := by decide +kernel
theorem dX7_init_142 : decode cX7_init 142 = .ok (.iload_n 1, 1) := by decide +kernel
theorem dX7_init_143 : decode cX7_init 143 = .ok (.bipush 8, 2) := by decide +kernel
theorem dX7_init_145 : decode cX7_init 145 = .ok (.if_icmp .ge 22, 3) := by decide +kernel
theorem dX7_init_148 : decode cX7_init 148 = .ok (.aload_n 0, 1) := by decide +kernel
theorem dX7_init_149 : decode cX7_init 149 = .ok (.getfield 23, 3) := by decide +kernel
theorem dX7_init_152 : decode cX7_init 152 = .ok (.iload_n 1, 1) := by decide +kernel
theorem dX7_init_153 : decode cX7_init 153 = .ok (.new 21, 3) := by decide +kernel
theorem dX7_init_156 : decode cX7_init 156 = .ok (.dup, 1) := by decide +kernel
theorem dX7_init_157 : decode cX7_init 157 = .ok (.invokespecial 61, 3) := by decide +kernel
theorem dX7_init_160 : decode cX7_init 160 = .ok (.aastore, 1) := by decide +kernel
theorem dX7_init_161 : decode cX7_init 161 = .ok (.iinc 1 1, 3) := by decide +kernel
theorem dX7_init_164 : decode cX7_init 164 = .ok (.goto (-22), 3) := by decide +kernel
theorem dX7_init_167 : decode cX7_init 167 = .ok (.iconst 0, 1) := by decide +kernel
theorem dX7_init_168 : decode cX7_init 168 = .ok (.istore_n 1, 1) := by decide +kernel
theorem dX7_init_169 : decode cX7_init 169 = .ok (.iload_n 1, 1) := by decide +kernel
theorem dX7_init_170 : decode cX7_init 170 = .ok (.bipush 24, 2) := by decide +kernel
theorem dX7_init_172 : decode cX7_init 172 = .ok (.if_icmp .ge 22, 3) := by decide +kernel
theorem dX7_init_175 : decode cX7_init 175 = .ok (.aload_n 0, 1) := by decide +kernel
theorem dX7_init_176 : decode cX7_init 176 = .ok (.getfield 29, 3) := by decide +kernel
theorem dX7_init_179 : decode cX7_init 179 = .ok (.iload_n 1, 1) := by decide +kernel
theorem dX7_init_180 : decode cX7_init 180 = .ok (.new 27, 3) := by decide +kernel
theorem dX7_init_183 : decode cX7_init 183 = .ok (.dup, 1) := by decide +kernel
theorem dX7_init_184 : decode cX7_init 184 = .ok (.invokespecial 71, 3) := by decide +kernel
theorem dX7_init_187 : decode cX7_init 187 = .ok (.aastore, 1) := by decide +kernel
theorem dX7_init_188 : decode cX7_init 188 = .ok (.iinc 1 1, 3) := by decide +kernel
theorem dX7_init_191 : decode cX7_init 191 = .ok (.goto (-22), 3) := by decide +kernel
theorem dX7_init_194 : decode cX7_init 194 = .ok (.iconst 0, 1) := by decide +kernel
theorem dX7_init_195 : decode cX7_init 195 = .ok (.istore_n 1, 1) := by decide +kernel
theorem dX7_init_196 : decode cX7_init 196 = .ok (.iload_n 1, 1) := by decide +kernel
theorem dX7_init_197 : decode cX7_init 197 = .ok (.bipush 6, 2) := by decide +kernel
theorem dX7_init_199 : decode cX7_init 199 = .ok (.if_icmp .ge 22, 3) := by decide +kernel
theorem dX7_init_202 : decode cX7_init 202 = .ok (.aload_n 0, 1) := by decide +kernel
theorem dX7_init_203 : decode cX7_init 203 = .ok (.getfield 35, 3) := by decide +kernel
theorem dX7_init_206 : decode cX7_init 206 = .ok (.iload_n 1, 1) := by decide +kernel
theorem dX7_init_207 : decode cX7_init 207 = .ok (.new 33, 3) := by decide +kernel
theorem dX7_init_210 : decode cX7_init 210 = .ok (.dup, 1) := by decide +kernel
theorem dX7_init_211 : decode cX7_init 211 = .ok (.invokespecial 66, 3) := by decide +kernel
theorem dX7_init_214 : decode cX7_init 214 = .ok (.aastore, 1) := by decide +kernel
theorem dX7_init_215 : decode cX7_init 215 = .ok (.iinc 1 1, 3) := by decide +kernel
theorem dX7_init_218 : decode cX7_init 218 = .ok (.goto (-22), 3) := by decide +kernel
theorem dX7_init_221 : decode cX7_init 221 = .ok (.return_, 1) := by decide +kernel
theorem dX7_forget_0 : decode cX7_forget 0 = .ok (.aload_n 0, 1) := by decide +kernel
theorem dX7_forget_1 : decode cX7_forget 1 = .ok (.iconst 0, 1) := by decide +kernel
theorem dX7_forget_2 : decode cX7_forget 2 = .ok (.putfield 72, 3) := by decide +kernel
theorem dX7_forget_5 : decode cX7_forget 5 = .ok (.aload_n 0, 1) := by decide +kernel
theorem dX7_forget_6 : decode cX7_forget 6 = .ok (.iconst 0, 1) := by decide +kernel
theorem dX7_forget_7 : decode cX7_forget 7 = .ok (.putfield 75, 3) := by decide +kernel
theorem dX7_forget_10 : decode cX7_forget 10 = .ok (.aload_n 0, 1) := by decide +kernel
theorem dX7_forget_11 : decode cX7_forget 11 = .ok (.iconst 0, 1) := by decide +kernel
theorem dX7_forget_12 : decode cX7_forget 12 = .ok (.putfield 78, 3) := by decide +kernel
theorem dX7_forget_15 : decode cX7_forget 15 = .ok (.aload_n 0, 1) := by decide +kernel
theorem dX7_forget_16 : decode cX7_forget 16 = .ok (.iconst 0, 1) := by decide +kernel
theorem dX7_forget_17 : decode cX7_forget 17 = .ok (.putfield 81, 3) := by decide +kernel
theorem dX7_forget_20 : decode cX7_forget 20 = .ok (.aload_n 0, 1) := by decide +kernel
theorem dX7_forget_21 : decode cX7_forget 21 = .ok (.getfield 42, 3) := by decide +kernel
theorem dX7_forget_24 : decode cX7_forget 24 = .ok (.iconst 0, 1) := by decide +kernel
theorem dX7_forget_25 : decode cX7_forget 25 = .ok (.putfield 84, 3) := by decide +kernel
theorem dX7_forget_28 : decode cX7_forget 28 = .ok (.return_, 1) := by decide +kernel
theorem dX7_nextGround_0 : decode cX7_nextGround 0 = .ok (.aload_n 0, 1) := by decide +kernel
theorem dX7_nextGround_1 : decode cX7_nextGround 1 = .ok (.aload_n 0, 1) := by decide +kernel
theorem dX7_nextGround_2 : decode cX7_nextGround 2 = .ok (.getfield 72, 3) := by decide +kernel
theorem dX7_nextGround_5 : decode cX7_nextGround 5 = .ok (.iconst 1, 1) := by decide +kernel
theorem dX7_nextGround_6 : decode cX7_nextGround 6 = .ok (.iadd, 1) := by decide +kernel
theorem dX7_nextGround_7 : decode cX7_nextGround 7 = .ok (.bipush 8, 2) := by decide +kernel
theorem dX7_nextGround_9 : decode cX7_nextGround 9 = .ok (.invokestatic 87, 3) := by decide +kernel
theorem dX7_nextGround_12 : decode cX7_nextGround 12 = .ok (.putfield 72, 3) := by decide +kernel
theorem dX7_nextGround_15 : decode cX7_nextGround 15 = .ok (.aload_n 0, 1) := by decide +kernel
theorem dX7_nextGround_16 : decode cX7_nextGround 16 = .ok (.getfield 17, 3) := by decide +kernel
theorem dX7_nextGround_19 : decode cX7_nextGround 19 = .ok (.aload_n 0, 1) := by decide +kernel
theorem dX7_nextGround_20 : decode cX7_nextGround 20 = .ok (.getfield 72, 3) := by decide +kernel
theorem dX7_nextGround_23 : decode cX7_nextGround 23 = .ok (.iconst 1, 1) := by decide +kernel
theorem dX7_nextGround_24 : decode cX7_nextGround 24 = .ok (.isub, 1) := by decide +kernel
theorem dX7_nextGround_25 : decode cX7_nextGround 25 = .ok (.aaload, 1) := by decide +kernel
theorem dX7_nextGround_26 : decode cX7_nextGround 26 = .ok (.astore_n 1, 1) := by decide +kernel
theorem dX7_nextGround_27 : decode cX7_nextGround 27 = .ok (.aload_n 1, 1) := by decide +kernel
theorem dX7_nextGround_28 : decode cX7_nextGround 28 = .ok (.aload_n 0, 1) := by decide +kernel
theorem dX7_nextGround_29 : decode cX7_nextGround 29 = .ok (.getfield 57, 3) := by decide +kernel
theorem dX7_nextGround_32 : decode cX7_nextGround 32 = .ok (.invokevirtual 93, 3) := by decide +kernel
theorem dX7_nextGround_35 : decode cX7_nextGround 35 = .ok (.aload_n 1, 1) := by decide +kernel
theorem dX7_nextGround_36 : decode cX7_nextGround 36 = .ok (.areturn, 1) := by decide +kernel
theorem dX7_nextFisher_0 : decode cX7_nextFisher 0 = .ok (.aload_n 0, 1) := by decide +kernel
theorem dX7_nextFisher_1 : decode cX7_nextFisher 1 = .ok (.aload_n 0, 1) := by decide +kernel
theorem dX7_nextFisher_2 : decode cX7_nextFisher 2 = .ok (.getfield 75, 3) := by decide +kernel
theorem dX7_nextFisher_5 : decode cX7_nextFisher 5 = .ok (.iconst 1, 1) := by decide +kernel
theorem dX7_nextFisher_6 : decode cX7_nextFisher 6 = .ok (.iadd, 1) := by decide +kernel
theorem dX7_nextFisher_7 : decode cX7_nextFisher 7 = .ok (.bipush 8, 2) := by decide +kernel
theorem dX7_nextFisher_9 : decode cX7_nextFisher 9 = .ok (.invokestatic 87, 3) := by decide +kernel
theorem dX7_nextFisher_12 : decode cX7_nextFisher 12 = .ok (.putfield 75, 3) := by decide +kernel
theorem dX7_nextFisher_15 : decode cX7_nextFisher 15 = .ok (.aload_n 0, 1) := by decide +kernel
theorem dX7_nextFisher_16 : decode cX7_nextFisher 16 = .ok (.getfield 23, 3) := by decide +kernel
theorem dX7_nextFisher_19 : decode cX7_nextFisher 19 = .ok (.aload_n 0, 1) := by decide +kernel
theorem dX7_nextFisher_20 : decode cX7_nextFisher 20 = .ok (.getfield 75, 3) := by decide +kernel
theorem dX7_nextFisher_23 : decode cX7_nextFisher 23 = .ok (.iconst 1, 1) := by decide +kernel
theorem dX7_nextFisher_24 : decode cX7_nextFisher 24 = .ok (.isub, 1) := by decide +kernel
theorem dX7_nextFisher_25 : decode cX7_nextFisher 25 = .ok (.aaload, 1) := by decide +kernel
theorem dX7_nextFisher_26 : decode cX7_nextFisher 26 = .ok (.astore_n 1, 1) := by decide +kernel
theorem dX7_nextFisher_27 : decode cX7_nextFisher 27 = .ok (.aload_n 1, 1) := by decide +kernel
theorem dX7_nextFisher_28 : decode cX7_nextFisher 28 = .ok (.aload_n 0, 1) := by decide +kernel
theorem dX7_nextFisher_29 : decode cX7_nextFisher 29 = .ok (.getfield 62, 3) := by decide +kernel
theorem dX7_nextFisher_32 : decode cX7_nextFisher 32 = .ok (.invokevirtual 97, 3) := by decide +kernel
theorem dX7_nextFisher_35 : decode cX7_nextFisher 35 = .ok (.aload_n 1, 1) := by decide +kernel
theorem dX7_nextFisher_36 : decode cX7_nextFisher 36 = .ok (.areturn, 1) := by decide +kernel
theorem dX7_nextGo_0 : decode cX7_nextGo 0 = .ok (.aload_n 0, 1) := by decide +kernel
theorem dX7_nextGo_1 : decode cX7_nextGo 1 = .ok (.aload_n 0, 1) := by decide +kernel
theorem dX7_nextGo_2 : decode cX7_nextGo 2 = .ok (.getfield 78, 3) := by decide +kernel
theorem dX7_nextGo_5 : decode cX7_nextGo 5 = .ok (.iconst 1, 1) := by decide +kernel
theorem dX7_nextGo_6 : decode cX7_nextGo 6 = .ok (.iadd, 1) := by decide +kernel
theorem dX7_nextGo_7 : decode cX7_nextGo 7 = .ok (.bipush 24, 2) := by decide +kernel
theorem dX7_nextGo_9 : decode cX7_nextGo 9 = .ok (.invokestatic 87, 3) := by decide +kernel
theorem dX7_nextGo_12 : decode cX7_nextGo 12 = .ok (.putfield 78, 3) := by decide +kernel
theorem dX7_nextGo_15 : decode cX7_nextGo 15 = .ok (.aload_n 0, 1) := by decide +kernel
theorem dX7_nextGo_16 : decode cX7_nextGo 16 = .ok (.getfield 29, 3) := by decide +kernel
theorem dX7_nextGo_19 : decode cX7_nextGo 19 = .ok (.aload_n 0, 1) := by decide +kernel
theorem dX7_nextGo_20 : decode cX7_nextGo 20 = .ok (.getfield 78, 3) := by decide +kernel
theorem dX7_nextGo_23 : decode cX7_nextGo 23 = .ok (.iconst 1, 1) := by decide +kernel
theorem dX7_nextGo_24 : decode cX7_nextGo 24 = .ok (.isub, 1) := by decide +kernel
theorem dX7_nextGo_25 : decode cX7_nextGo 25 = .ok (.aaload, 1) := by decide +kernel
theorem dX7_nextGo_26 : decode cX7_nextGo 26 = .ok (.areturn, 1) := by decide +kernel
theorem dX7_nextPact_0 : decode cX7_nextPact 0 = .ok (.aload_n 0, 1) := by decide +kernel
theorem dX7_nextPact_1 : decode cX7_nextPact 1 = .ok (.aload_n 0, 1) := by decide +kernel
theorem dX7_nextPact_2 : decode cX7_nextPact 2 = .ok (.getfield 81, 3) := by decide +kernel
theorem dX7_nextPact_5 : decode cX7_nextPact 5 = .ok (.iconst 1, 1) := by decide +kernel
theorem dX7_nextPact_6 : decode cX7_nextPact 6 = .ok (.iadd, 1) := by decide +kernel
theorem dX7_nextPact_7 : decode cX7_nextPact 7 = .ok (.bipush 6, 2) := by decide +kernel
theorem dX7_nextPact_9 : decode cX7_nextPact 9 = .ok (.invokestatic 87, 3) := by decide +kernel
theorem dX7_nextPact_12 : decode cX7_nextPact 12 = .ok (.putfield 81, 3) := by decide +kernel
theorem dX7_nextPact_15 : decode cX7_nextPact 15 = .ok (.aload_n 0, 1) := by decide +kernel
theorem dX7_nextPact_16 : decode cX7_nextPact 16 = .ok (.getfield 35, 3) := by decide +kernel
theorem dX7_nextPact_19 : decode cX7_nextPact 19 = .ok (.aload_n 0, 1) := by decide +kernel
theorem dX7_nextPact_20 : decode cX7_nextPact 20 = .ok (.getfield 81, 3) := by decide +kernel
theorem dX7_nextPact_23 : decode cX7_nextPact 23 = .ok (.iconst 1, 1) := by decide +kernel
theorem dX7_nextPact_24 : decode cX7_nextPact 24 = .ok (.isub, 1) := by decide +kernel
theorem dX7_nextPact_25 : decode cX7_nextPact 25 = .ok (.aaload, 1) := by decide +kernel
theorem dX7_nextPact_26 : decode cX7_nextPact 26 = .ok (.astore_n 1, 1) := by decide +kernel
theorem dX7_nextPact_27 : decode cX7_nextPact 27 = .ok (.aload_n 1, 1) := by decide +kernel
theorem dX7_nextPact_28 : decode cX7_nextPact 28 = .ok (.aload_n 0, 1) := by decide +kernel
theorem dX7_nextPact_29 : decode cX7_nextPact 29 = .ok (.getfield 67, 3) := by decide +kernel
theorem dX7_nextPact_32 : decode cX7_nextPact 32 = .ok (.invokevirtual 100, 3) := by decide +kernel
theorem dX7_nextPact_35 : decode cX7_nextPact 35 = .ok (.aload_n 1, 1) := by decide +kernel
theorem dX7_nextPact_36 : decode cX7_nextPact 36 = .ok (.areturn, 1) := by decide +kernel
theorem dX7_copyFrom_0 : decode cX7_copyFrom 0 = .ok (.aload_n 0, 1) := by decide +kernel
theorem dX7_copyFrom_1 : decode cX7_copyFrom 1 = .ok (.aload_n 1, 1) := by decide +kernel
theorem dX7_copyFrom_2 : decode cX7_copyFrom 2 = .ok (.getfield 103, 3) := by decide +kernel
theorem dX7_copyFrom_5 : decode cX7_copyFrom 5 = .ok (.putfield 103, 3) := by decide +kernel
theorem dX7_copyFrom_8 : decode cX7_copyFrom 8 = .ok (.aload_n 0, 1) := by decide +kernel
theorem dX7_copyFrom_9 : decode cX7_copyFrom 9 = .ok (.aload_n 1, 1) := by decide +kernel
theorem dX7_copyFrom_10 : decode cX7_copyFrom 10 = .ok (.getfield 9, 3) := by decide +kernel
theorem dX7_copyFrom_13 : decode cX7_copyFrom 13 = .ok (.putfield 9, 3) := by decide +kernel
theorem dX7_copyFrom_16 : decode cX7_copyFrom 16 = .ok (.aload_n 0, 1) := by decide +kernel
theorem dX7_copyFrom_17 : decode cX7_copyFrom 17 = .ok (.aload_n 1, 1) := by decide +kernel
theorem dX7_copyFrom_18 : decode cX7_copyFrom 18 = .ok (.getfield 72, 3) := by decide +kernel
theorem dX7_copyFrom_21 : decode cX7_copyFrom 21 = .ok (.putfield 72, 3) := by decide +kernel
theorem dX7_copyFrom_24 : decode cX7_copyFrom 24 = .ok (.aload_n 0, 1) := by decide +kernel
theorem dX7_copyFrom_25 : decode cX7_copyFrom 25 = .ok (.aload_n 1, 1) := by decide +kernel
theorem dX7_copyFrom_26 : decode cX7_copyFrom 26 = .ok (.getfield 75, 3) := by decide +kernel
theorem dX7_copyFrom_29 : decode cX7_copyFrom 29 = .ok (.putfield 75, 3) := by decide +kernel
theorem dX7_copyFrom_32 : decode cX7_copyFrom 32 = .ok (.aload_n 0, 1) := by decide +kernel
theorem dX7_copyFrom_33 : decode cX7_copyFrom 33 = .ok (.aload_n 1, 1) := by decide +kernel
theorem dX7_copyFrom_34 : decode cX7_copyFrom 34 = .ok (.getfield 78, 3) := by decide +kernel
theorem dX7_copyFrom_37 : decode cX7_copyFrom 37 = .ok (.putfield 78, 3) := by decide +kernel
theorem dX7_copyFrom_40 : decode cX7_copyFrom 40 = .ok (.aload_n 0, 1) := by decide +kernel
theorem dX7_copyFrom_41 : decode cX7_copyFrom 41 = .ok (.aload_n 1, 1) := by decide +kernel
theorem dX7_copyFrom_42 : decode cX7_copyFrom 42 = .ok (.getfield 81, 3) := by decide +kernel
theorem dX7_copyFrom_45 : decode cX7_copyFrom 45 = .ok (.putfield 81, 3) := by decide +kernel
theorem dX7_copyFrom_48 : decode cX7_copyFrom 48 = .ok (.iconst 0, 1) := by decide +kernel
theorem dX7_copyFrom_49 : decode cX7_copyFrom 49 = .ok (.istore_n 2, 1) := by decide +kernel
theorem dX7_copyFrom_50 : decode cX7_copyFrom 50 = .ok (.iload_n 2, 1) := by decide +kernel
theorem dX7_copyFrom_51 : decode cX7_copyFrom 51 = .ok (.aload_n 0, 1) := by decide +kernel
theorem dX7_copyFrom_52 : decode cX7_copyFrom 52 = .ok (.getfield 72, 3) := by decide +kernel
theorem dX7_copyFrom_55 : decode cX7_copyFrom 55 = .ok (.if_icmp .ge 24, 3) := by decide +kernel
theorem dX7_copyFrom_58 : decode cX7_copyFrom 58 = .ok (.aload_n 0, 1) := by decide +kernel
theorem dX7_copyFrom_59 : decode cX7_copyFrom 59 = .ok (.getfield 17, 3) := by decide +kernel
theorem dX7_copyFrom_62 : decode cX7_copyFrom 62 = .ok (.iload_n 2, 1) := by decide +kernel
theorem dX7_copyFrom_63 : decode cX7_copyFrom 63 = .ok (.aaload, 1) := by decide +kernel
theorem dX7_copyFrom_64 : decode cX7_copyFrom 64 = .ok (.aload_n 1, 1) := by decide +kernel
theorem dX7_copyFrom_65 : decode cX7_copyFrom 65 = .ok (.getfield 17, 3) := by decide +kernel
theorem dX7_copyFrom_68 : decode cX7_copyFrom 68 = .ok (.iload_n 2, 1) := by decide +kernel
theorem dX7_copyFrom_69 : decode cX7_copyFrom 69 = .ok (.aaload, 1) := by decide +kernel
theorem dX7_copyFrom_70 : decode cX7_copyFrom 70 = .ok (.invokevirtual 93, 3) := by decide +kernel
theorem dX7_copyFrom_73 : decode cX7_copyFrom 73 = .ok (.iinc 2 1, 3) := by decide +kernel
theorem dX7_copyFrom_76 : decode cX7_copyFrom 76 = .ok (.goto (-26), 3) := by decide +kernel
theorem dX7_copyFrom_79 : decode cX7_copyFrom 79 = .ok (.iconst 0, 1) := by decide +kernel
theorem dX7_copyFrom_80 : decode cX7_copyFrom 80 = .ok (.istore_n 2, 1) := by decide +kernel
theorem dX7_copyFrom_81 : decode cX7_copyFrom 81 = .ok (.iload_n 2, 1) := by decide +kernel
theorem dX7_copyFrom_82 : decode cX7_copyFrom 82 = .ok (.aload_n 0, 1) := by decide +kernel
theorem dX7_copyFrom_83 : decode cX7_copyFrom 83 = .ok (.getfield 75, 3) := by decide +kernel
theorem dX7_copyFrom_86 : decode cX7_copyFrom 86 = .ok (.if_icmp .ge 24, 3) := by decide +kernel
theorem dX7_copyFrom_89 : decode cX7_copyFrom 89 = .ok (.aload_n 0, 1) := by decide +kernel
theorem dX7_copyFrom_90 : decode cX7_copyFrom 90 = .ok (.getfield 23, 3) := by decide +kernel
theorem dX7_copyFrom_93 : decode cX7_copyFrom 93 = .ok (.iload_n 2, 1) := by decide +kernel
theorem dX7_copyFrom_94 : decode cX7_copyFrom 94 = .ok (.aaload, 1) := by decide +kernel
theorem dX7_copyFrom_95 : decode cX7_copyFrom 95 = .ok (.aload_n 1, 1) := by decide +kernel
theorem dX7_copyFrom_96 : decode cX7_copyFrom 96 = .ok (.getfield 23, 3) := by decide +kernel
theorem dX7_copyFrom_99 : decode cX7_copyFrom 99 = .ok (.iload_n 2, 1) := by decide +kernel
theorem dX7_copyFrom_100 : decode cX7_copyFrom 100 = .ok (.aaload, 1) := by decide +kernel
theorem dX7_copyFrom_101 : decode cX7_copyFrom 101 = .ok (.invokevirtual 97, 3) := by decide +kernel
theorem dX7_copyFrom_104 : decode cX7_copyFrom 104 = .ok (.iinc 2 1, 3) := by decide +kernel
theorem dX7_copyFrom_107 : decode cX7_copyFrom 107 = .ok (.goto (-26), 3) := by decide +kernel
theorem dX7_copyFrom_110 : decode cX7_copyFrom 110 = .ok (.iconst 0, 1) := by decide +kernel
theorem dX7_copyFrom_111 : decode cX7_copyFrom 111 = .ok (.istore_n 2, 1) := by decide +kernel
theorem dX7_copyFrom_112 : decode cX7_copyFrom 112 = .ok (.iload_n 2, 1) := by decide +kernel
theorem dX7_copyFrom_113 : decode cX7_copyFrom 113 = .ok (.aload_n 0, 1) := by decide +kernel
theorem dX7_copyFrom_114 : decode cX7_copyFrom 114 = .ok (.getfield 78, 3) := by decide +kernel
theorem dX7_copyFrom_117 : decode cX7_copyFrom 117 = .ok (.if_icmp .ge 24, 3) := by decide +kernel
theorem dX7_copyFrom_120 : decode cX7_copyFrom 120 = .ok (.aload_n 0, 1) := by decide +kernel
theorem dX7_copyFrom_121 : decode cX7_copyFrom 121 = .ok (.getfield 29, 3) := by decide +kernel
theorem dX7_copyFrom_124 : decode cX7_copyFrom 124 = .ok (.iload_n 2, 1) := by decide +kernel
theorem dX7_copyFrom_125 : decode cX7_copyFrom 125 = .ok (.aaload, 1) := by decide +kernel
theorem dX7_copyFrom_126 : decode cX7_copyFrom 126 = .ok (.aload_n 1, 1) := by decide +kernel
theorem dX7_copyFrom_127 : decode cX7_copyFrom 127 = .ok (.getfield 29, 3) := by decide +kernel
theorem dX7_copyFrom_130 : decode cX7_copyFrom 130 = .ok (.iload_n 2, 1) := by decide +kernel
theorem dX7_copyFrom_131 : decode cX7_copyFrom 131 = .ok (.aaload, 1) := by decide +kernel
theorem dX7_copyFrom_132 : decode cX7_copyFrom 132 = .ok (.invokevirtual 106, 3) := by decide +kernel
theorem dX7_copyFrom_135 : decode cX7_copyFrom 135 = .ok (.iinc 2 1, 3) := by decide +kernel
theorem dX7_copyFrom_138 : decode cX7_copyFrom 138 = .ok (.goto (-26), 3) := by decide +kernel
theorem dX7_copyFrom_141 : decode cX7_copyFrom 141 = .ok (.iconst 0, 1) := by decide +kernel
theorem dX7_copyFrom_142 : decode cX7_copyFrom 142 = .ok (.istore_n 2, 1) := by decide +kernel
theorem dX7_copyFrom_143 : decode cX7_copyFrom 143 = .ok (.iload_n 2, 1) := by decide +kernel
theorem dX7_copyFrom_144 : decode cX7_copyFrom 144 = .ok (.aload_n 0, 1) := by decide +kernel
theorem dX7_copyFrom_145 : decode cX7_copyFrom 145 = .ok (.getfield 81, 3) := by decide +kernel
theorem dX7_copyFrom_148 : decode cX7_copyFrom 148 = .ok (.if_icmp .ge 24, 3) := by decide +kernel
theorem dX7_copyFrom_151 : decode cX7_copyFrom 151 = .ok (.aload_n 0, 1) := by decide +kernel
theorem dX7_copyFrom_152 : decode cX7_copyFrom 152 = .ok (.getfield 35, 3) := by decide +kernel
theorem dX7_copyFrom_155 : decode cX7_copyFrom 155 = .ok (.iload_n 2, 1) := by decide +kernel
theorem dX7_copyFrom_156 : decode cX7_copyFrom 156 = .ok (.aaload, 1) := by decide +kernel
theorem dX7_copyFrom_157 : decode cX7_copyFrom 157 = .ok (.aload_n 1, 1) := by decide +kernel
theorem dX7_copyFrom_158 : decode cX7_copyFrom 158 = .ok (.getfield 35, 3) := by decide +kernel
theorem dX7_copyFrom_161 : decode cX7_copyFrom 161 = .ok (.iload_n 2, 1) := by decide +kernel
theorem dX7_copyFrom_162 : decode cX7_copyFrom 162 = .ok (.aaload, 1) := by decide +kernel
theorem dX7_copyFrom_163 : decode cX7_copyFrom 163 = .ok (.invokevirtual 100, 3) := by decide +kernel
theorem dX7_copyFrom_166 : decode cX7_copyFrom 166 = .ok (.iinc 2 1, 3) := by decide +kernel
theorem dX7_copyFrom_169 : decode cX7_copyFrom 169 = .ok (.goto (-26), 3) := by decide +kernel
theorem dX7_copyFrom_172 : decode cX7_copyFrom 172 = .ok (.aload_n 0, 1) := by decide +kernel
theorem dX7_copyFrom_173 : decode cX7_copyFrom 173 = .ok (.getfield 42, 3) := by decide +kernel
theorem dX7_copyFrom_176 : decode cX7_copyFrom 176 = .ok (.aload_n 1, 1) := by decide +kernel
theorem dX7_copyFrom_177 : decode cX7_copyFrom 177 = .ok (.getfield 42, 3) := by decide +kernel
theorem dX7_copyFrom_180 : decode cX7_copyFrom 180 = .ok (.invokevirtual 109, 3) := by decide +kernel
theorem dX7_copyFrom_183 : decode cX7_copyFrom 183 = .ok (.return_, 1) := by decide +kernel
theorem dX7_allFish_0 : decode cX7_allFish 0 = .ok (.iconst 0, 1) := by decide +kernel
theorem dX7_allFish_1 : decode cX7_allFish 1 = .ok (.istore_n 1, 1) := by decide +kernel
theorem dX7_allFish_2 : decode cX7_allFish 2 = .ok (.iconst 0, 1) := by decide +kernel
theorem dX7_allFish_3 : decode cX7_allFish 3 = .ok (.istore_n 2, 1) := by decide +kernel
theorem dX7_allFish_4 : decode cX7_allFish 4 = .ok (.iload_n 2, 1) := by decide +kernel
theorem dX7_allFish_5 : decode cX7_allFish 5 = .ok (.aload_n 0, 1) := by decide +kernel
theorem dX7_allFish_6 : decode cX7_allFish 6 = .ok (.getfield 72, 3) := by decide +kernel
theorem dX7_allFish_9 : decode cX7_allFish 9 = .ok (.if_icmp .ge 21, 3) := by decide +kernel
theorem dX7_allFish_12 : decode cX7_allFish 12 = .ok (.iload_n 1, 1) := by decide +kernel
theorem dX7_allFish_13 : decode cX7_allFish 13 = .ok (.aload_n 0, 1) := by decide +kernel
theorem dX7_allFish_14 : decode cX7_allFish 14 = .ok (.getfield 17, 3) := by decide +kernel
theorem dX7_allFish_17 : decode cX7_allFish 17 = .ok (.iload_n 2, 1) := by decide +kernel
theorem dX7_allFish_18 : decode cX7_allFish 18 = .ok (.aaload, 1) := by decide +kernel
theorem dX7_allFish_19 : decode cX7_allFish 19 = .ok (.invokevirtual 112, 3) := by decide +kernel
theorem dX7_allFish_22 : decode cX7_allFish 22 = .ok (.iadd, 1) := by decide +kernel
theorem dX7_allFish_23 : decode cX7_allFish 23 = .ok (.istore_n 1, 1) := by decide +kernel
theorem dX7_allFish_24 : decode cX7_allFish 24 = .ok (.iinc 2 1, 3) := by decide +kernel
theorem dX7_allFish_27 : decode cX7_allFish 27 = .ok (.goto (-23), 3) := by decide +kernel
theorem dX7_allFish_30 : decode cX7_allFish 30 = .ok (.iload_n 1, 1) := by decide +kernel
theorem dX7_allFish_31 : decode cX7_allFish 31 = .ok (.ireturn, 1) := by decide +kernel
theorem dX7_allStores_0 : decode cX7_allStores 0 = .ok (.iconst 0, 1) := by decide +kernel
theorem dX7_allStores_1 : decode cX7_allStores 1 = .ok (.istore_n 1, 1) := by decide +kernel
theorem dX7_allStores_2 : decode cX7_allStores 2 = .ok (.iconst 0, 1) := by decide +kernel
theorem dX7_allStores_3 : decode cX7_allStores 3 = .ok (.istore_n 2, 1) := by decide +kernel
theorem dX7_allStores_4 : decode cX7_allStores 4 = .ok (.iload_n 2, 1) := by decide +kernel
theorem dX7_allStores_5 : decode cX7_allStores 5 = .ok (.aload_n 0, 1) := by decide +kernel
theorem dX7_allStores_6 : decode cX7_allStores 6 = .ok (.getfield 75, 3) := by decide +kernel
theorem dX7_allStores_9 : decode cX7_allStores 9 = .ok (.if_icmp .ge 21, 3) := by decide +kernel
theorem dX7_allStores_12 : decode cX7_allStores 12 = .ok (.iload_n 1, 1) := by decide +kernel
theorem dX7_allStores_13 : decode cX7_allStores 13 = .ok (.aload_n 0, 1) := by decide +kernel
theorem dX7_allStores_14 : decode cX7_allStores 14 = .ok (.getfield 23, 3) := by decide +kernel
theorem dX7_allStores_17 : decode cX7_allStores 17 = .ok (.iload_n 2, 1) := by decide +kernel
theorem dX7_allStores_18 : decode cX7_allStores 18 = .ok (.aaload, 1) := by decide +kernel
theorem dX7_allStores_19 : decode cX7_allStores 19 = .ok (.getfield 116, 3) := by decide +kernel
theorem dX7_allStores_22 : decode cX7_allStores 22 = .ok (.iadd, 1) := by decide +kernel
theorem dX7_allStores_23 : decode cX7_allStores 23 = .ok (.istore_n 1, 1) := by decide +kernel
theorem dX7_allStores_24 : decode cX7_allStores 24 = .ok (.iinc 2 1, 3) := by decide +kernel
theorem dX7_allStores_27 : decode cX7_allStores 27 = .ok (.goto (-23), 3) := by decide +kernel
theorem dX7_allStores_30 : decode cX7_allStores 30 = .ok (.iload_n 1, 1) := by decide +kernel
theorem dX7_allStores_31 : decode cX7_allStores 31 = .ok (.ireturn, 1) := by decide +kernel
theorem dX7_widenedNets_0 : decode cX7_widenedNets 0 = .ok (.iconst 0, 1) := by decide +kernel
theorem dX7_widenedNets_1 : decode cX7_widenedNets 1 = .ok (.istore_n 1, 1) := by decide +kernel
theorem dX7_widenedNets_2 : decode cX7_widenedNets 2 = .ok (.iconst 0, 1) := by decide +kernel
theorem dX7_widenedNets_3 : decode cX7_widenedNets 3 = .ok (.istore_n 2, 1) := by decide +kernel
theorem dX7_widenedNets_4 : decode cX7_widenedNets 4 = .ok (.iload_n 2, 1) := by decide +kernel
theorem dX7_widenedNets_5 : decode cX7_widenedNets 5 = .ok (.aload_n 0, 1) := by decide +kernel
theorem dX7_widenedNets_6 : decode cX7_widenedNets 6 = .ok (.getfield 75, 3) := by decide +kernel
theorem dX7_widenedNets_9 : decode cX7_widenedNets 9 = .ok (.if_icmp .ge 38, 3) := by decide +kernel
theorem dX7_widenedNets_12 : decode cX7_widenedNets 12 = .ok (.iload_n 1, 1) := by decide +kernel
theorem dX7_widenedNets_13 : decode cX7_widenedNets 13 = .ok (.aload_n 0, 1) := by decide +kernel
theorem dX7_widenedNets_14 : decode cX7_widenedNets 14 = .ok (.getfield 23, 3) := by decide +kernel
theorem dX7_widenedNets_17 : decode cX7_widenedNets 17 = .ok (.iload_n 2, 1) := by decide +kernel
theorem dX7_widenedNets_18 : decode cX7_widenedNets 18 = .ok (.aaload, 1) := by decide +kernel
theorem dX7_widenedNets_19 : decode cX7_widenedNets 19 = .ok (.getfield 119, 3) := by decide +kernel
theorem dX7_widenedNets_22 : decode cX7_widenedNets 22 = .ok (.aload_n 0, 1) := by decide +kernel
theorem dX7_widenedNets_23 : decode cX7_widenedNets 23 = .ok (.getfield 23, 3) := by decide +kernel
theorem dX7_widenedNets_26 : decode cX7_widenedNets 26 = .ok (.iload_n 2, 1) := by decide +kernel
theorem dX7_widenedNets_27 : decode cX7_widenedNets 27 = .ok (.aaload, 1) := by decide +kernel
theorem dX7_widenedNets_28 : decode cX7_widenedNets 28 = .ok (.getfield 122, 3) := by decide +kernel
theorem dX7_widenedNets_31 : decode cX7_widenedNets 31 = .ok (.if_icmp .le 7, 3) := by decide +kernel
theorem dX7_widenedNets_34 : decode cX7_widenedNets 34 = .ok (.iconst 1, 1) := by decide +kernel
theorem dX7_widenedNets_35 : decode cX7_widenedNets 35 = .ok (.goto 4, 3) := by decide +kernel
theorem dX7_widenedNets_38 : decode cX7_widenedNets 38 = .ok (.iconst 0, 1) := by decide +kernel
theorem dX7_widenedNets_39 : decode cX7_widenedNets 39 = .ok (.iadd, 1) := by decide +kernel
theorem dX7_widenedNets_40 : decode cX7_widenedNets 40 = .ok (.istore_n 1, 1) := by decide +kernel
theorem dX7_widenedNets_41 : decode cX7_widenedNets 41 = .ok (.iinc 2 1, 3) := by decide +kernel
theorem dX7_widenedNets_44 : decode cX7_widenedNets 44 = .ok (.goto (-40), 3) := by decide +kernel
theorem dX7_widenedNets_47 : decode cX7_widenedNets 47 = .ok (.iload_n 1, 1) := by decide +kernel
theorem dX7_widenedNets_48 : decode cX7_widenedNets 48 = .ok (.ireturn, 1) := by decide +kernel
theorem dX7_allCheats_0 : decode cX7_allCheats 0 = .ok (.iconst 0, 1) := by decide +kernel
theorem dX7_allCheats_1 : decode cX7_allCheats 1 = .ok (.istore_n 1, 1) := by decide +kernel
theorem dX7_allCheats_2 : decode cX7_allCheats 2 = .ok (.iconst 0, 1) := by decide +kernel
theorem dX7_allCheats_3 : decode cX7_allCheats 3 = .ok (.istore_n 2, 1) := by decide +kernel
theorem dX7_allCheats_4 : decode cX7_allCheats 4 = .ok (.iload_n 2, 1) := by decide +kernel
theorem dX7_allCheats_5 : decode cX7_allCheats 5 = .ok (.aload_n 0, 1) := by decide +kernel
theorem dX7_allCheats_6 : decode cX7_allCheats 6 = .ok (.getfield 75, 3) := by decide +kernel
theorem dX7_allCheats_9 : decode cX7_allCheats 9 = .ok (.if_icmp .ge 29, 3) := by decide +kernel
theorem dX7_allCheats_12 : decode cX7_allCheats 12 = .ok (.iload_n 1, 1) := by decide +kernel
theorem dX7_allCheats_13 : decode cX7_allCheats 13 = .ok (.aload_n 0, 1) := by decide +kernel
theorem dX7_allCheats_14 : decode cX7_allCheats 14 = .ok (.getfield 23, 3) := by decide +kernel
theorem dX7_allCheats_17 : decode cX7_allCheats 17 = .ok (.iload_n 2, 1) := by decide +kernel
theorem dX7_allCheats_18 : decode cX7_allCheats 18 = .ok (.aaload, 1) := by decide +kernel
theorem dX7_allCheats_19 : decode cX7_allCheats 19 = .ok (.getfield 125, 3) := by decide +kernel
theorem dX7_allCheats_22 : decode cX7_allCheats 22 = .ok (.ifCond .eq 7, 3) := by decide +kernel
theorem dX7_allCheats_25 : decode cX7_allCheats 25 = .ok (.iconst 1, 1) := by decide +kernel
theorem dX7_allCheats_26 : decode cX7_allCheats 26 = .ok (.goto 4, 3) := by decide +kernel
theorem dX7_allCheats_29 : decode cX7_allCheats 29 = .ok (.iconst 0, 1) := by decide +kernel
theorem dX7_allCheats_30 : decode cX7_allCheats 30 = .ok (.iadd, 1) := by decide +kernel
theorem dX7_allCheats_31 : decode cX7_allCheats 31 = .ok (.istore_n 1, 1) := by decide +kernel
theorem dX7_allCheats_32 : decode cX7_allCheats 32 = .ok (.iinc 2 1, 3) := by decide +kernel
theorem dX7_allCheats_35 : decode cX7_allCheats 35 = .ok (.goto (-31), 3) := by decide +kernel
theorem dX7_allCheats_38 : decode cX7_allCheats 38 = .ok (.iload_n 1, 1) := by decide +kernel
theorem dX7_allCheats_39 : decode cX7_allCheats 39 = .ok (.ireturn, 1) := by decide +kernel
theorem dX7_storeGap_0 : decode cX7_storeGap 0 = .ok (.aload_n 0, 1) := by decide +kernel
theorem dX7_storeGap_1 : decode cX7_storeGap 1 = .ok (.getfield 75, 3) := by decide +kernel
theorem dX7_storeGap_4 : decode cX7_storeGap 4 = .ok (.ifCond .ne 5, 3) := by decide +kernel
theorem dX7_storeGap_7 : decode cX7_storeGap 7 = .ok (.iconst 0, 1) := by decide +kernel
theorem dX7_storeGap_8 : decode cX7_storeGap 8 = .ok (.ireturn, 1) := by decide +kernel
theorem dX7_storeGap_9 : decode cX7_storeGap 9 = .ok (.aload_n 0, 1) := by decide +kernel
theorem dX7_storeGap_10 : decode cX7_storeGap 10 = .ok (.getfield 23, 3) := by decide +kernel
theorem dX7_storeGap_13 : decode cX7_storeGap 13 = .ok (.iconst 0, 1) := by decide +kernel
theorem dX7_storeGap_14 : decode cX7_storeGap 14 = .ok (.aaload, 1) := by decide +kernel
theorem dX7_storeGap_15 : decode cX7_storeGap 15 = .ok (.getfield 116, 3) := by decide +kernel
theorem dX7_storeGap_18 : decode cX7_storeGap 18 = .ok (.istore_n 1, 1) := by decide +kernel
theorem dX7_storeGap_19 : decode cX7_storeGap 19 = .ok (.iload_n 1, 1) := by decide +kernel
theorem dX7_storeGap_20 : decode cX7_storeGap 20 = .ok (.istore_n 2, 1) := by decide +kernel
theorem dX7_storeGap_21 : decode cX7_storeGap 21 = .ok (.iconst 1, 1) := by decide +kernel
theorem dX7_storeGap_22 : decode cX7_storeGap 22 = .ok (.istore_n 3, 1) := by decide +kernel
theorem dX7_storeGap_23 : decode cX7_storeGap 23 = .ok (.iload_n 3, 1) := by decide +kernel
theorem dX7_storeGap_24 : decode cX7_storeGap 24 = .ok (.aload_n 0, 1) := by decide +kernel
theorem dX7_storeGap_25 : decode cX7_storeGap 25 = .ok (.getfield 75, 3) := by decide +kernel
theorem dX7_storeGap_28 : decode cX7_storeGap 28 = .ok (.if_icmp .ge 37, 3) := by decide +kernel
theorem dX7_storeGap_31 : decode cX7_storeGap 31 = .ok (.iload_n 1, 1) := by decide +kernel
theorem dX7_storeGap_32 : decode cX7_storeGap 32 = .ok (.aload_n 0, 1) := by decide +kernel
theorem dX7_storeGap_33 : decode cX7_storeGap 33 = .ok (.getfield 23, 3) := by decide +kernel
theorem dX7_storeGap_36 : decode cX7_storeGap 36 = .ok (.iload_n 3, 1) := by decide +kernel
theorem dX7_storeGap_37 : decode cX7_storeGap 37 = .ok (.aaload, 1) := by decide +kernel
theorem dX7_storeGap_38 : decode cX7_storeGap 38 = .ok (.getfield 116, 3) := by decide +kernel
theorem dX7_storeGap_41 : decode cX7_storeGap 41 = .ok (.invokestatic 87, 3) := by decide +kernel
theorem dX7_storeGap_44 : decode cX7_storeGap 44 = .ok (.istore_n 1, 1) := by decide +kernel
theorem dX7_storeGap_45 : decode cX7_storeGap 45 = .ok (.iload_n 2, 1) := by decide +kernel
theorem dX7_storeGap_46 : decode cX7_storeGap 46 = .ok (.aload_n 0, 1) := by decide +kernel
theorem dX7_storeGap_47 : decode cX7_storeGap 47 = .ok (.getfield 23, 3) := by decide +kernel
theorem dX7_storeGap_50 : decode cX7_storeGap 50 = .ok (.iload_n 3, 1) := by decide +kernel
theorem dX7_storeGap_51 : decode cX7_storeGap 51 = .ok (.aaload, 1) := by decide +kernel
theorem dX7_storeGap_52 : decode cX7_storeGap 52 = .ok (.getfield 116, 3) := by decide +kernel
theorem dX7_storeGap_55 : decode cX7_storeGap 55 = .ok (.invokestatic 129, 3) := by decide +kernel
theorem dX7_storeGap_58 : decode cX7_storeGap 58 = .ok (.istore_n 2, 1) := by decide +kernel
theorem dX7_storeGap_59 : decode cX7_storeGap 59 = .ok (.iinc 3 1, 3) := by decide +kernel
theorem dX7_storeGap_62 : decode cX7_storeGap 62 = .ok (.goto (-39), 3) := by decide +kernel
theorem dX7_storeGap_65 : decode cX7_storeGap 65 = .ok (.iload_n 2, 1) := by decide +kernel
theorem dX7_storeGap_66 : decode cX7_storeGap 66 = .ok (.iload_n 1, 1) := by decide +kernel
theorem dX7_storeGap_67 : decode cX7_storeGap 67 = .ok (.isub, 1) := by decide +kernel
theorem dX7_storeGap_68 : decode cX7_storeGap 68 = .ok (.ireturn, 1) := by decide +kernel
theorem dX7_drawLots_0 : decode cX7_drawLots 0 = .ok (.aload_n 0, 1) := by decide +kernel
theorem dX7_drawLots_1 : decode cX7_drawLots 1 = .ok (.getfield 9, 3) := by decide +kernel
theorem dX7_drawLots_4 : decode cX7_drawLots 4 = .ok (.istore_n 1, 1) := by decide +kernel
theorem dX7_drawLots_5 : decode cX7_drawLots 5 = .ok (.iconst 0, 1) := by decide +kernel
theorem dX7_drawLots_6 : decode cX7_drawLots 6 = .ok (.istore_n 2, 1) := by decide +kernel
theorem dX7_drawLots_7 : decode cX7_drawLots 7 = .ok (.iload_n 2, 1) := by decide +kernel
theorem dX7_drawLots_8 : decode cX7_drawLots 8 = .ok (.aload_n 0, 1) := by decide +kernel
theorem dX7_drawLots_9 : decode cX7_drawLots 9 = .ok (.getfield 75, 3) := by decide +kernel
theorem dX7_drawLots_12 : decode cX7_drawLots 12 = .ok (.if_icmp .ge 16, 3) := by decide +kernel
theorem dX7_drawLots_15 : decode cX7_drawLots 15 = .ok (.aload_n 0, 1) := by decide +kernel
theorem dX7_drawLots_16 : decode cX7_drawLots 16 = .ok (.getfield 50, 3) := by decide +kernel
theorem dX7_drawLots_19 : decode cX7_drawLots 19 = .ok (.iload_n 2, 1) := by decide +kernel
theorem dX7_drawLots_20 : decode cX7_drawLots 20 = .ok (.iload_n 2, 1) := by decide +kernel
theorem dX7_drawLots_21 : decode cX7_drawLots 21 = .ok (.iastore, 1) := by decide +kernel
theorem dX7_drawLots_22 : decode cX7_drawLots 22 = .ok (.iinc 2 1, 3) := by decide +kernel
theorem dX7_drawLots_25 : decode cX7_drawLots 25 = .ok (.goto (-18), 3) := by decide +kernel
theorem dX7_drawLots_28 : decode cX7_drawLots 28 = .ok (.aload_n 0, 1) := by decide +kernel
theorem dX7_drawLots_29 : decode cX7_drawLots 29 = .ok (.getfield 75, 3) := by decide +kernel
theorem dX7_drawLots_32 : decode cX7_drawLots 32 = .ok (.istore_n 2, 1) := by decide +kernel
theorem dX7_drawLots_33 : decode cX7_drawLots 33 = .ok (.iload_n 2, 1) := by decide +kernel
theorem dX7_drawLots_34 : decode cX7_drawLots 34 = .ok (.ifCond .le 73, 3) := by decide +kernel
theorem dX7_drawLots_37 : decode cX7_drawLots 37 = .ok (.iload_n 1, 1) := by decide +kernel
theorem dX7_drawLots_38 : decode cX7_drawLots 38 = .ok (.ldc 132, 2) := by decide +kernel
theorem dX7_drawLots_40 : decode cX7_drawLots 40 = .ok (.imul, 1) := by decide +kernel
theorem dX7_drawLots_41 : decode cX7_drawLots 41 = .ok (.iconst 1, 1) := by decide +kernel
theorem dX7_drawLots_42 : decode cX7_drawLots 42 = .ok (.iadd, 1) := by decide +kernel
theorem dX7_drawLots_43 : decode cX7_drawLots 43 = .ok (.istore_n 1, 1) := by decide +kernel
theorem dX7_drawLots_44 : decode cX7_drawLots 44 = .ok (.iload_n 1, 1) := by decide +kernel
theorem dX7_drawLots_45 : decode cX7_drawLots 45 = .ok (.bipush 16, 2) := by decide +kernel
theorem dX7_drawLots_47 : decode cX7_drawLots 47 = .ok (.iushr, 1) := by decide +kernel
theorem dX7_drawLots_48 : decode cX7_drawLots 48 = .ok (.iload_n 2, 1) := by decide +kernel
theorem dX7_drawLots_49 : decode cX7_drawLots 49 = .ok (.irem, 1) := by decide +kernel
theorem dX7_drawLots_50 : decode cX7_drawLots 50 = .ok (.istore_n 3, 1) := by decide +kernel
theorem dX7_drawLots_51 : decode cX7_drawLots 51 = .ok (.aload_n 0, 1) := by decide +kernel
theorem dX7_drawLots_52 : decode cX7_drawLots 52 = .ok (.getfield 46, 3) := by decide +kernel
theorem dX7_drawLots_55 : decode cX7_drawLots 55 = .ok (.aload_n 0, 1) := by decide +kernel
theorem dX7_drawLots_56 : decode cX7_drawLots 56 = .ok (.getfield 75, 3) := by decide +kernel
theorem dX7_drawLots_59 : decode cX7_drawLots 59 = .ok (.iload_n 2, 1) := by decide +kernel
theorem dX7_drawLots_60 : decode cX7_drawLots 60 = .ok (.isub, 1) := by decide +kernel
theorem dX7_drawLots_61 : decode cX7_drawLots 61 = .ok (.aload_n 0, 1) := by decide +kernel
theorem dX7_drawLots_62 : decode cX7_drawLots 62 = .ok (.getfield 50, 3) := by decide +kernel
theorem dX7_drawLots_65 : decode cX7_drawLots 65 = .ok (.iload_n 3, 1) := by decide +kernel
theorem dX7_drawLots_66 : decode cX7_drawLots 66 = .ok (.iaload, 1) := by decide +kernel
theorem dX7_drawLots_67 : decode cX7_drawLots 67 = .ok (.iastore, 1) := by decide +kernel
theorem dX7_drawLots_68 : decode cX7_drawLots 68 = .ok (.iload_n 3, 1) := by decide +kernel
theorem dX7_drawLots_69 : decode cX7_drawLots 69 = .ok (.istore 4, 2) := by decide +kernel
theorem dX7_drawLots_71 : decode cX7_drawLots 71 = .ok (.iload 4, 2) := by decide +kernel
theorem dX7_drawLots_73 : decode cX7_drawLots 73 = .ok (.iconst 1, 1) := by decide +kernel
theorem dX7_drawLots_74 : decode cX7_drawLots 74 = .ok (.iadd, 1) := by decide +kernel
theorem dX7_drawLots_75 : decode cX7_drawLots 75 = .ok (.iload_n 2, 1) := by decide +kernel
theorem dX7_drawLots_76 : decode cX7_drawLots 76 = .ok (.if_icmp .ge 25, 3) := by decide +kernel
theorem dX7_drawLots_79 : decode cX7_drawLots 79 = .ok (.aload_n 0, 1) := by decide +kernel
theorem dX7_drawLots_80 : decode cX7_drawLots 80 = .ok (.getfield 50, 3) := by decide +kernel
theorem dX7_drawLots_83 : decode cX7_drawLots 83 = .ok (.iload 4, 2) := by decide +kernel
theorem dX7_drawLots_85 : decode cX7_drawLots 85 = .ok (.aload_n 0, 1) := by decide +kernel
theorem dX7_drawLots_86 : decode cX7_drawLots 86 = .ok (.getfield 50, 3) := by decide +kernel
theorem dX7_drawLots_89 : decode cX7_drawLots 89 = .ok (.iload 4, 2) := by decide +kernel
theorem dX7_drawLots_91 : decode cX7_drawLots 91 = .ok (.iconst 1, 1) := by decide +kernel
theorem dX7_drawLots_92 : decode cX7_drawLots 92 = .ok (.iadd, 1) := by decide +kernel
theorem dX7_drawLots_93 : decode cX7_drawLots 93 = .ok (.iaload, 1) := by decide +kernel
theorem dX7_drawLots_94 : decode cX7_drawLots 94 = .ok (.iastore, 1) := by decide +kernel
theorem dX7_drawLots_95 : decode cX7_drawLots 95 = .ok (.iinc 4 1, 3) := by decide +kernel
theorem dX7_drawLots_98 : decode cX7_drawLots 98 = .ok (.goto (-27), 3) := by decide +kernel
theorem dX7_drawLots_101 : decode cX7_drawLots 101 = .ok (.iinc 2 (-1), 3) := by decide +kernel
theorem dX7_drawLots_104 : decode cX7_drawLots 104 = .ok (.goto (-71), 3) := by decide +kernel
theorem dX7_drawLots_107 : decode cX7_drawLots 107 = .ok (.iload_n 1, 1) := by decide +kernel
theorem dX7_drawLots_108 : decode cX7_drawLots 108 = .ok (.ireturn, 1) := by decide +kernel
theorem dX7_passTides_0 : decode cX7_passTides 0 = .ok (.iconst 0, 1) := by decide +kernel
theorem dX7_passTides_1 : decode cX7_passTides 1 = .ok (.istore_n 2, 1) := by decide +kernel
theorem dX7_passTides_2 : decode cX7_passTides 2 = .ok (.iconst 0, 1) := by decide +kernel
theorem dX7_passTides_3 : decode cX7_passTides 3 = .ok (.istore_n 3, 1) := by decide +kernel
theorem dX7_passTides_4 : decode cX7_passTides 4 = .ok (.iload_n 3, 1) := by decide +kernel
theorem dX7_passTides_5 : decode cX7_passTides 5 = .ok (.iload_n 1, 1) := by decide +kernel
theorem dX7_passTides_6 : decode cX7_passTides 6 = .ok (.if_icmp .ge 135, 3) := by decide +kernel
theorem dX7_passTides_9 : decode cX7_passTides 9 = .ok (.aload_n 0, 1) := by decide +kernel
theorem dX7_passTides_10 : decode cX7_passTides 10 = .ok (.aload_n 0, 1) := by decide +kernel
theorem dX7_passTides_11 : decode cX7_passTides 11 = .ok (.invokevirtual 133, 3) := by decide +kernel
theorem dX7_passTides_14 : decode cX7_passTides 14 = .ok (.putfield 9, 3) := by decide +kernel
theorem dX7_passTides_17 : decode cX7_passTides 17 = .ok (.aload_n 0, 1) := by decide +kernel
theorem dX7_passTides_18 : decode cX7_passTides 18 = .ok (.invokevirtual 136, 3) := by decide +kernel
theorem dX7_passTides_21 : decode cX7_passTides 21 = .ok (.iconst 0, 1) := by decide +kernel
theorem dX7_passTides_22 : decode cX7_passTides 22 = .ok (.istore 4, 2) := by decide +kernel
theorem dX7_passTides_24 : decode cX7_passTides 24 = .ok (.iload 4, 2) := by decide +kernel
theorem dX7_passTides_26 : decode cX7_passTides 26 = .ok (.aload_n 0, 1) := by decide +kernel
theorem dX7_passTides_27 : decode cX7_passTides 27 = .ok (.getfield 75, 3) := by decide +kernel
theorem dX7_passTides_30 : decode cX7_passTides 30 = .ok (.if_icmp .ge 31, 3) := by decide +kernel
theorem dX7_passTides_33 : decode cX7_passTides 33 = .ok (.aload_n 0, 1) := by decide +kernel
theorem dX7_passTides_34 : decode cX7_passTides 34 = .ok (.aload_n 0, 1) := by decide +kernel
theorem dX7_passTides_35 : decode cX7_passTides 35 = .ok (.getfield 46, 3) := by decide +kernel
theorem dX7_passTides_38 : decode cX7_passTides 38 = .ok (.iload 4, 2) := by decide +kernel
theorem dX7_passTides_40 : decode cX7_passTides 40 = .ok (.iaload, 1) := by decide +kernel
theorem dX7_passTides_41 : decode cX7_passTides 41 = .ok (.aload_n 0, 1) := by decide +kernel
theorem dX7_passTides_42 : decode cX7_passTides 42 = .ok (.aload_n 0, 1) := by decide +kernel
theorem dX7_passTides_43 : decode cX7_passTides 43 = .ok (.getfield 46, 3) := by decide +kernel
theorem dX7_passTides_46 : decode cX7_passTides 46 = .ok (.iload 4, 2) := by decide +kernel
theorem dX7_passTides_48 : decode cX7_passTides 48 = .ok (.iaload, 1) := by decide +kernel
theorem dX7_passTides_49 : decode cX7_passTides 49 = .ok (.invokevirtual 139, 3) := by decide +kernel
theorem dX7_passTides_52 : decode cX7_passTides 52 = .ok (.invokevirtual 143, 3) := by decide +kernel
theorem dX7_passTides_55 : decode cX7_passTides 55 = .ok (.iinc 4 1, 3) := by decide +kernel
theorem dX7_passTides_58 : decode cX7_passTides 58 = .ok (.goto (-34), 3) := by decide +kernel
theorem dX7_passTides_61 : decode cX7_passTides 61 = .ok (.iconst 0, 1) := by decide +kernel
theorem dX7_passTides_62 : decode cX7_passTides 62 = .ok (.istore 4, 2) := by decide +kernel
theorem dX7_passTides_64 : decode cX7_passTides 64 = .ok (.iload 4, 2) := by decide +kernel
theorem dX7_passTides_66 : decode cX7_passTides 66 = .ok (.aload_n 0, 1) := by decide +kernel
theorem dX7_passTides_67 : decode cX7_passTides 67 = .ok (.getfield 81, 3) := by decide +kernel
theorem dX7_passTides_70 : decode cX7_passTides 70 = .ok (.if_icmp .ge 20, 3) := by decide +kernel
theorem dX7_passTides_73 : decode cX7_passTides 73 = .ok (.aload_n 0, 1) := by decide +kernel
theorem dX7_passTides_74 : decode cX7_passTides 74 = .ok (.aload_n 0, 1) := by decide +kernel
theorem dX7_passTides_75 : decode cX7_passTides 75 = .ok (.getfield 35, 3) := by decide +kernel
theorem dX7_passTides_78 : decode cX7_passTides 78 = .ok (.iload 4, 2) := by decide +kernel
theorem dX7_passTides_80 : decode cX7_passTides 80 = .ok (.aaload, 1) := by decide +kernel
theorem dX7_passTides_81 : decode cX7_passTides 81 = .ok (.invokevirtual 147, 3) := by decide +kernel
theorem dX7_passTides_84 : decode cX7_passTides 84 = .ok (.iinc 4 1, 3) := by decide +kernel
theorem dX7_passTides_87 : decode cX7_passTides 87 = .ok (.goto (-23), 3) := by decide +kernel
theorem dX7_passTides_90 : decode cX7_passTides 90 = .ok (.iload_n 2, 1) := by decide +kernel
theorem dX7_passTides_91 : decode cX7_passTides 91 = .ok (.aload_n 0, 1) := by decide +kernel
theorem dX7_passTides_92 : decode cX7_passTides 92 = .ok (.invokevirtual 150, 3) := by decide +kernel
theorem dX7_passTides_95 : decode cX7_passTides 95 = .ok (.iadd, 1) := by decide +kernel
theorem dX7_passTides_96 : decode cX7_passTides 96 = .ok (.istore_n 2, 1) := by decide +kernel
theorem dX7_passTides_97 : decode cX7_passTides 97 = .ok (.iconst 0, 1) := by decide +kernel
theorem dX7_passTides_98 : decode cX7_passTides 98 = .ok (.istore 4, 2) := by decide +kernel
theorem dX7_passTides_100 : decode cX7_passTides 100 = .ok (.iload 4, 2) := by decide +kernel
theorem dX7_passTides_102 : decode cX7_passTides 102 = .ok (.aload_n 0, 1) := by decide +kernel
theorem dX7_passTides_103 : decode cX7_passTides 103 = .ok (.getfield 72, 3) := by decide +kernel
theorem dX7_passTides_106 : decode cX7_passTides 106 = .ok (.if_icmp .ge 19, 3) := by decide +kernel
theorem dX7_passTides_109 : decode cX7_passTides 109 = .ok (.aload_n 0, 1) := by decide +kernel
theorem dX7_passTides_110 : decode cX7_passTides 110 = .ok (.getfield 17, 3) := by decide +kernel
theorem dX7_passTides_113 : decode cX7_passTides 113 = .ok (.iload 4, 2) := by decide +kernel
theorem dX7_passTides_115 : decode cX7_passTides 115 = .ok (.aaload, 1) := by decide +kernel
theorem dX7_passTides_116 : decode cX7_passTides 116 = .ok (.invokevirtual 153, 3) := by decide +kernel
theorem dX7_passTides_119 : decode cX7_passTides 119 = .ok (.iinc 4 1, 3) := by decide +kernel
theorem dX7_passTides_122 : decode cX7_passTides 122 = .ok (.goto (-22), 3) := by decide +kernel
theorem dX7_passTides_125 : decode cX7_passTides 125 = .ok (.aload_n 0, 1) := by decide +kernel
theorem dX7_passTides_126 : decode cX7_passTides 126 = .ok (.dup, 1) := by decide +kernel
theorem dX7_passTides_127 : decode cX7_passTides 127 = .ok (.getfield 103, 3) := by decide +kernel
theorem dX7_passTides_130 : decode cX7_passTides 130 = .ok (.iconst 1, 1) := by decide +kernel
theorem dX7_passTides_131 : decode cX7_passTides 131 = .ok (.iadd, 1) := by decide +kernel
theorem dX7_passTides_132 : decode cX7_passTides 132 = .ok (.putfield 103, 3) := by decide +kernel
theorem dX7_passTides_135 : decode cX7_passTides 135 = .ok (.iinc 3 1, 3) := by decide +kernel
theorem dX7_passTides_138 : decode cX7_passTides 138 = .ok (.goto (-134), 3) := by decide +kernel
theorem dX7_passTides_141 : decode cX7_passTides 141 = .ok (.iload_n 2, 1) := by decide +kernel
theorem dX7_passTides_142 : decode cX7_passTides 142 = .ok (.ireturn, 1) := by decide +kernel
theorem dX7_callBoatsHome_0 : decode cX7_callBoatsHome 0 = .ok (.iconst 0, 1) := by decide +kernel
theorem dX7_callBoatsHome_1 : decode cX7_callBoatsHome 1 = .ok (.istore_n 1, 1) := by decide +kernel
theorem dX7_callBoatsHome_2 : decode cX7_callBoatsHome 2 = .ok (.iload_n 1, 1) := by decide +kernel
theorem dX7_callBoatsHome_3 : decode cX7_callBoatsHome 3 = .ok (.aload_n 0, 1) := by decide +kernel
theorem dX7_callBoatsHome_4 : decode cX7_callBoatsHome 4 = .ok (.getfield 72, 3) := by decide +kernel
theorem dX7_callBoatsHome_7 : decode cX7_callBoatsHome 7 = .ok (.if_icmp .ge 19, 3) := by decide +kernel
theorem dX7_callBoatsHome_10 : decode cX7_callBoatsHome 10 = .ok (.aload_n 0, 1) := by decide +kernel
theorem dX7_callBoatsHome_11 : decode cX7_callBoatsHome 11 = .ok (.getfield 17, 3) := by decide +kernel
theorem dX7_callBoatsHome_14 : decode cX7_callBoatsHome 14 = .ok (.iload_n 1, 1) := by decide +kernel
theorem dX7_callBoatsHome_15 : decode cX7_callBoatsHome 15 = .ok (.aaload, 1) := by decide +kernel
theorem dX7_callBoatsHome_16 : decode cX7_callBoatsHome 16 = .ok (.iconst 0, 1) := by decide +kernel
theorem dX7_callBoatsHome_17 : decode cX7_callBoatsHome 17 = .ok (.putfield 156, 3) := by decide +kernel
theorem dX7_callBoatsHome_20 : decode cX7_callBoatsHome 20 = .ok (.iinc 1 1, 3) := by decide +kernel
theorem dX7_callBoatsHome_23 : decode cX7_callBoatsHome 23 = .ok (.goto (-21), 3) := by decide +kernel
theorem dX7_callBoatsHome_26 : decode cX7_callBoatsHome 26 = .ok (.return_, 1) := by decide +kernel
theorem dX7_firstGo_0 : decode cX7_firstGo 0 = .ok (.iconst 0, 1) := by decide +kernel
theorem dX7_firstGo_1 : decode cX7_firstGo 1 = .ok (.istore_n 2, 1) := by decide +kernel
theorem dX7_firstGo_2 : decode cX7_firstGo 2 = .ok (.iload_n 2, 1) := by decide +kernel
theorem dX7_firstGo_3 : decode cX7_firstGo 3 = .ok (.aload_n 0, 1) := by decide +kernel
theorem dX7_firstGo_4 : decode cX7_firstGo 4 = .ok (.getfield 78, 3) := by decide +kernel
theorem dX7_firstGo_7 : decode cX7_firstGo 7 = .ok (.if_icmp .ge 113, 3) := by decide +kernel
theorem dX7_firstGo_10 : decode cX7_firstGo 10 = .ok (.aload_n 0, 1) := by decide +kernel
theorem dX7_firstGo_11 : decode cX7_firstGo 11 = .ok (.getfield 29, 3) := by decide +kernel
theorem dX7_firstGo_14 : decode cX7_firstGo 14 = .ok (.iload_n 2, 1) := by decide +kernel
theorem dX7_firstGo_15 : decode cX7_firstGo 15 = .ok (.aaload, 1) := by decide +kernel
theorem dX7_firstGo_16 : decode cX7_firstGo 16 = .ok (.astore_n 3, 1) := by decide +kernel
theorem dX7_firstGo_17 : decode cX7_firstGo 17 = .ok (.aload_n 3, 1) := by decide +kernel
theorem dX7_firstGo_18 : decode cX7_firstGo 18 = .ok (.getfield 159, 3) := by decide +kernel
theorem dX7_firstGo_21 : decode cX7_firstGo 21 = .ok (.iload_n 1, 1) := by decide +kernel
theorem dX7_firstGo_22 : decode cX7_firstGo 22 = .ok (.if_icmp .ne 92, 3) := by decide +kernel
theorem dX7_firstGo_25 : decode cX7_firstGo 25 = .ok (.aload_n 0, 1) := by decide +kernel
theorem dX7_firstGo_26 : decode cX7_firstGo 26 = .ok (.getfield 17, 3) := by decide +kernel
theorem dX7_firstGo_29 : decode cX7_firstGo 29 = .ok (.aload_n 3, 1) := by decide +kernel
theorem dX7_firstGo_30 : decode cX7_firstGo 30 = .ok (.getfield 162, 3) := by decide +kernel
theorem dX7_firstGo_33 : decode cX7_firstGo 33 = .ok (.aaload, 1) := by decide +kernel
theorem dX7_firstGo_34 : decode cX7_firstGo 34 = .ok (.getfield 156, 3) := by decide +kernel
theorem dX7_firstGo_37 : decode cX7_firstGo 37 = .ok (.aload_n 0, 1) := by decide +kernel
theorem dX7_firstGo_38 : decode cX7_firstGo 38 = .ok (.getfield 17, 3) := by decide +kernel
theorem dX7_firstGo_41 : decode cX7_firstGo 41 = .ok (.aload_n 3, 1) := by decide +kernel
theorem dX7_firstGo_42 : decode cX7_firstGo 42 = .ok (.getfield 162, 3) := by decide +kernel
theorem dX7_firstGo_45 : decode cX7_firstGo 45 = .ok (.aaload, 1) := by decide +kernel
theorem dX7_firstGo_46 : decode cX7_firstGo 46 = .ok (.getfield 165, 3) := by decide +kernel
theorem dX7_firstGo_49 : decode cX7_firstGo 49 = .ok (.if_icmp .lt 6, 3) := by decide +kernel
theorem dX7_firstGo_52 : decode cX7_firstGo 52 = .ok (.goto 62, 3) := by decide +kernel
theorem dX7_firstGo_55 : decode cX7_firstGo 55 = .ok (.aload_n 3, 1) := by decide +kernel
theorem dX7_firstGo_56 : decode cX7_firstGo 56 = .ok (.getfield 168, 3) := by decide +kernel
theorem dX7_firstGo_59 : decode cX7_firstGo 59 = .ok (.aload_n 3, 1) := by decide +kernel
theorem dX7_firstGo_60 : decode cX7_firstGo 60 = .ok (.getfield 171, 3) := by decide +kernel
theorem dX7_firstGo_63 : decode cX7_firstGo 63 = .ok (.if_icmp .eq 22, 3) := by decide +kernel
theorem dX7_firstGo_66 : decode cX7_firstGo 66 = .ok (.aload_n 0, 1) := by decide +kernel
theorem dX7_firstGo_67 : decode cX7_firstGo 67 = .ok (.getfield 42, 3) := by decide +kernel
theorem dX7_firstGo_70 : decode cX7_firstGo 70 = .ok (.aload_n 3, 1) := by decide +kernel
theorem dX7_firstGo_71 : decode cX7_firstGo 71 = .ok (.getfield 168, 3) := by decide +kernel
theorem dX7_firstGo_74 : decode cX7_firstGo 74 = .ok (.aload_n 3, 1) := by decide +kernel
theorem dX7_firstGo_75 : decode cX7_firstGo 75 = .ok (.getfield 171, 3) := by decide +kernel
theorem dX7_firstGo_78 : decode cX7_firstGo 78 = .ok (.aload_n 0, 1) := by decide +kernel
theorem dX7_firstGo_79 : decode cX7_firstGo 79 = .ok (.invokevirtual 174, 3) := by decide +kernel
theorem dX7_firstGo_82 : decode cX7_firstGo 82 = .ok (.ifCond .eq 7, 3) := by decide +kernel
theorem dX7_firstGo_85 : decode cX7_firstGo 85 = .ok (.iconst 1, 1) := by decide +kernel
theorem dX7_firstGo_86 : decode cX7_firstGo 86 = .ok (.goto 4, 3) := by decide +kernel
theorem dX7_firstGo_89 : decode cX7_firstGo 89 = .ok (.iconst 0, 1) := by decide +kernel
theorem dX7_firstGo_90 : decode cX7_firstGo 90 = .ok (.istore 4, 2) := by decide +kernel
theorem dX7_firstGo_92 : decode cX7_firstGo 92 = .ok (.iload 4, 2) := by decide +kernel
theorem dX7_firstGo_94 : decode cX7_firstGo 94 = .ok (.ifCond .eq 20, 3) := by decide +kernel
theorem dX7_firstGo_97 : decode cX7_firstGo 97 = .ok (.aload_n 0, 1) := by decide +kernel
theorem dX7_firstGo_98 : decode cX7_firstGo 98 = .ok (.aload_n 3, 1) := by decide +kernel
theorem dX7_firstGo_99 : decode cX7_firstGo 99 = .ok (.getfield 162, 3) := by decide +kernel
theorem dX7_firstGo_102 : decode cX7_firstGo 102 = .ok (.iload_n 1, 1) := by decide +kernel
theorem dX7_firstGo_103 : decode cX7_firstGo 103 = .ok (.invokevirtual 178, 3) := by decide +kernel
theorem dX7_firstGo_106 : decode cX7_firstGo 106 = .ok (.ifCond .ne 8, 3) := by decide +kernel
theorem dX7_firstGo_109 : decode cX7_firstGo 109 = .ok (.aload_n 3, 1) := by decide +kernel
theorem dX7_firstGo_110 : decode cX7_firstGo 110 = .ok (.getfield 162, 3) := by decide +kernel
theorem dX7_firstGo_113 : decode cX7_firstGo 113 = .ok (.ireturn, 1) := by decide +kernel
theorem dX7_firstGo_114 : decode cX7_firstGo 114 = .ok (.iinc 2 1, 3) := by decide +kernel
theorem dX7_firstGo_117 : decode cX7_firstGo 117 = .ok (.goto (-115), 3) := by decide +kernel
theorem dX7_firstGo_120 : decode cX7_firstGo 120 = .ok (.iconst (-1), 1) := by decide +kernel
theorem dX7_firstGo_121 : decode cX7_firstGo 121 = .ok (.ireturn, 1) := by decide +kernel
theorem dX7_isSpared_0 : decode cX7_isSpared 0 = .ok (.aload_n 0, 1) := by decide +kernel
theorem dX7_isSpared_1 : decode cX7_isSpared 1 = .ok (.getfield 23, 3) := by decide +kernel
theorem dX7_isSpared_4 : decode cX7_isSpared 4 = .ok (.iload_n 2, 1) := by decide +kernel
theorem dX7_isSpared_5 : decode cX7_isSpared 5 = .ok (.aaload, 1) := by decide +kernel
theorem dX7_isSpared_6 : decode cX7_isSpared 6 = .ok (.getfield 125, 3) := by decide +kernel
theorem dX7_isSpared_9 : decode cX7_isSpared 9 = .ok (.ifCond .eq 5, 3) := by decide +kernel
theorem dX7_isSpared_12 : decode cX7_isSpared 12 = .ok (.iconst 0, 1) := by decide +kernel
theorem dX7_isSpared_13 : decode cX7_isSpared 13 = .ok (.ireturn, 1) := by decide +kernel
theorem dX7_isSpared_14 : decode cX7_isSpared 14 = .ok (.iconst 0, 1) := by decide +kernel
theorem dX7_isSpared_15 : decode cX7_isSpared 15 = .ok (.istore_n 3, 1) := by decide +kernel
theorem dX7_isSpared_16 : decode cX7_isSpared 16 = .ok (.iload_n 3, 1) := by decide +kernel
theorem dX7_isSpared_17 : decode cX7_isSpared 17 = .ok (.aload_n 0, 1) := by decide +kernel
theorem dX7_isSpared_18 : decode cX7_isSpared 18 = .ok (.getfield 81, 3) := by decide +kernel
theorem dX7_isSpared_21 : decode cX7_isSpared 21 = .ok (.if_icmp .ge 67, 3) := by decide +kernel
theorem dX7_isSpared_24 : decode cX7_isSpared 24 = .ok (.aload_n 0, 1) := by decide +kernel
theorem dX7_isSpared_25 : decode cX7_isSpared 25 = .ok (.getfield 35, 3) := by decide +kernel
theorem dX7_isSpared_28 : decode cX7_isSpared 28 = .ok (.iload_n 3, 1) := by decide +kernel
theorem dX7_isSpared_29 : decode cX7_isSpared 29 = .ok (.aaload, 1) := by decide +kernel
theorem dX7_isSpared_30 : decode cX7_isSpared 30 = .ok (.astore 4, 2) := by decide +kernel
theorem dX7_isSpared_32 : decode cX7_isSpared 32 = .ok (.aload 4, 2) := by decide +kernel
theorem dX7_isSpared_34 : decode cX7_isSpared 34 = .ok (.getfield 182, 3) := by decide +kernel
theorem dX7_isSpared_37 : decode cX7_isSpared 37 = .ok (.iload_n 1, 1) := by decide +kernel
theorem dX7_isSpared_38 : decode cX7_isSpared 38 = .ok (.if_icmp .ne 44, 3) := by decide +kernel
theorem dX7_isSpared_41 : decode cX7_isSpared 41 = .ok (.aload 4, 2) := by decide +kernel
theorem dX7_isSpared_43 : decode cX7_isSpared 43 = .ok (.iload_n 2, 1) := by decide +kernel
theorem dX7_isSpared_44 : decode cX7_isSpared 44 = .ok (.invokevirtual 183, 3) := by decide +kernel
theorem dX7_isSpared_47 : decode cX7_isSpared 47 = .ok (.ifCond .eq 35, 3) := by decide +kernel
theorem dX7_isSpared_50 : decode cX7_isSpared 50 = .ok (.aload_n 0, 1) := by decide +kernel
theorem dX7_isSpared_51 : decode cX7_isSpared 51 = .ok (.getfield 17, 3) := by decide +kernel
theorem dX7_isSpared_54 : decode cX7_isSpared 54 = .ok (.iload_n 1, 1) := by decide +kernel
theorem dX7_isSpared_55 : decode cX7_isSpared 55 = .ok (.aaload, 1) := by decide +kernel
theorem dX7_isSpared_56 : decode cX7_isSpared 56 = .ok (.invokevirtual 112, 3) := by decide +kernel
theorem dX7_isSpared_59 : decode cX7_isSpared 59 = .ok (.aload_n 0, 1) := by decide +kernel
theorem dX7_isSpared_60 : decode cX7_isSpared 60 = .ok (.getfield 42, 3) := by decide +kernel
theorem dX7_isSpared_63 : decode cX7_isSpared 63 = .ok (.aload 4, 2) := by decide +kernel
theorem dX7_isSpared_65 : decode cX7_isSpared 65 = .ok (.getfield 187, 3) := by decide +kernel
theorem dX7_isSpared_68 : decode cX7_isSpared 68 = .ok (.aload 4, 2) := by decide +kernel
theorem dX7_isSpared_70 : decode cX7_isSpared 70 = .ok (.getfield 190, 3) := by decide +kernel
theorem dX7_isSpared_73 : decode cX7_isSpared 73 = .ok (.aload_n 0, 1) := by decide +kernel
theorem dX7_isSpared_74 : decode cX7_isSpared 74 = .ok (.invokevirtual 174, 3) := by decide +kernel
theorem dX7_isSpared_77 : decode cX7_isSpared 77 = .ok (.if_icmp .ge 5, 3) := by decide +kernel
theorem dX7_isSpared_80 : decode cX7_isSpared 80 = .ok (.iconst 1, 1) := by decide +kernel
theorem dX7_isSpared_81 : decode cX7_isSpared 81 = .ok (.ireturn, 1) := by decide +kernel
theorem dX7_isSpared_82 : decode cX7_isSpared 82 = .ok (.iinc 3 1, 3) := by decide +kernel
theorem dX7_isSpared_85 : decode cX7_isSpared 85 = .ok (.goto (-69), 3) := by decide +kernel
theorem dX7_isSpared_88 : decode cX7_isSpared 88 = .ok (.iconst 0, 1) := by decide +kernel
theorem dX7_isSpared_89 : decode cX7_isSpared 89 = .ok (.ireturn, 1) := by decide +kernel
theorem dX7_sail_0 : decode cX7_sail 0 = .ok (.aload_n 0, 1) := by decide +kernel
theorem dX7_sail_1 : decode cX7_sail 1 = .ok (.getfield 23, 3) := by decide +kernel
theorem dX7_sail_4 : decode cX7_sail 4 = .ok (.iload_n 1, 1) := by decide +kernel
theorem dX7_sail_5 : decode cX7_sail 5 = .ok (.aaload, 1) := by decide +kernel
theorem dX7_sail_6 : decode cX7_sail 6 = .ok (.astore_n 3, 1) := by decide +kernel
theorem dX7_sail_7 : decode cX7_sail 7 = .ok (.aload_n 3, 1) := by decide +kernel
theorem dX7_sail_8 : decode cX7_sail 8 = .ok (.iload_n 2, 1) := by decide +kernel
theorem dX7_sail_9 : decode cX7_sail 9 = .ok (.putfield 193, 3) := by decide +kernel
theorem dX7_sail_12 : decode cX7_sail 12 = .ok (.aload_n 3, 1) := by decide +kernel
theorem dX7_sail_13 : decode cX7_sail 13 = .ok (.iconst 0, 1) := by decide +kernel
theorem dX7_sail_14 : decode cX7_sail 14 = .ok (.putfield 196, 3) := by decide +kernel
theorem dX7_sail_17 : decode cX7_sail 17 = .ok (.iload_n 2, 1) := by decide +kernel
theorem dX7_sail_18 : decode cX7_sail 18 = .ok (.ifCond .lt 49, 3) := by decide +kernel
theorem dX7_sail_21 : decode cX7_sail 21 = .ok (.aload_n 0, 1) := by decide +kernel
theorem dX7_sail_22 : decode cX7_sail 22 = .ok (.getfield 17, 3) := by decide +kernel
theorem dX7_sail_25 : decode cX7_sail 25 = .ok (.iload_n 2, 1) := by decide +kernel
theorem dX7_sail_26 : decode cX7_sail 26 = .ok (.aaload, 1) := by decide +kernel
theorem dX7_sail_27 : decode cX7_sail 27 = .ok (.astore 4, 2) := by decide +kernel
theorem dX7_sail_29 : decode cX7_sail 29 = .ok (.aload 4, 2) := by decide +kernel
theorem dX7_sail_31 : decode cX7_sail 31 = .ok (.dup, 1) := by decide +kernel
theorem dX7_sail_32 : decode cX7_sail 32 = .ok (.getfield 156, 3) := by decide +kernel
theorem dX7_sail_35 : decode cX7_sail 35 = .ok (.iconst 1, 1) := by decide +kernel
theorem dX7_sail_36 : decode cX7_sail 36 = .ok (.iadd, 1) := by decide +kernel
theorem dX7_sail_37 : decode cX7_sail 37 = .ok (.putfield 156, 3) := by decide +kernel
theorem dX7_sail_40 : decode cX7_sail 40 = .ok (.aload_n 0, 1) := by decide +kernel
theorem dX7_sail_41 : decode cX7_sail 41 = .ok (.aload 4, 2) := by decide +kernel
theorem dX7_sail_43 : decode cX7_sail 43 = .ok (.aload_n 3, 1) := by decide +kernel
theorem dX7_sail_44 : decode cX7_sail 44 = .ok (.invokevirtual 199, 3) := by decide +kernel
theorem dX7_sail_47 : decode cX7_sail 47 = .ok (.aload_n 0, 1) := by decide +kernel
theorem dX7_sail_48 : decode cX7_sail 48 = .ok (.aload 4, 2) := by decide +kernel
theorem dX7_sail_50 : decode cX7_sail 50 = .ok (.aload_n 3, 1) := by decide +kernel
theorem dX7_sail_51 : decode cX7_sail 51 = .ok (.invokevirtual 203, 3) := by decide +kernel
theorem dX7_sail_54 : decode cX7_sail 54 = .ok (.istore 5, 2) := by decide +kernel
theorem dX7_sail_56 : decode cX7_sail 56 = .ok (.aload_n 3, 1) := by decide +kernel
theorem dX7_sail_57 : decode cX7_sail 57 = .ok (.getfield 207, 3) := by decide +kernel
theorem dX7_sail_60 : decode cX7_sail 60 = .ok (.iload_n 2, 1) := by decide +kernel
theorem dX7_sail_61 : decode cX7_sail 61 = .ok (.dup2, 1) := by decide +kernel
theorem dX7_sail_62 : decode cX7_sail 62 = .ok (.iaload, 1) := by decide +kernel
theorem dX7_sail_63 : decode cX7_sail 63 = .ok (.iload 5, 2) := by decide +kernel
theorem dX7_sail_65 : decode cX7_sail 65 = .ok (.iadd, 1) := by decide +kernel
theorem dX7_sail_66 : decode cX7_sail 66 = .ok (.iastore, 1) := by decide +kernel
theorem dX7_sail_67 : decode cX7_sail 67 = .ok (.return_, 1) := by decide +kernel
theorem dX7_haulFrom_0 : decode cX7_haulFrom 0 = .ok (.aload_n 2, 1) := by decide +kernel
theorem dX7_haulFrom_1 : decode cX7_haulFrom 1 = .ok (.getfield 119, 3) := by decide +kernel
theorem dX7_haulFrom_4 : decode cX7_haulFrom 4 = .ok (.istore_n 3, 1) := by decide +kernel
theorem dX7_haulFrom_5 : decode cX7_haulFrom 5 = .ok (.iconst 0, 1) := by decide +kernel
theorem dX7_haulFrom_6 : decode cX7_haulFrom 6 = .ok (.istore 4, 2) := by decide +kernel
theorem dX7_haulFrom_8 : decode cX7_haulFrom 8 = .ok (.iconst 0, 1) := by decide +kernel
theorem dX7_haulFrom_9 : decode cX7_haulFrom 9 = .ok (.istore 5, 2) := by decide +kernel
theorem dX7_haulFrom_11 : decode cX7_haulFrom 11 = .ok (.iconst 0, 1) := by decide +kernel
theorem dX7_haulFrom_12 : decode cX7_haulFrom 12 = .ok (.istore 6, 2) := by decide +kernel
theorem dX7_haulFrom_14 : decode cX7_haulFrom 14 = .ok (.iconst 5, 1) := by decide +kernel
theorem dX7_haulFrom_15 : decode cX7_haulFrom 15 = .ok (.istore 7, 2) := by decide +kernel
theorem dX7_haulFrom_17 : decode cX7_haulFrom 17 = .ok (.iload 7, 2) := by decide +kernel
theorem dX7_haulFrom_19 : decode cX7_haulFrom 19 = .ok (.iconst 1, 1) := by decide +kernel
theorem dX7_haulFrom_20 : decode cX7_haulFrom 20 = .ok (.if_icmp .lt 119, 3) := by decide +kernel
theorem dX7_haulFrom_23 : decode cX7_haulFrom 23 = .ok (.aload_n 0, 1) := by decide +kernel
theorem dX7_haulFrom_24 : decode cX7_haulFrom 24 = .ok (.getfield 53, 3) := by decide +kernel
theorem dX7_haulFrom_27 : decode cX7_haulFrom 27 = .ok (.iload 7, 2) := by decide +kernel
theorem dX7_haulFrom_29 : decode cX7_haulFrom 29 = .ok (.iconst 0, 1) := by decide +kernel
theorem dX7_haulFrom_30 : decode cX7_haulFrom 30 = .ok (.iastore, 1) := by decide +kernel
theorem dX7_haulFrom_31 : decode cX7_haulFrom 31 = .ok (.iload 7, 2) := by decide +kernel
theorem dX7_haulFrom_33 : decode cX7_haulFrom 33 = .ok (.iload_n 3, 1) := by decide +kernel
theorem dX7_haulFrom_34 : decode cX7_haulFrom 34 = .ok (.if_icmp .lt 99, 3) := by decide +kernel
theorem dX7_haulFrom_37 : decode cX7_haulFrom 37 = .ok (.iload 6, 2) := by decide +kernel
theorem dX7_haulFrom_39 : decode cX7_haulFrom 39 = .ok (.ifCond .ne 94, 3) := by decide +kernel
theorem dX7_haulFrom_42 : decode cX7_haulFrom 42 = .ok (.aload_n 1, 1) := by decide +kernel
theorem dX7_haulFrom_43 : decode cX7_haulFrom 43 = .ok (.getfield 210, 3) := by decide +kernel
theorem dX7_haulFrom_46 : decode cX7_haulFrom 46 = .ok (.iload 7, 2) := by decide +kernel
theorem dX7_haulFrom_48 : decode cX7_haulFrom 48 = .ok (.iaload, 1) := by decide +kernel
theorem dX7_haulFrom_49 : decode cX7_haulFrom 49 = .ok (.aload_n 2, 1) := by decide +kernel
theorem dX7_haulFrom_50 : decode cX7_haulFrom 50 = .ok (.getfield 213, 3) := by decide +kernel
theorem dX7_haulFrom_53 : decode cX7_haulFrom 53 = .ok (.iload 4, 2) := by decide +kernel
theorem dX7_haulFrom_55 : decode cX7_haulFrom 55 = .ok (.isub, 1) := by decide +kernel
theorem dX7_haulFrom_56 : decode cX7_haulFrom 56 = .ok (.invokestatic 87, 3) := by decide +kernel
theorem dX7_haulFrom_59 : decode cX7_haulFrom 59 = .ok (.istore 8, 2) := by decide +kernel
theorem dX7_haulFrom_61 : decode cX7_haulFrom 61 = .ok (.aload_n 2, 1) := by decide +kernel
theorem dX7_haulFrom_62 : decode cX7_haulFrom 62 = .ok (.getfield 216, 3) := by decide +kernel
theorem dX7_haulFrom_65 : decode cX7_haulFrom 65 = .ok (.iload 5, 2) := by decide +kernel
theorem dX7_haulFrom_67 : decode cX7_haulFrom 67 = .ok (.isub, 1) := by decide +kernel
theorem dX7_haulFrom_68 : decode cX7_haulFrom 68 = .ok (.iload 7, 2) := by decide +kernel
theorem dX7_haulFrom_70 : decode cX7_haulFrom 70 = .ok (.idiv, 1) := by decide +kernel
theorem dX7_haulFrom_71 : decode cX7_haulFrom 71 = .ok (.istore 9, 2) := by decide +kernel
theorem dX7_haulFrom_73 : decode cX7_haulFrom 73 = .ok (.iload 8, 2) := by decide +kernel
theorem dX7_haulFrom_75 : decode cX7_haulFrom 75 = .ok (.iload 9, 2) := by decide +kernel
theorem dX7_haulFrom_77 : decode cX7_haulFrom 77 = .ok (.if_icmp .le 7, 3) := by decide +kernel
theorem dX7_haulFrom_80 : decode cX7_haulFrom 80 = .ok (.iconst 1, 1) := by decide +kernel
theorem dX7_haulFrom_81 : decode cX7_haulFrom 81 = .ok (.goto 4, 3) := by decide +kernel
theorem dX7_haulFrom_84 : decode cX7_haulFrom 84 = .ok (.iconst 0, 1) := by decide +kernel
theorem dX7_haulFrom_85 : decode cX7_haulFrom 85 = .ok (.istore 6, 2) := by decide +kernel
theorem dX7_haulFrom_87 : decode cX7_haulFrom 87 = .ok (.aload_n 0, 1) := by decide +kernel
theorem dX7_haulFrom_88 : decode cX7_haulFrom 88 = .ok (.getfield 53, 3) := by decide +kernel
theorem dX7_haulFrom_91 : decode cX7_haulFrom 91 = .ok (.iload 7, 2) := by decide +kernel
theorem dX7_haulFrom_93 : decode cX7_haulFrom 93 = .ok (.iload 6, 2) := by decide +kernel
theorem dX7_haulFrom_95 : decode cX7_haulFrom 95 = .ok (.ifCond .eq 8, 3) := by decide +kernel
theorem dX7_haulFrom_98 : decode cX7_haulFrom 98 = .ok (.iload 9, 2) := by decide +kernel
theorem dX7_haulFrom_100 : decode cX7_haulFrom 100 = .ok (.goto 5, 3) := by decide +kernel
theorem dX7_haulFrom_103 : decode cX7_haulFrom 103 = .ok (.iload 8, 2) := by decide +kernel
theorem dX7_haulFrom_105 : decode cX7_haulFrom 105 = .ok (.iastore, 1) := by decide +kernel
theorem dX7_haulFrom_106 : decode cX7_haulFrom 106 = .ok (.iload 4, 2) := by decide +kernel
theorem dX7_haulFrom_108 : decode cX7_haulFrom 108 = .ok (.aload_n 0, 1) := by decide +kernel
theorem dX7_haulFrom_109 : decode cX7_haulFrom 109 = .ok (.getfield 53, 3) := by decide +kernel
theorem dX7_haulFrom_112 : decode cX7_haulFrom 112 = .ok (.iload 7, 2) := by decide +kernel
theorem dX7_haulFrom_114 : decode cX7_haulFrom 114 = .ok (.iaload, 1) := by decide +kernel
theorem dX7_haulFrom_115 : decode cX7_haulFrom 115 = .ok (.iadd, 1) := by decide +kernel
theorem dX7_haulFrom_116 : decode cX7_haulFrom 116 = .ok (.istore 4, 2) := by decide +kernel
theorem dX7_haulFrom_118 : decode cX7_haulFrom 118 = .ok (.iload 5, 2) := by decide +kernel
theorem dX7_haulFrom_120 : decode cX7_haulFrom 120 = .ok (.aload_n 0, 1) := by decide +kernel
theorem dX7_haulFrom_121 : decode cX7_haulFrom 121 = .ok (.getfield 53, 3) := by decide +kernel
theorem dX7_haulFrom_124 : decode cX7_haulFrom 124 = .ok (.iload 7, 2) := by decide +kernel
theorem dX7_haulFrom_126 : decode cX7_haulFrom 126 = .ok (.iaload, 1) := by decide +kernel
theorem dX7_haulFrom_127 : decode cX7_haulFrom 127 = .ok (.iload 7, 2) := by decide +kernel
theorem dX7_haulFrom_129 : decode cX7_haulFrom 129 = .ok (.imul, 1) := by decide +kernel
theorem dX7_haulFrom_130 : decode cX7_haulFrom 130 = .ok (.iadd, 1) := by decide +kernel
theorem dX7_haulFrom_131 : decode cX7_haulFrom 131 = .ok (.istore 5, 2) := by decide +kernel
theorem dX7_haulFrom_133 : decode cX7_haulFrom 133 = .ok (.iinc 7 (-1), 3) := by decide +kernel
theorem dX7_haulFrom_136 : decode cX7_haulFrom 136 = .ok (.goto (-119), 3) := by decide +kernel
theorem dX7_haulFrom_139 : decode cX7_haulFrom 139 = .ok (.iload 6, 2) := by decide +kernel
theorem dX7_haulFrom_141 : decode cX7_haulFrom 141 = .ok (.ifCond .eq 7, 3) := by decide +kernel
theorem dX7_haulFrom_144 : decode cX7_haulFrom 144 = .ok (.aload_n 2, 1) := by decide +kernel
theorem dX7_haulFrom_145 : decode cX7_haulFrom 145 = .ok (.invokevirtual 219, 3) := by decide +kernel
theorem dX7_haulFrom_148 : decode cX7_haulFrom 148 = .ok (.return_, 1) := by decide +kernel
theorem dX7_landHaul_0 : decode cX7_landHaul 0 = .ok (.iconst 0, 1) := by decide +kernel
theorem dX7_landHaul_1 : decode cX7_landHaul 1 = .ok (.istore_n 3, 1) := by decide +kernel
theorem dX7_landHaul_2 : decode cX7_landHaul 2 = .ok (.iconst 1, 1) := by decide +kernel
theorem dX7_landHaul_3 : decode cX7_landHaul 3 = .ok (.istore 4, 2) := by decide +kernel
theorem dX7_landHaul_5 : decode cX7_landHaul 5 = .ok (.iload 4, 2) := by decide +kernel
theorem dX7_landHaul_7 : decode cX7_landHaul 7 = .ok (.iconst 5, 1) := by decide +kernel
theorem dX7_landHaul_8 : decode cX7_landHaul 8 = .ok (.if_icmp .gt 64, 3) := by decide +kernel
theorem dX7_landHaul_11 : decode cX7_landHaul 11 = .ok (.iload 4, 2) := by decide +kernel
theorem dX7_landHaul_13 : decode cX7_landHaul 13 = .ok (.aload_n 2, 1) := by decide +kernel
theorem dX7_landHaul_14 : decode cX7_landHaul 14 = .ok (.getfield 119, 3) := by decide +kernel
theorem dX7_landHaul_17 : decode cX7_landHaul 17 = .ok (.if_icmp .lt 49, 3) := by decide +kernel
theorem dX7_landHaul_20 : decode cX7_landHaul 20 = .ok (.iload_n 3, 1) := by decide +kernel
theorem dX7_landHaul_21 : decode cX7_landHaul 21 = .ok (.aload_n 0, 1) := by decide +kernel
theorem dX7_landHaul_22 : decode cX7_landHaul 22 = .ok (.getfield 53, 3) := by decide +kernel
theorem dX7_landHaul_25 : decode cX7_landHaul 25 = .ok (.iload 4, 2) := by decide +kernel
theorem dX7_landHaul_27 : decode cX7_landHaul 27 = .ok (.iaload, 1) := by decide +kernel
theorem dX7_landHaul_28 : decode cX7_landHaul 28 = .ok (.iadd, 1) := by decide +kernel
theorem dX7_landHaul_29 : decode cX7_landHaul 29 = .ok (.istore_n 3, 1) := by decide +kernel
theorem dX7_landHaul_30 : decode cX7_landHaul 30 = .ok (.aload_n 2, 1) := by decide +kernel
theorem dX7_landHaul_31 : decode cX7_landHaul 31 = .ok (.dup, 1) := by decide +kernel
theorem dX7_landHaul_32 : decode cX7_landHaul 32 = .ok (.getfield 196, 3) := by decide +kernel
theorem dX7_landHaul_35 : decode cX7_landHaul 35 = .ok (.aload_n 0, 1) := by decide +kernel
theorem dX7_landHaul_36 : decode cX7_landHaul 36 = .ok (.getfield 53, 3) := by decide +kernel
theorem dX7_landHaul_39 : decode cX7_landHaul 39 = .ok (.iload 4, 2) := by decide +kernel
theorem dX7_landHaul_41 : decode cX7_landHaul 41 = .ok (.iaload, 1) := by decide +kernel
theorem dX7_landHaul_42 : decode cX7_landHaul 42 = .ok (.iload 4, 2) := by decide +kernel
theorem dX7_landHaul_44 : decode cX7_landHaul 44 = .ok (.imul, 1) := by decide +kernel
theorem dX7_landHaul_45 : decode cX7_landHaul 45 = .ok (.iadd, 1) := by decide +kernel
theorem dX7_landHaul_46 : decode cX7_landHaul 46 = .ok (.putfield 196, 3) := by decide +kernel
theorem dX7_landHaul_49 : decode cX7_landHaul 49 = .ok (.aload_n 1, 1) := by decide +kernel
theorem dX7_landHaul_50 : decode cX7_landHaul 50 = .ok (.getfield 210, 3) := by decide +kernel
theorem dX7_landHaul_53 : decode cX7_landHaul 53 = .ok (.iload 4, 2) := by decide +kernel
theorem dX7_landHaul_55 : decode cX7_landHaul 55 = .ok (.dup2, 1) := by decide +kernel
theorem dX7_landHaul_56 : decode cX7_landHaul 56 = .ok (.iaload, 1) := by decide +kernel
theorem dX7_landHaul_57 : decode cX7_landHaul 57 = .ok (.aload_n 0, 1) := by decide +kernel
theorem dX7_landHaul_58 : decode cX7_landHaul 58 = .ok (.getfield 53, 3) := by decide +kernel
theorem dX7_landHaul_61 : decode cX7_landHaul 61 = .ok (.iload 4, 2) := by decide +kernel
theorem dX7_landHaul_63 : decode cX7_landHaul 63 = .ok (.iaload, 1) := by decide +kernel
theorem dX7_landHaul_64 : decode cX7_landHaul 64 = .ok (.isub, 1) := by decide +kernel
theorem dX7_landHaul_65 : decode cX7_landHaul 65 = .ok (.iastore, 1) := by decide +kernel
theorem dX7_landHaul_66 : decode cX7_landHaul 66 = .ok (.iinc 4 1, 3) := by decide +kernel
theorem dX7_landHaul_69 : decode cX7_landHaul 69 = .ok (.goto (-64), 3) := by decide +kernel
theorem dX7_landHaul_72 : decode cX7_landHaul 72 = .ok (.aload_n 2, 1) := by decide +kernel
theorem dX7_landHaul_73 : decode cX7_landHaul 73 = .ok (.dup, 1) := by decide +kernel
theorem dX7_landHaul_74 : decode cX7_landHaul 74 = .ok (.getfield 222, 3) := by decide +kernel
theorem dX7_landHaul_77 : decode cX7_landHaul 77 = .ok (.iload_n 3, 1) := by decide +kernel
theorem dX7_landHaul_78 : decode cX7_landHaul 78 = .ok (.iadd, 1) := by decide +kernel
theorem dX7_landHaul_79 : decode cX7_landHaul 79 = .ok (.putfield 222, 3) := by decide +kernel
theorem dX7_landHaul_82 : decode cX7_landHaul 82 = .ok (.aload_n 1, 1) := by decide +kernel
theorem dX7_landHaul_83 : decode cX7_landHaul 83 = .ok (.dup, 1) := by decide +kernel
theorem dX7_landHaul_84 : decode cX7_landHaul 84 = .ok (.getfield 225, 3) := by decide +kernel
theorem dX7_landHaul_87 : decode cX7_landHaul 87 = .ok (.iload_n 3, 1) := by decide +kernel
theorem dX7_landHaul_88 : decode cX7_landHaul 88 = .ok (.iadd, 1) := by decide +kernel
theorem dX7_landHaul_89 : decode cX7_landHaul 89 = .ok (.putfield 225, 3) := by decide +kernel
theorem dX7_landHaul_92 : decode cX7_landHaul 92 = .ok (.iload_n 3, 1) := by decide +kernel
theorem dX7_landHaul_93 : decode cX7_landHaul 93 = .ok (.ireturn, 1) := by decide +kernel
theorem dX7_split_0 : decode cX7_split 0 = .ok (.aload_n 1, 1) := by decide +kernel
theorem dX7_split_1 : decode cX7_split 1 = .ok (.invokevirtual 226, 3) := by decide +kernel
theorem dX7_split_4 : decode cX7_split 4 = .ok (.ifCond .eq 11, 3) := by decide +kernel
theorem dX7_split_7 : decode cX7_split 7 = .ok (.aload_n 1, 1) := by decide +kernel
theorem dX7_split_8 : decode cX7_split 8 = .ok (.getfield 230, 3) := by decide +kernel
theorem dX7_split_11 : decode cX7_split 11 = .ok (.iconst 1, 1) := by decide +kernel
theorem dX7_split_12 : decode cX7_split 12 = .ok (.if_icmp .ge 4, 3) := by decide +kernel
theorem dX7_split_15 : decode cX7_split 15 = .ok (.return_, 1) := by decide +kernel
theorem dX7_split_16 : decode cX7_split 16 = .ok (.iconst 0, 1) := by decide +kernel
theorem dX7_split_17 : decode cX7_split 17 = .ok (.istore_n 2, 1) := by decide +kernel
theorem dX7_split_18 : decode cX7_split 18 = .ok (.iconst 0, 1) := by decide +kernel
theorem dX7_split_19 : decode cX7_split 19 = .ok (.istore_n 3, 1) := by decide +kernel
theorem dX7_split_20 : decode cX7_split 20 = .ok (.iconst 0, 1) := by decide +kernel
theorem dX7_split_21 : decode cX7_split 21 = .ok (.istore 4, 2) := by decide +kernel
theorem dX7_split_23 : decode cX7_split 23 = .ok (.iload 4, 2) := by decide +kernel
theorem dX7_split_25 : decode cX7_split 25 = .ok (.aload_n 1, 1) := by decide +kernel
theorem dX7_split_26 : decode cX7_split 26 = .ok (.getfield 230, 3) := by decide +kernel
theorem dX7_split_29 : decode cX7_split 29 = .ok (.if_icmp .ge 73, 3) := by decide +kernel
theorem dX7_split_32 : decode cX7_split 32 = .ok (.aload_n 0, 1) := by decide +kernel
theorem dX7_split_33 : decode cX7_split 33 = .ok (.getfield 23, 3) := by decide +kernel
theorem dX7_split_36 : decode cX7_split 36 = .ok (.aload_n 1, 1) := by decide +kernel
theorem dX7_split_37 : decode cX7_split 37 = .ok (.getfield 233, 3) := by decide +kernel
theorem dX7_split_40 : decode cX7_split 40 = .ok (.iload 4, 2) := by decide +kernel
theorem dX7_split_42 : decode cX7_split 42 = .ok (.iaload, 1) := by decide +kernel
theorem dX7_split_43 : decode cX7_split 43 = .ok (.aaload, 1) := by decide +kernel
theorem dX7_split_44 : decode cX7_split 44 = .ok (.astore 5, 2) := by decide +kernel
theorem dX7_split_46 : decode cX7_split 46 = .ok (.aload 5, 2) := by decide +kernel
theorem dX7_split_48 : decode cX7_split 48 = .ok (.getfield 125, 3) := by decide +kernel
theorem dX7_split_51 : decode cX7_split 51 = .ok (.ifCond .eq 13, 3) := by decide +kernel
theorem dX7_split_54 : decode cX7_split 54 = .ok (.aload 5, 2) := by decide +kernel
theorem dX7_split_56 : decode cX7_split 56 = .ok (.getfield 196, 3) := by decide +kernel
theorem dX7_split_59 : decode cX7_split 59 = .ok (.iconst 2, 1) := by decide +kernel
theorem dX7_split_60 : decode cX7_split 60 = .ok (.idiv, 1) := by decide +kernel
theorem dX7_split_61 : decode cX7_split 61 = .ok (.goto 8, 3) := by decide +kernel
theorem dX7_split_64 : decode cX7_split 64 = .ok (.aload 5, 2) := by decide +kernel
theorem dX7_split_66 : decode cX7_split 66 = .ok (.getfield 196, 3) := by decide +kernel
theorem dX7_split_69 : decode cX7_split 69 = .ok (.istore 6, 2) := by decide +kernel
theorem dX7_split_71 : decode cX7_split 71 = .ok (.aload 5, 2) := by decide +kernel
theorem dX7_split_73 : decode cX7_split 73 = .ok (.dup, 1) := by decide +kernel
theorem dX7_split_74 : decode cX7_split 74 = .ok (.getfield 196, 3) := by decide +kernel
theorem dX7_split_77 : decode cX7_split 77 = .ok (.iload 6, 2) := by decide +kernel
theorem dX7_split_79 : decode cX7_split 79 = .ok (.isub, 1) := by decide +kernel
theorem dX7_split_80 : decode cX7_split 80 = .ok (.putfield 196, 3) := by decide +kernel
theorem dX7_split_83 : decode cX7_split 83 = .ok (.iload_n 2, 1) := by decide +kernel
theorem dX7_split_84 : decode cX7_split 84 = .ok (.iload 6, 2) := by decide +kernel
theorem dX7_split_86 : decode cX7_split 86 = .ok (.iadd, 1) := by decide +kernel
theorem dX7_split_87 : decode cX7_split 87 = .ok (.istore_n 2, 1) := by decide +kernel
theorem dX7_split_88 : decode cX7_split 88 = .ok (.iload_n 3, 1) := by decide +kernel
theorem dX7_split_89 : decode cX7_split 89 = .ok (.aload 5, 2) := by decide +kernel
theorem dX7_split_91 : decode cX7_split 91 = .ok (.getfield 196, 3) := by decide +kernel
theorem dX7_split_94 : decode cX7_split 94 = .ok (.iadd, 1) := by decide +kernel
theorem dX7_split_95 : decode cX7_split 95 = .ok (.istore_n 3, 1) := by decide +kernel
theorem dX7_split_96 : decode cX7_split 96 = .ok (.iinc 4 1, 3) := by decide +kernel
theorem dX7_split_99 : decode cX7_split 99 = .ok (.goto (-76), 3) := by decide +kernel
theorem dX7_split_102 : decode cX7_split 102 = .ok (.iload_n 2, 1) := by decide +kernel
theorem dX7_split_103 : decode cX7_split 103 = .ok (.aload_n 1, 1) := by decide +kernel
theorem dX7_split_104 : decode cX7_split 104 = .ok (.getfield 230, 3) := by decide +kernel
theorem dX7_split_107 : decode cX7_split 107 = .ok (.idiv, 1) := by decide +kernel
theorem dX7_split_108 : decode cX7_split 108 = .ok (.istore 4, 2) := by decide +kernel
theorem dX7_split_110 : decode cX7_split 110 = .ok (.iconst 0, 1) := by decide +kernel
theorem dX7_split_111 : decode cX7_split 111 = .ok (.istore 5, 2) := by decide +kernel
theorem dX7_split_113 : decode cX7_split 113 = .ok (.iload 5, 2) := by decide +kernel
theorem dX7_split_115 : decode cX7_split 115 = .ok (.aload_n 1, 1) := by decide +kernel
theorem dX7_split_116 : decode cX7_split 116 = .ok (.getfield 230, 3) := by decide +kernel
theorem dX7_split_119 : decode cX7_split 119 = .ok (.if_icmp .ge 31, 3) := by decide +kernel
theorem dX7_split_122 : decode cX7_split 122 = .ok (.aload_n 0, 1) := by decide +kernel
theorem dX7_split_123 : decode cX7_split 123 = .ok (.getfield 23, 3) := by decide +kernel
theorem dX7_split_126 : decode cX7_split 126 = .ok (.aload_n 1, 1) := by decide +kernel
theorem dX7_split_127 : decode cX7_split 127 = .ok (.getfield 233, 3) := by decide +kernel
theorem dX7_split_130 : decode cX7_split 130 = .ok (.iload 5, 2) := by decide +kernel
theorem dX7_split_132 : decode cX7_split 132 = .ok (.iaload, 1) := by decide +kernel
theorem dX7_split_133 : decode cX7_split 133 = .ok (.aaload, 1) := by decide +kernel
theorem dX7_split_134 : decode cX7_split 134 = .ok (.dup, 1) := by decide +kernel
theorem dX7_split_135 : decode cX7_split 135 = .ok (.getfield 196, 3) := by decide +kernel
theorem dX7_split_138 : decode cX7_split 138 = .ok (.iload 4, 2) := by decide +kernel
theorem dX7_split_140 : decode cX7_split 140 = .ok (.iadd, 1) := by decide +kernel
theorem dX7_split_141 : decode cX7_split 141 = .ok (.putfield 196, 3) := by decide +kernel
theorem dX7_split_144 : decode cX7_split 144 = .ok (.iinc 5 1, 3) := by decide +kernel
theorem dX7_split_147 : decode cX7_split 147 = .ok (.goto (-34), 3) := by decide +kernel
theorem dX7_split_150 : decode cX7_split 150 = .ok (.aload_n 0, 1) := by decide +kernel
theorem dX7_split_151 : decode cX7_split 151 = .ok (.getfield 23, 3) := by decide +kernel
theorem dX7_split_154 : decode cX7_split 154 = .ok (.aload_n 1, 1) := by decide +kernel
theorem dX7_split_155 : decode cX7_split 155 = .ok (.getfield 233, 3) := by decide +kernel
theorem dX7_split_158 : decode cX7_split 158 = .ok (.iconst 0, 1) := by decide +kernel
theorem dX7_split_159 : decode cX7_split 159 = .ok (.iaload, 1) := by decide +kernel
theorem dX7_split_160 : decode cX7_split 160 = .ok (.aaload, 1) := by decide +kernel
theorem dX7_split_161 : decode cX7_split 161 = .ok (.dup, 1) := by decide +kernel
theorem dX7_split_162 : decode cX7_split 162 = .ok (.getfield 196, 3) := by decide +kernel
theorem dX7_split_165 : decode cX7_split 165 = .ok (.iload_n 2, 1) := by decide +kernel
theorem dX7_split_166 : decode cX7_split 166 = .ok (.iload 4, 2) := by decide +kernel
theorem dX7_split_168 : decode cX7_split 168 = .ok (.aload_n 1, 1) := by decide +kernel
theorem dX7_split_169 : decode cX7_split 169 = .ok (.getfield 230, 3) := by decide +kernel
theorem dX7_split_172 : decode cX7_split 172 = .ok (.imul, 1) := by decide +kernel
theorem dX7_split_173 : decode cX7_split 173 = .ok (.isub, 1) := by decide +kernel
theorem dX7_split_174 : decode cX7_split 174 = .ok (.iadd, 1) := by decide +kernel
theorem dX7_split_175 : decode cX7_split 175 = .ok (.putfield 196, 3) := by decide +kernel
theorem dX7_split_178 : decode cX7_split 178 = .ok (.aload_n 1, 1) := by decide +kernel
theorem dX7_split_179 : decode cX7_split 179 = .ok (.dup, 1) := by decide +kernel
theorem dX7_split_180 : decode cX7_split 180 = .ok (.getfield 235, 3) := by decide +kernel
theorem dX7_split_183 : decode cX7_split 183 = .ok (.iload_n 2, 1) := by decide +kernel
theorem dX7_split_184 : decode cX7_split 184 = .ok (.iadd, 1) := by decide +kernel
theorem dX7_split_185 : decode cX7_split 185 = .ok (.putfield 235, 3) := by decide +kernel
theorem dX7_split_188 : decode cX7_split 188 = .ok (.aload_n 1, 1) := by decide +kernel
theorem dX7_split_189 : decode cX7_split 189 = .ok (.dup, 1) := by decide +kernel
theorem dX7_split_190 : decode cX7_split 190 = .ok (.getfield 238, 3) := by decide +kernel
theorem dX7_split_193 : decode cX7_split 193 = .ok (.iload_n 3, 1) := by decide +kernel
theorem dX7_split_194 : decode cX7_split 194 = .ok (.iadd, 1) := by decide +kernel
theorem dX7_split_195 : decode cX7_split 195 = .ok (.putfield 238, 3) := by decide +kernel
theorem dX7_split_198 : decode cX7_split 198 = .ok (.aload_n 1, 1) := by decide +kernel
theorem dX7_split_199 : decode cX7_split 199 = .ok (.dup, 1) := by decide +kernel
theorem dX7_split_200 : decode cX7_split 200 = .ok (.getfield 241, 3) := by decide +kernel
theorem dX7_split_203 : decode cX7_split 203 = .ok (.iload_n 3, 1) := by decide +kernel
theorem dX7_split_204 : decode cX7_split 204 = .ok (.ifCond .le 7, 3) := by decide +kernel
theorem dX7_split_207 : decode cX7_split 207 = .ok (.iconst 1, 1) := by decide +kernel
theorem dX7_split_208 : decode cX7_split 208 = .ok (.goto 4, 3) := by decide +kernel
theorem dX7_split_211 : decode cX7_split 211 = .ok (.iconst 0, 1) := by decide +kernel
theorem dX7_split_212 : decode cX7_split 212 = .ok (.iadd, 1) := by decide +kernel
theorem dX7_split_213 : decode cX7_split 213 = .ok (.putfield 241, 3) := by decide +kernel
theorem dX7_split_216 : decode cX7_split 216 = .ok (.return_, 1) := by decide +kernel
theorem dX7_storeCatches_0 : decode cX7_storeCatches 0 = .ok (.iconst 0, 1) := by decide +kernel
theorem dX7_storeCatches_1 : decode cX7_storeCatches 1 = .ok (.istore_n 1, 1) := by decide +kernel
theorem dX7_storeCatches_2 : decode cX7_storeCatches 2 = .ok (.iconst 0, 1) := by decide +kernel
theorem dX7_storeCatches_3 : decode cX7_storeCatches 3 = .ok (.istore_n 2, 1) := by decide +kernel
theorem dX7_storeCatches_4 : decode cX7_storeCatches 4 = .ok (.iload_n 2, 1) := by decide +kernel
theorem dX7_storeCatches_5 : decode cX7_storeCatches 5 = .ok (.aload_n 0, 1) := by decide +kernel
theorem dX7_storeCatches_6 : decode cX7_storeCatches 6 = .ok (.getfield 75, 3) := by decide +kernel
theorem dX7_storeCatches_9 : decode cX7_storeCatches 9 = .ok (.if_icmp .ge 44, 3) := by decide +kernel
theorem dX7_storeCatches_12 : decode cX7_storeCatches 12 = .ok (.aload_n 0, 1) := by decide +kernel
theorem dX7_storeCatches_13 : decode cX7_storeCatches 13 = .ok (.getfield 23, 3) := by decide +kernel
theorem dX7_storeCatches_16 : decode cX7_storeCatches 16 = .ok (.iload_n 2, 1) := by decide +kernel
theorem dX7_storeCatches_17 : decode cX7_storeCatches 17 = .ok (.aaload, 1) := by decide +kernel
theorem dX7_storeCatches_18 : decode cX7_storeCatches 18 = .ok (.dup, 1) := by decide +kernel
theorem dX7_storeCatches_19 : decode cX7_storeCatches 19 = .ok (.getfield 116, 3) := by decide +kernel
theorem dX7_storeCatches_22 : decode cX7_storeCatches 22 = .ok (.aload_n 0, 1) := by decide +kernel
theorem dX7_storeCatches_23 : decode cX7_storeCatches 23 = .ok (.getfield 23, 3) := by decide +kernel
theorem dX7_storeCatches_26 : decode cX7_storeCatches 26 = .ok (.iload_n 2, 1) := by decide +kernel
theorem dX7_storeCatches_27 : decode cX7_storeCatches 27 = .ok (.aaload, 1) := by decide +kernel
theorem dX7_storeCatches_28 : decode cX7_storeCatches 28 = .ok (.getfield 196, 3) := by decide +kernel
theorem dX7_storeCatches_31 : decode cX7_storeCatches 31 = .ok (.iadd, 1) := by decide +kernel
theorem dX7_storeCatches_32 : decode cX7_storeCatches 32 = .ok (.putfield 116, 3) := by decide +kernel
theorem dX7_storeCatches_35 : decode cX7_storeCatches 35 = .ok (.iload_n 1, 1) := by decide +kernel
theorem dX7_storeCatches_36 : decode cX7_storeCatches 36 = .ok (.aload_n 0, 1) := by decide +kernel
theorem dX7_storeCatches_37 : decode cX7_storeCatches 37 = .ok (.getfield 23, 3) := by decide +kernel
theorem dX7_storeCatches_40 : decode cX7_storeCatches 40 = .ok (.iload_n 2, 1) := by decide +kernel
theorem dX7_storeCatches_41 : decode cX7_storeCatches 41 = .ok (.aaload, 1) := by decide +kernel
theorem dX7_storeCatches_42 : decode cX7_storeCatches 42 = .ok (.getfield 196, 3) := by decide +kernel
theorem dX7_storeCatches_45 : decode cX7_storeCatches 45 = .ok (.iadd, 1) := by decide +kernel
theorem dX7_storeCatches_46 : decode cX7_storeCatches 46 = .ok (.istore_n 1, 1) := by decide +kernel
theorem dX7_storeCatches_47 : decode cX7_storeCatches 47 = .ok (.iinc 2 1, 3) := by decide +kernel
theorem dX7_storeCatches_50 : decode cX7_storeCatches 50 = .ok (.goto (-46), 3) := by decide +kernel
theorem dX7_storeCatches_53 : decode cX7_storeCatches 53 = .ok (.iload_n 1, 1) := by decide +kernel
theorem dX7_storeCatches_54 : decode cX7_storeCatches 54 = .ok (.ireturn, 1) := by decide +kernel
theorem dX9_init_0 : decode cX9_init 0 = .ok (.aload_n 0, 1) := by decide +kernel
theorem dX9_init_1 : decode cX9_init 1 = .ok (.invokespecial 3, 3) := by decide +kernel
theorem dX9_init_4 : decode cX9_init 4 = .ok (.aload_n 0, 1) := by decide +kernel
theorem dX9_init_5 : decode cX9_init 5 = .ok (.sipush 400, 3) := by decide +kernel
theorem dX9_init_8 : decode cX9_init 8 = .ok (.anewarray 9, 3) := by decide +kernel
theorem dX9_init_11 : decode cX9_init 11 = .ok (.putfield 11, 3) := by decide +kernel
theorem dX9_init_14 : decode cX9_init 14 = .ok (.aload_n 0, 1) := by decide +kernel
theorem dX9_init_15 : decode cX9_init 15 = .ok (.sipush 400, 3) := by decide +kernel
theorem dX9_init_18 : decode cX9_init 18 = .ok (.newarray .int, 2) := by decide +kernel
theorem dX9_init_20 : decode cX9_init 20 = .ok (.putfield 17, 3) := by decide +kernel
theorem dX9_init_23 : decode cX9_init 23 = .ok (.aload_n 0, 1) := by decide +kernel
theorem dX9_init_24 : decode cX9_init 24 = .ok (.sipush 400, 3) := by decide +kernel
theorem dX9_init_27 : decode cX9_init 27 = .ok (.newarray .int, 2) := by decide +kernel
theorem dX9_init_29 : decode cX9_init 29 = .ok (.putfield 21, 3) := by decide +kernel
theorem dX9_init_32 : decode cX9_init 32 = .ok (.iconst 0, 1) := by decide +kernel
theorem dX9_init_33 : decode cX9_init 33 = .ok (.istore_n 1, 1) := by decide +kernel
theorem dX9_init_34 : decode cX9_init 34 = .ok (.iload_n 1, 1) := by decide +kernel
theorem dX9_init_35 : decode cX9_init 35 = .ok (.aload_n 0, 1) := by decide +kernel
theorem dX9_init_36 : decode cX9_init 36 = .ok (.getfield 11, 3) := by decide +kernel
theorem dX9_init_39 : decode cX9_init 39 = .ok (.arraylength, 1) := by decide +kernel
theorem dX9_init_40 : decode cX9_init 40 = .ok (.if_icmp .ge 18, 3) := by decide +kernel
theorem dX9_init_43 : decode cX9_init 43 = .ok (.aload_n 0, 1) := by decide +kernel
theorem dX9_init_44 : decode cX9_init 44 = .ok (.getfield 11, 3) := by decide +kernel
theorem dX9_init_47 : decode cX9_init 47 = .ok (.iload_n 1, 1) := by decide +kernel
theorem dX9_init_48 : decode cX9_init 48 = .ok (.getstatic 24, 3) := by decide +kernel
theorem dX9_init_51 : decode cX9_init 51 = .ok (.aastore, 1) := by decide +kernel
theorem dX9_init_52 : decode cX9_init 52 = .ok (.iinc 1 1, 3) := by decide +kernel
theorem dX9_init_55 : decode cX9_init 55 = .ok (.goto (-21), 3) := by decide +kernel
theorem dX9_init_58 : decode cX9_init 58 = .ok (.return_, 1) := by decide +kernel
theorem dX9_add_0 : decode cX9_add 0 = .ok (.aload_n 0, 1) := by decide +kernel
theorem dX9_add_1 : decode cX9_add 1 = .ok (.getfield 28, 3) := by decide +kernel
theorem dX9_add_4 : decode cX9_add 4 = .ok (.sipush 400, 3) := by decide +kernel
theorem dX9_add_7 : decode cX9_add 7 = .ok (.if_icmp .ge 33, 3) := by decide +kernel
theorem dX9_add_10 : decode cX9_add 10 = .ok (.aload_n 0, 1) := by decide +kernel
theorem dX9_add_11 : decode cX9_add 11 = .ok (.getfield 11, 3) := by decide +kernel
theorem dX9_add_14 : decode cX9_add 14 = .ok (.aload_n 0, 1) := by decide +kernel
theorem dX9_add_15 : decode cX9_add 15 = .ok (.getfield 28, 3) := by decide +kernel
theorem dX9_add_18 : decode cX9_add 18 = .ok (.aload_n 1, 1) := by decide +kernel
theorem dX9_add_19 : decode cX9_add 19 = .ok (.aastore, 1) := by decide +kernel
theorem dX9_add_20 : decode cX9_add 20 = .ok (.aload_n 0, 1) := by decide +kernel
theorem dX9_add_21 : decode cX9_add 21 = .ok (.getfield 17, 3) := by decide +kernel
theorem dX9_add_24 : decode cX9_add 24 = .ok (.aload_n 0, 1) := by decide +kernel
theorem dX9_add_25 : decode cX9_add 25 = .ok (.getfield 28, 3) := by decide +kernel
theorem dX9_add_28 : decode cX9_add 28 = .ok (.iload_n 2, 1) := by decide +kernel
theorem dX9_add_29 : decode cX9_add 29 = .ok (.iastore, 1) := by decide +kernel
theorem dX9_add_30 : decode cX9_add 30 = .ok (.aload_n 0, 1) := by decide +kernel
theorem dX9_add_31 : decode cX9_add 31 = .ok (.dup, 1) := by decide +kernel
theorem dX9_add_32 : decode cX9_add 32 = .ok (.getfield 28, 3) := by decide +kernel
theorem dX9_add_35 : decode cX9_add 35 = .ok (.iconst 1, 1) := by decide +kernel
theorem dX9_add_36 : decode cX9_add 36 = .ok (.iadd, 1) := by decide +kernel
theorem dX9_add_37 : decode cX9_add 37 = .ok (.putfield 28, 3) := by decide +kernel
theorem dX9_add_40 : decode cX9_add 40 = .ok (.return_, 1) := by decide +kernel
theorem dX9_copyFrom_0 : decode cX9_copyFrom 0 = .ok (.aload_n 0, 1) := by decide +kernel
theorem dX9_copyFrom_1 : decode cX9_copyFrom 1 = .ok (.aload_n 1, 1) := by decide +kernel
theorem dX9_copyFrom_2 : decode cX9_copyFrom 2 = .ok (.getfield 28, 3) := by decide +kernel
theorem dX9_copyFrom_5 : decode cX9_copyFrom 5 = .ok (.putfield 28, 3) := by decide +kernel
theorem dX9_copyFrom_8 : decode cX9_copyFrom 8 = .ok (.iconst 0, 1) := by decide +kernel
theorem dX9_copyFrom_9 : decode cX9_copyFrom 9 = .ok (.istore_n 2, 1) := by decide +kernel
theorem dX9_copyFrom_10 : decode cX9_copyFrom 10 = .ok (.iload_n 2, 1) := by decide +kernel
theorem dX9_copyFrom_11 : decode cX9_copyFrom 11 = .ok (.aload_n 0, 1) := by decide +kernel
theorem dX9_copyFrom_12 : decode cX9_copyFrom 12 = .ok (.getfield 28, 3) := by decide +kernel
theorem dX9_copyFrom_15 : decode cX9_copyFrom 15 = .ok (.if_icmp .ge 33, 3) := by decide +kernel
theorem dX9_copyFrom_18 : decode cX9_copyFrom 18 = .ok (.aload_n 0, 1) := by decide +kernel
theorem dX9_copyFrom_19 : decode cX9_copyFrom 19 = .ok (.getfield 11, 3) := by decide +kernel
theorem dX9_copyFrom_22 : decode cX9_copyFrom 22 = .ok (.iload_n 2, 1) := by decide +kernel
theorem dX9_copyFrom_23 : decode cX9_copyFrom 23 = .ok (.aload_n 1, 1) := by decide +kernel
theorem dX9_copyFrom_24 : decode cX9_copyFrom 24 = .ok (.getfield 11, 3) := by decide +kernel
theorem dX9_copyFrom_27 : decode cX9_copyFrom 27 = .ok (.iload_n 2, 1) := by decide +kernel
theorem dX9_copyFrom_28 : decode cX9_copyFrom 28 = .ok (.aaload, 1) := by decide +kernel
theorem dX9_copyFrom_29 : decode cX9_copyFrom 29 = .ok (.aastore, 1) := by decide +kernel
theorem dX9_copyFrom_30 : decode cX9_copyFrom 30 = .ok (.aload_n 0, 1) := by decide +kernel
theorem dX9_copyFrom_31 : decode cX9_copyFrom 31 = .ok (.getfield 17, 3) := by decide +kernel
theorem dX9_copyFrom_34 : decode cX9_copyFrom 34 = .ok (.iload_n 2, 1) := by decide +kernel
theorem dX9_copyFrom_35 : decode cX9_copyFrom 35 = .ok (.aload_n 1, 1) := by decide +kernel
theorem dX9_copyFrom_36 : decode cX9_copyFrom 36 = .ok (.getfield 17, 3) := by decide +kernel
theorem dX9_copyFrom_39 : decode cX9_copyFrom 39 = .ok (.iload_n 2, 1) := by decide +kernel
theorem dX9_copyFrom_40 : decode cX9_copyFrom 40 = .ok (.iaload, 1) := by decide +kernel
theorem dX9_copyFrom_41 : decode cX9_copyFrom 41 = .ok (.iastore, 1) := by decide +kernel
theorem dX9_copyFrom_42 : decode cX9_copyFrom 42 = .ok (.iinc 2 1, 3) := by decide +kernel
theorem dX9_copyFrom_45 : decode cX9_copyFrom 45 = .ok (.goto (-35), 3) := by decide +kernel
theorem dX9_copyFrom_48 : decode cX9_copyFrom 48 = .ok (.return_, 1) := by decide +kernel
theorem dX9_reckon_0 : decode cX9_reckon 0 = .ok (.iconst 0, 1) := by decide +kernel
theorem dX9_reckon_1 : decode cX9_reckon 1 = .ok (.istore 4, 2) := by decide +kernel
theorem dX9_reckon_3 : decode cX9_reckon 3 = .ok (.iload_n 1, 1) := by decide +kernel
theorem dX9_reckon_4 : decode cX9_reckon 4 = .ok (.istore 5, 2) := by decide +kernel
theorem dX9_reckon_6 : decode cX9_reckon 6 = .ok (.iload 5, 2) := by decide +kernel
theorem dX9_reckon_8 : decode cX9_reckon 8 = .ok (.iload_n 2, 1) := by decide +kernel
theorem dX9_reckon_9 : decode cX9_reckon 9 = .ok (.if_icmp .ge 265, 3) := by decide +kernel
theorem dX9_reckon_12 : decode cX9_reckon 12 = .ok (.iload 5, 2) := by decide +kernel
theorem dX9_reckon_14 : decode cX9_reckon 14 = .ok (.aload_n 0, 1) := by decide +kernel
theorem dX9_reckon_15 : decode cX9_reckon 15 = .ok (.getfield 28, 3) := by decide +kernel
theorem dX9_reckon_18 : decode cX9_reckon 18 = .ok (.if_icmp .ge 256, 3) := by decide +kernel
theorem dX9_reckon_21 : decode cX9_reckon 21 = .ok (.getstatic 32, 3) := by decide +kernel
theorem dX9_reckon_24 : decode cX9_reckon 24 = .ok (.aload_n 0, 1) := by decide +kernel
theorem dX9_reckon_25 : decode cX9_reckon 25 = .ok (.getfield 11, 3) := by decide +kernel
theorem dX9_reckon_28 : decode cX9_reckon 28 = .ok (.iload 5, 2) := by decide +kernel
theorem dX9_reckon_30 : decode cX9_reckon 30 = .ok (.aaload, 1) := by decide +kernel
theorem dX9_reckon_31 : decode cX9_reckon 31 = .ok (.invokevirtual 37, 3) := by decide +kernel
theorem dX9_reckon_34 : decode cX9_reckon 34 = .ok (.iaload, 1) := by decide +kernel
theorem dX9_reckon_35 : decode cX9_reckon 35 = .ok (.tableswitch 189 5 24 #[134, 189, 93, 189, 189, 189, 189, 189, 93, 93, 93, 93, 93, 93, 93, 189, 189, 189, 189, 134], 93) := by decide +kernel
theorem dX9_reckon_128 : decode cX9_reckon 128 = .ok (.iload 4, 2) := by decide +kernel
theorem dX9_reckon_130 : decode cX9_reckon 130 = .ok (.aload_n 0, 1) := by decide +kernel
theorem dX9_reckon_131 : decode cX9_reckon 131 = .ok (.getfield 21, 3) := by decide +kernel
theorem dX9_reckon_134 : decode cX9_reckon 134 = .ok (.arraylength, 1) := by decide +kernel
theorem dX9_reckon_135 : decode cX9_reckon 135 = .ok (.if_icmp .ge 133, 3) := by decide +kernel
theorem dX9_reckon_138 : decode cX9_reckon 138 = .ok (.aload_n 0, 1) := by decide +kernel
theorem dX9_reckon_139 : decode cX9_reckon 139 = .ok (.getfield 21, 3) := by decide +kernel
theorem dX9_reckon_142 : decode cX9_reckon 142 = .ok (.iload 4, 2) := by decide +kernel
theorem dX9_reckon_144 : decode cX9_reckon 144 = .ok (.aload_n 3, 1) := by decide +kernel
theorem dX9_reckon_145 : decode cX9_reckon 145 = .ok (.aload_n 0, 1) := by decide +kernel
theorem dX9_reckon_146 : decode cX9_reckon 146 = .ok (.getfield 11, 3) := by decide +kernel
theorem dX9_reckon_149 : decode cX9_reckon 149 = .ok (.iload 5, 2) := by decide +kernel
theorem dX9_reckon_151 : decode cX9_reckon 151 = .ok (.aaload, 1) := by decide +kernel
theorem dX9_reckon_152 : decode cX9_reckon 152 = .ok (.aload_n 0, 1) := by decide +kernel
theorem dX9_reckon_153 : decode cX9_reckon 153 = .ok (.getfield 17, 3) := by decide +kernel
theorem dX9_reckon_156 : decode cX9_reckon 156 = .ok (.iload 5, 2) := by decide +kernel
theorem dX9_reckon_158 : decode cX9_reckon 158 = .ok (.iaload, 1) := by decide +kernel
theorem dX9_reckon_159 : decode cX9_reckon 159 = .ok (.invokestatic 41, 3) := by decide +kernel
theorem dX9_reckon_162 : decode cX9_reckon 162 = .ok (.iastore, 1) := by decide +kernel
theorem dX9_reckon_163 : decode cX9_reckon 163 = .ok (.iinc 4 1, 3) := by decide +kernel
theorem dX9_reckon_166 : decode cX9_reckon 166 = .ok (.goto 102, 3) := by decide +kernel
theorem dX9_reckon_169 : decode cX9_reckon 169 = .ok (.iload 4, 2) := by decide +kernel
theorem dX9_reckon_171 : decode cX9_reckon 171 = .ok (.iconst 1, 1) := by decide +kernel
theorem dX9_reckon_172 : decode cX9_reckon 172 = .ok (.if_icmp .lt 96, 3) := by decide +kernel
theorem dX9_reckon_175 : decode cX9_reckon 175 = .ok (.aload_n 0, 1) := by decide +kernel
theorem dX9_reckon_176 : decode cX9_reckon 176 = .ok (.getfield 21, 3) := by decide +kernel
theorem dX9_reckon_179 : decode cX9_reckon 179 = .ok (.iload 4, 2) := by decide +kernel
theorem dX9_reckon_181 : decode cX9_reckon 181 = .ok (.iconst 1, 1) := by decide +kernel
theorem dX9_reckon_182 : decode cX9_reckon 182 = .ok (.isub, 1) := by decide +kernel
theorem dX9_reckon_183 : decode cX9_reckon 183 = .ok (.aload_n 0, 1) := by decide +kernel
theorem dX9_reckon_184 : decode cX9_reckon 184 = .ok (.getfield 11, 3) := by decide +kernel
theorem dX9_reckon_187 : decode cX9_reckon 187 = .ok (.iload 5, 2) := by decide +kernel
theorem dX9_reckon_189 : decode cX9_reckon 189 = .ok (.aaload, 1) := by decide +kernel
theorem dX9_reckon_190 : decode cX9_reckon 190 = .ok (.getstatic 45, 3) := by decide +kernel
theorem dX9_reckon_193 : decode cX9_reckon 193 = .ok (.if_acmp .ne 17, 3) := by decide +kernel
theorem dX9_reckon_196 : decode cX9_reckon 196 = .ok (.iconst 1, 1) := by decide +kernel
theorem dX9_reckon_197 : decode cX9_reckon 197 = .ok (.aload_n 0, 1) := by decide +kernel
theorem dX9_reckon_198 : decode cX9_reckon 198 = .ok (.getfield 21, 3) := by decide +kernel
theorem dX9_reckon_201 : decode cX9_reckon 201 = .ok (.iload 4, 2) := by decide +kernel
theorem dX9_reckon_203 : decode cX9_reckon 203 = .ok (.iconst 1, 1) := by decide +kernel
theorem dX9_reckon_204 : decode cX9_reckon 204 = .ok (.isub, 1) := by decide +kernel
theorem dX9_reckon_205 : decode cX9_reckon 205 = .ok (.iaload, 1) := by decide +kernel
theorem dX9_reckon_206 : decode cX9_reckon 206 = .ok (.isub, 1) := by decide +kernel
theorem dX9_reckon_207 : decode cX9_reckon 207 = .ok (.goto 13, 3) := by decide +kernel
theorem dX9_reckon_210 : decode cX9_reckon 210 = .ok (.aload_n 0, 1) := by decide +kernel
theorem dX9_reckon_211 : decode cX9_reckon 211 = .ok (.getfield 21, 3) := by decide +kernel
theorem dX9_reckon_214 : decode cX9_reckon 214 = .ok (.iload 4, 2) := by decide +kernel
theorem dX9_reckon_216 : decode cX9_reckon 216 = .ok (.iconst 1, 1) := by decide +kernel
theorem dX9_reckon_217 : decode cX9_reckon 217 = .ok (.isub, 1) := by decide +kernel
theorem dX9_reckon_218 : decode cX9_reckon 218 = .ok (.iaload, 1) := by decide +kernel
theorem dX9_reckon_219 : decode cX9_reckon 219 = .ok (.ineg, 1) := by decide +kernel
theorem dX9_reckon_220 : decode cX9_reckon 220 = .ok (.iastore, 1) := by decide +kernel
theorem dX9_reckon_221 : decode cX9_reckon 221 = .ok (.goto 47, 3) := by decide +kernel
theorem dX9_reckon_224 : decode cX9_reckon 224 = .ok (.iload 4, 2) := by decide +kernel
theorem dX9_reckon_226 : decode cX9_reckon 226 = .ok (.iconst 2, 1) := by decide +kernel
theorem dX9_reckon_227 : decode cX9_reckon 227 = .ok (.if_icmp .lt 41, 3) := by decide +kernel
theorem dX9_reckon_230 : decode cX9_reckon 230 = .ok (.iinc 4 (-1), 3) := by decide +kernel
theorem dX9_reckon_233 : decode cX9_reckon 233 = .ok (.aload_n 0, 1) := by decide +kernel
theorem dX9_reckon_234 : decode cX9_reckon 234 = .ok (.getfield 21, 3) := by decide +kernel
theorem dX9_reckon_237 : decode cX9_reckon 237 = .ok (.iload 4, 2) := by decide +kernel
theorem dX9_reckon_239 : decode cX9_reckon 239 = .ok (.iconst 1, 1) := by decide +kernel
theorem dX9_reckon_240 : decode cX9_reckon 240 = .ok (.isub, 1) := by decide +kernel
theorem dX9_reckon_241 : decode cX9_reckon 241 = .ok (.aload_n 0, 1) := by decide +kernel
theorem dX9_reckon_242 : decode cX9_reckon 242 = .ok (.getfield 11, 3) := by decide +kernel
theorem dX9_reckon_245 : decode cX9_reckon 245 = .ok (.iload 5, 2) := by decide +kernel
theorem dX9_reckon_247 : decode cX9_reckon 247 = .ok (.aaload, 1) := by decide +kernel
theorem dX9_reckon_248 : decode cX9_reckon 248 = .ok (.aload_n 0, 1) := by decide +kernel
theorem dX9_reckon_249 : decode cX9_reckon 249 = .ok (.getfield 21, 3) := by decide +kernel
theorem dX9_reckon_252 : decode cX9_reckon 252 = .ok (.iload 4, 2) := by decide +kernel
theorem dX9_reckon_254 : decode cX9_reckon 254 = .ok (.iconst 1, 1) := by decide +kernel
theorem dX9_reckon_255 : decode cX9_reckon 255 = .ok (.isub, 1) := by decide +kernel
theorem dX9_reckon_256 : decode cX9_reckon 256 = .ok (.iaload, 1) := by decide +kernel
theorem dX9_reckon_257 : decode cX9_reckon 257 = .ok (.aload_n 0, 1) := by decide +kernel
theorem dX9_reckon_258 : decode cX9_reckon 258 = .ok (.getfield 21, 3) := by decide +kernel
theorem dX9_reckon_261 : decode cX9_reckon 261 = .ok (.iload 4, 2) := by decide +kernel
theorem dX9_reckon_263 : decode cX9_reckon 263 = .ok (.iaload, 1) := by decide +kernel
theorem dX9_reckon_264 : decode cX9_reckon 264 = .ok (.invokestatic 48, 3) := by decide +kernel
theorem dX9_reckon_267 : decode cX9_reckon 267 = .ok (.iastore, 1) := by decide +kernel
theorem dX9_reckon_268 : decode cX9_reckon 268 = .ok (.iinc 5 1, 3) := by decide +kernel
theorem dX9_reckon_271 : decode cX9_reckon 271 = .ok (.goto (-265), 3) := by decide +kernel
theorem dX9_reckon_274 : decode cX9_reckon 274 = .ok (.iload 4, 2) := by decide +kernel
theorem dX9_reckon_276 : decode cX9_reckon 276 = .ok (.ifCond .le 12, 3) := by decide +kernel
theorem dX9_reckon_279 : decode cX9_reckon 279 = .ok (.aload_n 0, 1) := by decide +kernel
theorem dX9_reckon_280 : decode cX9_reckon 280 = .ok (.getfield 21, 3) := by decide +kernel
theorem dX9_reckon_283 : decode cX9_reckon 283 = .ok (.iconst 0, 1) := by decide +kernel
theorem dX9_reckon_284 : decode cX9_reckon 284 = .ok (.iaload, 1) := by decide +kernel
theorem dX9_reckon_285 : decode cX9_reckon 285 = .ok (.goto 4, 3) := by decide +kernel
theorem dX9_reckon_288 : decode cX9_reckon 288 = .ok (.iconst 0, 1) := by decide +kernel
theorem dX9_reckon_289 : decode cX9_reckon 289 = .ok (.ireturn, 1) := by decide +kernel
theorem dX9_valueOn_0 : decode cX9_valueOn 0 = .ok (.getstatic 32, 3) := by decide +kernel
theorem dX9_valueOn_3 : decode cX9_valueOn 3 = .ok (.aload_n 1, 1) := by decide +kernel
theorem dX9_valueOn_4 : decode cX9_valueOn 4 = .ok (.invokevirtual 37, 3) := by decide +kernel
theorem dX9_valueOn_7 : decode cX9_valueOn 7 = .ok (.iaload, 1) := by decide +kernel
theorem dX9_valueOn_8 : decode cX9_valueOn 8 = .ok (.tableswitch 141 7 19 #[103, 141, 141, 141, 141, 141, 141, 68, 73, 83, 93, 121, 131], 68) := by decide +kernel
theorem dX9_valueOn_76 : decode cX9_valueOn 76 = .ok (.aload_n 0, 1) := by decide +kernel
theorem dX9_valueOn_77 : decode cX9_valueOn 77 = .ok (.getfield 52, 3) := by decide +kernel
theorem dX9_valueOn_80 : decode cX9_valueOn 80 = .ok (.ireturn, 1) := by decide +kernel
theorem dX9_valueOn_81 : decode cX9_valueOn 81 = .ok (.aload_n 0, 1) := by decide +kernel
theorem dX9_valueOn_82 : decode cX9_valueOn 82 = .ok (.getfield 57, 3) := by decide +kernel
theorem dX9_valueOn_85 : decode cX9_valueOn 85 = .ok (.iload_n 2, 1) := by decide +kernel
theorem dX9_valueOn_86 : decode cX9_valueOn 86 = .ok (.aaload, 1) := by decide +kernel
theorem dX9_valueOn_87 : decode cX9_valueOn 87 = .ok (.getfield 61, 3) := by decide +kernel
theorem dX9_valueOn_90 : decode cX9_valueOn 90 = .ok (.ireturn, 1) := by decide +kernel
theorem dX9_valueOn_91 : decode cX9_valueOn 91 = .ok (.aload_n 0, 1) := by decide +kernel
theorem dX9_valueOn_92 : decode cX9_valueOn 92 = .ok (.getfield 57, 3) := by decide +kernel
theorem dX9_valueOn_95 : decode cX9_valueOn 95 = .ok (.iload_n 2, 1) := by decide +kernel
theorem dX9_valueOn_96 : decode cX9_valueOn 96 = .ok (.aaload, 1) := by decide +kernel
theorem dX9_valueOn_97 : decode cX9_valueOn 97 = .ok (.getfield 66, 3) := by decide +kernel
theorem dX9_valueOn_100 : decode cX9_valueOn 100 = .ok (.ireturn, 1) := by decide +kernel
theorem dX9_valueOn_101 : decode cX9_valueOn 101 = .ok (.aload_n 0, 1) := by decide +kernel
theorem dX9_valueOn_102 : decode cX9_valueOn 102 = .ok (.getfield 57, 3) := by decide +kernel
theorem dX9_valueOn_105 : decode cX9_valueOn 105 = .ok (.iload_n 2, 1) := by decide +kernel
theorem dX9_valueOn_106 : decode cX9_valueOn 106 = .ok (.aaload, 1) := by decide +kernel
theorem dX9_valueOn_107 : decode cX9_valueOn 107 = .ok (.getfield 69, 3) := by decide +kernel
theorem dX9_valueOn_110 : decode cX9_valueOn 110 = .ok (.ireturn, 1) := by decide +kernel
theorem dX9_valueOn_111 : decode cX9_valueOn 111 = .ok (.aload_n 0, 1) := by decide +kernel
theorem dX9_valueOn_112 : decode cX9_valueOn 112 = .ok (.getfield 57, 3) := by decide +kernel
theorem dX9_valueOn_115 : decode cX9_valueOn 115 = .ok (.iload_n 2, 1) := by decide +kernel
theorem dX9_valueOn_116 : decode cX9_valueOn 116 = .ok (.aaload, 1) := by decide +kernel
theorem dX9_valueOn_117 : decode cX9_valueOn 117 = .ok (.getfield 72, 3) := by decide +kernel
theorem dX9_valueOn_120 : decode cX9_valueOn 120 = .ok (.ifCond .eq 7, 3) := by decide +kernel
theorem dX9_valueOn_123 : decode cX9_valueOn 123 = .ok (.iconst 1, 1) := by decide +kernel
theorem dX9_valueOn_124 : decode cX9_valueOn 124 = .ok (.goto 4, 3) := by decide +kernel
theorem dX9_valueOn_127 : decode cX9_valueOn 127 = .ok (.iconst 0, 1) := by decide +kernel
theorem dX9_valueOn_128 : decode cX9_valueOn 128 = .ok (.ireturn, 1) := by decide +kernel
theorem dX9_valueOn_129 : decode cX9_valueOn 129 = .ok (.aload_n 0, 1) := by decide +kernel
theorem dX9_valueOn_130 : decode cX9_valueOn 130 = .ok (.getfield 76, 3) := by decide +kernel
theorem dX9_valueOn_133 : decode cX9_valueOn 133 = .ok (.iload_n 2, 1) := by decide +kernel
theorem dX9_valueOn_134 : decode cX9_valueOn 134 = .ok (.aaload, 1) := by decide +kernel
theorem dX9_valueOn_135 : decode cX9_valueOn 135 = .ok (.invokevirtual 80, 3) := by decide +kernel
theorem dX9_valueOn_138 : decode cX9_valueOn 138 = .ok (.ireturn, 1) := by decide +kernel
theorem dX9_valueOn_139 : decode cX9_valueOn 139 = .ok (.aload_n 0, 1) := by decide +kernel
theorem dX9_valueOn_140 : decode cX9_valueOn 140 = .ok (.getfield 76, 3) := by decide +kernel
theorem dX9_valueOn_143 : decode cX9_valueOn 143 = .ok (.iload_n 2, 1) := by decide +kernel
theorem dX9_valueOn_144 : decode cX9_valueOn 144 = .ok (.aaload, 1) := by decide +kernel
theorem dX9_valueOn_145 : decode cX9_valueOn 145 = .ok (.getfield 85, 3) := by decide +kernel
theorem dX9_valueOn_148 : decode cX9_valueOn 148 = .ok (.ireturn, 1) := by decide +kernel
theorem dX9_valueOn_149 : decode cX9_valueOn 149 = .ok (.iload_n 2, 1) := by decide +kernel
theorem dX9_valueOn_150 : decode cX9_valueOn 150 = .ok (.ireturn, 1) := by decide +kernel
theorem dX9_combine_0 : decode cX9_combine 0 = .ok (.getstatic 32, 3) := by decide +kernel
theorem dX9_combine_3 : decode cX9_combine 3 = .ok (.aload_n 0, 1) := by decide +kernel
theorem dX9_combine_4 : decode cX9_combine 4 = .ok (.invokevirtual 37, 3) := by decide +kernel
theorem dX9_combine_7 : decode cX9_combine 7 = .ok (.iaload, 1) := by decide +kernel
theorem dX9_combine_8 : decode cX9_combine 8 = .ok (.tableswitch 203 8 29 #[148, 159, 170, 181, 192, 203, 203, 203, 203, 203, 203, 203, 108, 203, 128, 134, 203, 104, 112, 116, 140, 144], 104) := by decide +kernel
theorem dX9_combine_112 : decode cX9_combine 112 = .ok (.iload_n 1, 1) := by decide +kernel
theorem dX9_combine_113 : decode cX9_combine 113 = .ok (.iload_n 2, 1) := by decide +kernel
theorem dX9_combine_114 : decode cX9_combine 114 = .ok (.iadd, 1) := by decide +kernel
theorem dX9_combine_115 : decode cX9_combine 115 = .ok (.ireturn, 1) := by decide +kernel
theorem dX9_combine_116 : decode cX9_combine 116 = .ok (.iload_n 1, 1) := by decide +kernel
theorem dX9_combine_117 : decode cX9_combine 117 = .ok (.iload_n 2, 1) := by decide +kernel
theorem dX9_combine_118 : decode cX9_combine 118 = .ok (.isub, 1) := by decide +kernel
theorem dX9_combine_119 : decode cX9_combine 119 = .ok (.ireturn, 1) := by decide +kernel
theorem dX9_combine_120 : decode cX9_combine 120 = .ok (.iload_n 1, 1) := by decide +kernel
theorem dX9_combine_121 : decode cX9_combine 121 = .ok (.iload_n 2, 1) := by decide +kernel
theorem dX9_combine_122 : decode cX9_combine 122 = .ok (.imul, 1) := by decide +kernel
theorem dX9_combine_123 : decode cX9_combine 123 = .ok (.ireturn, 1) := by decide +kernel
theorem dX9_combine_124 : decode cX9_combine 124 = .ok (.iload_n 2, 1) := by decide +kernel
theorem dX9_combine_125 : decode cX9_combine 125 = .ok (.ifCond .ne 7, 3) := by decide +kernel
theorem dX9_combine_128 : decode cX9_combine 128 = .ok (.iconst 0, 1) := by decide +kernel
theorem dX9_combine_129 : decode cX9_combine 129 = .ok (.goto 6, 3) := by decide +kernel
theorem dX9_combine_132 : decode cX9_combine 132 = .ok (.iload_n 1, 1) := by decide +kernel
theorem dX9_combine_133 : decode cX9_combine 133 = .ok (.iload_n 2, 1) := by decide +kernel
theorem dX9_combine_134 : decode cX9_combine 134 = .ok (.idiv, 1) := by decide +kernel
theorem dX9_combine_135 : decode cX9_combine 135 = .ok (.ireturn, 1) := by decide +kernel
theorem dX9_combine_136 : decode cX9_combine 136 = .ok (.iload_n 1, 1) := by decide +kernel
theorem dX9_combine_137 : decode cX9_combine 137 = .ok (.iload_n 2, 1) := by decide +kernel
theorem dX9_combine_138 : decode cX9_combine 138 = .ok (.invokestatic 88, 3) := by decide +kernel
theorem dX9_combine_141 : decode cX9_combine 141 = .ok (.ireturn, 1) := by decide +kernel
theorem dX9_combine_142 : decode cX9_combine 142 = .ok (.iload_n 1, 1) := by decide +kernel
theorem dX9_combine_143 : decode cX9_combine 143 = .ok (.iload_n 2, 1) := by decide +kernel
theorem dX9_combine_144 : decode cX9_combine 144 = .ok (.invokestatic 94, 3) := by decide +kernel
theorem dX9_combine_147 : decode cX9_combine 147 = .ok (.ireturn, 1) := by decide +kernel
theorem dX9_combine_148 : decode cX9_combine 148 = .ok (.iload_n 1, 1) := by decide +kernel
theorem dX9_combine_149 : decode cX9_combine 149 = .ok (.iload_n 2, 1) := by decide +kernel
theorem dX9_combine_150 : decode cX9_combine 150 = .ok (.iand, 1) := by decide +kernel
theorem dX9_combine_151 : decode cX9_combine 151 = .ok (.ireturn, 1) := by decide +kernel
theorem dX9_combine_152 : decode cX9_combine 152 = .ok (.iload_n 1, 1) := by decide +kernel
theorem dX9_combine_153 : decode cX9_combine 153 = .ok (.iload_n 2, 1) := by decide +kernel
theorem dX9_combine_154 : decode cX9_combine 154 = .ok (.ior, 1) := by decide +kernel
theorem dX9_combine_155 : decode cX9_combine 155 = .ok (.ireturn, 1) := by decide +kernel
theorem dX9_combine_156 : decode cX9_combine 156 = .ok (.iload_n 1, 1) := by decide +kernel
theorem dX9_combine_157 : decode cX9_combine 157 = .ok (.iload_n 2, 1) := by decide +kernel
theorem dX9_combine_158 : decode cX9_combine 158 = .ok (.if_icmp .ge 7, 3) := by decide +kernel
theorem dX9_combine_161 : decode cX9_combine 161 = .ok (.iconst 1, 1) := by decide +kernel
theorem dX9_combine_162 : decode cX9_combine 162 = .ok (.goto 4, 3) := by decide +kernel
theorem dX9_combine_165 : decode cX9_combine 165 = .ok (.iconst 0, 1) := by decide +kernel
theorem dX9_combine_166 : decode cX9_combine 166 = .ok (.ireturn, 1) := by decide +kernel
theorem dX9_combine_167 : decode cX9_combine 167 = .ok (.iload_n 1, 1) := by decide +kernel
theorem dX9_combine_168 : decode cX9_combine 168 = .ok (.iload_n 2, 1) := by decide +kernel
theorem dX9_combine_169 : decode cX9_combine 169 = .ok (.if_icmp .le 7, 3) := by decide +kernel
theorem dX9_combine_172 : decode cX9_combine 172 = .ok (.iconst 1, 1) := by decide +kernel
theorem dX9_combine_173 : decode cX9_combine 173 = .ok (.goto 4, 3) := by decide +kernel
theorem dX9_combine_176 : decode cX9_combine 176 = .ok (.iconst 0, 1) := by decide +kernel
theorem dX9_combine_177 : decode cX9_combine 177 = .ok (.ireturn, 1) := by decide +kernel
theorem dX9_combine_178 : decode cX9_combine 178 = .ok (.iload_n 1, 1) := by decide +kernel
theorem dX9_combine_179 : decode cX9_combine 179 = .ok (.iload_n 2, 1) := by decide +kernel
theorem dX9_combine_180 : decode cX9_combine 180 = .ok (.if_icmp .ne 7, 3) := by decide +kernel
theorem dX9_combine_183 : decode cX9_combine 183 = .ok (.iconst 1, 1) := by decide +kernel
theorem dX9_combine_184 : decode cX9_combine 184 = .ok (.goto 4, 3) := by decide +kernel
theorem dX9_combine_187 : decode cX9_combine 187 = .ok (.iconst 0, 1) := by decide +kernel
theorem dX9_combine_188 : decode cX9_combine 188 = .ok (.ireturn, 1) := by decide +kernel
theorem dX9_combine_189 : decode cX9_combine 189 = .ok (.iload_n 1, 1) := by decide +kernel
theorem dX9_combine_190 : decode cX9_combine 190 = .ok (.iload_n 2, 1) := by decide +kernel
theorem dX9_combine_191 : decode cX9_combine 191 = .ok (.if_icmp .gt 7, 3) := by decide +kernel
theorem dX9_combine_194 : decode cX9_combine 194 = .ok (.iconst 1, 1) := by decide +kernel
theorem dX9_combine_195 : decode cX9_combine 195 = .ok (.goto 4, 3) := by decide +kernel
theorem dX9_combine_198 : decode cX9_combine 198 = .ok (.iconst 0, 1) := by decide +kernel
theorem dX9_combine_199 : decode cX9_combine 199 = .ok (.ireturn, 1) := by decide +kernel
theorem dX9_combine_200 : decode cX9_combine 200 = .ok (.iload_n 1, 1) := by decide +kernel
theorem dX9_combine_201 : decode cX9_combine 201 = .ok (.iload_n 2, 1) := by decide +kernel
theorem dX9_combine_202 : decode cX9_combine 202 = .ok (.if_icmp .lt 7, 3) := by decide +kernel
theorem dX9_combine_205 : decode cX9_combine 205 = .ok (.iconst 1, 1) := by decide +kernel
theorem dX9_combine_206 : decode cX9_combine 206 = .ok (.goto 4, 3) := by decide +kernel
theorem dX9_combine_209 : decode cX9_combine 209 = .ok (.iconst 0, 1) := by decide +kernel
theorem dX9_combine_210 : decode cX9_combine 210 = .ok (.ireturn, 1) := by decide +kernel
theorem dX9_combine_211 : decode cX9_combine 211 = .ok (.iconst 0, 1) := by decide +kernel
theorem dX9_combine_212 : decode cX9_combine 212 = .ok (.ireturn, 1) := by decide +kernel
theorem dX10_init_0 : decode cX10_init 0 = .ok (.aload_n 0, 1) := by decide +kernel
theorem dX10_init_1 : decode cX10_init 1 = .ok (.invokespecial 3, 3) := by decide +kernel
theorem dX10_init_4 : decode cX10_init 4 = .ok (.aload_n 0, 1) := by decide +kernel
theorem dX10_init_5 : decode cX10_init 5 = .ok (.sipush 2000, 3) := by decide +kernel
theorem dX10_init_8 : decode cX10_init 8 = .ok (.newarray .byte, 2) := by decide +kernel
theorem dX10_init_10 : decode cX10_init 10 = .ok (.putfield 9, 3) := by decide +kernel
theorem dX10_init_13 : decode cX10_init 13 = .ok (.aload_n 0, 1) := by decide +kernel
theorem dX10_init_14 : decode cX10_init 14 = .ok (.sipush 401, 3) := by decide +kernel
theorem dX10_init_17 : decode cX10_init 17 = .ok (.anewarray 15, 3) := by decide +kernel
theorem dX10_init_20 : decode cX10_init 20 = .ok (.putfield 17, 3) := by decide +kernel
theorem dX10_init_23 : decode cX10_init 23 = .ok (.aload_n 0, 1) := by decide +kernel
theorem dX10_init_24 : decode cX10_init 24 = .ok (.sipush 401, 3) := by decide +kernel
theorem dX10_init_27 : decode cX10_init 27 = .ok (.newarray .int, 2) := by decide +kernel
theorem dX10_init_29 : decode cX10_init 29 = .ok (.putfield 21, 3) := by decide +kernel
theorem dX10_init_32 : decode cX10_init 32 = .ok (.aload_n 0, 1) := by decide +kernel
theorem dX10_init_33 : decode cX10_init 33 = .ok (.sipush 401, 3) := by decide +kernel
theorem dX10_init_36 : decode cX10_init 36 = .ok (.newarray .long, 2) := by decide +kernel
theorem dX10_init_38 : decode cX10_init 38 = .ok (.putfield 25, 3) := by decide +kernel
theorem dX10_init_41 : decode cX10_init 41 = .ok (.iconst 0, 1) := by decide +kernel
theorem dX10_init_42 : decode cX10_init 42 = .ok (.istore_n 1, 1) := by decide +kernel
theorem dX10_init_43 : decode cX10_init 43 = .ok (.iload_n 1, 1) := by decide +kernel
theorem dX10_init_44 : decode cX10_init 44 = .ok (.aload_n 0, 1) := by decide +kernel
theorem dX10_init_45 : decode cX10_init 45 = .ok (.getfield 17, 3) := by decide +kernel
theorem dX10_init_48 : decode cX10_init 48 = .ok (.arraylength, 1) := by decide +kernel
theorem dX10_init_49 : decode cX10_init 49 = .ok (.if_icmp .ge 18, 3) := by decide +kernel
theorem dX10_init_52 : decode cX10_init 52 = .ok (.aload_n 0, 1) := by decide +kernel
theorem dX10_init_53 : decode cX10_init 53 = .ok (.getfield 17, 3) := by decide +kernel
theorem dX10_init_56 : decode cX10_init 56 = .ok (.iload_n 1, 1) := by decide +kernel
theorem dX10_init_57 : decode cX10_init 57 = .ok (.getstatic 29, 3) := by decide +kernel
theorem dX10_init_60 : decode cX10_init 60 = .ok (.aastore, 1) := by decide +kernel
theorem dX10_init_61 : decode cX10_init 61 = .ok (.iinc 1 1, 3) := by decide +kernel
theorem dX10_init_64 : decode cX10_init 64 = .ok (.goto (-21), 3) := by decide +kernel
theorem dX10_init_67 : decode cX10_init 67 = .ok (.return_, 1) := by decide +kernel
theorem dX10_append_0 : decode cX10_append 0 = .ok (.bipush 24, 2) := by decide +kernel
theorem dX10_append_2 : decode cX10_append 2 = .ok (.istore_n 2, 1) := by decide +kernel
theorem dX10_append_3 : decode cX10_append 3 = .ok (.iload_n 2, 1) := by decide +kernel
theorem dX10_append_4 : decode cX10_append 4 = .ok (.ifCond .lt 44, 3) := by decide +kernel
theorem dX10_append_7 : decode cX10_append 7 = .ok (.aload_n 0, 1) := by decide +kernel
theorem dX10_append_8 : decode cX10_append 8 = .ok (.getfield 33, 3) := by decide +kernel
theorem dX10_append_11 : decode cX10_append 11 = .ok (.aload_n 0, 1) := by decide +kernel
theorem dX10_append_12 : decode cX10_append 12 = .ok (.getfield 9, 3) := by decide +kernel
theorem dX10_append_15 : decode cX10_append 15 = .ok (.arraylength, 1) := by decide +kernel
theorem dX10_append_16 : decode cX10_append 16 = .ok (.if_icmp .ge 26, 3) := by decide +kernel
theorem dX10_append_19 : decode cX10_append 19 = .ok (.aload_n 0, 1) := by decide +kernel
theorem dX10_append_20 : decode cX10_append 20 = .ok (.getfield 9, 3) := by decide +kernel
theorem dX10_append_23 : decode cX10_append 23 = .ok (.aload_n 0, 1) := by decide +kernel
theorem dX10_append_24 : decode cX10_append 24 = .ok (.getfield 33, 3) := by decide +kernel
theorem dX10_append_27 : decode cX10_append 27 = .ok (.iload_n 1, 1) := by decide +kernel
theorem dX10_append_28 : decode cX10_append 28 = .ok (.iload_n 2, 1) := by decide +kernel
theorem dX10_append_29 : decode cX10_append 29 = .ok (.iushr, 1) := by decide +kernel
theorem dX10_append_30 : decode cX10_append 30 = .ok (.i2b, 1) := by decide +kernel
theorem dX10_append_31 : decode cX10_append 31 = .ok (.bastore, 1) := by decide +kernel
theorem dX10_append_32 : decode cX10_append 32 = .ok (.aload_n 0, 1) := by decide +kernel
theorem dX10_append_33 : decode cX10_append 33 = .ok (.dup, 1) := by decide +kernel
theorem dX10_append_34 : decode cX10_append 34 = .ok (.getfield 33, 3) := by decide +kernel
theorem dX10_append_37 : decode cX10_append 37 = .ok (.iconst 1, 1) := by decide +kernel
theorem dX10_append_38 : decode cX10_append 38 = .ok (.iadd, 1) := by decide +kernel
theorem dX10_append_39 : decode cX10_append 39 = .ok (.putfield 33, 3) := by decide +kernel
theorem dX10_append_42 : decode cX10_append 42 = .ok (.iinc 2 (-8), 3) := by decide +kernel
theorem dX10_append_45 : decode cX10_append 45 = .ok (.goto (-42), 3) := by decide +kernel
theorem dX10_append_48 : decode cX10_append 48 = .ok (.return_, 1) := by decide +kernel
theorem dX10_scan_0 : decode cX10_scan 0 = .ok (.aload_n 0, 1) := by decide +kernel
theorem dX10_scan_1 : decode cX10_scan 1 = .ok (.iconst 0, 1) := by decide +kernel
theorem dX10_scan_2 : decode cX10_scan 2 = .ok (.putfield 37, 3) := by decide +kernel
theorem dX10_scan_5 : decode cX10_scan 5 = .ok (.iconst 0, 1) := by decide +kernel
theorem dX10_scan_6 : decode cX10_scan 6 = .ok (.istore_n 1, 1) := by decide +kernel
theorem dX10_scan_7 : decode cX10_scan 7 = .ok (.iload_n 1, 1) := by decide +kernel
theorem dX10_scan_8 : decode cX10_scan 8 = .ok (.sipush 400, 3) := by decide +kernel
theorem dX10_scan_11 : decode cX10_scan 11 = .ok (.if_icmp .gt 83, 3) := by decide +kernel
theorem dX10_scan_14 : decode cX10_scan 14 = .ok (.aload_n 0, 1) := by decide +kernel
theorem dX10_scan_15 : decode cX10_scan 15 = .ok (.invokevirtual 40, 3) := by decide +kernel
theorem dX10_scan_18 : decode cX10_scan 18 = .ok (.aload_n 0, 1) := by decide +kernel
theorem dX10_scan_19 : decode cX10_scan 19 = .ok (.getfield 21, 3) := by decide +kernel
theorem dX10_scan_22 : decode cX10_scan 22 = .ok (.iload_n 1, 1) := by decide +kernel
theorem dX10_scan_23 : decode cX10_scan 23 = .ok (.aload_n 0, 1) := by decide +kernel
theorem dX10_scan_24 : decode cX10_scan 24 = .ok (.getfield 37, 3) := by decide +kernel
theorem dX10_scan_27 : decode cX10_scan 27 = .ok (.iastore, 1) := by decide +kernel
theorem dX10_scan_28 : decode cX10_scan 28 = .ok (.aload_n 0, 1) := by decide +kernel
theorem dX10_scan_29 : decode cX10_scan 29 = .ok (.getfield 17, 3) := by decide +kernel
theorem dX10_scan_32 : decode cX10_scan 32 = .ok (.iload_n 1, 1) := by decide +kernel
theorem dX10_scan_33 : decode cX10_scan 33 = .ok (.iload_n 1, 1) := by decide +kernel
theorem dX10_scan_34 : decode cX10_scan 34 = .ok (.sipush 400, 3) := by decide +kernel
theorem dX10_scan_37 : decode cX10_scan 37 = .ok (.if_icmp .lt 14, 3) := by decide +kernel
theorem dX10_scan_40 : decode cX10_scan 40 = .ok (.aload_n 0, 1) := by decide +kernel
theorem dX10_scan_41 : decode cX10_scan 41 = .ok (.getfield 37, 3) := by decide +kernel
theorem dX10_scan_44 : decode cX10_scan 44 = .ok (.aload_n 0, 1) := by decide +kernel
theorem dX10_scan_45 : decode cX10_scan 45 = .ok (.getfield 33, 3) := by decide +kernel
theorem dX10_scan_48 : decode cX10_scan 48 = .ok (.if_icmp .lt 11, 3) := by decide +kernel
theorem dX10_scan_51 : decode cX10_scan 51 = .ok (.aload_n 0, 1) := by decide +kernel
theorem dX10_scan_52 : decode cX10_scan 52 = .ok (.iload_n 1, 1) := by decide +kernel
theorem dX10_scan_53 : decode cX10_scan 53 = .ok (.invokevirtual 43, 3) := by decide +kernel
theorem dX10_scan_56 : decode cX10_scan 56 = .ok (.goto 6, 3) := by decide +kernel
theorem dX10_scan_59 : decode cX10_scan 59 = .ok (.getstatic 47, 3) := by decide +kernel
theorem dX10_scan_62 : decode cX10_scan 62 = .ok (.aastore, 1) := by decide +kernel
theorem dX10_scan_63 : decode cX10_scan 63 = .ok (.aload_n 0, 1) := by decide +kernel
theorem dX10_scan_64 : decode cX10_scan 64 = .ok (.getfield 17, 3) := by decide +kernel
theorem dX10_scan_67 : decode cX10_scan 67 = .ok (.iload_n 1, 1) := by decide +kernel
theorem dX10_scan_68 : decode cX10_scan 68 = .ok (.aaload, 1) := by decide +kernel
theorem dX10_scan_69 : decode cX10_scan 69 = .ok (.getstatic 29, 3) := by decide +kernel
theorem dX10_scan_72 : decode cX10_scan 72 = .ok (.if_acmp .eq 15, 3) := by decide +kernel
theorem dX10_scan_75 : decode cX10_scan 75 = .ok (.aload_n 0, 1) := by decide +kernel
theorem dX10_scan_76 : decode cX10_scan 76 = .ok (.getfield 17, 3) := by decide +kernel
theorem dX10_scan_79 : decode cX10_scan 79 = .ok (.iload_n 1, 1) := by decide +kernel
theorem dX10_scan_80 : decode cX10_scan 80 = .ok (.aaload, 1) := by decide +kernel
theorem dX10_scan_81 : decode cX10_scan 81 = .ok (.getstatic 47, 3) := by decide +kernel
theorem dX10_scan_84 : decode cX10_scan 84 = .ok (.if_acmp .ne 4, 3) := by decide +kernel
theorem dX10_scan_87 : decode cX10_scan 87 = .ok (.return_, 1) := by decide +kernel
theorem dX10_scan_88 : decode cX10_scan 88 = .ok (.iinc 1 1, 3) := by decide +kernel
theorem dX10_scan_91 : decode cX10_scan 91 = .ok (.goto (-84), 3) := by decide +kernel
theorem dX10_scan_94 : decode cX10_scan 94 = .ok (.return_, 1) := by decide +kernel
theorem dX10_skipBlanks_0 : decode cX10_skipBlanks 0 = .ok (.aload_n 0, 1) := by decide +kernel
theorem dX10_skipBlanks_1 : decode cX10_skipBlanks 1 = .ok (.getfield 37, 3) := by decide +kernel
theorem dX10_skipBlanks_4 : decode cX10_skipBlanks 4 = .ok (.aload_n 0, 1) := by decide +kernel
theorem dX10_skipBlanks_5 : decode cX10_skipBlanks 5 = .ok (.getfield 33, 3) := by decide +kernel
theorem dX10_skipBlanks_8 : decode cX10_skipBlanks 8 = .ok (.if_icmp .ge 42, 3) := by decide +kernel
theorem dX10_skipBlanks_11 : decode cX10_skipBlanks 11 = .ok (.aload_n 0, 1) := by decide +kernel
theorem dX10_skipBlanks_12 : decode cX10_skipBlanks 12 = .ok (.aload_n 0, 1) := by decide +kernel
theorem dX10_skipBlanks_13 : decode cX10_skipBlanks 13 = .ok (.getfield 37, 3) := by decide +kernel
theorem dX10_skipBlanks_16 : decode cX10_skipBlanks 16 = .ok (.invokevirtual 50, 3) := by decide +kernel
theorem dX10_skipBlanks_19 : decode cX10_skipBlanks 19 = .ok (.bipush 32, 2) := by decide +kernel
theorem dX10_skipBlanks_21 : decode cX10_skipBlanks 21 = .ok (.if_icmp .eq 16, 3) := by decide +kernel
theorem dX10_skipBlanks_24 : decode cX10_skipBlanks 24 = .ok (.aload_n 0, 1) := by decide +kernel
theorem dX10_skipBlanks_25 : decode cX10_skipBlanks 25 = .ok (.aload_n 0, 1) := by decide +kernel
theorem dX10_skipBlanks_26 : decode cX10_skipBlanks 26 = .ok (.getfield 37, 3) := by decide +kernel
theorem dX10_skipBlanks_29 : decode cX10_skipBlanks 29 = .ok (.invokevirtual 50, 3) := by decide +kernel
theorem dX10_skipBlanks_32 : decode cX10_skipBlanks 32 = .ok (.bipush 10, 2) := by decide +kernel
theorem dX10_skipBlanks_34 : decode cX10_skipBlanks 34 = .ok (.if_icmp .ne 16, 3) := by decide +kernel
theorem dX10_skipBlanks_37 : decode cX10_skipBlanks 37 = .ok (.aload_n 0, 1) := by decide +kernel
theorem dX10_skipBlanks_38 : decode cX10_skipBlanks 38 = .ok (.dup, 1) := by decide +kernel
theorem dX10_skipBlanks_39 : decode cX10_skipBlanks 39 = .ok (.getfield 37, 3) := by decide +kernel
theorem dX10_skipBlanks_42 : decode cX10_skipBlanks 42 = .ok (.iconst 1, 1) := by decide +kernel
theorem dX10_skipBlanks_43 : decode cX10_skipBlanks 43 = .ok (.iadd, 1) := by decide +kernel
theorem dX10_skipBlanks_44 : decode cX10_skipBlanks 44 = .ok (.putfield 37, 3) := by decide +kernel
theorem dX10_skipBlanks_47 : decode cX10_skipBlanks 47 = .ok (.goto (-47), 3) := by decide +kernel
theorem dX10_skipBlanks_50 : decode cX10_skipBlanks 50 = .ok (.return_, 1) := by decide +kernel
theorem dX10_scanToken_0 : decode cX10_scanToken 0 = .ok (.aload_n 0, 1) := by decide +kernel
theorem dX10_scanToken_1 : decode cX10_scanToken 1 = .ok (.getfield 37, 3) := by decide +kernel
theorem dX10_scanToken_4 : decode cX10_scanToken 4 = .ok (.aload_n 0, 1) := by decide +kernel
theorem dX10_scanToken_5 : decode cX10_scanToken 5 = .ok (.getfield 33, 3) := by decide +kernel
theorem dX10_scanToken_8 : decode cX10_scanToken 8 = .ok (.if_icmp .lt 7, 3) := by decide +kernel
theorem dX10_scanToken_11 : decode cX10_scanToken 11 = .ok (.getstatic 29, 3) := by decide +kernel
theorem dX10_scanToken_14 : decode cX10_scanToken 14 = .ok (.areturn, 1) := by decide +kernel
theorem dX10_scanToken_15 : decode cX10_scanToken 15 = .ok (.aload_n 0, 1) := by decide +kernel
theorem dX10_scanToken_16 : decode cX10_scanToken 16 = .ok (.aload_n 0, 1) := by decide +kernel
theorem dX10_scanToken_17 : decode cX10_scanToken 17 = .ok (.getfield 37, 3) := by decide +kernel
theorem dX10_scanToken_20 : decode cX10_scanToken 20 = .ok (.invokevirtual 54, 3) := by decide +kernel
theorem dX10_scanToken_23 : decode cX10_scanToken 23 = .ok (.ifCond .eq 9, 3) := by decide +kernel
theorem dX10_scanToken_26 : decode cX10_scanToken 26 = .ok (.aload_n 0, 1) := by decide +kernel
theorem dX10_scanToken_27 : decode cX10_scanToken 27 = .ok (.iload_n 1, 1) := by decide +kernel
theorem dX10_scanToken_28 : decode cX10_scanToken 28 = .ok (.invokevirtual 58, 3) := by decide +kernel
theorem dX10_scanToken_31 : decode cX10_scanToken 31 = .ok (.areturn, 1) := by decide +kernel
theorem dX10_scanToken_32 : decode cX10_scanToken 32 = .ok (.aload_n 0, 1) := by decide +kernel
theorem dX10_scanToken_33 : decode cX10_scanToken 33 = .ok (.aload_n 0, 1) := by decide +kernel
theorem dX10_scanToken_34 : decode cX10_scanToken 34 = .ok (.getfield 37, 3) := by decide +kernel
theorem dX10_scanToken_37 : decode cX10_scanToken 37 = .ok (.invokevirtual 61, 3) := by decide +kernel
theorem dX10_scanToken_40 : decode cX10_scanToken 40 = .ok (.ifCond .eq 11, 3) := by decide +kernel
theorem dX10_scanToken_43 : decode cX10_scanToken 43 = .ok (.aload_n 0, 1) := by decide +kernel
theorem dX10_scanToken_44 : decode cX10_scanToken 44 = .ok (.iload_n 1, 1) := by decide +kernel
theorem dX10_scanToken_45 : decode cX10_scanToken 45 = .ok (.invokevirtual 64, 3) := by decide +kernel
theorem dX10_scanToken_48 : decode cX10_scanToken 48 = .ok (.goto 7, 3) := by decide +kernel
theorem dX10_scanToken_51 : decode cX10_scanToken 51 = .ok (.aload_n 0, 1) := by decide +kernel
theorem dX10_scanToken_52 : decode cX10_scanToken 52 = .ok (.invokevirtual 67, 3) := by decide +kernel
theorem dX10_scanToken_55 : decode cX10_scanToken 55 = .ok (.areturn, 1) := by decide +kernel
theorem dX10_scanWord_0 : decode cX10_scanWord 0 = .ok (.aload_n 0, 1) := by decide +kernel
theorem dX10_scanWord_1 : decode cX10_scanWord 1 = .ok (.getfield 37, 3) := by decide +kernel
theorem dX10_scanWord_4 : decode cX10_scanWord 4 = .ok (.istore_n 2, 1) := by decide +kernel
theorem dX10_scanWord_5 : decode cX10_scanWord 5 = .ok (.lconst 0, 1) := by decide +kernel
theorem dX10_scanWord_6 : decode cX10_scanWord 6 = .ok (.lstore_n 3, 1) := by decide +kernel
theorem dX10_scanWord_7 : decode cX10_scanWord 7 = .ok (.aload_n 0, 1) := by decide +kernel
theorem dX10_scanWord_8 : decode cX10_scanWord 8 = .ok (.getfield 37, 3) := by decide +kernel
theorem dX10_scanWord_11 : decode cX10_scanWord 11 = .ok (.aload_n 0, 1) := by decide +kernel
theorem dX10_scanWord_12 : decode cX10_scanWord 12 = .ok (.getfield 33, 3) := by decide +kernel
theorem dX10_scanWord_15 : decode cX10_scanWord 15 = .ok (.if_icmp .ge 91, 3) := by decide +kernel
theorem dX10_scanWord_18 : decode cX10_scanWord 18 = .ok (.aload_n 0, 1) := by decide +kernel
theorem dX10_scanWord_19 : decode cX10_scanWord 19 = .ok (.aload_n 0, 1) := by decide +kernel
theorem dX10_scanWord_20 : decode cX10_scanWord 20 = .ok (.getfield 37, 3) := by decide +kernel
theorem dX10_scanWord_23 : decode cX10_scanWord 23 = .ok (.invokevirtual 54, 3) := by decide +kernel
theorem dX10_scanWord_26 : decode cX10_scanWord 26 = .ok (.ifCond .ne 14, 3) := by decide +kernel
theorem dX10_scanWord_29 : decode cX10_scanWord 29 = .ok (.aload_n 0, 1) := by decide +kernel
theorem dX10_scanWord_30 : decode cX10_scanWord 30 = .ok (.aload_n 0, 1) := by decide +kernel
theorem dX10_scanWord_31 : decode cX10_scanWord 31 = .ok (.getfield 37, 3) := by decide +kernel
theorem dX10_scanWord_34 : decode cX10_scanWord 34 = .ok (.invokevirtual 61, 3) := by decide +kernel
theorem dX10_scanWord_37 : decode cX10_scanWord 37 = .ok (.ifCond .eq 69, 3) := by decide +kernel
theorem dX10_scanWord_40 : decode cX10_scanWord 40 = .ok (.aload_n 0, 1) := by decide +kernel
theorem dX10_scanWord_41 : decode cX10_scanWord 41 = .ok (.aload_n 0, 1) := by decide +kernel
theorem dX10_scanWord_42 : decode cX10_scanWord 42 = .ok (.getfield 37, 3) := by decide +kernel
theorem dX10_scanWord_45 : decode cX10_scanWord 45 = .ok (.invokevirtual 54, 3) := by decide +kernel
theorem dX10_scanWord_48 : decode cX10_scanWord 48 = .ok (.ifCond .eq 20, 3) := by decide +kernel
theorem dX10_scanWord_51 : decode cX10_scanWord 51 = .ok (.aload_n 0, 1) := by decide +kernel
theorem dX10_scanWord_52 : decode cX10_scanWord 52 = .ok (.aload_n 0, 1) := by decide +kernel
theorem dX10_scanWord_53 : decode cX10_scanWord 53 = .ok (.getfield 37, 3) := by decide +kernel
theorem dX10_scanWord_56 : decode cX10_scanWord 56 = .ok (.invokevirtual 50, 3) := by decide +kernel
theorem dX10_scanWord_59 : decode cX10_scanWord 59 = .ok (.bipush 97, 2) := by decide +kernel
theorem dX10_scanWord_61 : decode cX10_scanWord 61 = .ok (.isub, 1) := by decide +kernel
theorem dX10_scanWord_62 : decode cX10_scanWord 62 = .ok (.bipush 11, 2) := by decide +kernel
theorem dX10_scanWord_64 : decode cX10_scanWord 64 = .ok (.iadd, 1) := by decide +kernel
theorem dX10_scanWord_65 : decode cX10_scanWord 65 = .ok (.goto 16, 3) := by decide +kernel
theorem dX10_scanWord_68 : decode cX10_scanWord 68 = .ok (.aload_n 0, 1) := by decide +kernel
theorem dX10_scanWord_69 : decode cX10_scanWord 69 = .ok (.aload_n 0, 1) := by decide +kernel
theorem dX10_scanWord_70 : decode cX10_scanWord 70 = .ok (.getfield 37, 3) := by decide +kernel
theorem dX10_scanWord_73 : decode cX10_scanWord 73 = .ok (.invokevirtual 50, 3) := by decide +kernel
theorem dX10_scanWord_76 : decode cX10_scanWord 76 = .ok (.bipush 48, 2) := by decide +kernel
theorem dX10_scanWord_78 : decode cX10_scanWord 78 = .ok (.isub, 1) := by decide +kernel
theorem dX10_scanWord_79 : decode cX10_scanWord 79 = .ok (.iconst 1, 1) := by decide +kernel
theorem dX10_scanWord_80 : decode cX10_scanWord 80 = .ok (.iadd, 1) := by decide +kernel
theorem dX10_scanWord_81 : decode cX10_scanWord 81 = .ok (.istore 5, 2) := by decide +kernel
theorem dX10_scanWord_83 : decode cX10_scanWord 83 = .ok (.lload_n 3, 1) := by decide +kernel
theorem dX10_scanWord_84 : decode cX10_scanWord 84 = .ok (.ldc2_w 71, 3) := by decide +kernel
theorem dX10_scanWord_87 : decode cX10_scanWord 87 = .ok (.lmul, 1) := by decide +kernel
theorem dX10_scanWord_88 : decode cX10_scanWord 88 = .ok (.iload 5, 2) := by decide +kernel
theorem dX10_scanWord_90 : decode cX10_scanWord 90 = .ok (.i2l, 1) := by decide +kernel
theorem dX10_scanWord_91 : decode cX10_scanWord 91 = .ok (.ladd, 1) := by decide +kernel
theorem dX10_scanWord_92 : decode cX10_scanWord 92 = .ok (.lstore_n 3, 1) := by decide +kernel
theorem dX10_scanWord_93 : decode cX10_scanWord 93 = .ok (.aload_n 0, 1) := by decide +kernel
theorem dX10_scanWord_94 : decode cX10_scanWord 94 = .ok (.dup, 1) := by decide +kernel
theorem dX10_scanWord_95 : decode cX10_scanWord 95 = .ok (.getfield 37, 3) := by decide +kernel
theorem dX10_scanWord_98 : decode cX10_scanWord 98 = .ok (.iconst 1, 1) := by decide +kernel
theorem dX10_scanWord_99 : decode cX10_scanWord 99 = .ok (.iadd, 1) := by decide +kernel
theorem dX10_scanWord_100 : decode cX10_scanWord 100 = .ok (.putfield 37, 3) := by decide +kernel
theorem dX10_scanWord_103 : decode cX10_scanWord 103 = .ok (.goto (-96), 3) := by decide +kernel
theorem dX10_scanWord_106 : decode cX10_scanWord 106 = .ok (.aload_n 0, 1) := by decide +kernel
theorem dX10_scanWord_107 : decode cX10_scanWord 107 = .ok (.getfield 25, 3) := by decide +kernel
theorem dX10_scanWord_110 : decode cX10_scanWord 110 = .ok (.iload_n 1, 1) := by decide +kernel
theorem dX10_scanWord_111 : decode cX10_scanWord 111 = .ok (.lload_n 3, 1) := by decide +kernel
theorem dX10_scanWord_112 : decode cX10_scanWord 112 = .ok (.lastore, 1) := by decide +kernel
theorem dX10_scanWord_113 : decode cX10_scanWord 113 = .ok (.aload_n 0, 1) := by decide +kernel
theorem dX10_scanWord_114 : decode cX10_scanWord 114 = .ok (.getfield 37, 3) := by decide +kernel
theorem dX10_scanWord_117 : decode cX10_scanWord 117 = .ok (.iload_n 2, 1) := by decide +kernel
theorem dX10_scanWord_118 : decode cX10_scanWord 118 = .ok (.isub, 1) := by decide +kernel
theorem dX10_scanWord_119 : decode cX10_scanWord 119 = .ok (.bipush 10, 2) := by decide +kernel
theorem dX10_scanWord_121 : decode cX10_scanWord 121 = .ok (.if_icmp .le 9, 3) := by decide +kernel
theorem dX10_scanWord_124 : decode cX10_scanWord 124 = .ok (.getstatic 47, 3) := by decide +kernel
theorem dX10_scanWord_127 : decode cX10_scanWord 127 = .ok (.goto 17, 3) := by decide +kernel
theorem dX10_scanWord_130 : decode cX10_scanWord 130 = .ok (.aload_n 0, 1) := by decide +kernel
theorem dX10_scanWord_131 : decode cX10_scanWord 131 = .ok (.iload_n 2, 1) := by decide +kernel
theorem dX10_scanWord_132 : decode cX10_scanWord 132 = .ok (.aload_n 0, 1) := by decide +kernel
theorem dX10_scanWord_133 : decode cX10_scanWord 133 = .ok (.getfield 37, 3) := by decide +kernel
theorem dX10_scanWord_136 : decode cX10_scanWord 136 = .ok (.iload_n 2, 1) := by decide +kernel
theorem dX10_scanWord_137 : decode cX10_scanWord 137 = .ok (.isub, 1) := by decide +kernel
theorem dX10_scanWord_138 : decode cX10_scanWord 138 = .ok (.getstatic 73, 3) := by decide +kernel
theorem dX10_scanWord_141 : decode cX10_scanWord 141 = .ok (.invokevirtual 76, 3) := by decide +kernel
theorem dX10_scanWord_144 : decode cX10_scanWord 144 = .ok (.areturn, 1) := by decide +kernel
theorem dX10_scanNumber_0 : decode cX10_scanNumber 0 = .ok (.aload_n 0, 1) := by decide +kernel
theorem dX10_scanNumber_1 : decode cX10_scanNumber 1 = .ok (.getfield 37, 3) := by decide +kernel
theorem dX10_scanNumber_4 : decode cX10_scanNumber 4 = .ok (.istore_n 2, 1) := by decide +kernel
theorem dX10_scanNumber_5 : decode cX10_scanNumber 5 = .ok (.lconst 0, 1) := by decide +kernel
theorem dX10_scanNumber_6 : decode cX10_scanNumber 6 = .ok (.lstore_n 3, 1) := by decide +kernel
theorem dX10_scanNumber_7 : decode cX10_scanNumber 7 = .ok (.aload_n 0, 1) := by decide +kernel
theorem dX10_scanNumber_8 : decode cX10_scanNumber 8 = .ok (.getfield 37, 3) := by decide +kernel
theorem dX10_scanNumber_11 : decode cX10_scanNumber 11 = .ok (.aload_n 0, 1) := by decide +kernel
theorem dX10_scanNumber_12 : decode cX10_scanNumber 12 = .ok (.getfield 33, 3) := by decide +kernel
theorem dX10_scanNumber_15 : decode cX10_scanNumber 15 = .ok (.if_icmp .ge 46, 3) := by decide +kernel
theorem dX10_scanNumber_18 : decode cX10_scanNumber 18 = .ok (.aload_n 0, 1) := by decide +kernel
theorem dX10_scanNumber_19 : decode cX10_scanNumber 19 = .ok (.aload_n 0, 1) := by decide +kernel
theorem dX10_scanNumber_20 : decode cX10_scanNumber 20 = .ok (.getfield 37, 3) := by decide +kernel
theorem dX10_scanNumber_23 : decode cX10_scanNumber 23 = .ok (.invokevirtual 61, 3) := by decide +kernel
theorem dX10_scanNumber_26 : decode cX10_scanNumber 26 = .ok (.ifCond .eq 35, 3) := by decide +kernel
theorem dX10_scanNumber_29 : decode cX10_scanNumber 29 = .ok (.lload_n 3, 1) := by decide +kernel
theorem dX10_scanNumber_30 : decode cX10_scanNumber 30 = .ok (.ldc2_w 80, 3) := by decide +kernel
theorem dX10_scanNumber_33 : decode cX10_scanNumber 33 = .ok (.lmul, 1) := by decide +kernel
theorem dX10_scanNumber_34 : decode cX10_scanNumber 34 = .ok (.aload_n 0, 1) := by decide +kernel
theorem dX10_scanNumber_35 : decode cX10_scanNumber 35 = .ok (.aload_n 0, 1) := by decide +kernel
theorem dX10_scanNumber_36 : decode cX10_scanNumber 36 = .ok (.getfield 37, 3) := by decide +kernel
theorem dX10_scanNumber_39 : decode cX10_scanNumber 39 = .ok (.invokevirtual 50, 3) := by decide +kernel
theorem dX10_scanNumber_42 : decode cX10_scanNumber 42 = .ok (.bipush 48, 2) := by decide +kernel
theorem dX10_scanNumber_44 : decode cX10_scanNumber 44 = .ok (.isub, 1) := by decide +kernel
theorem dX10_scanNumber_45 : decode cX10_scanNumber 45 = .ok (.i2l, 1) := by decide +kernel
theorem dX10_scanNumber_46 : decode cX10_scanNumber 46 = .ok (.ladd, 1) := by decide +kernel
theorem dX10_scanNumber_47 : decode cX10_scanNumber 47 = .ok (.lstore_n 3, 1) := by decide +kernel
theorem dX10_scanNumber_48 : decode cX10_scanNumber 48 = .ok (.aload_n 0, 1) := by decide +kernel
theorem dX10_scanNumber_49 : decode cX10_scanNumber 49 = .ok (.dup, 1) := by decide +kernel
theorem dX10_scanNumber_50 : decode cX10_scanNumber 50 = .ok (.getfield 37, 3) := by decide +kernel
theorem dX10_scanNumber_53 : decode cX10_scanNumber 53 = .ok (.iconst 1, 1) := by decide +kernel
theorem dX10_scanNumber_54 : decode cX10_scanNumber 54 = .ok (.iadd, 1) := by decide +kernel
theorem dX10_scanNumber_55 : decode cX10_scanNumber 55 = .ok (.putfield 37, 3) := by decide +kernel
theorem dX10_scanNumber_58 : decode cX10_scanNumber 58 = .ok (.goto (-51), 3) := by decide +kernel
theorem dX10_scanNumber_61 : decode cX10_scanNumber 61 = .ok (.aload_n 0, 1) := by decide +kernel
theorem dX10_scanNumber_62 : decode cX10_scanNumber 62 = .ok (.getfield 25, 3) := by decide +kernel
theorem dX10_scanNumber_65 : decode cX10_scanNumber 65 = .ok (.iload_n 1, 1) := by decide +kernel
theorem dX10_scanNumber_66 : decode cX10_scanNumber 66 = .ok (.lload_n 3, 1) := by decide +kernel
theorem dX10_scanNumber_67 : decode cX10_scanNumber 67 = .ok (.lastore, 1) := by decide +kernel
theorem dX10_scanNumber_68 : decode cX10_scanNumber 68 = .ok (.aload_n 0, 1) := by decide +kernel
theorem dX10_scanNumber_69 : decode cX10_scanNumber 69 = .ok (.getfield 37, 3) := by decide +kernel
theorem dX10_scanNumber_72 : decode cX10_scanNumber 72 = .ok (.iload_n 2, 1) := by decide +kernel
theorem dX10_scanNumber_73 : decode cX10_scanNumber 73 = .ok (.isub, 1) := by decide +kernel
theorem dX10_scanNumber_74 : decode cX10_scanNumber 74 = .ok (.bipush 6, 2) := by decide +kernel
theorem dX10_scanNumber_76 : decode cX10_scanNumber 76 = .ok (.if_icmp .le 9, 3) := by decide +kernel
theorem dX10_scanNumber_79 : decode cX10_scanNumber 79 = .ok (.getstatic 47, 3) := by decide +kernel
theorem dX10_scanNumber_82 : decode cX10_scanNumber 82 = .ok (.goto 6, 3) := by decide +kernel
theorem dX10_scanNumber_85 : decode cX10_scanNumber 85 = .ok (.getstatic 82, 3) := by decide +kernel
theorem dX10_scanNumber_88 : decode cX10_scanNumber 88 = .ok (.areturn, 1) := by decide +kernel
theorem dX10_scanSymbol_0 : decode cX10_scanSymbol 0 = .ok (.iconst 2, 1) := by decide +kernel
theorem dX10_scanSymbol_1 : decode cX10_scanSymbol 1 = .ok (.istore_n 1, 1) := by decide +kernel
theorem dX10_scanSymbol_2 : decode cX10_scanSymbol 2 = .ok (.iload_n 1, 1) := by decide +kernel
theorem dX10_scanSymbol_3 : decode cX10_scanSymbol 3 = .ok (.iconst 1, 1) := by decide +kernel
theorem dX10_scanSymbol_4 : decode cX10_scanSymbol 4 = .ok (.if_icmp .lt 41, 3) := by decide +kernel
theorem dX10_scanSymbol_7 : decode cX10_scanSymbol 7 = .ok (.aload_n 0, 1) := by decide +kernel
theorem dX10_scanSymbol_8 : decode cX10_scanSymbol 8 = .ok (.aload_n 0, 1) := by decide +kernel
theorem dX10_scanSymbol_9 : decode cX10_scanSymbol 9 = .ok (.getfield 37, 3) := by decide +kernel
theorem dX10_scanSymbol_12 : decode cX10_scanSymbol 12 = .ok (.iload_n 1, 1) := by decide +kernel
theorem dX10_scanSymbol_13 : decode cX10_scanSymbol 13 = .ok (.getstatic 47, 3) := by decide +kernel
theorem dX10_scanSymbol_16 : decode cX10_scanSymbol 16 = .ok (.invokevirtual 76, 3) := by decide +kernel
theorem dX10_scanSymbol_19 : decode cX10_scanSymbol 19 = .ok (.astore_n 2, 1) := by decide +kernel
theorem dX10_scanSymbol_20 : decode cX10_scanSymbol 20 = .ok (.aload_n 2, 1) := by decide +kernel
theorem dX10_scanSymbol_21 : decode cX10_scanSymbol 21 = .ok (.getstatic 47, 3) := by decide +kernel
theorem dX10_scanSymbol_24 : decode cX10_scanSymbol 24 = .ok (.if_acmp .eq 15, 3) := by decide +kernel
theorem dX10_scanSymbol_27 : decode cX10_scanSymbol 27 = .ok (.aload_n 0, 1) := by decide +kernel
theorem dX10_scanSymbol_28 : decode cX10_scanSymbol 28 = .ok (.dup, 1) := by decide +kernel
theorem dX10_scanSymbol_29 : decode cX10_scanSymbol 29 = .ok (.getfield 37, 3) := by decide +kernel
theorem dX10_scanSymbol_32 : decode cX10_scanSymbol 32 = .ok (.iload_n 1, 1) := by decide +kernel
theorem dX10_scanSymbol_33 : decode cX10_scanSymbol 33 = .ok (.iadd, 1) := by decide +kernel
theorem dX10_scanSymbol_34 : decode cX10_scanSymbol 34 = .ok (.putfield 37, 3) := by decide +kernel
theorem dX10_scanSymbol_37 : decode cX10_scanSymbol 37 = .ok (.aload_n 2, 1) := by decide +kernel
theorem dX10_scanSymbol_38 : decode cX10_scanSymbol 38 = .ok (.areturn, 1) := by decide +kernel
theorem dX10_scanSymbol_39 : decode cX10_scanSymbol 39 = .ok (.iinc 1 (-1), 3) := by decide +kernel
theorem dX10_scanSymbol_42 : decode cX10_scanSymbol 42 = .ok (.goto (-40), 3) := by decide +kernel
theorem dX10_scanSymbol_45 : decode cX10_scanSymbol 45 = .ok (.getstatic 47, 3) := by decide +kernel
theorem dX10_scanSymbol_48 : decode cX10_scanSymbol 48 = .ok (.areturn, 1) := by decide +kernel
theorem dX10_signOf_0 : decode cX10_signOf 0 = .ok (.getstatic 85, 3) := by decide +kernel
theorem dX10_signOf_3 : decode cX10_signOf 3 = .ok (.astore 4, 2) := by decide +kernel
theorem dX10_signOf_5 : decode cX10_signOf 5 = .ok (.aload 4, 2) := by decide +kernel
theorem dX10_signOf_7 : decode cX10_signOf 7 = .ok (.arraylength, 1) := by decide +kernel
theorem dX10_signOf_8 : decode cX10_signOf 8 = .ok (.istore 5, 2) := by decide +kernel
theorem dX10_signOf_10 : decode cX10_signOf 10 = .ok (.iconst 0, 1) := by decide +kernel
theorem dX10_signOf_11 : decode cX10_signOf 11 = .ok (.istore 6, 2) := by decide +kernel
theorem dX10_signOf_13 : decode cX10_signOf 13 = .ok (.iload 6, 2) := by decide +kernel
theorem dX10_signOf_15 : decode cX10_signOf 15 = .ok (.iload 5, 2) := by decide +kernel
theorem dX10_signOf_17 : decode cX10_signOf 17 = .ok (.if_icmp .ge 33, 3) := by decide +kernel
theorem dX10_signOf_20 : decode cX10_signOf 20 = .ok (.aload 4, 2) := by decide +kernel
theorem dX10_signOf_22 : decode cX10_signOf 22 = .ok (.iload 6, 2) := by decide +kernel
theorem dX10_signOf_24 : decode cX10_signOf 24 = .ok (.aaload, 1) := by decide +kernel
theorem dX10_signOf_25 : decode cX10_signOf 25 = .ok (.astore 7, 2) := by decide +kernel
theorem dX10_signOf_27 : decode cX10_signOf 27 = .ok (.aload_n 0, 1) := by decide +kernel
theorem dX10_signOf_28 : decode cX10_signOf 28 = .ok (.aload 7, 2) := by decide +kernel
theorem dX10_signOf_30 : decode cX10_signOf 30 = .ok (.getfield 88, 3) := by decide +kernel
theorem dX10_signOf_33 : decode cX10_signOf 33 = .ok (.iload_n 1, 1) := by decide +kernel
theorem dX10_signOf_34 : decode cX10_signOf 34 = .ok (.iload_n 2, 1) := by decide +kernel
theorem dX10_signOf_35 : decode cX10_signOf 35 = .ok (.invokevirtual 92, 3) := by decide +kernel
theorem dX10_signOf_38 : decode cX10_signOf 38 = .ok (.ifCond .eq 6, 3) := by decide +kernel
theorem dX10_signOf_41 : decode cX10_signOf 41 = .ok (.aload 7, 2) := by decide +kernel
theorem dX10_signOf_43 : decode cX10_signOf 43 = .ok (.areturn, 1) := by decide +kernel
theorem dX10_signOf_44 : decode cX10_signOf 44 = .ok (.iinc 6 1, 3) := by decide +kernel
theorem dX10_signOf_47 : decode cX10_signOf 47 = .ok (.goto (-34), 3) := by decide +kernel
theorem dX10_signOf_50 : decode cX10_signOf 50 = .ok (.aload_n 3, 1) := by decide +kernel
theorem dX10_signOf_51 : decode cX10_signOf 51 = .ok (.areturn, 1) := by decide +kernel
theorem dX10_reads_0 : decode cX10_reads 0 = .ok (.aload_n 1, 1) := by decide +kernel
theorem dX10_reads_1 : decode cX10_reads 1 = .ok (.invokevirtual 96, 3) := by decide +kernel
theorem dX10_reads_4 : decode cX10_reads 4 = .ok (.iload_n 3, 1) := by decide +kernel
theorem dX10_reads_5 : decode cX10_reads 5 = .ok (.if_icmp .eq 5, 3) := by decide +kernel
theorem dX10_reads_8 : decode cX10_reads 8 = .ok (.iconst 0, 1) := by decide +kernel
theorem dX10_reads_9 : decode cX10_reads 9 = .ok (.ireturn, 1) := by decide +kernel
theorem dX10_reads_10 : decode cX10_reads 10 = .ok (.iconst 0, 1) := by decide +kernel
theorem dX10_reads_11 : decode cX10_reads 11 = .ok (.istore 4, 2) := by decide +kernel
theorem dX10_reads_13 : decode cX10_reads 13 = .ok (.iload 4, 2) := by decide +kernel
theorem dX10_reads_15 : decode cX10_reads 15 = .ok (.iload_n 3, 1) := by decide +kernel
theorem dX10_reads_16 : decode cX10_reads 16 = .ok (.if_icmp .ge 28, 3) := by decide +kernel
theorem dX10_reads_19 : decode cX10_reads 19 = .ok (.aload_n 0, 1) := by decide +kernel
theorem dX10_reads_20 : decode cX10_reads 20 = .ok (.iload_n 2, 1) := by decide +kernel
theorem dX10_reads_21 : decode cX10_reads 21 = .ok (.iload 4, 2) := by decide +kernel
theorem dX10_reads_23 : decode cX10_reads 23 = .ok (.iadd, 1) := by decide +kernel
theorem dX10_reads_24 : decode cX10_reads 24 = .ok (.invokevirtual 50, 3) := by decide +kernel
theorem dX10_reads_27 : decode cX10_reads 27 = .ok (.aload_n 1, 1) := by decide +kernel
theorem dX10_reads_28 : decode cX10_reads 28 = .ok (.iload 4, 2) := by decide +kernel
theorem dX10_reads_30 : decode cX10_reads 30 = .ok (.invokevirtual 101, 3) := by decide +kernel
theorem dX10_reads_33 : decode cX10_reads 33 = .ok (.if_icmp .eq 5, 3) := by decide +kernel
theorem dX10_reads_36 : decode cX10_reads 36 = .ok (.iconst 0, 1) := by decide +kernel
theorem dX10_reads_37 : decode cX10_reads 37 = .ok (.ireturn, 1) := by decide +kernel
theorem dX10_reads_38 : decode cX10_reads 38 = .ok (.iinc 4 1, 3) := by decide +kernel
theorem dX10_reads_41 : decode cX10_reads 41 = .ok (.goto (-28), 3) := by decide +kernel
theorem dX10_reads_44 : decode cX10_reads 44 = .ok (.iconst 1, 1) := by decide +kernel
theorem dX10_reads_45 : decode cX10_reads 45 = .ok (.ireturn, 1) := by decide +kernel
theorem dX10_isLetter_0 : decode cX10_isLetter 0 = .ok (.aload_n 0, 1) := by decide +kernel
theorem dX10_isLetter_1 : decode cX10_isLetter 1 = .ok (.iload_n 1, 1) := by decide +kernel
theorem dX10_isLetter_2 : decode cX10_isLetter 2 = .ok (.invokevirtual 50, 3) := by decide +kernel
theorem dX10_isLetter_5 : decode cX10_isLetter 5 = .ok (.bipush 97, 2) := by decide +kernel
theorem dX10_isLetter_7 : decode cX10_isLetter 7 = .ok (.if_icmp .lt 17, 3) := by decide +kernel
theorem dX10_isLetter_10 : decode cX10_isLetter 10 = .ok (.aload_n 0, 1) := by decide +kernel
theorem dX10_isLetter_11 : decode cX10_isLetter 11 = .ok (.iload_n 1, 1) := by decide +kernel
theorem dX10_isLetter_12 : decode cX10_isLetter 12 = .ok (.invokevirtual 50, 3) := by decide +kernel
theorem dX10_isLetter_15 : decode cX10_isLetter 15 = .ok (.bipush 122, 2) := by decide +kernel
theorem dX10_isLetter_17 : decode cX10_isLetter 17 = .ok (.if_icmp .gt 7, 3) := by decide +kernel
theorem dX10_isLetter_20 : decode cX10_isLetter 20 = .ok (.iconst 1, 1) := by decide +kernel
theorem dX10_isLetter_21 : decode cX10_isLetter 21 = .ok (.goto 4, 3) := by decide +kernel
theorem dX10_isLetter_24 : decode cX10_isLetter 24 = .ok (.iconst 0, 1) := by decide +kernel
theorem dX10_isLetter_25 : decode cX10_isLetter 25 = .ok (.ireturn, 1) := by decide +kernel
theorem dX10_isDigit_0 : decode cX10_isDigit 0 = .ok (.aload_n 0, 1) := by decide +kernel
theorem dX10_isDigit_1 : decode cX10_isDigit 1 = .ok (.iload_n 1, 1) := by decide +kernel
theorem dX10_isDigit_2 : decode cX10_isDigit 2 = .ok (.invokevirtual 50, 3) := by decide +kernel
theorem dX10_isDigit_5 : decode cX10_isDigit 5 = .ok (.bipush 48, 2) := by decide +kernel
theorem dX10_isDigit_7 : decode cX10_isDigit 7 = .ok (.if_icmp .lt 17, 3) := by decide +kernel
theorem dX10_isDigit_10 : decode cX10_isDigit 10 = .ok (.aload_n 0, 1) := by decide +kernel
theorem dX10_isDigit_11 : decode cX10_isDigit 11 = .ok (.iload_n 1, 1) := by decide +kernel
theorem dX10_isDigit_12 : decode cX10_isDigit 12 = .ok (.invokevirtual 50, 3) := by decide +kernel
theorem dX10_isDigit_15 : decode cX10_isDigit 15 = .ok (.bipush 57, 2) := by decide +kernel
theorem dX10_isDigit_17 : decode cX10_isDigit 17 = .ok (.if_icmp .gt 7, 3) := by decide +kernel
theorem dX10_isDigit_20 : decode cX10_isDigit 20 = .ok (.iconst 1, 1) := by decide +kernel
theorem dX10_isDigit_21 : decode cX10_isDigit 21 = .ok (.goto 4, 3) := by decide +kernel
theorem dX10_isDigit_24 : decode cX10_isDigit 24 = .ok (.iconst 0, 1) := by decide +kernel
theorem dX10_isDigit_25 : decode cX10_isDigit 25 = .ok (.ireturn, 1) := by decide +kernel
theorem dX10_at_0 : decode cX10_at 0 = .ok (.iload_n 1, 1) := by decide +kernel
theorem dX10_at_1 : decode cX10_at 1 = .ok (.ifCond .lt 20, 3) := by decide +kernel
theorem dX10_at_4 : decode cX10_at 4 = .ok (.iload_n 1, 1) := by decide +kernel
theorem dX10_at_5 : decode cX10_at 5 = .ok (.aload_n 0, 1) := by decide +kernel
theorem dX10_at_6 : decode cX10_at 6 = .ok (.getfield 33, 3) := by decide +kernel
theorem dX10_at_9 : decode cX10_at 9 = .ok (.if_icmp .ge 12, 3) := by decide +kernel
theorem dX10_at_12 : decode cX10_at 12 = .ok (.aload_n 0, 1) := by decide +kernel
theorem dX10_at_13 : decode cX10_at 13 = .ok (.getfield 9, 3) := by decide +kernel
theorem dX10_at_16 : decode cX10_at 16 = .ok (.iload_n 1, 1) := by decide +kernel
theorem dX10_at_17 : decode cX10_at 17 = .ok (.baload, 1) := by decide +kernel
theorem dX10_at_18 : decode cX10_at 18 = .ok (.goto 4, 3) := by decide +kernel
theorem dX10_at_21 : decode cX10_at 21 = .ok (.iconst 0, 1) := by decide +kernel
theorem dX10_at_22 : decode cX10_at 22 = .ok (.ireturn, 1) := by decide +kernel
theorem dJ11_isValidCodePoint_9a6ad_0 : decode cJ11_isValidCodePoint_9a6ad 0 = .ok (.iload_n 0, 1) := by decide +kernel
theorem dJ11_isValidCodePoint_9a6ad_1 : decode cJ11_isValidCodePoint_9a6ad 1 = .ok (.bipush 16, 2) := by decide +kernel
theorem dJ11_isValidCodePoint_9a6ad_3 : decode cJ11_isValidCodePoint_9a6ad 3 = .ok (.iushr, 1) := by decide +kernel
theorem dJ11_isValidCodePoint_9a6ad_4 : decode cJ11_isValidCodePoint_9a6ad 4 = .ok (.istore_n 1, 1) := by decide +kernel
theorem dJ11_isValidCodePoint_9a6ad_5 : decode cJ11_isValidCodePoint_9a6ad 5 = .ok (.iload_n 1, 1) := by decide +kernel
theorem dJ11_isValidCodePoint_9a6ad_6 : decode cJ11_isValidCodePoint_9a6ad 6 = .ok (.bipush 17, 2) := by decide +kernel
theorem dJ11_isValidCodePoint_9a6ad_8 : decode cJ11_isValidCodePoint_9a6ad 8 = .ok (.if_icmp .ge 7, 3) := by decide +kernel
theorem dJ11_isValidCodePoint_9a6ad_11 : decode cJ11_isValidCodePoint_9a6ad 11 = .ok (.iconst 1, 1) := by decide +kernel
theorem dJ11_isValidCodePoint_9a6ad_12 : decode cJ11_isValidCodePoint_9a6ad 12 = .ok (.goto 4, 3) := by decide +kernel
theorem dJ11_isValidCodePoint_9a6ad_15 : decode cJ11_isValidCodePoint_9a6ad 15 = .ok (.iconst 0, 1) := by decide +kernel
theorem dJ11_isValidCodePoint_9a6ad_16 : decode cJ11_isValidCodePoint_9a6ad 16 = .ok (.ireturn, 1) := by decide +kernel
theorem dJ11_highSurrogate_5068e_0 : decode cJ11_highSurrogate_5068e 0 = .ok (.iload_n 0, 1) := by decide +kernel
theorem dJ11_highSurrogate_5068e_1 : decode cJ11_highSurrogate_5068e 1 = .ok (.bipush 10, 2) := by decide +kernel
theorem dJ11_highSurrogate_5068e_3 : decode cJ11_highSurrogate_5068e 3 = .ok (.iushr, 1) := by decide +kernel
theorem dJ11_highSurrogate_5068e_4 : decode cJ11_highSurrogate_5068e 4 = .ok (.ldc 110, 2) := by decide +kernel
theorem dJ11_highSurrogate_5068e_6 : decode cJ11_highSurrogate_5068e 6 = .ok (.iadd, 1) := by decide +kernel
theorem dJ11_highSurrogate_5068e_7 : decode cJ11_highSurrogate_5068e 7 = .ok (.i2c, 1) := by decide +kernel
theorem dJ11_highSurrogate_5068e_8 : decode cJ11_highSurrogate_5068e 8 = .ok (.ireturn, 1) := by decide +kernel
theorem dJ11_lowSurrogate_5068e_0 : decode cJ11_lowSurrogate_5068e 0 = .ok (.iload_n 0, 1) := by decide +kernel
theorem dJ11_lowSurrogate_5068e_1 : decode cJ11_lowSurrogate_5068e 1 = .ok (.sipush 1023, 3) := by decide +kernel
theorem dJ11_lowSurrogate_5068e_4 : decode cJ11_lowSurrogate_5068e 4 = .ok (.iand, 1) := by decide +kernel
theorem dJ11_lowSurrogate_5068e_5 : decode cJ11_lowSurrogate_5068e 5 = .ok (.ldc 76, 2) := by decide +kernel
theorem dJ11_lowSurrogate_5068e_7 : decode cJ11_lowSurrogate_5068e 7 = .ok (.iadd, 1) := by decide +kernel
theorem dJ11_lowSurrogate_5068e_8 : decode cJ11_lowSurrogate_5068e 8 = .ok (.i2c, 1) := by decide +kernel
theorem dJ11_lowSurrogate_5068e_9 : decode cJ11_lowSurrogate_5068e 9 = .ok (.ireturn, 1) := by decide +kernel
theorem dJx29ce0_ordinal_8abf5_0 : decode cJx29ce0_ordinal_8abf5 0 = .ok (.aload_n 0, 1) := by decide +kernel
theorem dJx29ce0_ordinal_8abf5_1 : decode cJx29ce0_ordinal_8abf5 1 = .ok (.getfield 7, 3) := by decide +kernel
theorem dJx29ce0_ordinal_8abf5_4 : decode cJx29ce0_ordinal_8abf5 4 = .ok (.ireturn, 1) := by decide +kernel
theorem dJ9_max_7cf53_0 : decode cJ9_max_7cf53 0 = .ok (.iload_n 0, 1) := by decide +kernel
theorem dJ9_max_7cf53_1 : decode cJ9_max_7cf53 1 = .ok (.iload_n 1, 1) := by decide +kernel
theorem dJ9_max_7cf53_2 : decode cJ9_max_7cf53 2 = .ok (.if_icmp .lt 7, 3) := by decide +kernel
theorem dJ9_max_7cf53_5 : decode cJ9_max_7cf53 5 = .ok (.iload_n 0, 1) := by decide +kernel
theorem dJ9_max_7cf53_6 : decode cJ9_max_7cf53 6 = .ok (.goto 4, 3) := by decide +kernel
theorem dJ9_max_7cf53_9 : decode cJ9_max_7cf53 9 = .ok (.iload_n 1, 1) := by decide +kernel
theorem dJ9_max_7cf53_10 : decode cJ9_max_7cf53 10 = .ok (.ireturn, 1) := by decide +kernel
theorem dJ9_min_7cf53_0 : decode cJ9_min_7cf53 0 = .ok (.iload_n 0, 1) := by decide +kernel
theorem dJ9_min_7cf53_1 : decode cJ9_min_7cf53 1 = .ok (.iload_n 1, 1) := by decide +kernel
theorem dJ9_min_7cf53_2 : decode cJ9_min_7cf53 2 = .ok (.if_icmp .gt 7, 3) := by decide +kernel
theorem dJ9_min_7cf53_5 : decode cJ9_min_7cf53 5 = .ok (.iload_n 0, 1) := by decide +kernel
theorem dJ9_min_7cf53_6 : decode cJ9_min_7cf53 6 = .ok (.goto 4, 3) := by decide +kernel
theorem dJ9_min_7cf53_9 : decode cJ9_min_7cf53 9 = .ok (.iload_n 1, 1) := by decide +kernel
theorem dJ9_min_7cf53_10 : decode cJ9_min_7cf53 10 = .ok (.ireturn, 1) := by decide +kernel
theorem dJ0_length_8abf5_0 : decode cJ0_length_8abf5 0 = .ok (.aload_n 0, 1) := by decide +kernel
theorem dJ0_length_8abf5_1 : decode cJ0_length_8abf5 1 = .ok (.getfield 9, 3) := by decide +kernel
theorem dJ0_length_8abf5_4 : decode cJ0_length_8abf5 4 = .ok (.arraylength, 1) := by decide +kernel
theorem dJ0_length_8abf5_5 : decode cJ0_length_8abf5 5 = .ok (.aload_n 0, 1) := by decide +kernel
theorem dJ0_length_8abf5_6 : decode cJ0_length_8abf5 6 = .ok (.invokevirtual 335, 3) := by decide +kernel
theorem dJ0_length_8abf5_9 : decode cJ0_length_8abf5 9 = .ok (.ishr, 1) := by decide +kernel
theorem dJ0_length_8abf5_10 : decode cJ0_length_8abf5 10 = .ok (.ireturn, 1) := by decide +kernel
theorem dJ0_charAt_5068e_0 : decode cJ0_charAt_5068e 0 = .ok (.aload_n 0, 1) := by decide +kernel
theorem dJ0_charAt_5068e_1 : decode cJ0_charAt_5068e 1 = .ok (.invokevirtual 492, 3) := by decide +kernel
theorem dJ0_charAt_5068e_4 : decode cJ0_charAt_5068e 4 = .ok (.ifCond .eq 12, 3) := by decide +kernel
theorem dJ0_charAt_5068e_7 : decode cJ0_charAt_5068e 7 = .ok (.aload_n 0, 1) := by decide +kernel
theorem dJ0_charAt_5068e_8 : decode cJ0_charAt_5068e 8 = .ok (.getfield 9, 3) := by decide +kernel
theorem dJ0_charAt_5068e_11 : decode cJ0_charAt_5068e 11 = .ok (.iload_n 1, 1) := by decide +kernel
theorem dJ0_charAt_5068e_12 : decode cJ0_charAt_5068e 12 = .ok (.invokestatic 495, 3) := by decide +kernel
theorem dJ0_charAt_5068e_15 : decode cJ0_charAt_5068e 15 = .ok (.ireturn, 1) := by decide +kernel
theorem dJ0_charAt_5068e_16 : decode cJ0_charAt_5068e 16 = .ok (.aload_n 0, 1) := by decide +kernel
theorem dJ0_charAt_5068e_17 : decode cJ0_charAt_5068e 17 = .ok (.getfield 9, 3) := by decide +kernel
theorem dJ0_charAt_5068e_20 : decode cJ0_charAt_5068e 20 = .ok (.iload_n 1, 1) := by decide +kernel
theorem dJ0_charAt_5068e_21 : decode cJ0_charAt_5068e 21 = .ok (.invokestatic 498, 3) := by decide +kernel
theorem dJ0_charAt_5068e_24 : decode cJ0_charAt_5068e 24 = .ok (.ireturn, 1) := by decide +kernel
theorem dJ0_indexOf_0f7a4_0 : decode cJ0_indexOf_0f7a4 0 = .ok (.aload_n 0, 1) := by decide +kernel
theorem dJ0_indexOf_0f7a4_1 : decode cJ0_indexOf_0f7a4 1 = .ok (.iload_n 1, 1) := by decide +kernel
theorem dJ0_indexOf_0f7a4_2 : decode cJ0_indexOf_0f7a4 2 = .ok (.iconst 0, 1) := by decide +kernel
theorem dJ0_indexOf_0f7a4_3 : decode cJ0_indexOf_0f7a4 3 = .ok (.invokevirtual 633, 3) := by decide +kernel
theorem dJ0_indexOf_0f7a4_6 : decode cJ0_indexOf_0f7a4 6 = .ok (.ireturn, 1) := by decide +kernel
theorem dJ0_indexOf_7cf53_0 : decode cJ0_indexOf_7cf53 0 = .ok (.aload_n 0, 1) := by decide +kernel
theorem dJ0_indexOf_7cf53_1 : decode cJ0_indexOf_7cf53 1 = .ok (.invokevirtual 492, 3) := by decide +kernel
theorem dJ0_indexOf_7cf53_4 : decode cJ0_indexOf_7cf53 4 = .ok (.ifCond .eq 19, 3) := by decide +kernel
theorem dJ0_indexOf_7cf53_7 : decode cJ0_indexOf_7cf53 7 = .ok (.aload_n 0, 1) := by decide +kernel
theorem dJ0_indexOf_7cf53_8 : decode cJ0_indexOf_7cf53 8 = .ok (.getfield 9, 3) := by decide +kernel
theorem dJ0_indexOf_7cf53_11 : decode cJ0_indexOf_7cf53 11 = .ok (.iload_n 1, 1) := by decide +kernel
theorem dJ0_indexOf_7cf53_12 : decode cJ0_indexOf_7cf53 12 = .ok (.iload_n 2, 1) := by decide +kernel
theorem dJ0_indexOf_7cf53_13 : decode cJ0_indexOf_7cf53 13 = .ok (.aload_n 0, 1) := by decide +kernel
theorem dJ0_indexOf_7cf53_14 : decode cJ0_indexOf_7cf53 14 = .ok (.invokevirtual 505, 3) := by decide +kernel
theorem dJ0_indexOf_7cf53_17 : decode cJ0_indexOf_7cf53 17 = .ok (.invokestatic 637, 3) := by decide +kernel
theorem dJ0_indexOf_7cf53_20 : decode cJ0_indexOf_7cf53 20 = .ok (.goto 16, 3) := by decide +kernel
theorem dJ0_indexOf_7cf53_23 : decode cJ0_indexOf_7cf53 23 = .ok (.aload_n 0, 1) := by decide +kernel
theorem dJ0_indexOf_7cf53_24 : decode cJ0_indexOf_7cf53 24 = .ok (.getfield 9, 3) := by decide +kernel
theorem dJ0_indexOf_7cf53_27 : decode cJ0_indexOf_7cf53 27 = .ok (.iload_n 1, 1) := by decide +kernel
theorem dJ0_indexOf_7cf53_28 : decode cJ0_indexOf_7cf53 28 = .ok (.iload_n 2, 1) := by decide +kernel
theorem dJ0_indexOf_7cf53_29 : decode cJ0_indexOf_7cf53 29 = .ok (.aload_n 0, 1) := by decide +kernel
theorem dJ0_indexOf_7cf53_30 : decode cJ0_indexOf_7cf53 30 = .ok (.invokevirtual 505, 3) := by decide +kernel
theorem dJ0_indexOf_7cf53_33 : decode cJ0_indexOf_7cf53 33 = .ok (.invokestatic 640, 3) := by decide +kernel
theorem dJ0_indexOf_7cf53_36 : decode cJ0_indexOf_7cf53 36 = .ok (.ireturn, 1) := by decide +kernel
theorem dJ0_coder_7d493_0 : decode cJ0_coder_7d493 0 = .ok (.getstatic 38, 3) := by decide +kernel
theorem dJ0_coder_7d493_3 : decode cJ0_coder_7d493 3 = .ok (.ifCond .eq 10, 3) := by decide +kernel
theorem dJ0_coder_7d493_6 : decode cJ0_coder_7d493 6 = .ok (.aload_n 0, 1) := by decide +kernel
theorem dJ0_coder_7d493_7 : decode cJ0_coder_7d493 7 = .ok (.getfield 15, 3) := by decide +kernel
theorem dJ0_coder_7d493_10 : decode cJ0_coder_7d493 10 = .ok (.goto 4, 3) := by decide +kernel
theorem dJ0_coder_7d493_13 : decode cJ0_coder_7d493 13 = .ok (.iconst 1, 1) := by decide +kernel
theorem dJ0_coder_7d493_14 : decode cJ0_coder_7d493 14 = .ok (.ireturn, 1) := by decide +kernel
theorem dJ0_isLatin1_aae02_0 : decode cJ0_isLatin1_aae02 0 = .ok (.getstatic 38, 3) := by decide +kernel
theorem dJ0_isLatin1_aae02_3 : decode cJ0_isLatin1_aae02 3 = .ok (.ifCond .eq 14, 3) := by decide +kernel
theorem dJ0_isLatin1_aae02_6 : decode cJ0_isLatin1_aae02 6 = .ok (.aload_n 0, 1) := by decide +kernel
theorem dJ0_isLatin1_aae02_7 : decode cJ0_isLatin1_aae02 7 = .ok (.getfield 15, 3) := by decide +kernel
theorem dJ0_isLatin1_aae02_10 : decode cJ0_isLatin1_aae02 10 = .ok (.ifCond .ne 7, 3) := by decide +kernel
theorem dJ0_isLatin1_aae02_13 : decode cJ0_isLatin1_aae02 13 = .ok (.iconst 1, 1) := by decide +kernel
theorem dJ0_isLatin1_aae02_14 : decode cJ0_isLatin1_aae02 14 = .ok (.goto 4, 3) := by decide +kernel
theorem dJ0_isLatin1_aae02_17 : decode cJ0_isLatin1_aae02 17 = .ok (.iconst 0, 1) := by decide +kernel
theorem dJ0_isLatin1_aae02_18 : decode cJ0_isLatin1_aae02 18 = .ok (.ireturn, 1) := by decide +kernel
theorem dJ0_checkIndex_df160_0 : decode cJ0_checkIndex_df160 0 = .ok (.iload_n 0, 1) := by decide +kernel
theorem dJ0_checkIndex_df160_1 : decode cJ0_checkIndex_df160 1 = .ok (.iload_n 1, 1) := by decide +kernel
theorem dJ0_checkIndex_df160_2 : decode cJ0_checkIndex_df160 2 = .ok (.getstatic 1053, 3) := by decide +kernel
theorem dJ0_checkIndex_df160_5 : decode cJ0_checkIndex_df160 5 = .ok (.invokestatic 1059, 3) := by decide +kernel
theorem dJ0_checkIndex_df160_8 : decode cJ0_checkIndex_df160 8 = .ok (.pop, 1) := by decide +kernel
theorem dJ0_checkIndex_df160_9 : decode cJ0_checkIndex_df160 9 = .ok (.return_, 1) := by decide +kernel
theorem dJ0_checkBoundsBeginEnd_23922_0 : decode cJ0_checkBoundsBeginEnd_23922 0 = .ok (.iload_n 0, 1) := by decide +kernel
theorem dJ0_checkBoundsBeginEnd_23922_1 : decode cJ0_checkBoundsBeginEnd_23922 1 = .ok (.iload_n 1, 1) := by decide +kernel
theorem dJ0_checkBoundsBeginEnd_23922_2 : decode cJ0_checkBoundsBeginEnd_23922 2 = .ok (.iload_n 2, 1) := by decide +kernel
theorem dJ0_checkBoundsBeginEnd_23922_3 : decode cJ0_checkBoundsBeginEnd_23922 3 = .ok (.getstatic 1053, 3) := by decide +kernel
theorem dJ0_checkBoundsBeginEnd_23922_6 : decode cJ0_checkBoundsBeginEnd_23922 6 = .ok (.invokestatic 1062, 3) := by decide +kernel
theorem dJ0_checkBoundsBeginEnd_23922_9 : decode cJ0_checkBoundsBeginEnd_23922 9 = .ok (.pop, 1) := by decide +kernel
theorem dJ0_checkBoundsBeginEnd_23922_10 : decode cJ0_checkBoundsBeginEnd_23922 10 = .ok (.return_, 1) := by decide +kernel
theorem dJ1_charAt_3b067_0 : decode cJ1_charAt_3b067 0 = .ok (.iload_n 1, 1) := by decide +kernel
theorem dJ1_charAt_3b067_1 : decode cJ1_charAt_3b067 1 = .ok (.aload_n 0, 1) := by decide +kernel
theorem dJ1_charAt_3b067_2 : decode cJ1_charAt_3b067 2 = .ok (.arraylength, 1) := by decide +kernel
theorem dJ1_charAt_3b067_3 : decode cJ1_charAt_3b067 3 = .ok (.invokestatic 9, 3) := by decide +kernel
theorem dJ1_charAt_3b067_6 : decode cJ1_charAt_3b067 6 = .ok (.aload_n 0, 1) := by decide +kernel
theorem dJ1_charAt_3b067_7 : decode cJ1_charAt_3b067 7 = .ok (.iload_n 1, 1) := by decide +kernel
theorem dJ1_charAt_3b067_8 : decode cJ1_charAt_3b067 8 = .ok (.baload, 1) := by decide +kernel
theorem dJ1_charAt_3b067_9 : decode cJ1_charAt_3b067 9 = .ok (.sipush 255, 3) := by decide +kernel
theorem dJ1_charAt_3b067_12 : decode cJ1_charAt_3b067 12 = .ok (.iand, 1) := by decide +kernel
theorem dJ1_charAt_3b067_13 : decode cJ1_charAt_3b067 13 = .ok (.i2c, 1) := by decide +kernel
theorem dJ1_charAt_3b067_14 : decode cJ1_charAt_3b067 14 = .ok (.ireturn, 1) := by decide +kernel
theorem dJ1_canEncode_9a6ad_0 : decode cJ1_canEncode_9a6ad 0 = .ok (.iload_n 0, 1) := by decide +kernel
theorem dJ1_canEncode_9a6ad_1 : decode cJ1_canEncode_9a6ad 1 = .ok (.ifCond .lt 14, 3) := by decide +kernel
theorem dJ1_canEncode_9a6ad_4 : decode cJ1_canEncode_9a6ad 4 = .ok (.iload_n 0, 1) := by decide +kernel
theorem dJ1_canEncode_9a6ad_5 : decode cJ1_canEncode_9a6ad 5 = .ok (.sipush 255, 3) := by decide +kernel
theorem dJ1_canEncode_9a6ad_8 : decode cJ1_canEncode_9a6ad 8 = .ok (.if_icmp .gt 7, 3) := by decide +kernel
theorem dJ1_canEncode_9a6ad_11 : decode cJ1_canEncode_9a6ad 11 = .ok (.iconst 1, 1) := by decide +kernel
theorem dJ1_canEncode_9a6ad_12 : decode cJ1_canEncode_9a6ad 12 = .ok (.goto 4, 3) := by decide +kernel
theorem dJ1_canEncode_9a6ad_15 : decode cJ1_canEncode_9a6ad 15 = .ok (.iconst 0, 1) := by decide +kernel
theorem dJ1_canEncode_9a6ad_16 : decode cJ1_canEncode_9a6ad 16 = .ok (.ireturn, 1) := by decide +kernel
theorem dJ1_indexOf_4cfef_0 : decode cJ1_indexOf_4cfef 0 = .ok (.iload_n 1, 1) := by decide +kernel
theorem dJ1_indexOf_4cfef_1 : decode cJ1_indexOf_4cfef 1 = .ok (.invokestatic 88, 3) := by decide +kernel
theorem dJ1_indexOf_4cfef_4 : decode cJ1_indexOf_4cfef 4 = .ok (.ifCond .ne 5, 3) := by decide +kernel
theorem dJ1_indexOf_4cfef_7 : decode cJ1_indexOf_4cfef 7 = .ok (.iconst (-1), 1) := by decide +kernel
theorem dJ1_indexOf_4cfef_8 : decode cJ1_indexOf_4cfef 8 = .ok (.ireturn, 1) := by decide +kernel
theorem dJ1_indexOf_4cfef_9 : decode cJ1_indexOf_4cfef 9 = .ok (.iload_n 2, 1) := by decide +kernel
theorem dJ1_indexOf_4cfef_10 : decode cJ1_indexOf_4cfef 10 = .ok (.iconst 0, 1) := by decide +kernel
theorem dJ1_indexOf_4cfef_11 : decode cJ1_indexOf_4cfef 11 = .ok (.invokestatic 92, 3) := by decide +kernel
theorem dJ1_indexOf_4cfef_14 : decode cJ1_indexOf_4cfef 14 = .ok (.istore_n 2, 1) := by decide +kernel
theorem dJ1_indexOf_4cfef_15 : decode cJ1_indexOf_4cfef 15 = .ok (.iload_n 3, 1) := by decide +kernel
theorem dJ1_indexOf_4cfef_16 : decode cJ1_indexOf_4cfef 16 = .ok (.aload_n 0, 1) := by decide +kernel
theorem dJ1_indexOf_4cfef_17 : decode cJ1_indexOf_4cfef 17 = .ok (.arraylength, 1) := by decide +kernel
theorem dJ1_indexOf_4cfef_18 : decode cJ1_indexOf_4cfef 18 = .ok (.invokestatic 38, 3) := by decide +kernel
theorem dJ1_indexOf_4cfef_21 : decode cJ1_indexOf_4cfef 21 = .ok (.istore_n 3, 1) := by decide +kernel
theorem dJ1_indexOf_4cfef_22 : decode cJ1_indexOf_4cfef 22 = .ok (.iload_n 2, 1) := by decide +kernel
theorem dJ1_indexOf_4cfef_23 : decode cJ1_indexOf_4cfef 23 = .ok (.iload_n 3, 1) := by decide +kernel
theorem dJ1_indexOf_4cfef_24 : decode cJ1_indexOf_4cfef 24 = .ok (.if_icmp .lt 5, 3) := by decide +kernel
theorem dJ1_indexOf_4cfef_27 : decode cJ1_indexOf_4cfef 27 = .ok (.iconst (-1), 1) := by decide +kernel
theorem dJ1_indexOf_4cfef_28 : decode cJ1_indexOf_4cfef 28 = .ok (.ireturn, 1) := by decide +kernel
theorem dJ1_indexOf_4cfef_29 : decode cJ1_indexOf_4cfef 29 = .ok (.aload_n 0, 1) := by decide +kernel
theorem dJ1_indexOf_4cfef_30 : decode cJ1_indexOf_4cfef 30 = .ok (.iload_n 1, 1) := by decide +kernel
theorem dJ1_indexOf_4cfef_31 : decode cJ1_indexOf_4cfef 31 = .ok (.iload_n 2, 1) := by decide +kernel
theorem dJ1_indexOf_4cfef_32 : decode cJ1_indexOf_4cfef 32 = .ok (.iload_n 3, 1) := by decide +kernel
theorem dJ1_indexOf_4cfef_33 : decode cJ1_indexOf_4cfef 33 = .ok (.invokestatic 95, 3) := by decide +kernel
theorem dJ1_indexOf_4cfef_36 : decode cJ1_indexOf_4cfef 36 = .ok (.ireturn, 1) := by decide +kernel
theorem dJ1_indexOfChar_4cfef_0 : decode cJ1_indexOfChar_4cfef 0 = .ok (.iload_n 1, 1) := by decide +kernel
theorem dJ1_indexOfChar_4cfef_1 : decode cJ1_indexOfChar_4cfef 1 = .ok (.i2b, 1) := by decide +kernel
theorem dJ1_indexOfChar_4cfef_2 : decode cJ1_indexOfChar_4cfef 2 = .ok (.istore 4, 2) := by decide +kernel
theorem dJ1_indexOfChar_4cfef_4 : decode cJ1_indexOfChar_4cfef 4 = .ok (.iload_n 2, 1) := by decide +kernel
theorem dJ1_indexOfChar_4cfef_5 : decode cJ1_indexOfChar_4cfef 5 = .ok (.istore 5, 2) := by decide +kernel
theorem dJ1_indexOfChar_4cfef_7 : decode cJ1_indexOfChar_4cfef 7 = .ok (.iload 5, 2) := by decide +kernel
theorem dJ1_indexOfChar_4cfef_9 : decode cJ1_indexOfChar_4cfef 9 = .ok (.iload_n 3, 1) := by decide +kernel
theorem dJ1_indexOfChar_4cfef_10 : decode cJ1_indexOfChar_4cfef 10 = .ok (.if_icmp .ge 21, 3) := by decide +kernel
theorem dJ1_indexOfChar_4cfef_13 : decode cJ1_indexOfChar_4cfef 13 = .ok (.aload_n 0, 1) := by decide +kernel
theorem dJ1_indexOfChar_4cfef_14 : decode cJ1_indexOfChar_4cfef 14 = .ok (.iload 5, 2) := by decide +kernel
theorem dJ1_indexOfChar_4cfef_16 : decode cJ1_indexOfChar_4cfef 16 = .ok (.baload, 1) := by decide +kernel
theorem dJ1_indexOfChar_4cfef_17 : decode cJ1_indexOfChar_4cfef 17 = .ok (.iload 4, 2) := by decide +kernel
theorem dJ1_indexOfChar_4cfef_19 : decode cJ1_indexOfChar_4cfef 19 = .ok (.if_icmp .ne 6, 3) := by decide +kernel
theorem dJ1_indexOfChar_4cfef_22 : decode cJ1_indexOfChar_4cfef 22 = .ok (.iload 5, 2) := by decide +kernel
theorem dJ1_indexOfChar_4cfef_24 : decode cJ1_indexOfChar_4cfef 24 = .ok (.ireturn, 1) := by decide +kernel
theorem dJ1_indexOfChar_4cfef_25 : decode cJ1_indexOfChar_4cfef 25 = .ok (.iinc 5 1, 3) := by decide +kernel
theorem dJ1_indexOfChar_4cfef_28 : decode cJ1_indexOfChar_4cfef 28 = .ok (.goto (-21), 3) := by decide +kernel
theorem dJ1_indexOfChar_4cfef_31 : decode cJ1_indexOfChar_4cfef 31 = .ok (.iconst (-1), 1) := by decide +kernel
theorem dJ1_indexOfChar_4cfef_32 : decode cJ1_indexOfChar_4cfef 32 = .ok (.ireturn, 1) := by decide +kernel
theorem dJ2_getChar_3b067_0 : decode cJ2_getChar_3b067 0 = .ok (.getstatic 44, 3) := by decide +kernel
theorem dJ2_getChar_3b067_3 : decode cJ2_getChar_3b067 3 = .ok (.ifCond .ne 25, 3) := by decide +kernel
theorem dJ2_getChar_3b067_6 : decode cJ2_getChar_3b067 6 = .ok (.iload_n 1, 1) := by decide +kernel
theorem dJ2_getChar_3b067_7 : decode cJ2_getChar_3b067 7 = .ok (.ifCond .lt 11, 3) := by decide +kernel
theorem dJ2_getChar_3b067_10 : decode cJ2_getChar_3b067 10 = .ok (.iload_n 1, 1) := by decide +kernel
theorem dJ2_getChar_3b067_11 : decode cJ2_getChar_3b067 11 = .ok (.aload_n 0, 1) := by decide +kernel
theorem dJ2_getChar_3b067_12 : decode cJ2_getChar_3b067 12 = .ok (.invokestatic 48, 3) := by decide +kernel
theorem dJ2_getChar_3b067_15 : decode cJ2_getChar_3b067 15 = .ok (.if_icmp .lt 13, 3) := by decide +kernel
theorem dJ2_getChar_3b067_18 : decode cJ2_getChar_3b067 18 = .ok (.new 52, 3) := by decide +kernel
theorem dJ2_getChar_3b067_21 : decode cJ2_getChar_3b067 21 = .ok (.dup, 1) := by decide +kernel
theorem dJ2_getChar_3b067_22 : decode cJ2_getChar_3b067 22 = .ok (.ldc 54, 2) := by decide +kernel
theorem dJ2_getChar_3b067_24 : decode cJ2_getChar_3b067 24 = .ok (.invokespecial 56, 3) := by decide +kernel
theorem dJ2_getChar_3b067_27 : decode cJ2_getChar_3b067 27 = .ok (.athrow, 1) := by decide +kernel
theorem dJ2_getChar_3b067_28 : decode cJ2_getChar_3b067 28 = .ok (.iload_n 1, 1) := by decide +kernel
theorem dJ2_getChar_3b067_29 : decode cJ2_getChar_3b067 29 = .ok (.iconst 1, 1) := by decide +kernel
theorem dJ2_getChar_3b067_30 : decode cJ2_getChar_3b067 30 = .ok (.ishl, 1) := by decide +kernel
theorem dJ2_getChar_3b067_31 : decode cJ2_getChar_3b067 31 = .ok (.istore_n 1, 1) := by decide +kernel
theorem dJ2_getChar_3b067_32 : decode cJ2_getChar_3b067 32 = .ok (.aload_n 0, 1) := by decide +kernel
theorem dJ2_getChar_3b067_33 : decode cJ2_getChar_3b067 33 = .ok (.iload_n 1, 1) := by decide +kernel
theorem dJ2_getChar_3b067_34 : decode cJ2_getChar_3b067 34 = .ok (.iinc 1 1, 3) := by decide +kernel
theorem dJ2_getChar_3b067_37 : decode cJ2_getChar_3b067 37 = .ok (.baload, 1) := by decide +kernel
theorem dJ2_getChar_3b067_38 : decode cJ2_getChar_3b067 38 = .ok (.sipush 255, 3) := by decide +kernel
theorem dJ2_getChar_3b067_41 : decode cJ2_getChar_3b067 41 = .ok (.iand, 1) := by decide +kernel
theorem dJ2_getChar_3b067_42 : decode cJ2_getChar_3b067 42 = .ok (.getstatic 59, 3) := by decide +kernel
theorem dJ2_getChar_3b067_45 : decode cJ2_getChar_3b067 45 = .ok (.ishl, 1) := by decide +kernel
theorem dJ2_getChar_3b067_46 : decode cJ2_getChar_3b067 46 = .ok (.aload_n 0, 1) := by decide +kernel
theorem dJ2_getChar_3b067_47 : decode cJ2_getChar_3b067 47 = .ok (.iload_n 1, 1) := by decide +kernel
theorem dJ2_getChar_3b067_48 : decode cJ2_getChar_3b067 48 = .ok (.baload, 1) := by decide +kernel
theorem dJ2_getChar_3b067_49 : decode cJ2_getChar_3b067 49 = .ok (.sipush 255, 3) := by decide +kernel
theorem dJ2_getChar_3b067_52 : decode cJ2_getChar_3b067 52 = .ok (.iand, 1) := by decide +kernel
theorem dJ2_getChar_3b067_53 : decode cJ2_getChar_3b067 53 = .ok (.getstatic 63, 3) := by decide +kernel
theorem dJ2_getChar_3b067_56 : decode cJ2_getChar_3b067 56 = .ok (.ishl, 1) := by decide +kernel
theorem dJ2_getChar_3b067_57 : decode cJ2_getChar_3b067 57 = .ok (.ior, 1) := by decide +kernel
theorem dJ2_getChar_3b067_58 : decode cJ2_getChar_3b067 58 = .ok (.i2c, 1) := by decide +kernel
theorem dJ2_getChar_3b067_59 : decode cJ2_getChar_3b067 59 = .ok (.ireturn, 1) := by decide +kernel
theorem dJ2_length_9d52b_0 : decode cJ2_length_9d52b 0 = .ok (.aload_n 0, 1) := by decide +kernel
theorem dJ2_length_9d52b_1 : decode cJ2_length_9d52b 1 = .ok (.arraylength, 1) := by decide +kernel
theorem dJ2_length_9d52b_2 : decode cJ2_length_9d52b 2 = .ok (.iconst 1, 1) := by decide +kernel
theorem dJ2_length_9d52b_3 : decode cJ2_length_9d52b 3 = .ok (.ishr, 1) := by decide +kernel
theorem dJ2_length_9d52b_4 : decode cJ2_length_9d52b 4 = .ok (.ireturn, 1) := by decide +kernel
theorem dJ2_indexOf_4cfef_0 : decode cJ2_indexOf_4cfef 0 = .ok (.iload_n 2, 1) := by decide +kernel
theorem dJ2_indexOf_4cfef_1 : decode cJ2_indexOf_4cfef 1 = .ok (.iconst 0, 1) := by decide +kernel
theorem dJ2_indexOf_4cfef_2 : decode cJ2_indexOf_4cfef 2 = .ok (.invokestatic 224, 3) := by decide +kernel
theorem dJ2_indexOf_4cfef_5 : decode cJ2_indexOf_4cfef 5 = .ok (.istore_n 2, 1) := by decide +kernel
theorem dJ2_indexOf_4cfef_6 : decode cJ2_indexOf_4cfef 6 = .ok (.iload_n 3, 1) := by decide +kernel
theorem dJ2_indexOf_4cfef_7 : decode cJ2_indexOf_4cfef 7 = .ok (.aload_n 0, 1) := by decide +kernel
theorem dJ2_indexOf_4cfef_8 : decode cJ2_indexOf_4cfef 8 = .ok (.arraylength, 1) := by decide +kernel
theorem dJ2_indexOf_4cfef_9 : decode cJ2_indexOf_4cfef 9 = .ok (.iconst 1, 1) := by decide +kernel
theorem dJ2_indexOf_4cfef_10 : decode cJ2_indexOf_4cfef 10 = .ok (.ishr, 1) := by decide +kernel
theorem dJ2_indexOf_4cfef_11 : decode cJ2_indexOf_4cfef 11 = .ok (.invokestatic 183, 3) := by decide +kernel
theorem dJ2_indexOf_4cfef_14 : decode cJ2_indexOf_4cfef 14 = .ok (.istore_n 3, 1) := by decide +kernel
theorem dJ2_indexOf_4cfef_15 : decode cJ2_indexOf_4cfef 15 = .ok (.iload_n 2, 1) := by decide +kernel
theorem dJ2_indexOf_4cfef_16 : decode cJ2_indexOf_4cfef 16 = .ok (.iload_n 3, 1) := by decide +kernel
theorem dJ2_indexOf_4cfef_17 : decode cJ2_indexOf_4cfef 17 = .ok (.if_icmp .lt 5, 3) := by decide +kernel
theorem dJ2_indexOf_4cfef_20 : decode cJ2_indexOf_4cfef 20 = .ok (.iconst (-1), 1) := by decide +kernel
theorem dJ2_indexOf_4cfef_21 : decode cJ2_indexOf_4cfef 21 = .ok (.ireturn, 1) := by decide +kernel
theorem dJ2_indexOf_4cfef_22 : decode cJ2_indexOf_4cfef 22 = .ok (.iload_n 1, 1) := by decide +kernel
theorem dJ2_indexOf_4cfef_23 : decode cJ2_indexOf_4cfef 23 = .ok (.ldc 227, 2) := by decide +kernel
theorem dJ2_indexOf_4cfef_25 : decode cJ2_indexOf_4cfef 25 = .ok (.if_icmp .ge 11, 3) := by decide +kernel
theorem dJ2_indexOf_4cfef_28 : decode cJ2_indexOf_4cfef 28 = .ok (.aload_n 0, 1) := by decide +kernel
theorem dJ2_indexOf_4cfef_29 : decode cJ2_indexOf_4cfef 29 = .ok (.iload_n 1, 1) := by decide +kernel
theorem dJ2_indexOf_4cfef_30 : decode cJ2_indexOf_4cfef 30 = .ok (.iload_n 2, 1) := by decide +kernel
theorem dJ2_indexOf_4cfef_31 : decode cJ2_indexOf_4cfef 31 = .ok (.iload_n 3, 1) := by decide +kernel
theorem dJ2_indexOf_4cfef_32 : decode cJ2_indexOf_4cfef 32 = .ok (.invokestatic 228, 3) := by decide +kernel
theorem dJ2_indexOf_4cfef_35 : decode cJ2_indexOf_4cfef 35 = .ok (.ireturn, 1) := by decide +kernel
theorem dJ2_indexOf_4cfef_36 : decode cJ2_indexOf_4cfef 36 = .ok (.aload_n 0, 1) := by decide +kernel
theorem dJ2_indexOf_4cfef_37 : decode cJ2_indexOf_4cfef 37 = .ok (.iload_n 1, 1) := by decide +kernel
theorem dJ2_indexOf_4cfef_38 : decode cJ2_indexOf_4cfef 38 = .ok (.iload_n 2, 1) := by decide +kernel
theorem dJ2_indexOf_4cfef_39 : decode cJ2_indexOf_4cfef 39 = .ok (.iload_n 3, 1) := by decide +kernel
theorem dJ2_indexOf_4cfef_40 : decode cJ2_indexOf_4cfef 40 = .ok (.invokestatic 232, 3) := by decide +kernel
theorem dJ2_indexOf_4cfef_43 : decode cJ2_indexOf_4cfef 43 = .ok (.ireturn, 1) := by decide +kernel
theorem dJ2_indexOfChar_4cfef_0 : decode cJ2_indexOfChar_4cfef 0 = .ok (.iload_n 2, 1) := by decide +kernel
theorem dJ2_indexOfChar_4cfef_1 : decode cJ2_indexOfChar_4cfef 1 = .ok (.iload_n 3, 1) := by decide +kernel
theorem dJ2_indexOfChar_4cfef_2 : decode cJ2_indexOfChar_4cfef 2 = .ok (.aload_n 0, 1) := by decide +kernel
theorem dJ2_indexOfChar_4cfef_3 : decode cJ2_indexOfChar_4cfef 3 = .ok (.invokestatic 96, 3) := by decide +kernel
theorem dJ2_indexOfChar_4cfef_6 : decode cJ2_indexOfChar_4cfef 6 = .ok (.aload_n 0, 1) := by decide +kernel
theorem dJ2_indexOfChar_4cfef_7 : decode cJ2_indexOfChar_4cfef 7 = .ok (.iload_n 1, 1) := by decide +kernel
theorem dJ2_indexOfChar_4cfef_8 : decode cJ2_indexOfChar_4cfef 8 = .ok (.iload_n 2, 1) := by decide +kernel
theorem dJ2_indexOfChar_4cfef_9 : decode cJ2_indexOfChar_4cfef 9 = .ok (.iload_n 3, 1) := by decide +kernel
theorem dJ2_indexOfChar_4cfef_10 : decode cJ2_indexOfChar_4cfef 10 = .ok (.invokestatic 244, 3) := by decide +kernel
theorem dJ2_indexOfChar_4cfef_13 : decode cJ2_indexOfChar_4cfef 13 = .ok (.ireturn, 1) := by decide +kernel
theorem dJ2_indexOfCharUnsafe_4cfef_0 : decode cJ2_indexOfCharUnsafe_4cfef 0 = .ok (.iload_n 2, 1) := by decide +kernel
theorem dJ2_indexOfCharUnsafe_4cfef_1 : decode cJ2_indexOfCharUnsafe_4cfef 1 = .ok (.istore 4, 2) := by decide +kernel
theorem dJ2_indexOfCharUnsafe_4cfef_3 : decode cJ2_indexOfCharUnsafe_4cfef 3 = .ok (.iload 4, 2) := by decide +kernel
theorem dJ2_indexOfCharUnsafe_4cfef_5 : decode cJ2_indexOfCharUnsafe_4cfef 5 = .ok (.iload_n 3, 1) := by decide +kernel
theorem dJ2_indexOfCharUnsafe_4cfef_6 : decode cJ2_indexOfCharUnsafe_4cfef 6 = .ok (.if_icmp .ge 22, 3) := by decide +kernel
theorem dJ2_indexOfCharUnsafe_4cfef_9 : decode cJ2_indexOfCharUnsafe_4cfef 9 = .ok (.aload_n 0, 1) := by decide +kernel
theorem dJ2_indexOfCharUnsafe_4cfef_10 : decode cJ2_indexOfCharUnsafe_4cfef 10 = .ok (.iload 4, 2) := by decide +kernel
theorem dJ2_indexOfCharUnsafe_4cfef_12 : decode cJ2_indexOfCharUnsafe_4cfef 12 = .ok (.invokestatic 71, 3) := by decide +kernel
theorem dJ2_indexOfCharUnsafe_4cfef_15 : decode cJ2_indexOfCharUnsafe_4cfef 15 = .ok (.iload_n 1, 1) := by decide +kernel
theorem dJ2_indexOfCharUnsafe_4cfef_16 : decode cJ2_indexOfCharUnsafe_4cfef 16 = .ok (.if_icmp .ne 6, 3) := by decide +kernel
theorem dJ2_indexOfCharUnsafe_4cfef_19 : decode cJ2_indexOfCharUnsafe_4cfef 19 = .ok (.iload 4, 2) := by decide +kernel
theorem dJ2_indexOfCharUnsafe_4cfef_21 : decode cJ2_indexOfCharUnsafe_4cfef 21 = .ok (.ireturn, 1) := by decide +kernel
theorem dJ2_indexOfCharUnsafe_4cfef_22 : decode cJ2_indexOfCharUnsafe_4cfef 22 = .ok (.iinc 4 1, 3) := by decide +kernel
theorem dJ2_indexOfCharUnsafe_4cfef_25 : decode cJ2_indexOfCharUnsafe_4cfef 25 = .ok (.goto (-22), 3) := by decide +kernel
theorem dJ2_indexOfCharUnsafe_4cfef_28 : decode cJ2_indexOfCharUnsafe_4cfef 28 = .ok (.iconst (-1), 1) := by decide +kernel
theorem dJ2_indexOfCharUnsafe_4cfef_29 : decode cJ2_indexOfCharUnsafe_4cfef 29 = .ok (.ireturn, 1) := by decide +kernel
theorem dJ2_indexOfSupplementary_4cfef_0 : decode cJ2_indexOfSupplementary_4cfef 0 = .ok (.iload_n 1, 1) := by decide +kernel
theorem dJ2_indexOfSupplementary_4cfef_1 : decode cJ2_indexOfSupplementary_4cfef 1 = .ok (.invokestatic 164, 3) := by decide +kernel
theorem dJ2_indexOfSupplementary_4cfef_4 : decode cJ2_indexOfSupplementary_4cfef 4 = .ok (.ifCond .eq 65, 3) := by decide +kernel
theorem dJ2_indexOfSupplementary_4cfef_7 : decode cJ2_indexOfSupplementary_4cfef 7 = .ok (.iload_n 1, 1) := by decide +kernel
theorem dJ2_indexOfSupplementary_4cfef_8 : decode cJ2_indexOfSupplementary_4cfef 8 = .ok (.invokestatic 157, 3) := by decide +kernel
theorem dJ2_indexOfSupplementary_4cfef_11 : decode cJ2_indexOfSupplementary_4cfef 11 = .ok (.istore 4, 2) := by decide +kernel
theorem dJ2_indexOfSupplementary_4cfef_13 : decode cJ2_indexOfSupplementary_4cfef 13 = .ok (.iload_n 1, 1) := by decide +kernel
theorem dJ2_indexOfSupplementary_4cfef_14 : decode cJ2_indexOfSupplementary_4cfef 14 = .ok (.invokestatic 161, 3) := by decide +kernel
theorem dJ2_indexOfSupplementary_4cfef_17 : decode cJ2_indexOfSupplementary_4cfef 17 = .ok (.istore 5, 2) := by decide +kernel
theorem dJ2_indexOfSupplementary_4cfef_19 : decode cJ2_indexOfSupplementary_4cfef 19 = .ok (.iload_n 2, 1) := by decide +kernel
theorem dJ2_indexOfSupplementary_4cfef_20 : decode cJ2_indexOfSupplementary_4cfef 20 = .ok (.iload_n 3, 1) := by decide +kernel
theorem dJ2_indexOfSupplementary_4cfef_21 : decode cJ2_indexOfSupplementary_4cfef 21 = .ok (.aload_n 0, 1) := by decide +kernel
theorem dJ2_indexOfSupplementary_4cfef_22 : decode cJ2_indexOfSupplementary_4cfef 22 = .ok (.invokestatic 96, 3) := by decide +kernel
theorem dJ2_indexOfSupplementary_4cfef_25 : decode cJ2_indexOfSupplementary_4cfef 25 = .ok (.iload_n 2, 1) := by decide +kernel
theorem dJ2_indexOfSupplementary_4cfef_26 : decode cJ2_indexOfSupplementary_4cfef 26 = .ok (.istore 6, 2) := by decide +kernel
theorem dJ2_indexOfSupplementary_4cfef_28 : decode cJ2_indexOfSupplementary_4cfef 28 = .ok (.iload 6, 2) := by decide +kernel
theorem dJ2_indexOfSupplementary_4cfef_30 : decode cJ2_indexOfSupplementary_4cfef 30 = .ok (.iload_n 3, 1) := by decide +kernel
theorem dJ2_indexOfSupplementary_4cfef_31 : decode cJ2_indexOfSupplementary_4cfef 31 = .ok (.iconst 1, 1) := by decide +kernel
theorem dJ2_indexOfSupplementary_4cfef_32 : decode cJ2_indexOfSupplementary_4cfef 32 = .ok (.isub, 1) := by decide +kernel
theorem dJ2_indexOfSupplementary_4cfef_33 : decode cJ2_indexOfSupplementary_4cfef 33 = .ok (.if_icmp .ge 36, 3) := by decide +kernel
theorem dJ2_indexOfSupplementary_4cfef_36 : decode cJ2_indexOfSupplementary_4cfef 36 = .ok (.aload_n 0, 1) := by decide +kernel
theorem dJ2_indexOfSupplementary_4cfef_37 : decode cJ2_indexOfSupplementary_4cfef 37 = .ok (.iload 6, 2) := by decide +kernel
theorem dJ2_indexOfSupplementary_4cfef_39 : decode cJ2_indexOfSupplementary_4cfef 39 = .ok (.invokestatic 71, 3) := by decide +kernel
theorem dJ2_indexOfSupplementary_4cfef_42 : decode cJ2_indexOfSupplementary_4cfef 42 = .ok (.iload 4, 2) := by decide +kernel
theorem dJ2_indexOfSupplementary_4cfef_44 : decode cJ2_indexOfSupplementary_4cfef 44 = .ok (.if_icmp .ne 19, 3) := by decide +kernel
theorem dJ2_indexOfSupplementary_4cfef_47 : decode cJ2_indexOfSupplementary_4cfef 47 = .ok (.aload_n 0, 1) := by decide +kernel
theorem dJ2_indexOfSupplementary_4cfef_48 : decode cJ2_indexOfSupplementary_4cfef 48 = .ok (.iload 6, 2) := by decide +kernel
theorem dJ2_indexOfSupplementary_4cfef_50 : decode cJ2_indexOfSupplementary_4cfef 50 = .ok (.iconst 1, 1) := by decide +kernel
theorem dJ2_indexOfSupplementary_4cfef_51 : decode cJ2_indexOfSupplementary_4cfef 51 = .ok (.iadd, 1) := by decide +kernel
theorem dJ2_indexOfSupplementary_4cfef_52 : decode cJ2_indexOfSupplementary_4cfef 52 = .ok (.invokestatic 71, 3) := by decide +kernel
theorem dJ2_indexOfSupplementary_4cfef_55 : decode cJ2_indexOfSupplementary_4cfef 55 = .ok (.iload 5, 2) := by decide +kernel
theorem dJ2_indexOfSupplementary_4cfef_57 : decode cJ2_indexOfSupplementary_4cfef 57 = .ok (.if_icmp .ne 6, 3) := by decide +kernel
theorem dJ2_indexOfSupplementary_4cfef_60 : decode cJ2_indexOfSupplementary_4cfef 60 = .ok (.iload 6, 2) := by decide +kernel
theorem dJ2_indexOfSupplementary_4cfef_62 : decode cJ2_indexOfSupplementary_4cfef 62 = .ok (.ireturn, 1) := by decide +kernel
theorem dJ2_indexOfSupplementary_4cfef_63 : decode cJ2_indexOfSupplementary_4cfef 63 = .ok (.iinc 6 1, 3) := by decide +kernel
theorem dJ2_indexOfSupplementary_4cfef_66 : decode cJ2_indexOfSupplementary_4cfef 66 = .ok (.goto (-38), 3) := by decide +kernel
theorem dJ2_indexOfSupplementary_4cfef_69 : decode cJ2_indexOfSupplementary_4cfef 69 = .ok (.iconst (-1), 1) := by decide +kernel
theorem dJ2_indexOfSupplementary_4cfef_70 : decode cJ2_indexOfSupplementary_4cfef 70 = .ok (.ireturn, 1) := by decide +kernel
theorem dJ2_charAt_3b067_0 : decode cJ2_charAt_3b067 0 = .ok (.iload_n 1, 1) := by decide +kernel
theorem dJ2_charAt_3b067_1 : decode cJ2_charAt_3b067 1 = .ok (.aload_n 0, 1) := by decide +kernel
theorem dJ2_charAt_3b067_2 : decode cJ2_charAt_3b067 2 = .ok (.invokestatic 67, 3) := by decide +kernel
theorem dJ2_charAt_3b067_5 : decode cJ2_charAt_3b067 5 = .ok (.aload_n 0, 1) := by decide +kernel
theorem dJ2_charAt_3b067_6 : decode cJ2_charAt_3b067 6 = .ok (.iload_n 1, 1) := by decide +kernel
theorem dJ2_charAt_3b067_7 : decode cJ2_charAt_3b067 7 = .ok (.invokestatic 71, 3) := by decide +kernel
theorem dJ2_charAt_3b067_10 : decode cJ2_charAt_3b067 10 = .ok (.ireturn, 1) := by decide +kernel
theorem dJ2_checkIndex_2214a_0 : decode cJ2_checkIndex_2214a 0 = .ok (.iload_n 0, 1) := by decide +kernel
theorem dJ2_checkIndex_2214a_1 : decode cJ2_checkIndex_2214a 1 = .ok (.aload_n 1, 1) := by decide +kernel
theorem dJ2_checkIndex_2214a_2 : decode cJ2_checkIndex_2214a 2 = .ok (.invokestatic 48, 3) := by decide +kernel
theorem dJ2_checkIndex_2214a_5 : decode cJ2_checkIndex_2214a 5 = .ok (.invokestatic 414, 3) := by decide +kernel
theorem dJ2_checkIndex_2214a_8 : decode cJ2_checkIndex_2214a 8 = .ok (.return_, 1) := by decide +kernel
theorem dJ2_checkBoundsBeginEnd_d044e_0 : decode cJ2_checkBoundsBeginEnd_d044e 0 = .ok (.iload_n 0, 1) := by decide +kernel
theorem dJ2_checkBoundsBeginEnd_d044e_1 : decode cJ2_checkBoundsBeginEnd_d044e 1 = .ok (.iload_n 1, 1) := by decide +kernel
theorem dJ2_checkBoundsBeginEnd_d044e_2 : decode cJ2_checkBoundsBeginEnd_d044e 2 = .ok (.aload_n 2, 1) := by decide +kernel
theorem dJ2_checkBoundsBeginEnd_d044e_3 : decode cJ2_checkBoundsBeginEnd_d044e 3 = .ok (.invokestatic 48, 3) := by decide +kernel
theorem dJ2_checkBoundsBeginEnd_d044e_6 : decode cJ2_checkBoundsBeginEnd_d044e 6 = .ok (.invokestatic 241, 3) := by decide +kernel
theorem dJ2_checkBoundsBeginEnd_d044e_9 : decode cJ2_checkBoundsBeginEnd_d044e 9 = .ok (.return_, 1) := by decide +kernel
theorem dJ3_checkIndex_8e157_0 : decode cJ3_checkIndex_8e157 0 = .ok (.iload_n 0, 1) := by decide +kernel
theorem dJ3_checkIndex_8e157_1 : decode cJ3_checkIndex_8e157 1 = .ok (.ifCond .lt 8, 3) := by decide +kernel
theorem dJ3_checkIndex_8e157_4 : decode cJ3_checkIndex_8e157 4 = .ok (.iload_n 0, 1) := by decide +kernel
theorem dJ3_checkIndex_8e157_5 : decode cJ3_checkIndex_8e157 5 = .ok (.iload_n 1, 1) := by decide +kernel
theorem dJ3_checkIndex_8e157_6 : decode cJ3_checkIndex_8e157 6 = .ok (.if_icmp .lt 10, 3) := by decide +kernel
theorem dJ3_checkIndex_8e157_9 : decode cJ3_checkIndex_8e157 9 = .ok (.aload_n 2, 1) := by decide +kernel
theorem dJ3_checkIndex_8e157_10 : decode cJ3_checkIndex_8e157 10 = .ok (.iload_n 0, 1) := by decide +kernel
theorem dJ3_checkIndex_8e157_11 : decode cJ3_checkIndex_8e157 11 = .ok (.iload_n 1, 1) := by decide +kernel
theorem dJ3_checkIndex_8e157_12 : decode cJ3_checkIndex_8e157 12 = .ok (.invokestatic 95, 3) := by decide +kernel
theorem dJ3_checkIndex_8e157_15 : decode cJ3_checkIndex_8e157 15 = .ok (.athrow, 1) := by decide +kernel
theorem dJ3_checkIndex_8e157_16 : decode cJ3_checkIndex_8e157 16 = .ok (.iload_n 0, 1) := by decide +kernel
theorem dJ3_checkIndex_8e157_17 : decode cJ3_checkIndex_8e157 17 = .ok (.ireturn, 1) := by decide +kernel
theorem dJ3_checkFromToIndex_8c36e_0 : decode cJ3_checkFromToIndex_8c36e 0 = .ok (.iload_n 0, 1) := by decide +kernel
theorem dJ3_checkFromToIndex_8c36e_1 : decode cJ3_checkFromToIndex_8c36e 1 = .ok (.ifCond .lt 13, 3) := by decide +kernel
theorem dJ3_checkFromToIndex_8c36e_4 : decode cJ3_checkFromToIndex_8c36e 4 = .ok (.iload_n 0, 1) := by decide +kernel
theorem dJ3_checkFromToIndex_8c36e_5 : decode cJ3_checkFromToIndex_8c36e 5 = .ok (.iload_n 1, 1) := by decide +kernel
theorem dJ3_checkFromToIndex_8c36e_6 : decode cJ3_checkFromToIndex_8c36e 6 = .ok (.if_icmp .gt 8, 3) := by decide +kernel
theorem dJ3_checkFromToIndex_8c36e_9 : decode cJ3_checkFromToIndex_8c36e 9 = .ok (.iload_n 1, 1) := by decide +kernel
theorem dJ3_checkFromToIndex_8c36e_10 : decode cJ3_checkFromToIndex_8c36e 10 = .ok (.iload_n 2, 1) := by decide +kernel
theorem dJ3_checkFromToIndex_8c36e_11 : decode cJ3_checkFromToIndex_8c36e 11 = .ok (.if_icmp .le 11, 3) := by decide +kernel
theorem dJ3_checkFromToIndex_8c36e_14 : decode cJ3_checkFromToIndex_8c36e 14 = .ok (.aload_n 3, 1) := by decide +kernel
theorem dJ3_checkFromToIndex_8c36e_15 : decode cJ3_checkFromToIndex_8c36e 15 = .ok (.iload_n 0, 1) := by decide +kernel
theorem dJ3_checkFromToIndex_8c36e_16 : decode cJ3_checkFromToIndex_8c36e 16 = .ok (.iload_n 1, 1) := by decide +kernel
theorem dJ3_checkFromToIndex_8c36e_17 : decode cJ3_checkFromToIndex_8c36e 17 = .ok (.iload_n 2, 1) := by decide +kernel
theorem dJ3_checkFromToIndex_8c36e_18 : decode cJ3_checkFromToIndex_8c36e 18 = .ok (.invokestatic 99, 3) := by decide +kernel
theorem dJ3_checkFromToIndex_8c36e_21 : decode cJ3_checkFromToIndex_8c36e 21 = .ok (.athrow, 1) := by decide +kernel
theorem dJ3_checkFromToIndex_8c36e_22 : decode cJ3_checkFromToIndex_8c36e 22 = .ok (.iload_n 0, 1) := by decide +kernel
theorem dJ3_checkFromToIndex_8c36e_23 : decode cJ3_checkFromToIndex_8c36e 23 = .ok (.ireturn, 1) := by decide +kernel
theorem dL_feed_0 : decode cL_feed 0 = .ok (.aload 6, 2) := by decide +kernel
theorem dL_feed_2 : decode cL_feed 2 = .ok (.iconst 0, 1) := by decide +kernel
theorem dL_feed_3 : decode cL_feed 3 = .ok (.aload_n 0, 1) := by decide +kernel
theorem dL_feed_4 : decode cL_feed 4 = .ok (.iload_n 1, 1) := by decide +kernel
theorem dL_feed_5 : decode cL_feed 5 = .ok (.iload_n 2, 1) := by decide +kernel
theorem dL_feed_6 : decode cL_feed 6 = .ok (.iload_n 3, 1) := by decide +kernel
theorem dL_feed_7 : decode cL_feed 7 = .ok (.iload 4, 2) := by decide +kernel
theorem dL_feed_9 : decode cL_feed 9 = .ok (.iload 5, 2) := by decide +kernel
theorem dL_feed_11 : decode cL_feed 11 = .ok (.invokevirtual 7, 3) := by decide +kernel
theorem dL_feed_14 : decode cL_feed 14 = .ok (.i2l, 1) := by decide +kernel
theorem dL_feed_15 : decode cL_feed 15 = .ok (.lastore, 1) := by decide +kernel
theorem dL_feed_16 : decode cL_feed 16 = .ok (.goto 7, 3) := by decide +kernel
theorem dL_feed_19 : decode cL_feed 19 = .ok (.astore 7, 2) := by decide +kernel
theorem dL_feed_21 : decode cL_feed 21 = .ok (.iconst 1, 1) := by decide +kernel
theorem dL_feed_22 : decode cL_feed 22 = .ok (.ireturn, 1) := by decide +kernel
theorem dL_feed_23 : decode cL_feed 23 = .ok (.iconst 0, 1) := by decide +kernel
theorem dL_feed_24 : decode cL_feed 24 = .ok (.ireturn, 1) := by decide +kernel
theorem dL_trim_0 : decode cL_trim 0 = .ok (.aload_n 2, 1) := by decide +kernel
theorem dL_trim_1 : decode cL_trim 1 = .ok (.iconst 0, 1) := by decide +kernel
theorem dL_trim_2 : decode cL_trim 2 = .ok (.aload_n 0, 1) := by decide +kernel
theorem dL_trim_3 : decode cL_trim 3 = .ok (.iload_n 1, 1) := by decide +kernel
theorem dL_trim_4 : decode cL_trim 4 = .ok (.invokevirtual 15, 3) := by decide +kernel
theorem dL_trim_7 : decode cL_trim 7 = .ok (.i2l, 1) := by decide +kernel
theorem dL_trim_8 : decode cL_trim 8 = .ok (.lastore, 1) := by decide +kernel
theorem dL_trim_9 : decode cL_trim 9 = .ok (.goto 6, 3) := by decide +kernel
theorem dL_trim_12 : decode cL_trim 12 = .ok (.astore_n 3, 1) := by decide +kernel
theorem dL_trim_13 : decode cL_trim 13 = .ok (.iconst 1, 1) := by decide +kernel
theorem dL_trim_14 : decode cL_trim 14 = .ok (.ireturn, 1) := by decide +kernel
theorem dL_trim_15 : decode cL_trim 15 = .ok (.iconst 0, 1) := by decide +kernel
theorem dL_trim_16 : decode cL_trim 16 = .ok (.ireturn, 1) := by decide +kernel
theorem dL_count_0 : decode cL_count 0 = .ok (.aload_n 2, 1) := by decide +kernel
theorem dL_count_1 : decode cL_count 1 = .ok (.iconst 0, 1) := by decide +kernel
theorem dL_count_2 : decode cL_count 2 = .ok (.aload_n 0, 1) := by decide +kernel
theorem dL_count_3 : decode cL_count 3 = .ok (.iload_n 1, 1) := by decide +kernel
theorem dL_count_4 : decode cL_count 4 = .ok (.invokevirtual 21, 3) := by decide +kernel
theorem dL_count_7 : decode cL_count 7 = .ok (.i2l, 1) := by decide +kernel
theorem dL_count_8 : decode cL_count 8 = .ok (.lastore, 1) := by decide +kernel
theorem dL_count_9 : decode cL_count 9 = .ok (.goto 6, 3) := by decide +kernel
theorem dL_count_12 : decode cL_count 12 = .ok (.astore_n 3, 1) := by decide +kernel
theorem dL_count_13 : decode cL_count 13 = .ok (.iconst 1, 1) := by decide +kernel
theorem dL_count_14 : decode cL_count 14 = .ok (.ireturn, 1) := by decide +kernel
theorem dL_count_15 : decode cL_count 15 = .ok (.iconst 0, 1) := by decide +kernel
theorem dL_count_16 : decode cL_count 16 = .ok (.ireturn, 1) := by decide +kernel
theorem dL_ground_0 : decode cL_ground 0 = .ok (.aload_n 3, 1) := by decide +kernel
theorem dL_ground_1 : decode cL_ground 1 = .ok (.iconst 0, 1) := by decide +kernel
theorem dL_ground_2 : decode cL_ground 2 = .ok (.aload_n 0, 1) := by decide +kernel
theorem dL_ground_3 : decode cL_ground 3 = .ok (.iload_n 1, 1) := by decide +kernel
theorem dL_ground_4 : decode cL_ground 4 = .ok (.iload_n 2, 1) := by decide +kernel
theorem dL_ground_5 : decode cL_ground 5 = .ok (.invokevirtual 26, 3) := by decide +kernel
theorem dL_ground_8 : decode cL_ground 8 = .ok (.i2l, 1) := by decide +kernel
theorem dL_ground_9 : decode cL_ground 9 = .ok (.lastore, 1) := by decide +kernel
theorem dL_ground_10 : decode cL_ground 10 = .ok (.goto 7, 3) := by decide +kernel
theorem dL_ground_13 : decode cL_ground 13 = .ok (.astore 4, 2) := by decide +kernel
theorem dL_ground_15 : decode cL_ground 15 = .ok (.iconst 1, 1) := by decide +kernel
theorem dL_ground_16 : decode cL_ground 16 = .ok (.ireturn, 1) := by decide +kernel
theorem dL_ground_17 : decode cL_ground 17 = .ok (.iconst 0, 1) := by decide +kernel
theorem dL_ground_18 : decode cL_ground 18 = .ok (.ireturn, 1) := by decide +kernel
theorem dL_fisher_0 : decode cL_fisher 0 = .ok (.aload_n 3, 1) := by decide +kernel
theorem dL_fisher_1 : decode cL_fisher 1 = .ok (.iconst 0, 1) := by decide +kernel
theorem dL_fisher_2 : decode cL_fisher 2 = .ok (.aload_n 0, 1) := by decide +kernel
theorem dL_fisher_3 : decode cL_fisher 3 = .ok (.iload_n 1, 1) := by decide +kernel
theorem dL_fisher_4 : decode cL_fisher 4 = .ok (.iload_n 2, 1) := by decide +kernel
theorem dL_fisher_5 : decode cL_fisher 5 = .ok (.invokevirtual 30, 3) := by decide +kernel
theorem dL_fisher_8 : decode cL_fisher 8 = .ok (.i2l, 1) := by decide +kernel
theorem dL_fisher_9 : decode cL_fisher 9 = .ok (.lastore, 1) := by decide +kernel
theorem dL_fisher_10 : decode cL_fisher 10 = .ok (.goto 7, 3) := by decide +kernel
theorem dL_fisher_13 : decode cL_fisher 13 = .ok (.astore 4, 2) := by decide +kernel
theorem dL_fisher_15 : decode cL_fisher 15 = .ok (.iconst 1, 1) := by decide +kernel
theorem dL_fisher_16 : decode cL_fisher 16 = .ok (.ireturn, 1) := by decide +kernel
theorem dL_fisher_17 : decode cL_fisher 17 = .ok (.iconst 0, 1) := by decide +kernel
theorem dL_fisher_18 : decode cL_fisher 18 = .ok (.ireturn, 1) := by decide +kernel
theorem dL_pact_0 : decode cL_pact 0 = .ok (.aload_n 3, 1) := by decide +kernel
theorem dL_pact_1 : decode cL_pact 1 = .ok (.iconst 0, 1) := by decide +kernel
theorem dL_pact_2 : decode cL_pact 2 = .ok (.aload_n 0, 1) := by decide +kernel
theorem dL_pact_3 : decode cL_pact 3 = .ok (.iload_n 1, 1) := by decide +kernel
theorem dL_pact_4 : decode cL_pact 4 = .ok (.iload_n 2, 1) := by decide +kernel
theorem dL_pact_5 : decode cL_pact 5 = .ok (.invokevirtual 33, 3) := by decide +kernel
theorem dL_pact_8 : decode cL_pact 8 = .ok (.i2l, 1) := by decide +kernel
theorem dL_pact_9 : decode cL_pact 9 = .ok (.lastore, 1) := by decide +kernel
theorem dL_pact_10 : decode cL_pact 10 = .ok (.goto 7, 3) := by decide +kernel
theorem dL_pact_13 : decode cL_pact 13 = .ok (.astore 4, 2) := by decide +kernel
theorem dL_pact_15 : decode cL_pact 15 = .ok (.iconst 1, 1) := by decide +kernel
theorem dL_pact_16 : decode cL_pact 16 = .ok (.ireturn, 1) := by decide +kernel
theorem dL_pact_17 : decode cL_pact 17 = .ok (.iconst 0, 1) := by decide +kernel
theorem dL_pact_18 : decode cL_pact 18 = .ok (.ireturn, 1) := by decide +kernel
theorem dL_cheat_0 : decode cL_cheat 0 = .ok (.aload_n 3, 1) := by decide +kernel
theorem dL_cheat_1 : decode cL_cheat 1 = .ok (.iconst 0, 1) := by decide +kernel
theorem dL_cheat_2 : decode cL_cheat 2 = .ok (.aload_n 0, 1) := by decide +kernel
theorem dL_cheat_3 : decode cL_cheat 3 = .ok (.iload_n 1, 1) := by decide +kernel
theorem dL_cheat_4 : decode cL_cheat 4 = .ok (.iload_n 2, 1) := by decide +kernel
theorem dL_cheat_5 : decode cL_cheat 5 = .ok (.invokevirtual 36, 3) := by decide +kernel
theorem dL_cheat_8 : decode cL_cheat 8 = .ok (.i2l, 1) := by decide +kernel
theorem dL_cheat_9 : decode cL_cheat 9 = .ok (.lastore, 1) := by decide +kernel
theorem dL_cheat_10 : decode cL_cheat 10 = .ok (.goto 7, 3) := by decide +kernel
theorem dL_cheat_13 : decode cL_cheat 13 = .ok (.astore 4, 2) := by decide +kernel
theorem dL_cheat_15 : decode cL_cheat 15 = .ok (.iconst 1, 1) := by decide +kernel
theorem dL_cheat_16 : decode cL_cheat 16 = .ok (.ireturn, 1) := by decide +kernel
theorem dL_cheat_17 : decode cL_cheat 17 = .ok (.iconst 0, 1) := by decide +kernel
theorem dL_cheat_18 : decode cL_cheat 18 = .ok (.ireturn, 1) := by decide +kernel
theorem dL_mend_0 : decode cL_mend 0 = .ok (.aload_n 2, 1) := by decide +kernel
theorem dL_mend_1 : decode cL_mend 1 = .ok (.iconst 0, 1) := by decide +kernel
theorem dL_mend_2 : decode cL_mend 2 = .ok (.aload_n 0, 1) := by decide +kernel
theorem dL_mend_3 : decode cL_mend 3 = .ok (.iload_n 1, 1) := by decide +kernel
theorem dL_mend_4 : decode cL_mend 4 = .ok (.invokevirtual 40, 3) := by decide +kernel
theorem dL_mend_7 : decode cL_mend 7 = .ok (.i2l, 1) := by decide +kernel
theorem dL_mend_8 : decode cL_mend 8 = .ok (.lastore, 1) := by decide +kernel
theorem dL_mend_9 : decode cL_mend 9 = .ok (.goto 9, 3) := by decide +kernel
theorem dL_mend_12 : decode cL_mend 12 = .ok (.astore_n 3, 1) := by decide +kernel
theorem dL_mend_13 : decode cL_mend 13 = .ok (.iconst 1, 1) := by decide +kernel
theorem dL_mend_14 : decode cL_mend 14 = .ok (.ireturn, 1) := by decide +kernel
theorem dL_mend_15 : decode cL_mend 15 = .ok (.astore_n 3, 1) := by decide +kernel
theorem dL_mend_16 : decode cL_mend 16 = .ok (.iconst 2, 1) := by decide +kernel
theorem dL_mend_17 : decode cL_mend 17 = .ok (.ireturn, 1) := by decide +kernel
theorem dL_mend_18 : decode cL_mend 18 = .ok (.iconst 0, 1) := by decide +kernel
theorem dL_mend_19 : decode cL_mend 19 = .ok (.ireturn, 1) := by decide +kernel
theorem dL_lot_0 : decode cL_lot 0 = .ok (.aload_n 2, 1) := by decide +kernel
theorem dL_lot_1 : decode cL_lot 1 = .ok (.iconst 0, 1) := by decide +kernel
theorem dL_lot_2 : decode cL_lot 2 = .ok (.aload_n 0, 1) := by decide +kernel
theorem dL_lot_3 : decode cL_lot 3 = .ok (.iload_n 1, 1) := by decide +kernel
theorem dL_lot_4 : decode cL_lot 4 = .ok (.invokevirtual 43, 3) := by decide +kernel
theorem dL_lot_7 : decode cL_lot 7 = .ok (.i2l, 1) := by decide +kernel
theorem dL_lot_8 : decode cL_lot 8 = .ok (.lastore, 1) := by decide +kernel
theorem dL_lot_9 : decode cL_lot 9 = .ok (.goto 6, 3) := by decide +kernel
theorem dL_lot_12 : decode cL_lot 12 = .ok (.astore_n 3, 1) := by decide +kernel
theorem dL_lot_13 : decode cL_lot 13 = .ok (.iconst 1, 1) := by decide +kernel
theorem dL_lot_14 : decode cL_lot 14 = .ok (.ireturn, 1) := by decide +kernel
theorem dL_lot_15 : decode cL_lot 15 = .ok (.iconst 0, 1) := by decide +kernel
theorem dL_lot_16 : decode cL_lot 16 = .ok (.ireturn, 1) := by decide +kernel
theorem dL_took_0 : decode cL_took 0 = .ok (.aload_n 3, 1) := by decide +kernel
theorem dL_took_1 : decode cL_took 1 = .ok (.iconst 0, 1) := by decide +kernel
theorem dL_took_2 : decode cL_took 2 = .ok (.aload_n 0, 1) := by decide +kernel
theorem dL_took_3 : decode cL_took 3 = .ok (.iload_n 1, 1) := by decide +kernel
theorem dL_took_4 : decode cL_took 4 = .ok (.iload_n 2, 1) := by decide +kernel
theorem dL_took_5 : decode cL_took 5 = .ok (.invokevirtual 46, 3) := by decide +kernel
theorem dL_took_8 : decode cL_took 8 = .ok (.i2l, 1) := by decide +kernel
theorem dL_took_9 : decode cL_took 9 = .ok (.lastore, 1) := by decide +kernel
theorem dL_took_10 : decode cL_took 10 = .ok (.goto 7, 3) := by decide +kernel
theorem dL_took_13 : decode cL_took 13 = .ok (.astore 4, 2) := by decide +kernel
theorem dL_took_15 : decode cL_took 15 = .ok (.iconst 1, 1) := by decide +kernel
theorem dL_took_16 : decode cL_took 16 = .ok (.ireturn, 1) := by decide +kernel
theorem dL_took_17 : decode cL_took 17 = .ok (.iconst 0, 1) := by decide +kernel
theorem dL_took_18 : decode cL_took 18 = .ok (.ireturn, 1) := by decide +kernel
theorem dL_blame_0 : decode cL_blame 0 = .ok (.aload_n 2, 1) := by decide +kernel
theorem dL_blame_1 : decode cL_blame 1 = .ok (.iconst 0, 1) := by decide +kernel
theorem dL_blame_2 : decode cL_blame 2 = .ok (.aload_n 0, 1) := by decide +kernel
theorem dL_blame_3 : decode cL_blame 3 = .ok (.iload_n 1, 1) := by decide +kernel
theorem dL_blame_4 : decode cL_blame 4 = .ok (.invokevirtual 49, 3) := by decide +kernel
theorem dL_blame_7 : decode cL_blame 7 = .ok (.i2l, 1) := by decide +kernel
theorem dL_blame_8 : decode cL_blame 8 = .ok (.lastore, 1) := by decide +kernel
theorem dL_blame_9 : decode cL_blame 9 = .ok (.goto 6, 3) := by decide +kernel
theorem dL_blame_12 : decode cL_blame 12 = .ok (.astore_n 3, 1) := by decide +kernel
theorem dL_blame_13 : decode cL_blame 13 = .ok (.iconst 1, 1) := by decide +kernel
theorem dL_blame_14 : decode cL_blame 14 = .ok (.ireturn, 1) := by decide +kernel
theorem dL_blame_15 : decode cL_blame 15 = .ok (.iconst 0, 1) := by decide +kernel
theorem dL_blame_16 : decode cL_blame 16 = .ok (.ireturn, 1) := by decide +kernel
theorem dL_pass_0 : decode cL_pass 0 = .ok (.aload_n 2, 1) := by decide +kernel
theorem dL_pass_1 : decode cL_pass 1 = .ok (.iconst 0, 1) := by decide +kernel
theorem dL_pass_2 : decode cL_pass 2 = .ok (.aload_n 0, 1) := by decide +kernel
theorem dL_pass_3 : decode cL_pass 3 = .ok (.iload_n 1, 1) := by decide +kernel
theorem dL_pass_4 : decode cL_pass 4 = .ok (.invokevirtual 52, 3) := by decide +kernel
theorem dL_pass_7 : decode cL_pass 7 = .ok (.i2l, 1) := by decide +kernel
theorem dL_pass_8 : decode cL_pass 8 = .ok (.lastore, 1) := by decide +kernel
theorem dL_pass_9 : decode cL_pass 9 = .ok (.goto 6, 3) := by decide +kernel
theorem dL_pass_12 : decode cL_pass 12 = .ok (.astore_n 3, 1) := by decide +kernel
theorem dL_pass_13 : decode cL_pass 13 = .ok (.iconst 1, 1) := by decide +kernel
theorem dL_pass_14 : decode cL_pass 14 = .ok (.ireturn, 1) := by decide +kernel
theorem dL_pass_15 : decode cL_pass 15 = .ok (.iconst 0, 1) := by decide +kernel
theorem dL_pass_16 : decode cL_pass 16 = .ok (.ireturn, 1) := by decide +kernel
theorem dL_foresee_0 : decode cL_foresee 0 = .ok (.aload_n 3, 1) := by decide +kernel
theorem dL_foresee_1 : decode cL_foresee 1 = .ok (.iconst 0, 1) := by decide +kernel
theorem dL_foresee_2 : decode cL_foresee 2 = .ok (.aload_n 0, 1) := by decide +kernel
theorem dL_foresee_3 : decode cL_foresee 3 = .ok (.iload_n 1, 1) := by decide +kernel
theorem dL_foresee_4 : decode cL_foresee 4 = .ok (.iload_n 2, 1) := by decide +kernel
theorem dL_foresee_5 : decode cL_foresee 5 = .ok (.invokevirtual 55, 3) := by decide +kernel
theorem dL_foresee_8 : decode cL_foresee 8 = .ok (.i2l, 1) := by decide +kernel
theorem dL_foresee_9 : decode cL_foresee 9 = .ok (.lastore, 1) := by decide +kernel
theorem dL_foresee_10 : decode cL_foresee 10 = .ok (.goto 11, 3) := by decide +kernel
theorem dL_foresee_13 : decode cL_foresee 13 = .ok (.astore 4, 2) := by decide +kernel
theorem dL_foresee_15 : decode cL_foresee 15 = .ok (.iconst 1, 1) := by decide +kernel
theorem dL_foresee_16 : decode cL_foresee 16 = .ok (.ireturn, 1) := by decide +kernel
theorem dL_foresee_17 : decode cL_foresee 17 = .ok (.astore 4, 2) := by decide +kernel
theorem dL_foresee_19 : decode cL_foresee 19 = .ok (.iconst 2, 1) := by decide +kernel
theorem dL_foresee_20 : decode cL_foresee 20 = .ok (.ireturn, 1) := by decide +kernel
theorem dL_foresee_21 : decode cL_foresee 21 = .ok (.iconst 0, 1) := by decide +kernel
theorem dL_foresee_22 : decode cL_foresee 22 = .ok (.ireturn, 1) := by decide +kernel
theorem dL_pays_0 : decode cL_pays 0 = .ok (.aload_n 3, 1) := by decide +kernel
theorem dL_pays_1 : decode cL_pays 1 = .ok (.iconst 0, 1) := by decide +kernel
theorem dL_pays_2 : decode cL_pays 2 = .ok (.aload_n 0, 1) := by decide +kernel
theorem dL_pays_3 : decode cL_pays 3 = .ok (.iload_n 1, 1) := by decide +kernel
theorem dL_pays_4 : decode cL_pays 4 = .ok (.iload_n 2, 1) := by decide +kernel
theorem dL_pays_5 : decode cL_pays 5 = .ok (.invokevirtual 58, 3) := by decide +kernel
theorem dL_pays_8 : decode cL_pays 8 = .ok (.i2l, 1) := by decide +kernel
theorem dL_pays_9 : decode cL_pays 9 = .ok (.lastore, 1) := by decide +kernel
theorem dL_pays_10 : decode cL_pays 10 = .ok (.goto 11, 3) := by decide +kernel
theorem dL_pays_13 : decode cL_pays 13 = .ok (.astore 4, 2) := by decide +kernel
theorem dL_pays_15 : decode cL_pays 15 = .ok (.iconst 1, 1) := by decide +kernel
theorem dL_pays_16 : decode cL_pays 16 = .ok (.ireturn, 1) := by decide +kernel
theorem dL_pays_17 : decode cL_pays 17 = .ok (.astore 4, 2) := by decide +kernel
theorem dL_pays_19 : decode cL_pays 19 = .ok (.iconst 2, 1) := by decide +kernel
theorem dL_pays_20 : decode cL_pays 20 = .ok (.ireturn, 1) := by decide +kernel
theorem dL_pays_21 : decode cL_pays 21 = .ok (.iconst 0, 1) := by decide +kernel
theorem dL_pays_22 : decode cL_pays 22 = .ok (.ireturn, 1) := by decide +kernel
theorem dL_empty_0 : decode cL_empty 0 = .ok (.aload_n 2, 1) := by decide +kernel
theorem dL_empty_1 : decode cL_empty 1 = .ok (.iconst 0, 1) := by decide +kernel
theorem dL_empty_2 : decode cL_empty 2 = .ok (.aload_n 0, 1) := by decide +kernel
theorem dL_empty_3 : decode cL_empty 3 = .ok (.iload_n 1, 1) := by decide +kernel
theorem dL_empty_4 : decode cL_empty 4 = .ok (.invokevirtual 61, 3) := by decide +kernel
theorem dL_empty_7 : decode cL_empty 7 = .ok (.i2l, 1) := by decide +kernel
theorem dL_empty_8 : decode cL_empty 8 = .ok (.lastore, 1) := by decide +kernel
theorem dL_empty_9 : decode cL_empty 9 = .ok (.goto 6, 3) := by decide +kernel
theorem dL_empty_12 : decode cL_empty 12 = .ok (.astore_n 3, 1) := by decide +kernel
theorem dL_empty_13 : decode cL_empty 13 = .ok (.iconst 1, 1) := by decide +kernel
theorem dL_empty_14 : decode cL_empty 14 = .ok (.ireturn, 1) := by decide +kernel
theorem dL_empty_15 : decode cL_empty 15 = .ok (.iconst 0, 1) := by decide +kernel
theorem dL_empty_16 : decode cL_empty 16 = .ok (.ireturn, 1) := by decide +kernel
theorem dL_advise_0 : decode cL_advise 0 = .ok (.aload_n 3, 1) := by decide +kernel
theorem dL_advise_1 : decode cL_advise 1 = .ok (.iconst 0, 1) := by decide +kernel
theorem dL_advise_2 : decode cL_advise 2 = .ok (.aload_n 0, 1) := by decide +kernel
theorem dL_advise_3 : decode cL_advise 3 = .ok (.iload_n 1, 1) := by decide +kernel
theorem dL_advise_4 : decode cL_advise 4 = .ok (.iload_n 2, 1) := by decide +kernel
theorem dL_advise_5 : decode cL_advise 5 = .ok (.invokevirtual 64, 3) := by decide +kernel
theorem dL_advise_8 : decode cL_advise 8 = .ok (.i2l, 1) := by decide +kernel
theorem dL_advise_9 : decode cL_advise 9 = .ok (.lastore, 1) := by decide +kernel
theorem dL_advise_10 : decode cL_advise 10 = .ok (.goto 11, 3) := by decide +kernel
theorem dL_advise_13 : decode cL_advise 13 = .ok (.astore 4, 2) := by decide +kernel
theorem dL_advise_15 : decode cL_advise 15 = .ok (.iconst 1, 1) := by decide +kernel
theorem dL_advise_16 : decode cL_advise 16 = .ok (.ireturn, 1) := by decide +kernel
theorem dL_advise_17 : decode cL_advise 17 = .ok (.astore 4, 2) := by decide +kernel
theorem dL_advise_19 : decode cL_advise 19 = .ok (.iconst 2, 1) := by decide +kernel
theorem dL_advise_20 : decode cL_advise 20 = .ok (.ireturn, 1) := by decide +kernel
theorem dL_advise_21 : decode cL_advise 21 = .ok (.iconst 0, 1) := by decide +kernel
theorem dL_advise_22 : decode cL_advise 22 = .ok (.ireturn, 1) := by decide +kernel
