theorem dX11_init_0 : decode cX11_init 0 = .ok (.aload_n 0, 1) := by decide +kernel
theorem dX11_init_1 : decode cX11_init 1 = .ok (.invokespecial 1, 3) := by decide +kernel
theorem dX11_init_4 : decode cX11_init 4 = .ok (.aload_n 0, 1) := by decide +kernel
theorem dX11_init_5 : decode cX11_init 5 = .ok (.new 7, 3) := by decide +kernel
theorem dX11_init_8 : decode cX11_init 8 = .ok (.dup, 1) := by decide +kernel
theorem dX11_init_9 : decode cX11_init 9 = .ok (.invokespecial 9, 3) := by decide +kernel
theorem dX11_init_12 : decode cX11_init 12 = .ok (.putfield 10, 3) := by decide +kernel
theorem dX11_init_15 : decode cX11_init 15 = .ok (.aload_n 0, 1) := by decide +kernel
theorem dX11_init_16 : decode cX11_init 16 = .ok (.new 16, 3) := by decide +kernel
theorem dX11_init_19 : decode cX11_init 19 = .ok (.dup, 1) := by decide +kernel
theorem dX11_init_20 : decode cX11_init 20 = .ok (.invokespecial 18, 3) := by decide +kernel
theorem dX11_init_23 : decode cX11_init 23 = .ok (.putfield 19, 3) := by decide +kernel
theorem dX11_init_26 : decode cX11_init 26 = .ok (.aload_n 0, 1) := by decide +kernel
theorem dX11_init_27 : decode cX11_init 27 = .ok (.new 16, 3) := by decide +kernel
theorem dX11_init_30 : decode cX11_init 30 = .ok (.dup, 1) := by decide +kernel
theorem dX11_init_31 : decode cX11_init 31 = .ok (.invokespecial 18, 3) := by decide +kernel
theorem dX11_init_34 : decode cX11_init 34 = .ok (.putfield 23, 3) := by decide +kernel
theorem dX11_init_37 : decode cX11_init 37 = .ok (.aload_n 0, 1) := by decide +kernel
theorem dX11_init_38 : decode cX11_init 38 = .ok (.iconst (-1), 1) := by decide +kernel
theorem dX11_init_39 : decode cX11_init 39 = .ok (.putfield 26, 3) := by decide +kernel
theorem dX11_init_42 : decode cX11_init 42 = .ok (.return_, 1) := by decide +kernel
theorem dX11_feed_0 : decode cX11_feed 0 = .ok (.aload_n 0, 1) := by decide +kernel
theorem dX11_feed_1 : decode cX11_feed 1 = .ok (.getfield 10, 3) := by decide +kernel
theorem dX11_feed_4 : decode cX11_feed 4 = .ok (.getfield 30, 3) := by decide +kernel
theorem dX11_feed_7 : decode cX11_feed 7 = .ok (.bipush 20, 2) := by decide +kernel
theorem dX11_feed_9 : decode cX11_feed 9 = .ok (.iadd, 1) := by decide +kernel
theorem dX11_feed_10 : decode cX11_feed 10 = .ok (.sipush 2000, 3) := by decide +kernel
theorem dX11_feed_13 : decode cX11_feed 13 = .ok (.if_icmp .le 13, 3) := by decide +kernel
theorem dX11_feed_16 : decode cX11_feed 16 = .ok (.new 33, 3) := by decide +kernel
theorem dX11_feed_19 : decode cX11_feed 19 = .ok (.dup, 1) := by decide +kernel
theorem dX11_feed_20 : decode cX11_feed 20 = .ok (.ldc 35, 2) := by decide +kernel
theorem dX11_feed_22 : decode cX11_feed 22 = .ok (.invokespecial 37, 3) := by decide +kernel
theorem dX11_feed_25 : decode cX11_feed 25 = .ok (.athrow, 1) := by decide +kernel
theorem dX11_feed_26 : decode cX11_feed 26 = .ok (.aload_n 0, 1) := by decide +kernel
theorem dX11_feed_27 : decode cX11_feed 27 = .ok (.getfield 10, 3) := by decide +kernel
theorem dX11_feed_30 : decode cX11_feed 30 = .ok (.iload_n 1, 1) := by decide +kernel
theorem dX11_feed_31 : decode cX11_feed 31 = .ok (.invokevirtual 40, 3) := by decide +kernel
theorem dX11_feed_34 : decode cX11_feed 34 = .ok (.aload_n 0, 1) := by decide +kernel
theorem dX11_feed_35 : decode cX11_feed 35 = .ok (.getfield 10, 3) := by decide +kernel
theorem dX11_feed_38 : decode cX11_feed 38 = .ok (.iload_n 2, 1) := by decide +kernel
theorem dX11_feed_39 : decode cX11_feed 39 = .ok (.invokevirtual 40, 3) := by decide +kernel
theorem dX11_feed_42 : decode cX11_feed 42 = .ok (.aload_n 0, 1) := by decide +kernel
theorem dX11_feed_43 : decode cX11_feed 43 = .ok (.getfield 10, 3) := by decide +kernel
theorem dX11_feed_46 : decode cX11_feed 46 = .ok (.iload_n 3, 1) := by decide +kernel
theorem dX11_feed_47 : decode cX11_feed 47 = .ok (.invokevirtual 40, 3) := by decide +kernel
theorem dX11_feed_50 : decode cX11_feed 50 = .ok (.aload_n 0, 1) := by decide +kernel
theorem dX11_feed_51 : decode cX11_feed 51 = .ok (.getfield 10, 3) := by decide +kernel
theorem dX11_feed_54 : decode cX11_feed 54 = .ok (.iload 4, 2) := by decide +kernel
theorem dX11_feed_56 : decode cX11_feed 56 = .ok (.invokevirtual 40, 3) := by decide +kernel
theorem dX11_feed_59 : decode cX11_feed 59 = .ok (.aload_n 0, 1) := by decide +kernel
theorem dX11_feed_60 : decode cX11_feed 60 = .ok (.getfield 10, 3) := by decide +kernel
theorem dX11_feed_63 : decode cX11_feed 63 = .ok (.iload 5, 2) := by decide +kernel
theorem dX11_feed_65 : decode cX11_feed 65 = .ok (.invokevirtual 40, 3) := by decide +kernel
theorem dX11_feed_68 : decode cX11_feed 68 = .ok (.aload_n 0, 1) := by decide +kernel
theorem dX11_feed_69 : decode cX11_feed 69 = .ok (.getfield 10, 3) := by decide +kernel
theorem dX11_feed_72 : decode cX11_feed 72 = .ok (.getfield 30, 3) := by decide +kernel
theorem dX11_feed_75 : decode cX11_feed 75 = .ok (.ireturn, 1) := by decide +kernel
theorem dX11_trim_0 : decode cX11_trim 0 = .ok (.iload_n 1, 1) := by decide +kernel
theorem dX11_trim_1 : decode cX11_trim 1 = .ok (.ifCond .lt 14, 3) := by decide +kernel
theorem dX11_trim_4 : decode cX11_trim 4 = .ok (.iload_n 1, 1) := by decide +kernel
theorem dX11_trim_5 : decode cX11_trim 5 = .ok (.aload_n 0, 1) := by decide +kernel
theorem dX11_trim_6 : decode cX11_trim 6 = .ok (.getfield 10, 3) := by decide +kernel
theorem dX11_trim_9 : decode cX11_trim 9 = .ok (.getfield 30, 3) := by decide +kernel
theorem dX11_trim_12 : decode cX11_trim 12 = .ok (.if_icmp .le 13, 3) := by decide +kernel
theorem dX11_trim_15 : decode cX11_trim 15 = .ok (.new 44, 3) := by decide +kernel
theorem dX11_trim_18 : decode cX11_trim 18 = .ok (.dup, 1) := by decide +kernel
theorem dX11_trim_19 : decode cX11_trim 19 = .ok (.ldc 46, 2) := by decide +kernel
theorem dX11_trim_21 : decode cX11_trim 21 = .ok (.invokespecial 48, 3) := by decide +kernel
theorem dX11_trim_24 : decode cX11_trim 24 = .ok (.athrow, 1) := by decide +kernel
theorem dX11_trim_25 : decode cX11_trim 25 = .ok (.aload_n 0, 1) := by decide +kernel
theorem dX11_trim_26 : decode cX11_trim 26 = .ok (.getfield 10, 3) := by decide +kernel
theorem dX11_trim_29 : decode cX11_trim 29 = .ok (.iload_n 1, 1) := by decide +kernel
theorem dX11_trim_30 : decode cX11_trim 30 = .ok (.putfield 30, 3) := by decide +kernel
theorem dX11_trim_33 : decode cX11_trim 33 = .ok (.iload_n 1, 1) := by decide +kernel
theorem dX11_trim_34 : decode cX11_trim 34 = .ok (.ireturn, 1) := by decide +kernel
theorem dX11_teach_0 : decode cX11_teach 0 = .ok (.aload_n 0, 1) := by decide +kernel
theorem dX11_teach_1 : decode cX11_teach 1 = .ok (.getfield 10, 3) := by decide +kernel
theorem dX11_teach_4 : decode cX11_teach 4 = .ok (.invokevirtual 49, 3) := by decide +kernel
theorem dX11_teach_7 : decode cX11_teach 7 = .ok (.new 52, 3) := by decide +kernel
theorem dX11_teach_10 : decode cX11_teach 10 = .ok (.dup, 1) := by decide +kernel
theorem dX11_teach_11 : decode cX11_teach 11 = .ok (.aload_n 0, 1) := by decide +kernel
theorem dX11_teach_12 : decode cX11_teach 12 = .ok (.getfield 10, 3) := by decide +kernel
theorem dX11_teach_15 : decode cX11_teach 15 = .ok (.aload_n 0, 1) := by decide +kernel
theorem dX11_teach_16 : decode cX11_teach 16 = .ok (.getfield 23, 3) := by decide +kernel
theorem dX11_teach_19 : decode cX11_teach 19 = .ok (.invokespecial 54, 3) := by decide +kernel
theorem dX11_teach_22 : decode cX11_teach 22 = .ok (.astore_n 1, 1) := by decide +kernel
theorem dX11_teach_23 : decode cX11_teach 23 = .ok (.aload_n 1, 1) := by decide +kernel
theorem dX11_teach_24 : decode cX11_teach 24 = .ok (.invokevirtual 57, 3) := by decide +kernel
theorem dX11_teach_27 : decode cX11_teach 27 = .ok (.istore_n 2, 1) := by decide +kernel
theorem dX11_teach_28 : decode cX11_teach 28 = .ok (.aload_n 0, 1) := by decide +kernel
theorem dX11_teach_29 : decode cX11_teach 29 = .ok (.aload_n 1, 1) := by decide +kernel
theorem dX11_teach_30 : decode cX11_teach 30 = .ok (.getfield 61, 3) := by decide +kernel
theorem dX11_teach_33 : decode cX11_teach 33 = .ok (.putfield 26, 3) := by decide +kernel
theorem dX11_teach_36 : decode cX11_teach 36 = .ok (.aload_n 0, 1) := by decide +kernel
theorem dX11_teach_37 : decode cX11_teach 37 = .ok (.getfield 10, 3) := by decide +kernel
theorem dX11_teach_40 : decode cX11_teach 40 = .ok (.iconst 0, 1) := by decide +kernel
theorem dX11_teach_41 : decode cX11_teach 41 = .ok (.putfield 30, 3) := by decide +kernel
theorem dX11_teach_44 : decode cX11_teach 44 = .ok (.iload_n 2, 1) := by decide +kernel
theorem dX11_teach_45 : decode cX11_teach 45 = .ok (.ifCond .ne 49, 3) := by decide +kernel
theorem dX11_teach_48 : decode cX11_teach 48 = .ok (.aload_n 0, 1) := by decide +kernel
theorem dX11_teach_49 : decode cX11_teach 49 = .ok (.getfield 23, 3) := by decide +kernel
theorem dX11_teach_52 : decode cX11_teach 52 = .ok (.aload_n 0, 1) := by decide +kernel
theorem dX11_teach_53 : decode cX11_teach 53 = .ok (.getfield 19, 3) := by decide +kernel
theorem dX11_teach_56 : decode cX11_teach 56 = .ok (.getfield 62, 3) := by decide +kernel
theorem dX11_teach_59 : decode cX11_teach 59 = .ok (.putfield 62, 3) := by decide +kernel
theorem dX11_teach_62 : decode cX11_teach 62 = .ok (.aload_n 0, 1) := by decide +kernel
theorem dX11_teach_63 : decode cX11_teach 63 = .ok (.getfield 23, 3) := by decide +kernel
theorem dX11_teach_66 : decode cX11_teach 66 = .ok (.aload_n 0, 1) := by decide +kernel
theorem dX11_teach_67 : decode cX11_teach 67 = .ok (.getfield 19, 3) := by decide +kernel
theorem dX11_teach_70 : decode cX11_teach 70 = .ok (.getfield 65, 3) := by decide +kernel
theorem dX11_teach_73 : decode cX11_teach 73 = .ok (.putfield 65, 3) := by decide +kernel
theorem dX11_teach_76 : decode cX11_teach 76 = .ok (.aload_n 0, 1) := by decide +kernel
theorem dX11_teach_77 : decode cX11_teach 77 = .ok (.getfield 19, 3) := by decide +kernel
theorem dX11_teach_80 : decode cX11_teach 80 = .ok (.astore_n 3, 1) := by decide +kernel
theorem dX11_teach_81 : decode cX11_teach 81 = .ok (.aload_n 0, 1) := by decide +kernel
theorem dX11_teach_82 : decode cX11_teach 82 = .ok (.aload_n 0, 1) := by decide +kernel
theorem dX11_teach_83 : decode cX11_teach 83 = .ok (.getfield 23, 3) := by decide +kernel
theorem dX11_teach_86 : decode cX11_teach 86 = .ok (.putfield 19, 3) := by decide +kernel
theorem dX11_teach_89 : decode cX11_teach 89 = .ok (.aload_n 0, 1) := by decide +kernel
theorem dX11_teach_90 : decode cX11_teach 90 = .ok (.aload_n 3, 1) := by decide +kernel
theorem dX11_teach_91 : decode cX11_teach 91 = .ok (.putfield 23, 3) := by decide +kernel
theorem dX11_teach_94 : decode cX11_teach 94 = .ok (.iload_n 2, 1) := by decide +kernel
theorem dX11_teach_95 : decode cX11_teach 95 = .ok (.ireturn, 1) := by decide +kernel
theorem dX11_errorAt_0 : decode cX11_errorAt 0 = .ok (.aload_n 0, 1) := by decide +kernel
theorem dX11_errorAt_1 : decode cX11_errorAt 1 = .ok (.getfield 26, 3) := by decide +kernel
theorem dX11_errorAt_4 : decode cX11_errorAt 4 = .ok (.ireturn, 1) := by decide +kernel
theorem dX11_count_0 : decode cX11_count 0 = .ok (.iload_n 1, 1) := by decide +kernel
theorem dX11_count_1 : decode cX11_count 1 = .ok (.tableswitch 135 0 9 #[55, 63, 71, 79, 87, 95, 103, 111, 119, 127], 55) := by decide +kernel
theorem dX11_count_56 : decode cX11_count 56 = .ok (.aload_n 0, 1) := by decide +kernel
theorem dX11_count_57 : decode cX11_count 57 = .ok (.getfield 19, 3) := by decide +kernel
theorem dX11_count_60 : decode cX11_count 60 = .ok (.getfield 62, 3) := by decide +kernel
theorem dX11_count_63 : decode cX11_count 63 = .ok (.ireturn, 1) := by decide +kernel
theorem dX11_count_64 : decode cX11_count 64 = .ok (.aload_n 0, 1) := by decide +kernel
theorem dX11_count_65 : decode cX11_count 65 = .ok (.getfield 19, 3) := by decide +kernel
theorem dX11_count_68 : decode cX11_count 68 = .ok (.getfield 68, 3) := by decide +kernel
theorem dX11_count_71 : decode cX11_count 71 = .ok (.ireturn, 1) := by decide +kernel
theorem dX11_count_72 : decode cX11_count 72 = .ok (.aload_n 0, 1) := by decide +kernel
theorem dX11_count_73 : decode cX11_count 73 = .ok (.getfield 19, 3) := by decide +kernel
theorem dX11_count_76 : decode cX11_count 76 = .ok (.getfield 71, 3) := by decide +kernel
theorem dX11_count_79 : decode cX11_count 79 = .ok (.ireturn, 1) := by decide +kernel
theorem dX11_count_80 : decode cX11_count 80 = .ok (.aload_n 0, 1) := by decide +kernel
theorem dX11_count_81 : decode cX11_count 81 = .ok (.getfield 19, 3) := by decide +kernel
theorem dX11_count_84 : decode cX11_count 84 = .ok (.getfield 74, 3) := by decide +kernel
theorem dX11_count_87 : decode cX11_count 87 = .ok (.ireturn, 1) := by decide +kernel
theorem dX11_count_88 : decode cX11_count 88 = .ok (.aload_n 0, 1) := by decide +kernel
theorem dX11_count_89 : decode cX11_count 89 = .ok (.getfield 19, 3) := by decide +kernel
theorem dX11_count_92 : decode cX11_count 92 = .ok (.getfield 77, 3) := by decide +kernel
theorem dX11_count_95 : decode cX11_count 95 = .ok (.ireturn, 1) := by decide +kernel
theorem dX11_count_96 : decode cX11_count 96 = .ok (.aload_n 0, 1) := by decide +kernel
theorem dX11_count_97 : decode cX11_count 97 = .ok (.getfield 19, 3) := by decide +kernel
theorem dX11_count_100 : decode cX11_count 100 = .ok (.invokevirtual 80, 3) := by decide +kernel
theorem dX11_count_103 : decode cX11_count 103 = .ok (.ireturn, 1) := by decide +kernel
theorem dX11_count_104 : decode cX11_count 104 = .ok (.aload_n 0, 1) := by decide +kernel
theorem dX11_count_105 : decode cX11_count 105 = .ok (.getfield 19, 3) := by decide +kernel
theorem dX11_count_108 : decode cX11_count 108 = .ok (.invokevirtual 83, 3) := by decide +kernel
theorem dX11_count_111 : decode cX11_count 111 = .ok (.ireturn, 1) := by decide +kernel
theorem dX11_count_112 : decode cX11_count 112 = .ok (.aload_n 0, 1) := by decide +kernel
theorem dX11_count_113 : decode cX11_count 113 = .ok (.getfield 19, 3) := by decide +kernel
theorem dX11_count_116 : decode cX11_count 116 = .ok (.invokevirtual 86, 3) := by decide +kernel
theorem dX11_count_119 : decode cX11_count 119 = .ok (.ireturn, 1) := by decide +kernel
theorem dX11_count_120 : decode cX11_count 120 = .ok (.aload_n 0, 1) := by decide +kernel
theorem dX11_count_121 : decode cX11_count 121 = .ok (.getfield 19, 3) := by decide +kernel
theorem dX11_count_124 : decode cX11_count 124 = .ok (.invokevirtual 89, 3) := by decide +kernel
theorem dX11_count_127 : decode cX11_count 127 = .ok (.ireturn, 1) := by decide +kernel
theorem dX11_count_128 : decode cX11_count 128 = .ok (.aload_n 0, 1) := by decide +kernel
theorem dX11_count_129 : decode cX11_count 129 = .ok (.getfield 10, 3) := by decide +kernel
theorem dX11_count_132 : decode cX11_count 132 = .ok (.getfield 30, 3) := by decide +kernel
theorem dX11_count_135 : decode cX11_count 135 = .ok (.ireturn, 1) := by decide +kernel
theorem dX11_count_136 : decode cX11_count 136 = .ok (.new 92, 3) := by decide +kernel
theorem dX11_count_139 : decode cX11_count 139 = .ok (.dup, 1) := by decide +kernel
theorem dX11_count_140 : decode cX11_count 140 = .ok (.ldc 94, 2) := by decide +kernel
theorem dX11_count_142 : decode cX11_count 142 = .ok (.invokespecial 96, 3) := by decide +kernel
theorem dX11_count_145 : decode cX11_count 145 = .ok (.athrow, 1) := by decide +kernel
theorem dX11_ground_0 : decode cX11_ground 0 = .ok (.aload_n 0, 1) := by decide +kernel
theorem dX11_ground_1 : decode cX11_ground 1 = .ok (.iload_n 1, 1) := by decide +kernel
theorem dX11_ground_2 : decode cX11_ground 2 = .ok (.invokevirtual 97, 3) := by decide +kernel
theorem dX11_ground_5 : decode cX11_ground 5 = .ok (.aload_n 0, 1) := by decide +kernel
theorem dX11_ground_6 : decode cX11_ground 6 = .ok (.getfield 19, 3) := by decide +kernel
theorem dX11_ground_9 : decode cX11_ground 9 = .ok (.getfield 100, 3) := by decide +kernel
theorem dX11_ground_12 : decode cX11_ground 12 = .ok (.iload_n 1, 1) := by decide +kernel
theorem dX11_ground_13 : decode cX11_ground 13 = .ok (.aaload, 1) := by decide +kernel
theorem dX11_ground_14 : decode cX11_ground 14 = .ok (.astore_n 3, 1) := by decide +kernel
theorem dX11_ground_15 : decode cX11_ground 15 = .ok (.iload_n 2, 1) := by decide +kernel
theorem dX11_ground_16 : decode cX11_ground 16 = .ok (.tableswitch 79 0 8 #[52, 57, 57, 57, 57, 57, 64, 69, 74], 52) := by decide +kernel
theorem dX11_ground_68 : decode cX11_ground 68 = .ok (.aload_n 3, 1) := by decide +kernel
theorem dX11_ground_69 : decode cX11_ground 69 = .ok (.invokevirtual 104, 3) := by decide +kernel
theorem dX11_ground_72 : decode cX11_ground 72 = .ok (.ireturn, 1) := by decide +kernel
theorem dX11_ground_73 : decode cX11_ground 73 = .ok (.aload_n 3, 1) := by decide +kernel
theorem dX11_ground_74 : decode cX11_ground 74 = .ok (.getfield 107, 3) := by decide +kernel
theorem dX11_ground_77 : decode cX11_ground 77 = .ok (.iload_n 2, 1) := by decide +kernel
theorem dX11_ground_78 : decode cX11_ground 78 = .ok (.iaload, 1) := by decide +kernel
theorem dX11_ground_79 : decode cX11_ground 79 = .ok (.ireturn, 1) := by decide +kernel
theorem dX11_ground_80 : decode cX11_ground 80 = .ok (.aload_n 3, 1) := by decide +kernel
theorem dX11_ground_81 : decode cX11_ground 81 = .ok (.getfield 111, 3) := by decide +kernel
theorem dX11_ground_84 : decode cX11_ground 84 = .ok (.ireturn, 1) := by decide +kernel
theorem dX11_ground_85 : decode cX11_ground 85 = .ok (.aload_n 3, 1) := by decide +kernel
theorem dX11_ground_86 : decode cX11_ground 86 = .ok (.getfield 114, 3) := by decide +kernel
theorem dX11_ground_89 : decode cX11_ground 89 = .ok (.ireturn, 1) := by decide +kernel
theorem dX11_ground_90 : decode cX11_ground 90 = .ok (.aload_n 3, 1) := by decide +kernel
theorem dX11_ground_91 : decode cX11_ground 91 = .ok (.getfield 117, 3) := by decide +kernel
theorem dX11_ground_94 : decode cX11_ground 94 = .ok (.ireturn, 1) := by decide +kernel
theorem dX11_ground_95 : decode cX11_ground 95 = .ok (.new 92, 3) := by decide +kernel
theorem dX11_ground_98 : decode cX11_ground 98 = .ok (.dup, 1) := by decide +kernel
theorem dX11_ground_99 : decode cX11_ground 99 = .ok (.ldc 120, 2) := by decide +kernel
theorem dX11_ground_101 : decode cX11_ground 101 = .ok (.invokespecial 96, 3) := by decide +kernel
theorem dX11_ground_104 : decode cX11_ground 104 = .ok (.athrow, 1) := by decide +kernel
theorem dX11_fisher_0 : decode cX11_fisher 0 = .ok (.aload_n 0, 1) := by decide +kernel
theorem dX11_fisher_1 : decode cX11_fisher 1 = .ok (.iload_n 1, 1) := by decide +kernel
theorem dX11_fisher_2 : decode cX11_fisher 2 = .ok (.invokevirtual 122, 3) := by decide +kernel
theorem dX11_fisher_5 : decode cX11_fisher 5 = .ok (.aload_n 0, 1) := by decide +kernel
theorem dX11_fisher_6 : decode cX11_fisher 6 = .ok (.getfield 19, 3) := by decide +kernel
theorem dX11_fisher_9 : decode cX11_fisher 9 = .ok (.getfield 125, 3) := by decide +kernel
theorem dX11_fisher_12 : decode cX11_fisher 12 = .ok (.iload_n 1, 1) := by decide +kernel
theorem dX11_fisher_13 : decode cX11_fisher 13 = .ok (.aaload, 1) := by decide +kernel
theorem dX11_fisher_14 : decode cX11_fisher 14 = .ok (.astore_n 3, 1) := by decide +kernel
theorem dX11_fisher_15 : decode cX11_fisher 15 = .ok (.iload_n 2, 1) := by decide +kernel
theorem dX11_fisher_16 : decode cX11_fisher 16 = .ok (.tableswitch 114 0 9 #[56, 61, 66, 71, 76, 81, 86, 91, 96, 109], 56) := by decide +kernel
theorem dX11_fisher_72 : decode cX11_fisher 72 = .ok (.aload_n 3, 1) := by decide +kernel
theorem dX11_fisher_73 : decode cX11_fisher 73 = .ok (.getfield 129, 3) := by decide +kernel
theorem dX11_fisher_76 : decode cX11_fisher 76 = .ok (.ireturn, 1) := by decide +kernel
theorem dX11_fisher_77 : decode cX11_fisher 77 = .ok (.aload_n 3, 1) := by decide +kernel
theorem dX11_fisher_78 : decode cX11_fisher 78 = .ok (.getfield 134, 3) := by decide +kernel
theorem dX11_fisher_81 : decode cX11_fisher 81 = .ok (.ireturn, 1) := by decide +kernel
theorem dX11_fisher_82 : decode cX11_fisher 82 = .ok (.aload_n 3, 1) := by decide +kernel
theorem dX11_fisher_83 : decode cX11_fisher 83 = .ok (.getfield 137, 3) := by decide +kernel
theorem dX11_fisher_86 : decode cX11_fisher 86 = .ok (.ireturn, 1) := by decide +kernel
theorem dX11_fisher_87 : decode cX11_fisher 87 = .ok (.aload_n 3, 1) := by decide +kernel
theorem dX11_fisher_88 : decode cX11_fisher 88 = .ok (.getfield 140, 3) := by decide +kernel
theorem dX11_fisher_91 : decode cX11_fisher 91 = .ok (.ireturn, 1) := by decide +kernel
theorem dX11_fisher_92 : decode cX11_fisher 92 = .ok (.aload_n 3, 1) := by decide +kernel
theorem dX11_fisher_93 : decode cX11_fisher 93 = .ok (.getfield 143, 3) := by decide +kernel
theorem dX11_fisher_96 : decode cX11_fisher 96 = .ok (.ireturn, 1) := by decide +kernel
theorem dX11_fisher_97 : decode cX11_fisher 97 = .ok (.aload_n 3, 1) := by decide +kernel
theorem dX11_fisher_98 : decode cX11_fisher 98 = .ok (.getfield 146, 3) := by decide +kernel
theorem dX11_fisher_101 : decode cX11_fisher 101 = .ok (.ireturn, 1) := by decide +kernel
theorem dX11_fisher_102 : decode cX11_fisher 102 = .ok (.aload_n 3, 1) := by decide +kernel
theorem dX11_fisher_103 : decode cX11_fisher 103 = .ok (.getfield 149, 3) := by decide +kernel
theorem dX11_fisher_106 : decode cX11_fisher 106 = .ok (.ireturn, 1) := by decide +kernel
theorem dX11_fisher_107 : decode cX11_fisher 107 = .ok (.aload_n 3, 1) := by decide +kernel
theorem dX11_fisher_108 : decode cX11_fisher 108 = .ok (.getfield 152, 3) := by decide +kernel
theorem dX11_fisher_111 : decode cX11_fisher 111 = .ok (.ireturn, 1) := by decide +kernel
theorem dX11_fisher_112 : decode cX11_fisher 112 = .ok (.aload_n 3, 1) := by decide +kernel
theorem dX11_fisher_113 : decode cX11_fisher 113 = .ok (.getfield 155, 3) := by decide +kernel
theorem dX11_fisher_116 : decode cX11_fisher 116 = .ok (.ifCond .eq 7, 3) := by decide +kernel
theorem dX11_fisher_119 : decode cX11_fisher 119 = .ok (.iconst 1, 1) := by decide +kernel
theorem dX11_fisher_120 : decode cX11_fisher 120 = .ok (.goto 4, 3) := by decide +kernel
theorem dX11_fisher_123 : decode cX11_fisher 123 = .ok (.iconst 0, 1) := by decide +kernel
theorem dX11_fisher_124 : decode cX11_fisher 124 = .ok (.ireturn, 1) := by decide +kernel
theorem dX11_fisher_125 : decode cX11_fisher 125 = .ok (.aload_n 3, 1) := by decide +kernel
theorem dX11_fisher_126 : decode cX11_fisher 126 = .ok (.getfield 159, 3) := by decide +kernel
theorem dX11_fisher_129 : decode cX11_fisher 129 = .ok (.ireturn, 1) := by decide +kernel
theorem dX11_fisher_130 : decode cX11_fisher 130 = .ok (.new 92, 3) := by decide +kernel
theorem dX11_fisher_133 : decode cX11_fisher 133 = .ok (.dup, 1) := by decide +kernel
theorem dX11_fisher_134 : decode cX11_fisher 134 = .ok (.ldc 160, 2) := by decide +kernel
theorem dX11_fisher_136 : decode cX11_fisher 136 = .ok (.invokespecial 96, 3) := by decide +kernel
theorem dX11_fisher_139 : decode cX11_fisher 139 = .ok (.athrow, 1) := by decide +kernel
theorem dX11_pact_0 : decode cX11_pact 0 = .ok (.iload_n 1, 1) := by decide +kernel
theorem dX11_pact_1 : decode cX11_pact 1 = .ok (.ifCond .lt 14, 3) := by decide +kernel
theorem dX11_pact_4 : decode cX11_pact 4 = .ok (.iload_n 1, 1) := by decide +kernel
theorem dX11_pact_5 : decode cX11_pact 5 = .ok (.aload_n 0, 1) := by decide +kernel
theorem dX11_pact_6 : decode cX11_pact 6 = .ok (.getfield 19, 3) := by decide +kernel
theorem dX11_pact_9 : decode cX11_pact 9 = .ok (.getfield 77, 3) := by decide +kernel
theorem dX11_pact_12 : decode cX11_pact 12 = .ok (.if_icmp .lt 13, 3) := by decide +kernel
theorem dX11_pact_15 : decode cX11_pact 15 = .ok (.new 92, 3) := by decide +kernel
theorem dX11_pact_18 : decode cX11_pact 18 = .ok (.dup, 1) := by decide +kernel
theorem dX11_pact_19 : decode cX11_pact 19 = .ok (.ldc 162, 2) := by decide +kernel
theorem dX11_pact_21 : decode cX11_pact 21 = .ok (.invokespecial 96, 3) := by decide +kernel
theorem dX11_pact_24 : decode cX11_pact 24 = .ok (.athrow, 1) := by decide +kernel
theorem dX11_pact_25 : decode cX11_pact 25 = .ok (.aload_n 0, 1) := by decide +kernel
theorem dX11_pact_26 : decode cX11_pact 26 = .ok (.getfield 19, 3) := by decide +kernel
theorem dX11_pact_29 : decode cX11_pact 29 = .ok (.getfield 164, 3) := by decide +kernel
theorem dX11_pact_32 : decode cX11_pact 32 = .ok (.iload_n 1, 1) := by decide +kernel
theorem dX11_pact_33 : decode cX11_pact 33 = .ok (.aaload, 1) := by decide +kernel
theorem dX11_pact_34 : decode cX11_pact 34 = .ok (.astore_n 3, 1) := by decide +kernel
theorem dX11_pact_35 : decode cX11_pact 35 = .ok (.iload_n 2, 1) := by decide +kernel
theorem dX11_pact_36 : decode cX11_pact 36 = .ok (.tableswitch 89 0 6 #[44, 57, 62, 67, 74, 79, 84], 44) := by decide +kernel
theorem dX11_pact_80 : decode cX11_pact 80 = .ok (.aload_n 3, 1) := by decide +kernel
theorem dX11_pact_81 : decode cX11_pact 81 = .ok (.invokevirtual 168, 3) := by decide +kernel
theorem dX11_pact_84 : decode cX11_pact 84 = .ok (.ifCond .eq 7, 3) := by decide +kernel
theorem dX11_pact_87 : decode cX11_pact 87 = .ok (.iconst 0, 1) := by decide +kernel
theorem dX11_pact_88 : decode cX11_pact 88 = .ok (.goto 4, 3) := by decide +kernel
theorem dX11_pact_91 : decode cX11_pact 91 = .ok (.iconst 1, 1) := by decide +kernel
theorem dX11_pact_92 : decode cX11_pact 92 = .ok (.ireturn, 1) := by decide +kernel
theorem dX11_pact_93 : decode cX11_pact 93 = .ok (.aload_n 3, 1) := by decide +kernel
theorem dX11_pact_94 : decode cX11_pact 94 = .ok (.getfield 174, 3) := by decide +kernel
theorem dX11_pact_97 : decode cX11_pact 97 = .ok (.ireturn, 1) := by decide +kernel
theorem dX11_pact_98 : decode cX11_pact 98 = .ok (.aload_n 3, 1) := by decide +kernel
theorem dX11_pact_99 : decode cX11_pact 99 = .ok (.getfield 177, 3) := by decide +kernel
theorem dX11_pact_102 : decode cX11_pact 102 = .ok (.ireturn, 1) := by decide +kernel
theorem dX11_pact_103 : decode cX11_pact 103 = .ok (.aload_n 3, 1) := by decide +kernel
theorem dX11_pact_104 : decode cX11_pact 104 = .ok (.getfield 180, 3) := by decide +kernel
theorem dX11_pact_107 : decode cX11_pact 107 = .ok (.iconst 0, 1) := by decide +kernel
theorem dX11_pact_108 : decode cX11_pact 108 = .ok (.iaload, 1) := by decide +kernel
theorem dX11_pact_109 : decode cX11_pact 109 = .ok (.ireturn, 1) := by decide +kernel
theorem dX11_pact_110 : decode cX11_pact 110 = .ok (.aload_n 3, 1) := by decide +kernel
theorem dX11_pact_111 : decode cX11_pact 111 = .ok (.getfield 182, 3) := by decide +kernel
theorem dX11_pact_114 : decode cX11_pact 114 = .ok (.ireturn, 1) := by decide +kernel
theorem dX11_pact_115 : decode cX11_pact 115 = .ok (.aload_n 3, 1) := by decide +kernel
theorem dX11_pact_116 : decode cX11_pact 116 = .ok (.getfield 185, 3) := by decide +kernel
theorem dX11_pact_119 : decode cX11_pact 119 = .ok (.ireturn, 1) := by decide +kernel
theorem dX11_pact_120 : decode cX11_pact 120 = .ok (.aload_n 3, 1) := by decide +kernel
theorem dX11_pact_121 : decode cX11_pact 121 = .ok (.getfield 188, 3) := by decide +kernel
theorem dX11_pact_124 : decode cX11_pact 124 = .ok (.ireturn, 1) := by decide +kernel
theorem dX11_pact_125 : decode cX11_pact 125 = .ok (.new 92, 3) := by decide +kernel
theorem dX11_pact_128 : decode cX11_pact 128 = .ok (.dup, 1) := by decide +kernel
theorem dX11_pact_129 : decode cX11_pact 129 = .ok (.ldc 191, 2) := by decide +kernel
theorem dX11_pact_131 : decode cX11_pact 131 = .ok (.invokespecial 96, 3) := by decide +kernel
theorem dX11_pact_134 : decode cX11_pact 134 = .ok (.athrow, 1) := by decide +kernel
theorem dX11_cheat_0 : decode cX11_cheat 0 = .ok (.aload_n 0, 1) := by decide +kernel
theorem dX11_cheat_1 : decode cX11_cheat 1 = .ok (.iload_n 1, 1) := by decide +kernel
theorem dX11_cheat_2 : decode cX11_cheat 2 = .ok (.invokevirtual 122, 3) := by decide +kernel
theorem dX11_cheat_5 : decode cX11_cheat 5 = .ok (.aload_n 0, 1) := by decide +kernel
theorem dX11_cheat_6 : decode cX11_cheat 6 = .ok (.getfield 19, 3) := by decide +kernel
theorem dX11_cheat_9 : decode cX11_cheat 9 = .ok (.getfield 125, 3) := by decide +kernel
theorem dX11_cheat_12 : decode cX11_cheat 12 = .ok (.iload_n 1, 1) := by decide +kernel
theorem dX11_cheat_13 : decode cX11_cheat 13 = .ok (.aaload, 1) := by decide +kernel
theorem dX11_cheat_14 : decode cX11_cheat 14 = .ok (.iload_n 2, 1) := by decide +kernel
theorem dX11_cheat_15 : decode cX11_cheat 15 = .ok (.putfield 155, 3) := by decide +kernel
theorem dX11_cheat_18 : decode cX11_cheat 18 = .ok (.aload_n 0, 1) := by decide +kernel
theorem dX11_cheat_19 : decode cX11_cheat 19 = .ok (.getfield 19, 3) := by decide +kernel
theorem dX11_cheat_22 : decode cX11_cheat 22 = .ok (.invokevirtual 89, 3) := by decide +kernel
theorem dX11_cheat_25 : decode cX11_cheat 25 = .ok (.ireturn, 1) := by decide +kernel
theorem dX11_mend_0 : decode cX11_mend 0 = .ok (.aload_n 0, 1) := by decide +kernel
theorem dX11_mend_1 : decode cX11_mend 1 = .ok (.iload_n 1, 1) := by decide +kernel
theorem dX11_mend_2 : decode cX11_mend 2 = .ok (.invokevirtual 122, 3) := by decide +kernel
theorem dX11_mend_5 : decode cX11_mend 5 = .ok (.aload_n 0, 1) := by decide +kernel
theorem dX11_mend_6 : decode cX11_mend 6 = .ok (.getfield 19, 3) := by decide +kernel
theorem dX11_mend_9 : decode cX11_mend 9 = .ok (.getfield 125, 3) := by decide +kernel
theorem dX11_mend_12 : decode cX11_mend 12 = .ok (.iload_n 1, 1) := by decide +kernel
theorem dX11_mend_13 : decode cX11_mend 13 = .ok (.aaload, 1) := by decide +kernel
theorem dX11_mend_14 : decode cX11_mend 14 = .ok (.astore_n 2, 1) := by decide +kernel
theorem dX11_mend_15 : decode cX11_mend 15 = .ok (.aload_n 2, 1) := by decide +kernel
theorem dX11_mend_16 : decode cX11_mend 16 = .ok (.getfield 129, 3) := by decide +kernel
theorem dX11_mend_19 : decode cX11_mend 19 = .ok (.aload_n 2, 1) := by decide +kernel
theorem dX11_mend_20 : decode cX11_mend 20 = .ok (.getfield 134, 3) := by decide +kernel
theorem dX11_mend_23 : decode cX11_mend 23 = .ok (.if_icmp .eq 11, 3) := by decide +kernel
theorem dX11_mend_26 : decode cX11_mend 26 = .ok (.aload_n 2, 1) := by decide +kernel
theorem dX11_mend_27 : decode cX11_mend 27 = .ok (.getfield 143, 3) := by decide +kernel
theorem dX11_mend_30 : decode cX11_mend 30 = .ok (.iconst 3, 1) := by decide +kernel
theorem dX11_mend_31 : decode cX11_mend 31 = .ok (.if_icmp .ge 13, 3) := by decide +kernel
theorem dX11_mend_34 : decode cX11_mend 34 = .ok (.new 33, 3) := by decide +kernel
theorem dX11_mend_37 : decode cX11_mend 37 = .ok (.dup, 1) := by decide +kernel
theorem dX11_mend_38 : decode cX11_mend 38 = .ok (.ldc 193, 2) := by decide +kernel
theorem dX11_mend_40 : decode cX11_mend 40 = .ok (.invokespecial 37, 3) := by decide +kernel
theorem dX11_mend_43 : decode cX11_mend 43 = .ok (.athrow, 1) := by decide +kernel
theorem dX11_mend_44 : decode cX11_mend 44 = .ok (.aload_n 2, 1) := by decide +kernel
theorem dX11_mend_45 : decode cX11_mend 45 = .ok (.aload_n 2, 1) := by decide +kernel
theorem dX11_mend_46 : decode cX11_mend 46 = .ok (.getfield 134, 3) := by decide +kernel
theorem dX11_mend_49 : decode cX11_mend 49 = .ok (.putfield 129, 3) := by decide +kernel
theorem dX11_mend_52 : decode cX11_mend 52 = .ok (.aload_n 2, 1) := by decide +kernel
theorem dX11_mend_53 : decode cX11_mend 53 = .ok (.dup, 1) := by decide +kernel
theorem dX11_mend_54 : decode cX11_mend 54 = .ok (.getfield 143, 3) := by decide +kernel
theorem dX11_mend_57 : decode cX11_mend 57 = .ok (.iconst 3, 1) := by decide +kernel
theorem dX11_mend_58 : decode cX11_mend 58 = .ok (.isub, 1) := by decide +kernel
theorem dX11_mend_59 : decode cX11_mend 59 = .ok (.putfield 143, 3) := by decide +kernel
theorem dX11_mend_62 : decode cX11_mend 62 = .ok (.aload_n 2, 1) := by decide +kernel
theorem dX11_mend_63 : decode cX11_mend 63 = .ok (.getfield 143, 3) := by decide +kernel
theorem dX11_mend_66 : decode cX11_mend 66 = .ok (.ireturn, 1) := by decide +kernel
theorem dX11_lot_0 : decode cX11_lot 0 = .ok (.iload_n 1, 1) := by decide +kernel
theorem dX11_lot_1 : decode cX11_lot 1 = .ok (.ifCond .lt 14, 3) := by decide +kernel
theorem dX11_lot_4 : decode cX11_lot 4 = .ok (.iload_n 1, 1) := by decide +kernel
theorem dX11_lot_5 : decode cX11_lot 5 = .ok (.aload_n 0, 1) := by decide +kernel
theorem dX11_lot_6 : decode cX11_lot 6 = .ok (.getfield 19, 3) := by decide +kernel
theorem dX11_lot_9 : decode cX11_lot 9 = .ok (.getfield 71, 3) := by decide +kernel
theorem dX11_lot_12 : decode cX11_lot 12 = .ok (.if_icmp .lt 13, 3) := by decide +kernel
theorem dX11_lot_15 : decode cX11_lot 15 = .ok (.new 92, 3) := by decide +kernel
theorem dX11_lot_18 : decode cX11_lot 18 = .ok (.dup, 1) := by decide +kernel
theorem dX11_lot_19 : decode cX11_lot 19 = .ok (.ldc 195, 2) := by decide +kernel
theorem dX11_lot_21 : decode cX11_lot 21 = .ok (.invokespecial 96, 3) := by decide +kernel
theorem dX11_lot_24 : decode cX11_lot 24 = .ok (.athrow, 1) := by decide +kernel
theorem dX11_lot_25 : decode cX11_lot 25 = .ok (.aload_n 0, 1) := by decide +kernel
theorem dX11_lot_26 : decode cX11_lot 26 = .ok (.getfield 19, 3) := by decide +kernel
theorem dX11_lot_29 : decode cX11_lot 29 = .ok (.invokevirtual 197, 3) := by decide +kernel
theorem dX11_lot_32 : decode cX11_lot 32 = .ok (.pop, 1) := by decide +kernel
theorem dX11_lot_33 : decode cX11_lot 33 = .ok (.aload_n 0, 1) := by decide +kernel
theorem dX11_lot_34 : decode cX11_lot 34 = .ok (.getfield 19, 3) := by decide +kernel
theorem dX11_lot_37 : decode cX11_lot 37 = .ok (.getfield 200, 3) := by decide +kernel
theorem dX11_lot_40 : decode cX11_lot 40 = .ok (.iload_n 1, 1) := by decide +kernel
theorem dX11_lot_41 : decode cX11_lot 41 = .ok (.iaload, 1) := by decide +kernel
theorem dX11_lot_42 : decode cX11_lot 42 = .ok (.ireturn, 1) := by decide +kernel
theorem dX11_took_0 : decode cX11_took 0 = .ok (.aload_n 0, 1) := by decide +kernel
theorem dX11_took_1 : decode cX11_took 1 = .ok (.iload_n 1, 1) := by decide +kernel
theorem dX11_took_2 : decode cX11_took 2 = .ok (.invokevirtual 97, 3) := by decide +kernel
theorem dX11_took_5 : decode cX11_took 5 = .ok (.aload_n 0, 1) := by decide +kernel
theorem dX11_took_6 : decode cX11_took 6 = .ok (.iload_n 2, 1) := by decide +kernel
theorem dX11_took_7 : decode cX11_took 7 = .ok (.invokevirtual 122, 3) := by decide +kernel
theorem dX11_took_10 : decode cX11_took 10 = .ok (.aload_n 0, 1) := by decide +kernel
theorem dX11_took_11 : decode cX11_took 11 = .ok (.getfield 19, 3) := by decide +kernel
theorem dX11_took_14 : decode cX11_took 14 = .ok (.getfield 125, 3) := by decide +kernel
theorem dX11_took_17 : decode cX11_took 17 = .ok (.iload_n 2, 1) := by decide +kernel
theorem dX11_took_18 : decode cX11_took 18 = .ok (.aaload, 1) := by decide +kernel
theorem dX11_took_19 : decode cX11_took 19 = .ok (.getfield 203, 3) := by decide +kernel
theorem dX11_took_22 : decode cX11_took 22 = .ok (.iload_n 1, 1) := by decide +kernel
theorem dX11_took_23 : decode cX11_took 23 = .ok (.iaload, 1) := by decide +kernel
theorem dX11_took_24 : decode cX11_took 24 = .ok (.ireturn, 1) := by decide +kernel
theorem dX11_blame_0 : decode cX11_blame 0 = .ok (.aload_n 0, 1) := by decide +kernel
theorem dX11_blame_1 : decode cX11_blame 1 = .ok (.iload_n 1, 1) := by decide +kernel
theorem dX11_blame_2 : decode cX11_blame 2 = .ok (.invokevirtual 97, 3) := by decide +kernel
theorem dX11_blame_5 : decode cX11_blame 5 = .ok (.iconst (-1), 1) := by decide +kernel
theorem dX11_blame_6 : decode cX11_blame 6 = .ok (.istore_n 2, 1) := by decide +kernel
theorem dX11_blame_7 : decode cX11_blame 7 = .ok (.iconst 0, 1) := by decide +kernel
theorem dX11_blame_8 : decode cX11_blame 8 = .ok (.istore_n 3, 1) := by decide +kernel
theorem dX11_blame_9 : decode cX11_blame 9 = .ok (.iconst 0, 1) := by decide +kernel
theorem dX11_blame_10 : decode cX11_blame 10 = .ok (.istore 4, 2) := by decide +kernel
theorem dX11_blame_12 : decode cX11_blame 12 = .ok (.iload 4, 2) := by decide +kernel
theorem dX11_blame_14 : decode cX11_blame 14 = .ok (.aload_n 0, 1) := by decide +kernel
theorem dX11_blame_15 : decode cX11_blame 15 = .ok (.getfield 19, 3) := by decide +kernel
theorem dX11_blame_18 : decode cX11_blame 18 = .ok (.getfield 71, 3) := by decide +kernel
theorem dX11_blame_21 : decode cX11_blame 21 = .ok (.if_icmp .ge 38, 3) := by decide +kernel
theorem dX11_blame_24 : decode cX11_blame 24 = .ok (.aload_n 0, 1) := by decide +kernel
theorem dX11_blame_25 : decode cX11_blame 25 = .ok (.getfield 19, 3) := by decide +kernel
theorem dX11_blame_28 : decode cX11_blame 28 = .ok (.getfield 125, 3) := by decide +kernel
theorem dX11_blame_31 : decode cX11_blame 31 = .ok (.iload 4, 2) := by decide +kernel
theorem dX11_blame_33 : decode cX11_blame 33 = .ok (.aaload, 1) := by decide +kernel
theorem dX11_blame_34 : decode cX11_blame 34 = .ok (.getfield 203, 3) := by decide +kernel
theorem dX11_blame_37 : decode cX11_blame 37 = .ok (.iload_n 1, 1) := by decide +kernel
theorem dX11_blame_38 : decode cX11_blame 38 = .ok (.iaload, 1) := by decide +kernel
theorem dX11_blame_39 : decode cX11_blame 39 = .ok (.istore 5, 2) := by decide +kernel
theorem dX11_blame_41 : decode cX11_blame 41 = .ok (.iload 5, 2) := by decide +kernel
theorem dX11_blame_43 : decode cX11_blame 43 = .ok (.iload_n 3, 1) := by decide +kernel
theorem dX11_blame_44 : decode cX11_blame 44 = .ok (.if_icmp .le 9, 3) := by decide +kernel
theorem dX11_blame_47 : decode cX11_blame 47 = .ok (.iload 5, 2) := by decide +kernel
theorem dX11_blame_49 : decode cX11_blame 49 = .ok (.istore_n 3, 1) := by decide +kernel
theorem dX11_blame_50 : decode cX11_blame 50 = .ok (.iload 4, 2) := by decide +kernel
theorem dX11_blame_52 : decode cX11_blame 52 = .ok (.istore_n 2, 1) := by decide +kernel
theorem dX11_blame_53 : decode cX11_blame 53 = .ok (.iinc 4 1, 3) := by decide +kernel
theorem dX11_blame_56 : decode cX11_blame 56 = .ok (.goto (-44), 3) := by decide +kernel
theorem dX11_blame_59 : decode cX11_blame 59 = .ok (.iload_n 2, 1) := by decide +kernel
theorem dX11_blame_60 : decode cX11_blame 60 = .ok (.ireturn, 1) := by decide +kernel
theorem dX11_gap_0 : decode cX11_gap 0 = .ok (.aload_n 0, 1) := by decide +kernel
theorem dX11_gap_1 : decode cX11_gap 1 = .ok (.getfield 19, 3) := by decide +kernel
theorem dX11_gap_4 : decode cX11_gap 4 = .ok (.invokevirtual 206, 3) := by decide +kernel
theorem dX11_gap_7 : decode cX11_gap 7 = .ok (.ireturn, 1) := by decide +kernel
theorem dX11_pass_0 : decode cX11_pass 0 = .ok (.iload_n 1, 1) := by decide +kernel
theorem dX11_pass_1 : decode cX11_pass 1 = .ok (.bipush 60, 2) := by decide +kernel
theorem dX11_pass_3 : decode cX11_pass 3 = .ok (.invokestatic 209, 3) := by decide +kernel
theorem dX11_pass_6 : decode cX11_pass 6 = .ok (.aload_n 0, 1) := by decide +kernel
theorem dX11_pass_7 : decode cX11_pass 7 = .ok (.getfield 19, 3) := by decide +kernel
theorem dX11_pass_10 : decode cX11_pass 10 = .ok (.iload_n 1, 1) := by decide +kernel
theorem dX11_pass_11 : decode cX11_pass 11 = .ok (.invokevirtual 213, 3) := by decide +kernel
theorem dX11_pass_14 : decode cX11_pass 14 = .ok (.ireturn, 1) := by decide +kernel
theorem dX11_foresee_0 : decode cX11_foresee 0 = .ok (.iload_n 1, 1) := by decide +kernel
theorem dX11_foresee_1 : decode cX11_foresee 1 = .ok (.bipush 60, 2) := by decide +kernel
theorem dX11_foresee_3 : decode cX11_foresee 3 = .ok (.invokestatic 209, 3) := by decide +kernel
theorem dX11_foresee_6 : decode cX11_foresee 6 = .ok (.iload_n 2, 1) := by decide +kernel
theorem dX11_foresee_7 : decode cX11_foresee 7 = .ok (.ifCond .lt 8, 3) := by decide +kernel
theorem dX11_foresee_10 : decode cX11_foresee 10 = .ok (.iload_n 2, 1) := by decide +kernel
theorem dX11_foresee_11 : decode cX11_foresee 11 = .ok (.iconst 2, 1) := by decide +kernel
theorem dX11_foresee_12 : decode cX11_foresee 12 = .ok (.if_icmp .le 13, 3) := by decide +kernel
theorem dX11_foresee_15 : decode cX11_foresee 15 = .ok (.new 92, 3) := by decide +kernel
theorem dX11_foresee_18 : decode cX11_foresee 18 = .ok (.dup, 1) := by decide +kernel
theorem dX11_foresee_19 : decode cX11_foresee 19 = .ok (.ldc 217, 2) := by decide +kernel
theorem dX11_foresee_21 : decode cX11_foresee 21 = .ok (.invokespecial 96, 3) := by decide +kernel
theorem dX11_foresee_24 : decode cX11_foresee 24 = .ok (.athrow, 1) := by decide +kernel
theorem dX11_foresee_25 : decode cX11_foresee 25 = .ok (.aload_n 0, 1) := by decide +kernel
theorem dX11_foresee_26 : decode cX11_foresee 26 = .ok (.invokevirtual 219, 3) := by decide +kernel
theorem dX11_foresee_29 : decode cX11_foresee 29 = .ok (.astore_n 3, 1) := by decide +kernel
theorem dX11_foresee_30 : decode cX11_foresee 30 = .ok (.aload_n 3, 1) := by decide +kernel
theorem dX11_foresee_31 : decode cX11_foresee 31 = .ok (.iload_n 1, 1) := by decide +kernel
theorem dX11_foresee_32 : decode cX11_foresee 32 = .ok (.invokevirtual 213, 3) := by decide +kernel
theorem dX11_foresee_35 : decode cX11_foresee 35 = .ok (.pop, 1) := by decide +kernel
theorem dX11_foresee_36 : decode cX11_foresee 36 = .ok (.iload_n 2, 1) := by decide +kernel
theorem dX11_foresee_37 : decode cX11_foresee 37 = .ok (.lookupswitch 37 #[(0, 27), (1, 32)], 27) := by decide +kernel
theorem dX11_foresee_64 : decode cX11_foresee 64 = .ok (.aload_n 3, 1) := by decide +kernel
theorem dX11_foresee_65 : decode cX11_foresee 65 = .ok (.invokevirtual 83, 3) := by decide +kernel
theorem dX11_foresee_68 : decode cX11_foresee 68 = .ok (.ireturn, 1) := by decide +kernel
theorem dX11_foresee_69 : decode cX11_foresee 69 = .ok (.aload_n 3, 1) := by decide +kernel
theorem dX11_foresee_70 : decode cX11_foresee 70 = .ok (.invokevirtual 80, 3) := by decide +kernel
theorem dX11_foresee_73 : decode cX11_foresee 73 = .ok (.ireturn, 1) := by decide +kernel
theorem dX11_foresee_74 : decode cX11_foresee 74 = .ok (.aload_n 3, 1) := by decide +kernel
theorem dX11_foresee_75 : decode cX11_foresee 75 = .ok (.invokevirtual 206, 3) := by decide +kernel
theorem dX11_foresee_78 : decode cX11_foresee 78 = .ok (.ireturn, 1) := by decide +kernel
theorem dX11_pays_0 : decode cX11_pays 0 = .ok (.aload_n 0, 1) := by decide +kernel
theorem dX11_pays_1 : decode cX11_pays 1 = .ok (.iload_n 1, 1) := by decide +kernel
theorem dX11_pays_2 : decode cX11_pays 2 = .ok (.invokevirtual 122, 3) := by decide +kernel
theorem dX11_pays_5 : decode cX11_pays 5 = .ok (.iload_n 2, 1) := by decide +kernel
theorem dX11_pays_6 : decode cX11_pays 6 = .ok (.bipush 60, 2) := by decide +kernel
theorem dX11_pays_8 : decode cX11_pays 8 = .ok (.invokestatic 209, 3) := by decide +kernel
theorem dX11_pays_11 : decode cX11_pays 11 = .ok (.aload_n 0, 1) := by decide +kernel
theorem dX11_pays_12 : decode cX11_pays 12 = .ok (.invokevirtual 219, 3) := by decide +kernel
theorem dX11_pays_15 : decode cX11_pays 15 = .ok (.astore_n 3, 1) := by decide +kernel
theorem dX11_pays_16 : decode cX11_pays 16 = .ok (.aload_n 3, 1) := by decide +kernel
theorem dX11_pays_17 : decode cX11_pays 17 = .ok (.getfield 125, 3) := by decide +kernel
theorem dX11_pays_20 : decode cX11_pays 20 = .ok (.iload_n 1, 1) := by decide +kernel
theorem dX11_pays_21 : decode cX11_pays 21 = .ok (.aaload, 1) := by decide +kernel
theorem dX11_pays_22 : decode cX11_pays 22 = .ok (.iconst 1, 1) := by decide +kernel
theorem dX11_pays_23 : decode cX11_pays 23 = .ok (.putfield 155, 3) := by decide +kernel
theorem dX11_pays_26 : decode cX11_pays 26 = .ok (.aload_n 3, 1) := by decide +kernel
theorem dX11_pays_27 : decode cX11_pays 27 = .ok (.iload_n 2, 1) := by decide +kernel
theorem dX11_pays_28 : decode cX11_pays 28 = .ok (.invokevirtual 213, 3) := by decide +kernel
theorem dX11_pays_31 : decode cX11_pays 31 = .ok (.pop, 1) := by decide +kernel
theorem dX11_pays_32 : decode cX11_pays 32 = .ok (.aload_n 3, 1) := by decide +kernel
theorem dX11_pays_33 : decode cX11_pays 33 = .ok (.getfield 125, 3) := by decide +kernel
theorem dX11_pays_36 : decode cX11_pays 36 = .ok (.iload_n 1, 1) := by decide +kernel
theorem dX11_pays_37 : decode cX11_pays 37 = .ok (.aaload, 1) := by decide +kernel
theorem dX11_pays_38 : decode cX11_pays 38 = .ok (.getfield 143, 3) := by decide +kernel
theorem dX11_pays_41 : decode cX11_pays 41 = .ok (.istore 4, 2) := by decide +kernel
theorem dX11_pays_43 : decode cX11_pays 43 = .ok (.aload_n 0, 1) := by decide +kernel
theorem dX11_pays_44 : decode cX11_pays 44 = .ok (.invokevirtual 219, 3) := by decide +kernel
theorem dX11_pays_47 : decode cX11_pays 47 = .ok (.astore_n 3, 1) := by decide +kernel
theorem dX11_pays_48 : decode cX11_pays 48 = .ok (.aload_n 3, 1) := by decide +kernel
theorem dX11_pays_49 : decode cX11_pays 49 = .ok (.getfield 125, 3) := by decide +kernel
theorem dX11_pays_52 : decode cX11_pays 52 = .ok (.iload_n 1, 1) := by decide +kernel
theorem dX11_pays_53 : decode cX11_pays 53 = .ok (.aaload, 1) := by decide +kernel
theorem dX11_pays_54 : decode cX11_pays 54 = .ok (.iconst 0, 1) := by decide +kernel
theorem dX11_pays_55 : decode cX11_pays 55 = .ok (.putfield 155, 3) := by decide +kernel
theorem dX11_pays_58 : decode cX11_pays 58 = .ok (.aload_n 3, 1) := by decide +kernel
theorem dX11_pays_59 : decode cX11_pays 59 = .ok (.iload_n 2, 1) := by decide +kernel
theorem dX11_pays_60 : decode cX11_pays 60 = .ok (.invokevirtual 213, 3) := by decide +kernel
theorem dX11_pays_63 : decode cX11_pays 63 = .ok (.pop, 1) := by decide +kernel
theorem dX11_pays_64 : decode cX11_pays 64 = .ok (.iload 4, 2) := by decide +kernel
theorem dX11_pays_66 : decode cX11_pays 66 = .ok (.aload_n 3, 1) := by decide +kernel
theorem dX11_pays_67 : decode cX11_pays 67 = .ok (.getfield 125, 3) := by decide +kernel
theorem dX11_pays_70 : decode cX11_pays 70 = .ok (.iload_n 1, 1) := by decide +kernel
theorem dX11_pays_71 : decode cX11_pays 71 = .ok (.aaload, 1) := by decide +kernel
theorem dX11_pays_72 : decode cX11_pays 72 = .ok (.getfield 143, 3) := by decide +kernel
theorem dX11_pays_75 : decode cX11_pays 75 = .ok (.isub, 1) := by decide +kernel
theorem dX11_pays_76 : decode cX11_pays 76 = .ok (.ireturn, 1) := by decide +kernel
theorem dX11_empty_0 : decode cX11_empty 0 = .ok (.aload_n 0, 1) := by decide +kernel
theorem dX11_empty_1 : decode cX11_empty 1 = .ok (.iload_n 1, 1) := by decide +kernel
theorem dX11_empty_2 : decode cX11_empty 2 = .ok (.invokevirtual 97, 3) := by decide +kernel
theorem dX11_empty_5 : decode cX11_empty 5 = .ok (.aload_n 0, 1) := by decide +kernel
theorem dX11_empty_6 : decode cX11_empty 6 = .ok (.invokevirtual 219, 3) := by decide +kernel
theorem dX11_empty_9 : decode cX11_empty 9 = .ok (.astore_n 2, 1) := by decide +kernel
theorem dX11_empty_10 : decode cX11_empty 10 = .ok (.iconst 0, 1) := by decide +kernel
theorem dX11_empty_11 : decode cX11_empty 11 = .ok (.istore_n 3, 1) := by decide +kernel
theorem dX11_empty_12 : decode cX11_empty 12 = .ok (.iload_n 3, 1) := by decide +kernel
theorem dX11_empty_13 : decode cX11_empty 13 = .ok (.bipush 100, 2) := by decide +kernel
theorem dX11_empty_15 : decode cX11_empty 15 = .ok (.if_icmp .gt 33, 3) := by decide +kernel
theorem dX11_empty_18 : decode cX11_empty 18 = .ok (.iload_n 3, 1) := by decide +kernel
theorem dX11_empty_19 : decode cX11_empty 19 = .ok (.ifCond .le 9, 3) := by decide +kernel
theorem dX11_empty_22 : decode cX11_empty 22 = .ok (.aload_n 2, 1) := by decide +kernel
theorem dX11_empty_23 : decode cX11_empty 23 = .ok (.iconst 1, 1) := by decide +kernel
theorem dX11_empty_24 : decode cX11_empty 24 = .ok (.invokevirtual 213, 3) := by decide +kernel
theorem dX11_empty_27 : decode cX11_empty 27 = .ok (.pop, 1) := by decide +kernel
theorem dX11_empty_28 : decode cX11_empty 28 = .ok (.aload_n 2, 1) := by decide +kernel
theorem dX11_empty_29 : decode cX11_empty 29 = .ok (.getfield 100, 3) := by decide +kernel
theorem dX11_empty_32 : decode cX11_empty 32 = .ok (.iload_n 1, 1) := by decide +kernel
theorem dX11_empty_33 : decode cX11_empty 33 = .ok (.aaload, 1) := by decide +kernel
theorem dX11_empty_34 : decode cX11_empty 34 = .ok (.invokevirtual 104, 3) := by decide +kernel
theorem dX11_empty_37 : decode cX11_empty 37 = .ok (.ifCond .ne 5, 3) := by decide +kernel
theorem dX11_empty_40 : decode cX11_empty 40 = .ok (.iload_n 3, 1) := by decide +kernel
theorem dX11_empty_41 : decode cX11_empty 41 = .ok (.ireturn, 1) := by decide +kernel
theorem dX11_empty_42 : decode cX11_empty 42 = .ok (.iinc 3 1, 3) := by decide +kernel
theorem dX11_empty_45 : decode cX11_empty 45 = .ok (.goto (-33), 3) := by decide +kernel
theorem dX11_empty_48 : decode cX11_empty 48 = .ok (.iconst (-1), 1) := by decide +kernel
theorem dX11_empty_49 : decode cX11_empty 49 = .ok (.ireturn, 1) := by decide +kernel
theorem dX11_advise_0 : decode cX11_advise 0 = .ok (.aload_n 0, 1) := by decide +kernel
theorem dX11_advise_1 : decode cX11_advise 1 = .ok (.iload_n 1, 1) := by decide +kernel
theorem dX11_advise_2 : decode cX11_advise 2 = .ok (.invokevirtual 122, 3) := by decide +kernel
theorem dX11_advise_5 : decode cX11_advise 5 = .ok (.iload_n 2, 1) := by decide +kernel
theorem dX11_advise_6 : decode cX11_advise 6 = .ok (.bipush 40, 2) := by decide +kernel
theorem dX11_advise_8 : decode cX11_advise 8 = .ok (.invokestatic 209, 3) := by decide +kernel
theorem dX11_advise_11 : decode cX11_advise 11 = .ok (.iconst 1, 1) := by decide +kernel
theorem dX11_advise_12 : decode cX11_advise 12 = .ok (.istore_n 3, 1) := by decide +kernel
theorem dX11_advise_13 : decode cX11_advise 13 = .ok (.iconst (-1), 1) := by decide +kernel
theorem dX11_advise_14 : decode cX11_advise 14 = .ok (.istore 4, 2) := by decide +kernel
theorem dX11_advise_16 : decode cX11_advise 16 = .ok (.iconst 1, 1) := by decide +kernel
theorem dX11_advise_17 : decode cX11_advise 17 = .ok (.istore 5, 2) := by decide +kernel
theorem dX11_advise_19 : decode cX11_advise 19 = .ok (.iload 5, 2) := by decide +kernel
theorem dX11_advise_21 : decode cX11_advise 21 = .ok (.iconst 5, 1) := by decide +kernel
theorem dX11_advise_22 : decode cX11_advise 22 = .ok (.if_icmp .gt 64, 3) := by decide +kernel
theorem dX11_advise_25 : decode cX11_advise 25 = .ok (.aload_n 0, 1) := by decide +kernel
theorem dX11_advise_26 : decode cX11_advise 26 = .ok (.invokevirtual 219, 3) := by decide +kernel
theorem dX11_advise_29 : decode cX11_advise 29 = .ok (.astore 6, 2) := by decide +kernel
theorem dX11_advise_31 : decode cX11_advise 31 = .ok (.aload 6, 2) := by decide +kernel
theorem dX11_advise_33 : decode cX11_advise 33 = .ok (.getfield 125, 3) := by decide +kernel
theorem dX11_advise_36 : decode cX11_advise 36 = .ok (.iload_n 1, 1) := by decide +kernel
theorem dX11_advise_37 : decode cX11_advise 37 = .ok (.aaload, 1) := by decide +kernel
theorem dX11_advise_38 : decode cX11_advise 38 = .ok (.iload 5, 2) := by decide +kernel
theorem dX11_advise_40 : decode cX11_advise 40 = .ok (.putfield 129, 3) := by decide +kernel
theorem dX11_advise_43 : decode cX11_advise 43 = .ok (.aload 6, 2) := by decide +kernel
theorem dX11_advise_45 : decode cX11_advise 45 = .ok (.iload_n 2, 1) := by decide +kernel
theorem dX11_advise_46 : decode cX11_advise 46 = .ok (.invokevirtual 213, 3) := by decide +kernel
theorem dX11_advise_49 : decode cX11_advise 49 = .ok (.pop, 1) := by decide +kernel
theorem dX11_advise_50 : decode cX11_advise 50 = .ok (.aload 6, 2) := by decide +kernel
theorem dX11_advise_52 : decode cX11_advise 52 = .ok (.getfield 125, 3) := by decide +kernel
theorem dX11_advise_55 : decode cX11_advise 55 = .ok (.iload_n 1, 1) := by decide +kernel
theorem dX11_advise_56 : decode cX11_advise 56 = .ok (.aaload, 1) := by decide +kernel
theorem dX11_advise_57 : decode cX11_advise 57 = .ok (.getfield 143, 3) := by decide +kernel
theorem dX11_advise_60 : decode cX11_advise 60 = .ok (.iload 4, 2) := by decide +kernel
theorem dX11_advise_62 : decode cX11_advise 62 = .ok (.if_icmp .le 18, 3) := by decide +kernel
theorem dX11_advise_65 : decode cX11_advise 65 = .ok (.aload 6, 2) := by decide +kernel
theorem dX11_advise_67 : decode cX11_advise 67 = .ok (.getfield 125, 3) := by decide +kernel
theorem dX11_advise_70 : decode cX11_advise 70 = .ok (.iload_n 1, 1) := by decide +kernel
theorem dX11_advise_71 : decode cX11_advise 71 = .ok (.aaload, 1) := by decide +kernel
theorem dX11_advise_72 : decode cX11_advise 72 = .ok (.getfield 143, 3) := by decide +kernel
theorem dX11_advise_75 : decode cX11_advise 75 = .ok (.istore 4, 2) := by decide +kernel
theorem dX11_advise_77 : decode cX11_advise 77 = .ok (.iload 5, 2) := by decide +kernel
theorem dX11_advise_79 : decode cX11_advise 79 = .ok (.istore_n 3, 1) := by decide +kernel
theorem dX11_advise_80 : decode cX11_advise 80 = .ok (.iinc 5 1, 3) := by decide +kernel
theorem dX11_advise_83 : decode cX11_advise 83 = .ok (.goto (-64), 3) := by decide +kernel
theorem dX11_advise_86 : decode cX11_advise 86 = .ok (.iload_n 3, 1) := by decide +kernel
theorem dX11_advise_87 : decode cX11_advise 87 = .ok (.ireturn, 1) := by decide +kernel
theorem dX11_mean_0 : decode cX11_mean 0 = .ok (.aload_n 0, 1) := by decide +kernel
theorem dX11_mean_1 : decode cX11_mean 1 = .ok (.getfield 19, 3) := by decide +kernel
theorem dX11_mean_4 : decode cX11_mean 4 = .ok (.getfield 71, 3) := by decide +kernel
theorem dX11_mean_7 : decode cX11_mean 7 = .ok (.ifCond .ne 5, 3) := by decide +kernel
theorem dX11_mean_10 : decode cX11_mean 10 = .ok (.dconst 0, 1) := by decide +kernel
theorem dX11_mean_11 : decode cX11_mean 11 = .ok (.dreturn, 1) := by decide +kernel
theorem dX11_mean_12 : decode cX11_mean 12 = .ok (.aload_n 0, 1) := by decide +kernel
theorem dX11_mean_13 : decode cX11_mean 13 = .ok (.getfield 19, 3) := by decide +kernel
theorem dX11_mean_16 : decode cX11_mean 16 = .ok (.invokevirtual 83, 3) := by decide +kernel
theorem dX11_mean_19 : decode cX11_mean 19 = .ok (.i2d, 1) := by decide +kernel
theorem dX11_mean_20 : decode cX11_mean 20 = .ok (.aload_n 0, 1) := by decide +kernel
theorem dX11_mean_21 : decode cX11_mean 21 = .ok (.getfield 19, 3) := by decide +kernel
theorem dX11_mean_24 : decode cX11_mean 24 = .ok (.getfield 71, 3) := by decide +kernel
theorem dX11_mean_27 : decode cX11_mean 27 = .ok (.i2d, 1) := by decide +kernel
theorem dX11_mean_28 : decode cX11_mean 28 = .ok (.ddiv, 1) := by decide +kernel
theorem dX11_mean_29 : decode cX11_mean 29 = .ok (.dreturn, 1) := by decide +kernel
theorem dX11_digest_0 : decode cX11_digest 0 = .ok (.ldc2_w 223, 3) := by decide +kernel
theorem dX11_digest_3 : decode cX11_digest 3 = .ok (.lstore_n 1, 1) := by decide +kernel
theorem dX11_digest_4 : decode cX11_digest 4 = .ok (.iconst 0, 1) := by decide +kernel
theorem dX11_digest_5 : decode cX11_digest 5 = .ok (.istore_n 3, 1) := by decide +kernel
theorem dX11_digest_6 : decode cX11_digest 6 = .ok (.iload_n 3, 1) := by decide +kernel
theorem dX11_digest_7 : decode cX11_digest 7 = .ok (.bipush 9, 2) := by decide +kernel
theorem dX11_digest_9 : decode cX11_digest 9 = .ok (.if_icmp .gt 22, 3) := by decide +kernel
theorem dX11_digest_12 : decode cX11_digest 12 = .ok (.lload_n 1, 1) := by decide +kernel
theorem dX11_digest_13 : decode cX11_digest 13 = .ok (.ldc2_w 225, 3) := by decide +kernel
theorem dX11_digest_16 : decode cX11_digest 16 = .ok (.lmul, 1) := by decide +kernel
theorem dX11_digest_17 : decode cX11_digest 17 = .ok (.aload_n 0, 1) := by decide +kernel
theorem dX11_digest_18 : decode cX11_digest 18 = .ok (.iload_n 3, 1) := by decide +kernel
theorem dX11_digest_19 : decode cX11_digest 19 = .ok (.invokevirtual 227, 3) := by decide +kernel
theorem dX11_digest_22 : decode cX11_digest 22 = .ok (.i2l, 1) := by decide +kernel
theorem dX11_digest_23 : decode cX11_digest 23 = .ok (.ladd, 1) := by decide +kernel
theorem dX11_digest_24 : decode cX11_digest 24 = .ok (.lstore_n 1, 1) := by decide +kernel
theorem dX11_digest_25 : decode cX11_digest 25 = .ok (.iinc 3 1, 3) := by decide +kernel
theorem dX11_digest_28 : decode cX11_digest 28 = .ok (.goto (-22), 3) := by decide +kernel
theorem dX11_digest_31 : decode cX11_digest 31 = .ok (.iconst 0, 1) := by decide +kernel
theorem dX11_digest_32 : decode cX11_digest 32 = .ok (.istore_n 3, 1) := by decide +kernel
theorem dX11_digest_33 : decode cX11_digest 33 = .ok (.iload_n 3, 1) := by decide +kernel
theorem dX11_digest_34 : decode cX11_digest 34 = .ok (.aload_n 0, 1) := by decide +kernel
theorem dX11_digest_35 : decode cX11_digest 35 = .ok (.getfield 19, 3) := by decide +kernel
theorem dX11_digest_38 : decode cX11_digest 38 = .ok (.getfield 68, 3) := by decide +kernel
theorem dX11_digest_41 : decode cX11_digest 41 = .ok (.if_icmp .ge 76, 3) := by decide +kernel
theorem dX11_digest_44 : decode cX11_digest 44 = .ok (.iconst 0, 1) := by decide +kernel
theorem dX11_digest_45 : decode cX11_digest 45 = .ok (.istore 4, 2) := by decide +kernel
theorem dX11_digest_47 : decode cX11_digest 47 = .ok (.iload 4, 2) := by decide +kernel
theorem dX11_digest_49 : decode cX11_digest 49 = .ok (.bipush 8, 2) := by decide +kernel
theorem dX11_digest_51 : decode cX11_digest 51 = .ok (.if_icmp .gt 24, 3) := by decide +kernel
theorem dX11_digest_54 : decode cX11_digest 54 = .ok (.lload_n 1, 1) := by decide +kernel
theorem dX11_digest_55 : decode cX11_digest 55 = .ok (.ldc2_w 225, 3) := by decide +kernel
theorem dX11_digest_58 : decode cX11_digest 58 = .ok (.lmul, 1) := by decide +kernel
theorem dX11_digest_59 : decode cX11_digest 59 = .ok (.aload_n 0, 1) := by decide +kernel
theorem dX11_digest_60 : decode cX11_digest 60 = .ok (.iload_n 3, 1) := by decide +kernel
theorem dX11_digest_61 : decode cX11_digest 61 = .ok (.iload 4, 2) := by decide +kernel
theorem dX11_digest_63 : decode cX11_digest 63 = .ok (.invokevirtual 230, 3) := by decide +kernel
theorem dX11_digest_66 : decode cX11_digest 66 = .ok (.i2l, 1) := by decide +kernel
theorem dX11_digest_67 : decode cX11_digest 67 = .ok (.ladd, 1) := by decide +kernel
theorem dX11_digest_68 : decode cX11_digest 68 = .ok (.lstore_n 1, 1) := by decide +kernel
theorem dX11_digest_69 : decode cX11_digest 69 = .ok (.iinc 4 1, 3) := by decide +kernel
theorem dX11_digest_72 : decode cX11_digest 72 = .ok (.goto (-25), 3) := by decide +kernel
theorem dX11_digest_75 : decode cX11_digest 75 = .ok (.iconst 0, 1) := by decide +kernel
theorem dX11_digest_76 : decode cX11_digest 76 = .ok (.istore 4, 2) := by decide +kernel
theorem dX11_digest_78 : decode cX11_digest 78 = .ok (.iload 4, 2) := by decide +kernel
theorem dX11_digest_80 : decode cX11_digest 80 = .ok (.aload_n 0, 1) := by decide +kernel
theorem dX11_digest_81 : decode cX11_digest 81 = .ok (.getfield 19, 3) := by decide +kernel
theorem dX11_digest_84 : decode cX11_digest 84 = .ok (.getfield 71, 3) := by decide +kernel
theorem dX11_digest_87 : decode cX11_digest 87 = .ok (.if_icmp .ge 24, 3) := by decide +kernel
theorem dX11_digest_90 : decode cX11_digest 90 = .ok (.lload_n 1, 1) := by decide +kernel
theorem dX11_digest_91 : decode cX11_digest 91 = .ok (.ldc2_w 225, 3) := by decide +kernel
theorem dX11_digest_94 : decode cX11_digest 94 = .ok (.lmul, 1) := by decide +kernel
theorem dX11_digest_95 : decode cX11_digest 95 = .ok (.aload_n 0, 1) := by decide +kernel
theorem dX11_digest_96 : decode cX11_digest 96 = .ok (.iload_n 3, 1) := by decide +kernel
theorem dX11_digest_97 : decode cX11_digest 97 = .ok (.iload 4, 2) := by decide +kernel
theorem dX11_digest_99 : decode cX11_digest 99 = .ok (.invokevirtual 233, 3) := by decide +kernel
theorem dX11_digest_102 : decode cX11_digest 102 = .ok (.i2l, 1) := by decide +kernel
theorem dX11_digest_103 : decode cX11_digest 103 = .ok (.ladd, 1) := by decide +kernel
theorem dX11_digest_104 : decode cX11_digest 104 = .ok (.lstore_n 1, 1) := by decide +kernel
theorem dX11_digest_105 : decode cX11_digest 105 = .ok (.iinc 4 1, 3) := by decide +kernel
theorem dX11_digest_108 : decode cX11_digest 108 = .ok (.goto (-30), 3) := by decide +kernel
theorem dX11_digest_111 : decode cX11_digest 111 = .ok (.iinc 3 1, 3) := by decide +kernel
theorem dX11_digest_114 : decode cX11_digest 114 = .ok (.goto (-81), 3) := by decide +kernel
theorem dX11_digest_117 : decode cX11_digest 117 = .ok (.iconst 0, 1) := by decide +kernel
theorem dX11_digest_118 : decode cX11_digest 118 = .ok (.istore_n 3, 1) := by decide +kernel
theorem dX11_digest_119 : decode cX11_digest 119 = .ok (.iload_n 3, 1) := by decide +kernel
theorem dX11_digest_120 : decode cX11_digest 120 = .ok (.aload_n 0, 1) := by decide +kernel
theorem dX11_digest_121 : decode cX11_digest 121 = .ok (.getfield 19, 3) := by decide +kernel
theorem dX11_digest_124 : decode cX11_digest 124 = .ok (.getfield 71, 3) := by decide +kernel
theorem dX11_digest_127 : decode cX11_digest 127 = .ok (.if_icmp .ge 40, 3) := by decide +kernel
theorem dX11_digest_130 : decode cX11_digest 130 = .ok (.iconst 0, 1) := by decide +kernel
theorem dX11_digest_131 : decode cX11_digest 131 = .ok (.istore 4, 2) := by decide +kernel
theorem dX11_digest_133 : decode cX11_digest 133 = .ok (.iload 4, 2) := by decide +kernel
theorem dX11_digest_135 : decode cX11_digest 135 = .ok (.bipush 9, 2) := by decide +kernel
theorem dX11_digest_137 : decode cX11_digest 137 = .ok (.if_icmp .gt 24, 3) := by decide +kernel
theorem dX11_digest_140 : decode cX11_digest 140 = .ok (.lload_n 1, 1) := by decide +kernel
theorem dX11_digest_141 : decode cX11_digest 141 = .ok (.ldc2_w 225, 3) := by decide +kernel
theorem dX11_digest_144 : decode cX11_digest 144 = .ok (.lmul, 1) := by decide +kernel
theorem dX11_digest_145 : decode cX11_digest 145 = .ok (.aload_n 0, 1) := by decide +kernel
theorem dX11_digest_146 : decode cX11_digest 146 = .ok (.iload_n 3, 1) := by decide +kernel
theorem dX11_digest_147 : decode cX11_digest 147 = .ok (.iload 4, 2) := by decide +kernel
theorem dX11_digest_149 : decode cX11_digest 149 = .ok (.invokevirtual 235, 3) := by decide +kernel
theorem dX11_digest_152 : decode cX11_digest 152 = .ok (.i2l, 1) := by decide +kernel
theorem dX11_digest_153 : decode cX11_digest 153 = .ok (.ladd, 1) := by decide +kernel
theorem dX11_digest_154 : decode cX11_digest 154 = .ok (.lstore_n 1, 1) := by decide +kernel
theorem dX11_digest_155 : decode cX11_digest 155 = .ok (.iinc 4 1, 3) := by decide +kernel
theorem dX11_digest_158 : decode cX11_digest 158 = .ok (.goto (-25), 3) := by decide +kernel
theorem dX11_digest_161 : decode cX11_digest 161 = .ok (.iinc 3 1, 3) := by decide +kernel
theorem dX11_digest_164 : decode cX11_digest 164 = .ok (.goto (-45), 3) := by decide +kernel
theorem dX11_digest_167 : decode cX11_digest 167 = .ok (.iconst 0, 1) := by decide +kernel
theorem dX11_digest_168 : decode cX11_digest 168 = .ok (.istore_n 3, 1) := by decide +kernel
theorem dX11_digest_169 : decode cX11_digest 169 = .ok (.iload_n 3, 1) := by decide +kernel
theorem dX11_digest_170 : decode cX11_digest 170 = .ok (.aload_n 0, 1) := by decide +kernel
theorem dX11_digest_171 : decode cX11_digest 171 = .ok (.getfield 19, 3) := by decide +kernel
theorem dX11_digest_174 : decode cX11_digest 174 = .ok (.getfield 77, 3) := by decide +kernel
theorem dX11_digest_177 : decode cX11_digest 177 = .ok (.if_icmp .ge 40, 3) := by decide +kernel
theorem dX11_digest_180 : decode cX11_digest 180 = .ok (.iconst 0, 1) := by decide +kernel
theorem dX11_digest_181 : decode cX11_digest 181 = .ok (.istore 4, 2) := by decide +kernel
theorem dX11_digest_183 : decode cX11_digest 183 = .ok (.iload 4, 2) := by decide +kernel
theorem dX11_digest_185 : decode cX11_digest 185 = .ok (.bipush 6, 2) := by decide +kernel
theorem dX11_digest_187 : decode cX11_digest 187 = .ok (.if_icmp .gt 24, 3) := by decide +kernel
theorem dX11_digest_190 : decode cX11_digest 190 = .ok (.lload_n 1, 1) := by decide +kernel
theorem dX11_digest_191 : decode cX11_digest 191 = .ok (.ldc2_w 225, 3) := by decide +kernel
theorem dX11_digest_194 : decode cX11_digest 194 = .ok (.lmul, 1) := by decide +kernel
theorem dX11_digest_195 : decode cX11_digest 195 = .ok (.aload_n 0, 1) := by decide +kernel
theorem dX11_digest_196 : decode cX11_digest 196 = .ok (.iload_n 3, 1) := by decide +kernel
theorem dX11_digest_197 : decode cX11_digest 197 = .ok (.iload 4, 2) := by decide +kernel
theorem dX11_digest_199 : decode cX11_digest 199 = .ok (.invokevirtual 238, 3) := by decide +kernel
theorem dX11_digest_202 : decode cX11_digest 202 = .ok (.i2l, 1) := by decide +kernel
theorem dX11_digest_203 : decode cX11_digest 203 = .ok (.ladd, 1) := by decide +kernel
theorem dX11_digest_204 : decode cX11_digest 204 = .ok (.lstore_n 1, 1) := by decide +kernel
theorem dX11_digest_205 : decode cX11_digest 205 = .ok (.iinc 4 1, 3) := by decide +kernel
theorem dX11_digest_208 : decode cX11_digest 208 = .ok (.goto (-25), 3) := by decide +kernel
theorem dX11_digest_211 : decode cX11_digest 211 = .ok (.iinc 3 1, 3) := by decide +kernel
theorem dX11_digest_214 : decode cX11_digest 214 = .ok (.goto (-45), 3) := by decide +kernel
theorem dX11_digest_217 : decode cX11_digest 217 = .ok (.aload_n 0, 1) := by decide +kernel
theorem dX11_digest_218 : decode cX11_digest 218 = .ok (.getfield 19, 3) := by decide +kernel
theorem dX11_digest_221 : decode cX11_digest 221 = .ok (.invokevirtual 197, 3) := by decide +kernel
theorem dX11_digest_224 : decode cX11_digest 224 = .ok (.pop, 1) := by decide +kernel
theorem dX11_digest_225 : decode cX11_digest 225 = .ok (.iconst 0, 1) := by decide +kernel
theorem dX11_digest_226 : decode cX11_digest 226 = .ok (.istore_n 3, 1) := by decide +kernel
theorem dX11_digest_227 : decode cX11_digest 227 = .ok (.iload_n 3, 1) := by decide +kernel
theorem dX11_digest_228 : decode cX11_digest 228 = .ok (.aload_n 0, 1) := by decide +kernel
theorem dX11_digest_229 : decode cX11_digest 229 = .ok (.getfield 19, 3) := by decide +kernel
theorem dX11_digest_232 : decode cX11_digest 232 = .ok (.getfield 71, 3) := by decide +kernel
theorem dX11_digest_235 : decode cX11_digest 235 = .ok (.if_icmp .ge 26, 3) := by decide +kernel
theorem dX11_digest_238 : decode cX11_digest 238 = .ok (.lload_n 1, 1) := by decide +kernel
theorem dX11_digest_239 : decode cX11_digest 239 = .ok (.ldc2_w 225, 3) := by decide +kernel
theorem dX11_digest_242 : decode cX11_digest 242 = .ok (.lmul, 1) := by decide +kernel
theorem dX11_digest_243 : decode cX11_digest 243 = .ok (.aload_n 0, 1) := by decide +kernel
theorem dX11_digest_244 : decode cX11_digest 244 = .ok (.getfield 19, 3) := by decide +kernel
theorem dX11_digest_247 : decode cX11_digest 247 = .ok (.getfield 200, 3) := by decide +kernel
theorem dX11_digest_250 : decode cX11_digest 250 = .ok (.iload_n 3, 1) := by decide +kernel
theorem dX11_digest_251 : decode cX11_digest 251 = .ok (.iaload, 1) := by decide +kernel
theorem dX11_digest_252 : decode cX11_digest 252 = .ok (.i2l, 1) := by decide +kernel
theorem dX11_digest_253 : decode cX11_digest 253 = .ok (.ladd, 1) := by decide +kernel
theorem dX11_digest_254 : decode cX11_digest 254 = .ok (.lstore_n 1, 1) := by decide +kernel
theorem dX11_digest_255 : decode cX11_digest 255 = .ok (.iinc 3 1, 3) := by decide +kernel
theorem dX11_digest_258 : decode cX11_digest 258 = .ok (.goto (-31), 3) := by decide +kernel
theorem dX11_digest_261 : decode cX11_digest 261 = .ok (.lload_n 1, 1) := by decide +kernel
theorem dX11_digest_262 : decode cX11_digest 262 = .ok (.lreturn, 1) := by decide +kernel
theorem dX11_lookAhead_0 : decode cX11_lookAhead 0 = .ok (.aload_n 0, 1) := by decide +kernel
theorem dX11_lookAhead_1 : decode cX11_lookAhead 1 = .ok (.getfield 23, 3) := by decide +kernel
theorem dX11_lookAhead_4 : decode cX11_lookAhead 4 = .ok (.aload_n 0, 1) := by decide +kernel
theorem dX11_lookAhead_5 : decode cX11_lookAhead 5 = .ok (.getfield 19, 3) := by decide +kernel
theorem dX11_lookAhead_8 : decode cX11_lookAhead 8 = .ok (.invokevirtual 241, 3) := by decide +kernel
theorem dX11_lookAhead_11 : decode cX11_lookAhead 11 = .ok (.aload_n 0, 1) := by decide +kernel
theorem dX11_lookAhead_12 : decode cX11_lookAhead 12 = .ok (.getfield 23, 3) := by decide +kernel
theorem dX11_lookAhead_15 : decode cX11_lookAhead 15 = .ok (.areturn, 1) := by decide +kernel
theorem dX11_checkGround_0 : decode cX11_checkGround 0 = .ok (.iload_n 1, 1) := by decide +kernel
theorem dX11_checkGround_1 : decode cX11_checkGround 1 = .ok (.ifCond .lt 14, 3) := by decide +kernel
theorem dX11_checkGround_4 : decode cX11_checkGround 4 = .ok (.iload_n 1, 1) := by decide +kernel
theorem dX11_checkGround_5 : decode cX11_checkGround 5 = .ok (.aload_n 0, 1) := by decide +kernel
theorem dX11_checkGround_6 : decode cX11_checkGround 6 = .ok (.getfield 19, 3) := by decide +kernel
theorem dX11_checkGround_9 : decode cX11_checkGround 9 = .ok (.getfield 68, 3) := by decide +kernel
theorem dX11_checkGround_12 : decode cX11_checkGround 12 = .ok (.if_icmp .lt 13, 3) := by decide +kernel
theorem dX11_checkGround_15 : decode cX11_checkGround 15 = .ok (.new 92, 3) := by decide +kernel
theorem dX11_checkGround_18 : decode cX11_checkGround 18 = .ok (.dup, 1) := by decide +kernel
theorem dX11_checkGround_19 : decode cX11_checkGround 19 = .ok (.ldc 245, 2) := by decide +kernel
theorem dX11_checkGround_21 : decode cX11_checkGround 21 = .ok (.invokespecial 96, 3) := by decide +kernel
theorem dX11_checkGround_24 : decode cX11_checkGround 24 = .ok (.athrow, 1) := by decide +kernel
theorem dX11_checkGround_25 : decode cX11_checkGround 25 = .ok (.return_, 1) := by decide +kernel
theorem dX11_checkFisher_0 : decode cX11_checkFisher 0 = .ok (.iload_n 1, 1) := by decide +kernel
theorem dX11_checkFisher_1 : decode cX11_checkFisher 1 = .ok (.ifCond .lt 14, 3) := by decide +kernel
theorem dX11_checkFisher_4 : decode cX11_checkFisher 4 = .ok (.iload_n 1, 1) := by decide +kernel
theorem dX11_checkFisher_5 : decode cX11_checkFisher 5 = .ok (.aload_n 0, 1) := by decide +kernel
theorem dX11_checkFisher_6 : decode cX11_checkFisher 6 = .ok (.getfield 19, 3) := by decide +kernel
theorem dX11_checkFisher_9 : decode cX11_checkFisher 9 = .ok (.getfield 71, 3) := by decide +kernel
theorem dX11_checkFisher_12 : decode cX11_checkFisher 12 = .ok (.if_icmp .lt 13, 3) := by decide +kernel
theorem dX11_checkFisher_15 : decode cX11_checkFisher 15 = .ok (.new 92, 3) := by decide +kernel
theorem dX11_checkFisher_18 : decode cX11_checkFisher 18 = .ok (.dup, 1) := by decide +kernel
theorem dX11_checkFisher_19 : decode cX11_checkFisher 19 = .ok (.ldc 247, 2) := by decide +kernel
theorem dX11_checkFisher_21 : decode cX11_checkFisher 21 = .ok (.invokespecial 96, 3) := by decide +kernel
theorem dX11_checkFisher_24 : decode cX11_checkFisher 24 = .ok (.athrow, 1) := by decide +kernel
theorem dX11_checkFisher_25 : decode cX11_checkFisher 25 = .ok (.return_, 1) := by decide +kernel
theorem dX11_checkTides_0 : decode cX11_checkTides 0 = .ok (.iload_n 0, 1) := by decide +kernel
theorem dX11_checkTides_1 : decode cX11_checkTides 1 = .ok (.iconst 1, 1) := by decide +kernel
theorem dX11_checkTides_2 : decode cX11_checkTides 2 = .ok (.if_icmp .lt 8, 3) := by decide +kernel
theorem dX11_checkTides_5 : decode cX11_checkTides 5 = .ok (.iload_n 0, 1) := by decide +kernel
theorem dX11_checkTides_6 : decode cX11_checkTides 6 = .ok (.iload_n 1, 1) := by decide +kernel
theorem dX11_checkTides_7 : decode cX11_checkTides 7 = .ok (.if_icmp .le 13, 3) := by decide +kernel
theorem dX11_checkTides_10 : decode cX11_checkTides 10 = .ok (.new 44, 3) := by decide +kernel
theorem dX11_checkTides_13 : decode cX11_checkTides 13 = .ok (.dup, 1) := by decide +kernel
theorem dX11_checkTides_14 : decode cX11_checkTides 14 = .ok (.ldc 249, 2) := by decide +kernel
theorem dX11_checkTides_16 : decode cX11_checkTides 16 = .ok (.invokespecial 48, 3) := by decide +kernel
theorem dX11_checkTides_19 : decode cX11_checkTides 19 = .ok (.athrow, 1) := by decide +kernel
theorem dX11_checkTides_20 : decode cX11_checkTides 20 = .ok (.return_, 1) := by decide +kernel
theorem dX12_init_0 : decode cX12_init 0 = .ok (.aload_n 0, 1) := by decide +kernel
theorem dX12_init_1 : decode cX12_init 1 = .ok (.aload_n 1, 1) := by decide +kernel
theorem dX12_init_2 : decode cX12_init 2 = .ok (.putfield 3, 3) := by decide +kernel
theorem dX12_init_5 : decode cX12_init 5 = .ok (.aload_n 0, 1) := by decide +kernel
theorem dX12_init_6 : decode cX12_init 6 = .ok (.invokespecial 9, 3) := by decide +kernel
theorem dX12_init_9 : decode cX12_init 9 = .ok (.aload_n 0, 1) := by decide +kernel
theorem dX12_init_10 : decode cX12_init 10 = .ok (.iconst 1, 1) := by decide +kernel
theorem dX12_init_11 : decode cX12_init 11 = .ok (.putfield 15, 3) := by decide +kernel
theorem dX12_init_14 : decode cX12_init 14 = .ok (.aload_n 0, 1) := by decide +kernel
theorem dX12_init_15 : decode cX12_init 15 = .ok (.bipush 40, 2) := by decide +kernel
theorem dX12_init_17 : decode cX12_init 17 = .ok (.newarray .int, 2) := by decide +kernel
theorem dX12_init_19 : decode cX12_init 19 = .ok (.putfield 19, 3) := by decide +kernel
theorem dX12_init_22 : decode cX12_init 22 = .ok (.aload_n 0, 1) := by decide +kernel
theorem dX12_init_23 : decode cX12_init 23 = .ok (.bipush 8, 2) := by decide +kernel
theorem dX12_init_25 : decode cX12_init 25 = .ok (.newarray .int, 2) := by decide +kernel
theorem dX12_init_27 : decode cX12_init 27 = .ok (.putfield 23, 3) := by decide +kernel
theorem dX12_init_30 : decode cX12_init 30 = .ok (.aload_n 0, 1) := by decide +kernel
theorem dX12_init_31 : decode cX12_init 31 = .ok (.bipush 64, 2) := by decide +kernel
theorem dX12_init_33 : decode cX12_init 33 = .ok (.newarray .int, 2) := by decide +kernel
theorem dX12_init_35 : decode cX12_init 35 = .ok (.putfield 26, 3) := by decide +kernel
theorem dX12_init_38 : decode cX12_init 38 = .ok (.aload_n 0, 1) := by decide +kernel
theorem dX12_init_39 : decode cX12_init 39 = .ok (.bipush 8, 2) := by decide +kernel
theorem dX12_init_41 : decode cX12_init 41 = .ok (.newarray .int, 2) := by decide +kernel
theorem dX12_init_43 : decode cX12_init 43 = .ok (.putfield 29, 3) := by decide +kernel
theorem dX12_init_46 : decode cX12_init 46 = .ok (.aload_n 0, 1) := by decide +kernel
theorem dX12_init_47 : decode cX12_init 47 = .ok (.bipush 8, 2) := by decide +kernel
theorem dX12_init_49 : decode cX12_init 49 = .ok (.newarray .int, 2) := by decide +kernel
theorem dX12_init_51 : decode cX12_init 51 = .ok (.putfield 32, 3) := by decide +kernel
theorem dX12_init_54 : decode cX12_init 54 = .ok (.aload_n 0, 1) := by decide +kernel
theorem dX12_init_55 : decode cX12_init 55 = .ok (.bipush 8, 2) := by decide +kernel
theorem dX12_init_57 : decode cX12_init 57 = .ok (.newarray .int, 2) := by decide +kernel
theorem dX12_init_59 : decode cX12_init 59 = .ok (.putfield 35, 3) := by decide +kernel
theorem dX12_init_62 : decode cX12_init 62 = .ok (.aload_n 0, 1) := by decide +kernel
theorem dX12_init_63 : decode cX12_init 63 = .ok (.bipush 8, 2) := by decide +kernel
theorem dX12_init_65 : decode cX12_init 65 = .ok (.newarray .int, 2) := by decide +kernel
theorem dX12_init_67 : decode cX12_init 67 = .ok (.putfield 38, 3) := by decide +kernel
theorem dX12_init_70 : decode cX12_init 70 = .ok (.aload_n 0, 1) := by decide +kernel
theorem dX12_init_71 : decode cX12_init 71 = .ok (.bipush 8, 2) := by decide +kernel
theorem dX12_init_73 : decode cX12_init 73 = .ok (.newarray .int, 2) := by decide +kernel
theorem dX12_init_75 : decode cX12_init 75 = .ok (.putfield 41, 3) := by decide +kernel
theorem dX12_init_78 : decode cX12_init 78 = .ok (.aload_n 0, 1) := by decide +kernel
theorem dX12_init_79 : decode cX12_init 79 = .ok (.bipush 8, 2) := by decide +kernel
theorem dX12_init_81 : decode cX12_init 81 = .ok (.newarray .int, 2) := by decide +kernel
theorem dX12_init_83 : decode cX12_init 83 = .ok (.putfield 44, 3) := by decide +kernel
theorem dX12_init_86 : decode cX12_init 86 = .ok (.aload_n 0, 1) := by decide +kernel
theorem dX12_init_87 : decode cX12_init 87 = .ok (.bipush 6, 2) := by decide +kernel
theorem dX12_init_89 : decode cX12_init 89 = .ok (.newarray .int, 2) := by decide +kernel
theorem dX12_init_91 : decode cX12_init 91 = .ok (.putfield 47, 3) := by decide +kernel
theorem dX12_init_94 : decode cX12_init 94 = .ok (.aload_n 0, 1) := by decide +kernel
theorem dX12_init_95 : decode cX12_init 95 = .ok (.bipush 6, 2) := by decide +kernel
theorem dX12_init_97 : decode cX12_init 97 = .ok (.newarray .int, 2) := by decide +kernel
theorem dX12_init_99 : decode cX12_init 99 = .ok (.putfield 50, 3) := by decide +kernel
theorem dX12_init_102 : decode cX12_init 102 = .ok (.aload_n 0, 1) := by decide +kernel
theorem dX12_init_103 : decode cX12_init 103 = .ok (.bipush 6, 2) := by decide +kernel
theorem dX12_init_105 : decode cX12_init 105 = .ok (.newarray .int, 2) := by decide +kernel
theorem dX12_init_107 : decode cX12_init 107 = .ok (.putfield 53, 3) := by decide +kernel
theorem dX12_init_110 : decode cX12_init 110 = .ok (.aload_n 0, 1) := by decide +kernel
theorem dX12_init_111 : decode cX12_init 111 = .ok (.bipush 8, 2) := by decide +kernel
theorem dX12_init_113 : decode cX12_init 113 = .ok (.newarray .int, 2) := by decide +kernel
theorem dX12_init_115 : decode cX12_init 115 = .ok (.putfield 56, 3) := by decide +kernel
theorem dX12_init_118 : decode cX12_init 118 = .ok (.aload_n 0, 1) := by decide +kernel
theorem dX12_init_119 : decode cX12_init 119 = .ok (.bipush 8, 2) := by decide +kernel
theorem dX12_init_121 : decode cX12_init 121 = .ok (.newarray .int, 2) := by decide +kernel
theorem dX12_init_123 : decode cX12_init 123 = .ok (.putfield 59, 3) := by decide +kernel
theorem dX12_init_126 : decode cX12_init 126 = .ok (.aload_n 0, 1) := by decide +kernel
theorem dX12_init_127 : decode cX12_init 127 = .ok (.bipush 6, 2) := by decide +kernel
theorem dX12_init_129 : decode cX12_init 129 = .ok (.newarray .int, 2) := by decide +kernel
theorem dX12_init_131 : decode cX12_init 131 = .ok (.putfield 62, 3) := by decide +kernel
theorem dX12_init_134 : decode cX12_init 134 = .ok (.aload_n 0, 1) := by decide +kernel
theorem dX12_init_135 : decode cX12_init 135 = .ok (.sipush 400, 3) := by decide +kernel
theorem dX12_init_138 : decode cX12_init 138 = .ok (.newarray .int, 2) := by decide +kernel
theorem dX12_init_140 : decode cX12_init 140 = .ok (.putfield 65, 3) := by decide +kernel
theorem dX12_init_143 : decode cX12_init 143 = .ok (.return_, 1) := by decide +kernel
theorem dX12_copy_0 : decode cX12_copy 0 = .ok (.aload_n 1, 1) := by decide +kernel
theorem dX12_copy_1 : decode cX12_copy 1 = .ok (.iconst 0, 1) := by decide +kernel
theorem dX12_copy_2 : decode cX12_copy 2 = .ok (.aload_n 2, 1) := by decide +kernel
theorem dX12_copy_3 : decode cX12_copy 3 = .ok (.iconst 0, 1) := by decide +kernel
theorem dX12_copy_4 : decode cX12_copy 4 = .ok (.aload_n 1, 1) := by decide +kernel
theorem dX12_copy_5 : decode cX12_copy 5 = .ok (.arraylength, 1) := by decide +kernel
theorem dX12_copy_6 : decode cX12_copy 6 = .ok (.invokestatic 68, 3) := by decide +kernel
theorem dX12_copy_9 : decode cX12_copy 9 = .ok (.return_, 1) := by decide +kernel
theorem dX12_become_0 : decode cX12_become 0 = .ok (.aload_n 0, 1) := by decide +kernel
theorem dX12_become_1 : decode cX12_become 1 = .ok (.aload_n 1, 1) := by decide +kernel
theorem dX12_become_2 : decode cX12_become 2 = .ok (.getfield 74, 3) := by decide +kernel
theorem dX12_become_5 : decode cX12_become 5 = .ok (.putfield 74, 3) := by decide +kernel
theorem dX12_become_8 : decode cX12_become 8 = .ok (.aload_n 0, 1) := by decide +kernel
theorem dX12_become_9 : decode cX12_become 9 = .ok (.aload_n 1, 1) := by decide +kernel
theorem dX12_become_10 : decode cX12_become 10 = .ok (.getfield 15, 3) := by decide +kernel
theorem dX12_become_13 : decode cX12_become 13 = .ok (.putfield 15, 3) := by decide +kernel
theorem dX12_become_16 : decode cX12_become 16 = .ok (.aload_n 0, 1) := by decide +kernel
theorem dX12_become_17 : decode cX12_become 17 = .ok (.aload_n 1, 1) := by decide +kernel
theorem dX12_become_18 : decode cX12_become 18 = .ok (.getfield 19, 3) := by decide +kernel
theorem dX12_become_21 : decode cX12_become 21 = .ok (.aload_n 0, 1) := by decide +kernel
theorem dX12_become_22 : decode cX12_become 22 = .ok (.getfield 19, 3) := by decide +kernel
theorem dX12_become_25 : decode cX12_become 25 = .ok (.invokevirtual 77, 3) := by decide +kernel
theorem dX12_become_28 : decode cX12_become 28 = .ok (.aload_n 0, 1) := by decide +kernel
theorem dX12_become_29 : decode cX12_become 29 = .ok (.aload_n 1, 1) := by decide +kernel
theorem dX12_become_30 : decode cX12_become 30 = .ok (.getfield 23, 3) := by decide +kernel
theorem dX12_become_33 : decode cX12_become 33 = .ok (.aload_n 0, 1) := by decide +kernel
theorem dX12_become_34 : decode cX12_become 34 = .ok (.getfield 23, 3) := by decide +kernel
theorem dX12_become_37 : decode cX12_become 37 = .ok (.invokevirtual 77, 3) := by decide +kernel
theorem dX12_become_40 : decode cX12_become 40 = .ok (.aload_n 0, 1) := by decide +kernel
theorem dX12_become_41 : decode cX12_become 41 = .ok (.aload_n 1, 1) := by decide +kernel
theorem dX12_become_42 : decode cX12_become 42 = .ok (.getfield 26, 3) := by decide +kernel
theorem dX12_become_45 : decode cX12_become 45 = .ok (.aload_n 0, 1) := by decide +kernel
theorem dX12_become_46 : decode cX12_become 46 = .ok (.getfield 26, 3) := by decide +kernel
theorem dX12_become_49 : decode cX12_become 49 = .ok (.invokevirtual 77, 3) := by decide +kernel
theorem dX12_become_52 : decode cX12_become 52 = .ok (.aload_n 0, 1) := by decide +kernel
theorem dX12_become_53 : decode cX12_become 53 = .ok (.aload_n 1, 1) := by decide +kernel
theorem dX12_become_54 : decode cX12_become 54 = .ok (.getfield 29, 3) := by decide +kernel
theorem dX12_become_57 : decode cX12_become 57 = .ok (.aload_n 0, 1) := by decide +kernel
theorem dX12_become_58 : decode cX12_become 58 = .ok (.getfield 29, 3) := by decide +kernel
theorem dX12_become_61 : decode cX12_become 61 = .ok (.invokevirtual 77, 3) := by decide +kernel
theorem dX12_become_64 : decode cX12_become 64 = .ok (.aload_n 0, 1) := by decide +kernel
theorem dX12_become_65 : decode cX12_become 65 = .ok (.aload_n 1, 1) := by decide +kernel
theorem dX12_become_66 : decode cX12_become 66 = .ok (.getfield 32, 3) := by decide +kernel
theorem dX12_become_69 : decode cX12_become 69 = .ok (.aload_n 0, 1) := by decide +kernel
theorem dX12_become_70 : decode cX12_become 70 = .ok (.getfield 32, 3) := by decide +kernel
theorem dX12_become_73 : decode cX12_become 73 = .ok (.invokevirtual 77, 3) := by decide +kernel
theorem dX12_become_76 : decode cX12_become 76 = .ok (.aload_n 0, 1) := by decide +kernel
theorem dX12_become_77 : decode cX12_become 77 = .ok (.aload_n 1, 1) := by decide +kernel
theorem dX12_become_78 : decode cX12_become 78 = .ok (.getfield 35, 3) := by decide +kernel
theorem dX12_become_81 : decode cX12_become 81 = .ok (.aload_n 0, 1) := by decide +kernel
theorem dX12_become_82 : decode cX12_become 82 = .ok (.getfield 35, 3) := by decide +kernel
theorem dX12_become_85 : decode cX12_become 85 = .ok (.invokevirtual 77, 3) := by decide +kernel
theorem dX12_become_88 : decode cX12_become 88 = .ok (.aload_n 0, 1) := by decide +kernel
theorem dX12_become_89 : decode cX12_become 89 = .ok (.aload_n 1, 1) := by decide +kernel
theorem dX12_become_90 : decode cX12_become 90 = .ok (.getfield 38, 3) := by decide +kernel
theorem dX12_become_93 : decode cX12_become 93 = .ok (.aload_n 0, 1) := by decide +kernel
theorem dX12_become_94 : decode cX12_become 94 = .ok (.getfield 38, 3) := by decide +kernel
theorem dX12_become_97 : decode cX12_become 97 = .ok (.invokevirtual 77, 3) := by decide +kernel
theorem dX12_become_100 : decode cX12_become 100 = .ok (.aload_n 0, 1) := by decide +kernel
theorem dX12_become_101 : decode cX12_become 101 = .ok (.aload_n 1, 1) := by decide +kernel
theorem dX12_become_102 : decode cX12_become 102 = .ok (.getfield 41, 3) := by decide +kernel
theorem dX12_become_105 : decode cX12_become 105 = .ok (.aload_n 0, 1) := by decide +kernel
theorem dX12_become_106 : decode cX12_become 106 = .ok (.getfield 41, 3) := by decide +kernel
theorem dX12_become_109 : decode cX12_become 109 = .ok (.invokevirtual 77, 3) := by decide +kernel
theorem dX12_become_112 : decode cX12_become 112 = .ok (.aload_n 0, 1) := by decide +kernel
theorem dX12_become_113 : decode cX12_become 113 = .ok (.aload_n 1, 1) := by decide +kernel
theorem dX12_become_114 : decode cX12_become 114 = .ok (.getfield 44, 3) := by decide +kernel
theorem dX12_become_117 : decode cX12_become 117 = .ok (.aload_n 0, 1) := by decide +kernel
theorem dX12_become_118 : decode cX12_become 118 = .ok (.getfield 44, 3) := by decide +kernel
theorem dX12_become_121 : decode cX12_become 121 = .ok (.invokevirtual 77, 3) := by decide +kernel
theorem dX12_become_124 : decode cX12_become 124 = .ok (.aload_n 0, 1) := by decide +kernel
theorem dX12_become_125 : decode cX12_become 125 = .ok (.aload_n 1, 1) := by decide +kernel
theorem dX12_become_126 : decode cX12_become 126 = .ok (.getfield 47, 3) := by decide +kernel
theorem dX12_become_129 : decode cX12_become 129 = .ok (.aload_n 0, 1) := by decide +kernel
theorem dX12_become_130 : decode cX12_become 130 = .ok (.getfield 47, 3) := by decide +kernel
theorem dX12_become_133 : decode cX12_become 133 = .ok (.invokevirtual 77, 3) := by decide +kernel
theorem dX12_become_136 : decode cX12_become 136 = .ok (.aload_n 0, 1) := by decide +kernel
theorem dX12_become_137 : decode cX12_become 137 = .ok (.aload_n 1, 1) := by decide +kernel
theorem dX12_become_138 : decode cX12_become 138 = .ok (.getfield 50, 3) := by decide +kernel
theorem dX12_become_141 : decode cX12_become 141 = .ok (.aload_n 0, 1) := by decide +kernel
theorem dX12_become_142 : decode cX12_become 142 = .ok (.getfield 50, 3) := by decide +kernel
theorem dX12_become_145 : decode cX12_become 145 = .ok (.invokevirtual 77, 3) := by decide +kernel
theorem dX12_become_148 : decode cX12_become 148 = .ok (.aload_n 0, 1) := by decide +kernel
theorem dX12_become_149 : decode cX12_become 149 = .ok (.aload_n 1, 1) := by decide +kernel
theorem dX12_become_150 : decode cX12_become 150 = .ok (.getfield 53, 3) := by decide +kernel
theorem dX12_become_153 : decode cX12_become 153 = .ok (.aload_n 0, 1) := by decide +kernel
theorem dX12_become_154 : decode cX12_become 154 = .ok (.getfield 53, 3) := by decide +kernel
theorem dX12_become_157 : decode cX12_become 157 = .ok (.invokevirtual 77, 3) := by decide +kernel
theorem dX12_become_160 : decode cX12_become 160 = .ok (.return_, 1) := by decide +kernel
theorem dX12_begin_0 : decode cX12_begin 0 = .ok (.aload_n 0, 1) := by decide +kernel
theorem dX12_begin_1 : decode cX12_begin 1 = .ok (.aload_n 0, 1) := by decide +kernel
theorem dX12_begin_2 : decode cX12_begin 2 = .ok (.getfield 3, 3) := by decide +kernel
theorem dX12_begin_5 : decode cX12_begin 5 = .ok (.getfield 81, 3) := by decide +kernel
theorem dX12_begin_8 : decode cX12_begin 8 = .ok (.getfield 85, 3) := by decide +kernel
theorem dX12_begin_11 : decode cX12_begin 11 = .ok (.aload_n 0, 1) := by decide +kernel
theorem dX12_begin_12 : decode cX12_begin 12 = .ok (.getfield 19, 3) := by decide +kernel
theorem dX12_begin_15 : decode cX12_begin 15 = .ok (.invokevirtual 77, 3) := by decide +kernel
theorem dX12_begin_18 : decode cX12_begin 18 = .ok (.aload_n 0, 1) := by decide +kernel
theorem dX12_begin_19 : decode cX12_begin 19 = .ok (.aload_n 0, 1) := by decide +kernel
theorem dX12_begin_20 : decode cX12_begin 20 = .ok (.getfield 3, 3) := by decide +kernel
theorem dX12_begin_23 : decode cX12_begin 23 = .ok (.getfield 81, 3) := by decide +kernel
theorem dX12_begin_26 : decode cX12_begin 26 = .ok (.getfield 88, 3) := by decide +kernel
theorem dX12_begin_29 : decode cX12_begin 29 = .ok (.aload_n 0, 1) := by decide +kernel
theorem dX12_begin_30 : decode cX12_begin 30 = .ok (.getfield 29, 3) := by decide +kernel
theorem dX12_begin_33 : decode cX12_begin 33 = .ok (.invokevirtual 77, 3) := by decide +kernel
theorem dX12_begin_36 : decode cX12_begin 36 = .ok (.bipush 9, 2) := by decide +kernel
theorem dX12_begin_38 : decode cX12_begin 38 = .ok (.anewarray 89, 3) := by decide +kernel
theorem dX12_begin_41 : decode cX12_begin 41 = .ok (.dup, 1) := by decide +kernel
theorem dX12_begin_42 : decode cX12_begin 42 = .ok (.iconst 0, 1) := by decide +kernel
theorem dX12_begin_43 : decode cX12_begin 43 = .ok (.aload_n 0, 1) := by decide +kernel
theorem dX12_begin_44 : decode cX12_begin 44 = .ok (.getfield 23, 3) := by decide +kernel
theorem dX12_begin_47 : decode cX12_begin 47 = .ok (.aastore, 1) := by decide +kernel
theorem dX12_begin_48 : decode cX12_begin 48 = .ok (.dup, 1) := by decide +kernel
theorem dX12_begin_49 : decode cX12_begin 49 = .ok (.iconst 1, 1) := by decide +kernel
theorem dX12_begin_50 : decode cX12_begin 50 = .ok (.aload_n 0, 1) := by decide +kernel
theorem dX12_begin_51 : decode cX12_begin 51 = .ok (.getfield 26, 3) := by decide +kernel
theorem dX12_begin_54 : decode cX12_begin 54 = .ok (.aastore, 1) := by decide +kernel
theorem dX12_begin_55 : decode cX12_begin 55 = .ok (.dup, 1) := by decide +kernel
theorem dX12_begin_56 : decode cX12_begin 56 = .ok (.iconst 2, 1) := by decide +kernel
theorem dX12_begin_57 : decode cX12_begin 57 = .ok (.aload_n 0, 1) := by decide +kernel
theorem dX12_begin_58 : decode cX12_begin 58 = .ok (.getfield 32, 3) := by decide +kernel
theorem dX12_begin_61 : decode cX12_begin 61 = .ok (.aastore, 1) := by decide +kernel
theorem dX12_begin_62 : decode cX12_begin 62 = .ok (.dup, 1) := by decide +kernel
theorem dX12_begin_63 : decode cX12_begin 63 = .ok (.iconst 3, 1) := by decide +kernel
theorem dX12_begin_64 : decode cX12_begin 64 = .ok (.aload_n 0, 1) := by decide +kernel
theorem dX12_begin_65 : decode cX12_begin 65 = .ok (.getfield 35, 3) := by decide +kernel
theorem dX12_begin_68 : decode cX12_begin 68 = .ok (.aastore, 1) := by decide +kernel
theorem dX12_begin_69 : decode cX12_begin 69 = .ok (.dup, 1) := by decide +kernel
theorem dX12_begin_70 : decode cX12_begin 70 = .ok (.iconst 4, 1) := by decide +kernel
theorem dX12_begin_71 : decode cX12_begin 71 = .ok (.aload_n 0, 1) := by decide +kernel
theorem dX12_begin_72 : decode cX12_begin 72 = .ok (.getfield 41, 3) := by decide +kernel
theorem dX12_begin_75 : decode cX12_begin 75 = .ok (.aastore, 1) := by decide +kernel
theorem dX12_begin_76 : decode cX12_begin 76 = .ok (.dup, 1) := by decide +kernel
theorem dX12_begin_77 : decode cX12_begin 77 = .ok (.iconst 5, 1) := by decide +kernel
theorem dX12_begin_78 : decode cX12_begin 78 = .ok (.aload_n 0, 1) := by decide +kernel
theorem dX12_begin_79 : decode cX12_begin 79 = .ok (.getfield 44, 3) := by decide +kernel
theorem dX12_begin_82 : decode cX12_begin 82 = .ok (.aastore, 1) := by decide +kernel
theorem dX12_begin_83 : decode cX12_begin 83 = .ok (.dup, 1) := by decide +kernel
theorem dX12_begin_84 : decode cX12_begin 84 = .ok (.bipush 6, 2) := by decide +kernel
theorem dX12_begin_86 : decode cX12_begin 86 = .ok (.aload_n 0, 1) := by decide +kernel
theorem dX12_begin_87 : decode cX12_begin 87 = .ok (.getfield 47, 3) := by decide +kernel
theorem dX12_begin_90 : decode cX12_begin 90 = .ok (.aastore, 1) := by decide +kernel
theorem dX12_begin_91 : decode cX12_begin 91 = .ok (.dup, 1) := by decide +kernel
theorem dX12_begin_92 : decode cX12_begin 92 = .ok (.bipush 7, 2) := by decide +kernel
theorem dX12_begin_94 : decode cX12_begin 94 = .ok (.aload_n 0, 1) := by decide +kernel
theorem dX12_begin_95 : decode cX12_begin 95 = .ok (.getfield 50, 3) := by decide +kernel
theorem dX12_begin_98 : decode cX12_begin 98 = .ok (.aastore, 1) := by decide +kernel
theorem dX12_begin_99 : decode cX12_begin 99 = .ok (.dup, 1) := by decide +kernel
theorem dX12_begin_100 : decode cX12_begin 100 = .ok (.bipush 8, 2) := by decide +kernel
theorem dX12_begin_102 : decode cX12_begin 102 = .ok (.aload_n 0, 1) := by decide +kernel
theorem dX12_begin_103 : decode cX12_begin 103 = .ok (.getfield 53, 3) := by decide +kernel
theorem dX12_begin_106 : decode cX12_begin 106 = .ok (.aastore, 1) := by decide +kernel
theorem dX12_begin_107 : decode cX12_begin 107 = .ok (.astore_n 1, 1) := by decide +kernel
theorem dX12_begin_108 : decode cX12_begin 108 = .ok (.aload_n 1, 1) := by decide +kernel
theorem dX12_begin_109 : decode cX12_begin 109 = .ok (.astore_n 2, 1) := by decide +kernel
theorem dX12_begin_110 : decode cX12_begin 110 = .ok (.aload_n 2, 1) := by decide +kernel
theorem dX12_begin_111 : decode cX12_begin 111 = .ok (.arraylength, 1) := by decide +kernel
theorem dX12_begin_112 : decode cX12_begin 112 = .ok (.istore_n 3, 1) := by decide +kernel
theorem dX12_begin_113 : decode cX12_begin 113 = .ok (.iconst 0, 1) := by decide +kernel
theorem dX12_begin_114 : decode cX12_begin 114 = .ok (.istore 4, 2) := by decide +kernel
theorem dX12_begin_116 : decode cX12_begin 116 = .ok (.iload 4, 2) := by decide +kernel
theorem dX12_begin_118 : decode cX12_begin 118 = .ok (.iload_n 3, 1) := by decide +kernel
theorem dX12_begin_119 : decode cX12_begin 119 = .ok (.if_icmp .ge 38, 3) := by decide +kernel
theorem dX12_begin_122 : decode cX12_begin 122 = .ok (.aload_n 2, 1) := by decide +kernel
theorem dX12_begin_123 : decode cX12_begin 123 = .ok (.iload 4, 2) := by decide +kernel
theorem dX12_begin_125 : decode cX12_begin 125 = .ok (.aaload, 1) := by decide +kernel
theorem dX12_begin_126 : decode cX12_begin 126 = .ok (.astore 5, 2) := by decide +kernel
theorem dX12_begin_128 : decode cX12_begin 128 = .ok (.iconst 0, 1) := by decide +kernel
theorem dX12_begin_129 : decode cX12_begin 129 = .ok (.istore 6, 2) := by decide +kernel
theorem dX12_begin_131 : decode cX12_begin 131 = .ok (.iload 6, 2) := by decide +kernel
theorem dX12_begin_133 : decode cX12_begin 133 = .ok (.aload 5, 2) := by decide +kernel
theorem dX12_begin_135 : decode cX12_begin 135 = .ok (.arraylength, 1) := by decide +kernel
theorem dX12_begin_136 : decode cX12_begin 136 = .ok (.if_icmp .ge 15, 3) := by decide +kernel
theorem dX12_begin_139 : decode cX12_begin 139 = .ok (.aload 5, 2) := by decide +kernel
theorem dX12_begin_141 : decode cX12_begin 141 = .ok (.iload 6, 2) := by decide +kernel
theorem dX12_begin_143 : decode cX12_begin 143 = .ok (.iconst 0, 1) := by decide +kernel
theorem dX12_begin_144 : decode cX12_begin 144 = .ok (.iastore, 1) := by decide +kernel
theorem dX12_begin_145 : decode cX12_begin 145 = .ok (.iinc 6 1, 3) := by decide +kernel
theorem dX12_begin_148 : decode cX12_begin 148 = .ok (.goto (-17), 3) := by decide +kernel
theorem dX12_begin_151 : decode cX12_begin 151 = .ok (.iinc 4 1, 3) := by decide +kernel
theorem dX12_begin_154 : decode cX12_begin 154 = .ok (.goto (-38), 3) := by decide +kernel
theorem dX12_begin_157 : decode cX12_begin 157 = .ok (.iconst 0, 1) := by decide +kernel
theorem dX12_begin_158 : decode cX12_begin 158 = .ok (.istore_n 2, 1) := by decide +kernel
theorem dX12_begin_159 : decode cX12_begin 159 = .ok (.iload_n 2, 1) := by decide +kernel
theorem dX12_begin_160 : decode cX12_begin 160 = .ok (.bipush 8, 2) := by decide +kernel
theorem dX12_begin_162 : decode cX12_begin 162 = .ok (.if_icmp .ge 16, 3) := by decide +kernel
theorem dX12_begin_165 : decode cX12_begin 165 = .ok (.aload_n 0, 1) := by decide +kernel
theorem dX12_begin_166 : decode cX12_begin 166 = .ok (.getfield 38, 3) := by decide +kernel
theorem dX12_begin_169 : decode cX12_begin 169 = .ok (.iload_n 2, 1) := by decide +kernel
theorem dX12_begin_170 : decode cX12_begin 170 = .ok (.iconst (-1), 1) := by decide +kernel
theorem dX12_begin_171 : decode cX12_begin 171 = .ok (.iastore, 1) := by decide +kernel
theorem dX12_begin_172 : decode cX12_begin 172 = .ok (.iinc 2 1, 3) := by decide +kernel
theorem dX12_begin_175 : decode cX12_begin 175 = .ok (.goto (-16), 3) := by decide +kernel
theorem dX12_begin_178 : decode cX12_begin 178 = .ok (.return_, 1) := by decide +kernel
theorem dX12_fishAt_0 : decode cX12_fishAt 0 = .ok (.iconst 0, 1) := by decide +kernel
theorem dX12_fishAt_1 : decode cX12_fishAt 1 = .ok (.istore_n 2, 1) := by decide +kernel
theorem dX12_fishAt_2 : decode cX12_fishAt 2 = .ok (.iconst 0, 1) := by decide +kernel
theorem dX12_fishAt_3 : decode cX12_fishAt 3 = .ok (.istore_n 3, 1) := by decide +kernel
theorem dX12_fishAt_4 : decode cX12_fishAt 4 = .ok (.iload_n 3, 1) := by decide +kernel
theorem dX12_fishAt_5 : decode cX12_fishAt 5 = .ok (.iconst 5, 1) := by decide +kernel
theorem dX12_fishAt_6 : decode cX12_fishAt 6 = .ok (.if_icmp .ge 22, 3) := by decide +kernel
theorem dX12_fishAt_9 : decode cX12_fishAt 9 = .ok (.iload_n 2, 1) := by decide +kernel
theorem dX12_fishAt_10 : decode cX12_fishAt 10 = .ok (.aload_n 0, 1) := by decide +kernel
theorem dX12_fishAt_11 : decode cX12_fishAt 11 = .ok (.getfield 19, 3) := by decide +kernel
theorem dX12_fishAt_14 : decode cX12_fishAt 14 = .ok (.iconst 5, 1) := by decide +kernel
theorem dX12_fishAt_15 : decode cX12_fishAt 15 = .ok (.iload_n 1, 1) := by decide +kernel
theorem dX12_fishAt_16 : decode cX12_fishAt 16 = .ok (.imul, 1) := by decide +kernel
theorem dX12_fishAt_17 : decode cX12_fishAt 17 = .ok (.iload_n 3, 1) := by decide +kernel
theorem dX12_fishAt_18 : decode cX12_fishAt 18 = .ok (.iadd, 1) := by decide +kernel
theorem dX12_fishAt_19 : decode cX12_fishAt 19 = .ok (.iaload, 1) := by decide +kernel
theorem dX12_fishAt_20 : decode cX12_fishAt 20 = .ok (.iadd, 1) := by decide +kernel
theorem dX12_fishAt_21 : decode cX12_fishAt 21 = .ok (.istore_n 2, 1) := by decide +kernel
theorem dX12_fishAt_22 : decode cX12_fishAt 22 = .ok (.iinc 3 1, 3) := by decide +kernel
theorem dX12_fishAt_25 : decode cX12_fishAt 25 = .ok (.goto (-21), 3) := by decide +kernel
theorem dX12_fishAt_28 : decode cX12_fishAt 28 = .ok (.iload_n 2, 1) := by decide +kernel
theorem dX12_fishAt_29 : decode cX12_fishAt 29 = .ok (.ireturn, 1) := by decide +kernel
theorem dX12_sum_0 : decode cX12_sum 0 = .ok (.iconst 0, 1) := by decide +kernel
theorem dX12_sum_1 : decode cX12_sum 1 = .ok (.istore_n 2, 1) := by decide +kernel
theorem dX12_sum_2 : decode cX12_sum 2 = .ok (.aload_n 1, 1) := by decide +kernel
theorem dX12_sum_3 : decode cX12_sum 3 = .ok (.astore_n 3, 1) := by decide +kernel
theorem dX12_sum_4 : decode cX12_sum 4 = .ok (.aload_n 3, 1) := by decide +kernel
theorem dX12_sum_5 : decode cX12_sum 5 = .ok (.arraylength, 1) := by decide +kernel
theorem dX12_sum_6 : decode cX12_sum 6 = .ok (.istore 4, 2) := by decide +kernel
theorem dX12_sum_8 : decode cX12_sum 8 = .ok (.iconst 0, 1) := by decide +kernel
theorem dX12_sum_9 : decode cX12_sum 9 = .ok (.istore 5, 2) := by decide +kernel
theorem dX12_sum_11 : decode cX12_sum 11 = .ok (.iload 5, 2) := by decide +kernel
theorem dX12_sum_13 : decode cX12_sum 13 = .ok (.iload 4, 2) := by decide +kernel
theorem dX12_sum_15 : decode cX12_sum 15 = .ok (.if_icmp .ge 20, 3) := by decide +kernel
theorem dX12_sum_18 : decode cX12_sum 18 = .ok (.aload_n 3, 1) := by decide +kernel
theorem dX12_sum_19 : decode cX12_sum 19 = .ok (.iload 5, 2) := by decide +kernel
theorem dX12_sum_21 : decode cX12_sum 21 = .ok (.iaload, 1) := by decide +kernel
theorem dX12_sum_22 : decode cX12_sum 22 = .ok (.istore 6, 2) := by decide +kernel
theorem dX12_sum_24 : decode cX12_sum 24 = .ok (.iload_n 2, 1) := by decide +kernel
theorem dX12_sum_25 : decode cX12_sum 25 = .ok (.iload 6, 2) := by decide +kernel
theorem dX12_sum_27 : decode cX12_sum 27 = .ok (.iadd, 1) := by decide +kernel
theorem dX12_sum_28 : decode cX12_sum 28 = .ok (.istore_n 2, 1) := by decide +kernel
theorem dX12_sum_29 : decode cX12_sum 29 = .ok (.iinc 5 1, 3) := by decide +kernel
theorem dX12_sum_32 : decode cX12_sum 32 = .ok (.goto (-21), 3) := by decide +kernel
theorem dX12_sum_35 : decode cX12_sum 35 = .ok (.iload_n 2, 1) := by decide +kernel
theorem dX12_sum_36 : decode cX12_sum 36 = .ok (.ireturn, 1) := by decide +kernel
theorem dX12_gap_0 : decode cX12_gap 0 = .ok (.ldc 92, 2) := by decide +kernel
theorem dX12_gap_2 : decode cX12_gap 2 = .ok (.istore_n 1, 1) := by decide +kernel
theorem dX12_gap_3 : decode cX12_gap 3 = .ok (.iconst 0, 1) := by decide +kernel
theorem dX12_gap_4 : decode cX12_gap 4 = .ok (.istore_n 2, 1) := by decide +kernel
theorem dX12_gap_5 : decode cX12_gap 5 = .ok (.iconst 0, 1) := by decide +kernel
theorem dX12_gap_6 : decode cX12_gap 6 = .ok (.istore_n 3, 1) := by decide +kernel
theorem dX12_gap_7 : decode cX12_gap 7 = .ok (.iload_n 3, 1) := by decide +kernel
theorem dX12_gap_8 : decode cX12_gap 8 = .ok (.aload_n 0, 1) := by decide +kernel
theorem dX12_gap_9 : decode cX12_gap 9 = .ok (.getfield 3, 3) := by decide +kernel
theorem dX12_gap_12 : decode cX12_gap 12 = .ok (.getfield 81, 3) := by decide +kernel
theorem dX12_gap_15 : decode cX12_gap 15 = .ok (.getfield 93, 3) := by decide +kernel
theorem dX12_gap_18 : decode cX12_gap 18 = .ok (.if_icmp .ge 31, 3) := by decide +kernel
theorem dX12_gap_21 : decode cX12_gap 21 = .ok (.iload_n 1, 1) := by decide +kernel
theorem dX12_gap_22 : decode cX12_gap 22 = .ok (.aload_n 0, 1) := by decide +kernel
theorem dX12_gap_23 : decode cX12_gap 23 = .ok (.getfield 32, 3) := by decide +kernel
theorem dX12_gap_26 : decode cX12_gap 26 = .ok (.iload_n 3, 1) := by decide +kernel
theorem dX12_gap_27 : decode cX12_gap 27 = .ok (.iaload, 1) := by decide +kernel
theorem dX12_gap_28 : decode cX12_gap 28 = .ok (.invokestatic 96, 3) := by decide +kernel
theorem dX12_gap_31 : decode cX12_gap 31 = .ok (.istore_n 1, 1) := by decide +kernel
theorem dX12_gap_32 : decode cX12_gap 32 = .ok (.iload_n 2, 1) := by decide +kernel
theorem dX12_gap_33 : decode cX12_gap 33 = .ok (.aload_n 0, 1) := by decide +kernel
theorem dX12_gap_34 : decode cX12_gap 34 = .ok (.getfield 32, 3) := by decide +kernel
theorem dX12_gap_37 : decode cX12_gap 37 = .ok (.iload_n 3, 1) := by decide +kernel
theorem dX12_gap_38 : decode cX12_gap 38 = .ok (.iaload, 1) := by decide +kernel
theorem dX12_gap_39 : decode cX12_gap 39 = .ok (.invokestatic 102, 3) := by decide +kernel
theorem dX12_gap_42 : decode cX12_gap 42 = .ok (.istore_n 2, 1) := by decide +kernel
theorem dX12_gap_43 : decode cX12_gap 43 = .ok (.iinc 3 1, 3) := by decide +kernel
theorem dX12_gap_46 : decode cX12_gap 46 = .ok (.goto (-39), 3) := by decide +kernel
theorem dX12_gap_49 : decode cX12_gap 49 = .ok (.aload_n 0, 1) := by decide +kernel
theorem dX12_gap_50 : decode cX12_gap 50 = .ok (.getfield 3, 3) := by decide +kernel
theorem dX12_gap_53 : decode cX12_gap 53 = .ok (.getfield 81, 3) := by decide +kernel
theorem dX12_gap_56 : decode cX12_gap 56 = .ok (.getfield 93, 3) := by decide +kernel
theorem dX12_gap_59 : decode cX12_gap 59 = .ok (.ifCond .ne 7, 3) := by decide +kernel
theorem dX12_gap_62 : decode cX12_gap 62 = .ok (.iconst 0, 1) := by decide +kernel
theorem dX12_gap_63 : decode cX12_gap 63 = .ok (.goto 6, 3) := by decide +kernel
theorem dX12_gap_66 : decode cX12_gap 66 = .ok (.iload_n 2, 1) := by decide +kernel
theorem dX12_gap_67 : decode cX12_gap 67 = .ok (.iload_n 1, 1) := by decide +kernel
theorem dX12_gap_68 : decode cX12_gap 68 = .ok (.isub, 1) := by decide +kernel
theorem dX12_gap_69 : decode cX12_gap 69 = .ok (.ireturn, 1) := by decide +kernel
theorem dX12_draw_0 : decode cX12_draw 0 = .ok (.iconst 0, 1) := by decide +kernel
theorem dX12_draw_1 : decode cX12_draw 1 = .ok (.istore_n 1, 1) := by decide +kernel
theorem dX12_draw_2 : decode cX12_draw 2 = .ok (.iload_n 1, 1) := by decide +kernel
theorem dX12_draw_3 : decode cX12_draw 3 = .ok (.aload_n 0, 1) := by decide +kernel
theorem dX12_draw_4 : decode cX12_draw 4 = .ok (.getfield 3, 3) := by decide +kernel
theorem dX12_draw_7 : decode cX12_draw 7 = .ok (.getfield 81, 3) := by decide +kernel
theorem dX12_draw_10 : decode cX12_draw 10 = .ok (.getfield 93, 3) := by decide +kernel
theorem dX12_draw_13 : decode cX12_draw 13 = .ok (.if_icmp .ge 16, 3) := by decide +kernel
theorem dX12_draw_16 : decode cX12_draw 16 = .ok (.aload_n 0, 1) := by decide +kernel
theorem dX12_draw_17 : decode cX12_draw 17 = .ok (.getfield 59, 3) := by decide +kernel
theorem dX12_draw_20 : decode cX12_draw 20 = .ok (.iload_n 1, 1) := by decide +kernel
theorem dX12_draw_21 : decode cX12_draw 21 = .ok (.iload_n 1, 1) := by decide +kernel
theorem dX12_draw_22 : decode cX12_draw 22 = .ok (.iastore, 1) := by decide +kernel
theorem dX12_draw_23 : decode cX12_draw 23 = .ok (.iinc 1 1, 3) := by decide +kernel
theorem dX12_draw_26 : decode cX12_draw 26 = .ok (.goto (-24), 3) := by decide +kernel
theorem dX12_draw_29 : decode cX12_draw 29 = .ok (.iconst 0, 1) := by decide +kernel
theorem dX12_draw_30 : decode cX12_draw 30 = .ok (.istore_n 1, 1) := by decide +kernel
theorem dX12_draw_31 : decode cX12_draw 31 = .ok (.iload_n 1, 1) := by decide +kernel
theorem dX12_draw_32 : decode cX12_draw 32 = .ok (.aload_n 0, 1) := by decide +kernel
theorem dX12_draw_33 : decode cX12_draw 33 = .ok (.getfield 3, 3) := by decide +kernel
theorem dX12_draw_36 : decode cX12_draw 36 = .ok (.getfield 81, 3) := by decide +kernel
theorem dX12_draw_39 : decode cX12_draw 39 = .ok (.getfield 93, 3) := by decide +kernel
theorem dX12_draw_42 : decode cX12_draw 42 = .ok (.if_icmp .ge 77, 3) := by decide +kernel
theorem dX12_draw_45 : decode cX12_draw 45 = .ok (.aload_n 0, 1) := by decide +kernel
theorem dX12_draw_46 : decode cX12_draw 46 = .ok (.aload_n 0, 1) := by decide +kernel
theorem dX12_draw_47 : decode cX12_draw 47 = .ok (.getfield 15, 3) := by decide +kernel
theorem dX12_draw_50 : decode cX12_draw 50 = .ok (.ldc 105, 2) := by decide +kernel
theorem dX12_draw_52 : decode cX12_draw 52 = .ok (.imul, 1) := by decide +kernel
theorem dX12_draw_53 : decode cX12_draw 53 = .ok (.iconst 1, 1) := by decide +kernel
theorem dX12_draw_54 : decode cX12_draw 54 = .ok (.iadd, 1) := by decide +kernel
theorem dX12_draw_55 : decode cX12_draw 55 = .ok (.putfield 15, 3) := by decide +kernel
theorem dX12_draw_58 : decode cX12_draw 58 = .ok (.aload_n 0, 1) := by decide +kernel
theorem dX12_draw_59 : decode cX12_draw 59 = .ok (.getfield 3, 3) := by decide +kernel
theorem dX12_draw_62 : decode cX12_draw 62 = .ok (.getfield 81, 3) := by decide +kernel
theorem dX12_draw_65 : decode cX12_draw 65 = .ok (.getfield 93, 3) := by decide +kernel
theorem dX12_draw_68 : decode cX12_draw 68 = .ok (.iload_n 1, 1) := by decide +kernel
theorem dX12_draw_69 : decode cX12_draw 69 = .ok (.isub, 1) := by decide +kernel
theorem dX12_draw_70 : decode cX12_draw 70 = .ok (.istore_n 2, 1) := by decide +kernel
theorem dX12_draw_71 : decode cX12_draw 71 = .ok (.aload_n 0, 1) := by decide +kernel
theorem dX12_draw_72 : decode cX12_draw 72 = .ok (.getfield 15, 3) := by decide +kernel
theorem dX12_draw_75 : decode cX12_draw 75 = .ok (.bipush 16, 2) := by decide +kernel
theorem dX12_draw_77 : decode cX12_draw 77 = .ok (.iushr, 1) := by decide +kernel
theorem dX12_draw_78 : decode cX12_draw 78 = .ok (.iload_n 2, 1) := by decide +kernel
theorem dX12_draw_79 : decode cX12_draw 79 = .ok (.irem, 1) := by decide +kernel
theorem dX12_draw_80 : decode cX12_draw 80 = .ok (.istore_n 3, 1) := by decide +kernel
theorem dX12_draw_81 : decode cX12_draw 81 = .ok (.aload_n 0, 1) := by decide +kernel
theorem dX12_draw_82 : decode cX12_draw 82 = .ok (.getfield 56, 3) := by decide +kernel
theorem dX12_draw_85 : decode cX12_draw 85 = .ok (.iload_n 1, 1) := by decide +kernel
theorem dX12_draw_86 : decode cX12_draw 86 = .ok (.aload_n 0, 1) := by decide +kernel
theorem dX12_draw_87 : decode cX12_draw 87 = .ok (.getfield 59, 3) := by decide +kernel
theorem dX12_draw_90 : decode cX12_draw 90 = .ok (.iload_n 3, 1) := by decide +kernel
theorem dX12_draw_91 : decode cX12_draw 91 = .ok (.iaload, 1) := by decide +kernel
theorem dX12_draw_92 : decode cX12_draw 92 = .ok (.iastore, 1) := by decide +kernel
theorem dX12_draw_93 : decode cX12_draw 93 = .ok (.aload_n 0, 1) := by decide +kernel
theorem dX12_draw_94 : decode cX12_draw 94 = .ok (.getfield 59, 3) := by decide +kernel
theorem dX12_draw_97 : decode cX12_draw 97 = .ok (.iload_n 3, 1) := by decide +kernel
theorem dX12_draw_98 : decode cX12_draw 98 = .ok (.iconst 1, 1) := by decide +kernel
theorem dX12_draw_99 : decode cX12_draw 99 = .ok (.iadd, 1) := by decide +kernel
theorem dX12_draw_100 : decode cX12_draw 100 = .ok (.aload_n 0, 1) := by decide +kernel
theorem dX12_draw_101 : decode cX12_draw 101 = .ok (.getfield 59, 3) := by decide +kernel
theorem dX12_draw_104 : decode cX12_draw 104 = .ok (.iload_n 3, 1) := by decide +kernel
theorem dX12_draw_105 : decode cX12_draw 105 = .ok (.iload_n 2, 1) := by decide +kernel
theorem dX12_draw_106 : decode cX12_draw 106 = .ok (.iload_n 3, 1) := by decide +kernel
theorem dX12_draw_107 : decode cX12_draw 107 = .ok (.isub, 1) := by decide +kernel
theorem dX12_draw_108 : decode cX12_draw 108 = .ok (.iconst 1, 1) := by decide +kernel
theorem dX12_draw_109 : decode cX12_draw 109 = .ok (.isub, 1) := by decide +kernel
theorem dX12_draw_110 : decode cX12_draw 110 = .ok (.invokestatic 68, 3) := by decide +kernel
theorem dX12_draw_113 : decode cX12_draw 113 = .ok (.iinc 1 1, 3) := by decide +kernel
theorem dX12_draw_116 : decode cX12_draw 116 = .ok (.goto (-85), 3) := by decide +kernel
theorem dX12_draw_119 : decode cX12_draw 119 = .ok (.return_, 1) := by decide +kernel
theorem dX12_pass_0 : decode cX12_pass 0 = .ok (.aload_n 0, 1) := by decide +kernel
theorem dX12_pass_1 : decode cX12_pass 1 = .ok (.invokevirtual 106, 3) := by decide +kernel
theorem dX12_pass_4 : decode cX12_pass 4 = .ok (.iconst 0, 1) := by decide +kernel
theorem dX12_pass_5 : decode cX12_pass 5 = .ok (.istore_n 1, 1) := by decide +kernel
theorem dX12_pass_6 : decode cX12_pass 6 = .ok (.iload_n 1, 1) := by decide +kernel
theorem dX12_pass_7 : decode cX12_pass 7 = .ok (.bipush 8, 2) := by decide +kernel
theorem dX12_pass_9 : decode cX12_pass 9 = .ok (.if_icmp .ge 16, 3) := by decide +kernel
theorem dX12_pass_12 : decode cX12_pass 12 = .ok (.aload_n 0, 1) := by decide +kernel
theorem dX12_pass_13 : decode cX12_pass 13 = .ok (.getfield 23, 3) := by decide +kernel
theorem dX12_pass_16 : decode cX12_pass 16 = .ok (.iload_n 1, 1) := by decide +kernel
theorem dX12_pass_17 : decode cX12_pass 17 = .ok (.iconst 0, 1) := by decide +kernel
theorem dX12_pass_18 : decode cX12_pass 18 = .ok (.iastore, 1) := by decide +kernel
theorem dX12_pass_19 : decode cX12_pass 19 = .ok (.iinc 1 1, 3) := by decide +kernel
theorem dX12_pass_22 : decode cX12_pass 22 = .ok (.goto (-16), 3) := by decide +kernel
theorem dX12_pass_25 : decode cX12_pass 25 = .ok (.iconst 0, 1) := by decide +kernel
theorem dX12_pass_26 : decode cX12_pass 26 = .ok (.istore_n 1, 1) := by decide +kernel
theorem dX12_pass_27 : decode cX12_pass 27 = .ok (.iload_n 1, 1) := by decide +kernel
theorem dX12_pass_28 : decode cX12_pass 28 = .ok (.aload_n 0, 1) := by decide +kernel
theorem dX12_pass_29 : decode cX12_pass 29 = .ok (.getfield 3, 3) := by decide +kernel
theorem dX12_pass_32 : decode cX12_pass 32 = .ok (.getfield 81, 3) := by decide +kernel
theorem dX12_pass_35 : decode cX12_pass 35 = .ok (.getfield 93, 3) := by decide +kernel
theorem dX12_pass_38 : decode cX12_pass 38 = .ok (.if_icmp .ge 19, 3) := by decide +kernel
theorem dX12_pass_41 : decode cX12_pass 41 = .ok (.aload_n 0, 1) := by decide +kernel
theorem dX12_pass_42 : decode cX12_pass 42 = .ok (.aload_n 0, 1) := by decide +kernel
theorem dX12_pass_43 : decode cX12_pass 43 = .ok (.getfield 56, 3) := by decide +kernel
theorem dX12_pass_46 : decode cX12_pass 46 = .ok (.iload_n 1, 1) := by decide +kernel
theorem dX12_pass_47 : decode cX12_pass 47 = .ok (.iaload, 1) := by decide +kernel
theorem dX12_pass_48 : decode cX12_pass 48 = .ok (.invokevirtual 109, 3) := by decide +kernel
theorem dX12_pass_51 : decode cX12_pass 51 = .ok (.iinc 1 1, 3) := by decide +kernel
theorem dX12_pass_54 : decode cX12_pass 54 = .ok (.goto (-27), 3) := by decide +kernel
theorem dX12_pass_57 : decode cX12_pass 57 = .ok (.iconst 0, 1) := by decide +kernel
theorem dX12_pass_58 : decode cX12_pass 58 = .ok (.istore_n 1, 1) := by decide +kernel
theorem dX12_pass_59 : decode cX12_pass 59 = .ok (.iload_n 1, 1) := by decide +kernel
theorem dX12_pass_60 : decode cX12_pass 60 = .ok (.aload_n 0, 1) := by decide +kernel
theorem dX12_pass_61 : decode cX12_pass 61 = .ok (.getfield 3, 3) := by decide +kernel
theorem dX12_pass_64 : decode cX12_pass 64 = .ok (.getfield 81, 3) := by decide +kernel
theorem dX12_pass_67 : decode cX12_pass 67 = .ok (.getfield 113, 3) := by decide +kernel
theorem dX12_pass_70 : decode cX12_pass 70 = .ok (.if_icmp .ge 30, 3) := by decide +kernel
theorem dX12_pass_73 : decode cX12_pass 73 = .ok (.aload_n 0, 1) := by decide +kernel
theorem dX12_pass_74 : decode cX12_pass 74 = .ok (.getfield 3, 3) := by decide +kernel
theorem dX12_pass_77 : decode cX12_pass 77 = .ok (.getfield 81, 3) := by decide +kernel
theorem dX12_pass_80 : decode cX12_pass 80 = .ok (.getfield 116, 3) := by decide +kernel
theorem dX12_pass_83 : decode cX12_pass 83 = .ok (.iload_n 1, 1) := by decide +kernel
theorem dX12_pass_84 : decode cX12_pass 84 = .ok (.iaload, 1) := by decide +kernel
theorem dX12_pass_85 : decode cX12_pass 85 = .ok (.iconst (-1), 1) := by decide +kernel
theorem dX12_pass_86 : decode cX12_pass 86 = .ok (.if_icmp .ne 8, 3) := by decide +kernel
theorem dX12_pass_89 : decode cX12_pass 89 = .ok (.aload_n 0, 1) := by decide +kernel
theorem dX12_pass_90 : decode cX12_pass 90 = .ok (.iload_n 1, 1) := by decide +kernel
theorem dX12_pass_91 : decode cX12_pass 91 = .ok (.invokevirtual 119, 3) := by decide +kernel
theorem dX12_pass_94 : decode cX12_pass 94 = .ok (.iinc 1 1, 3) := by decide +kernel
theorem dX12_pass_97 : decode cX12_pass 97 = .ok (.goto (-38), 3) := by decide +kernel
theorem dX12_pass_100 : decode cX12_pass 100 = .ok (.iconst 0, 1) := by decide +kernel
theorem dX12_pass_101 : decode cX12_pass 101 = .ok (.istore_n 1, 1) := by decide +kernel
theorem dX12_pass_102 : decode cX12_pass 102 = .ok (.iload_n 1, 1) := by decide +kernel
theorem dX12_pass_103 : decode cX12_pass 103 = .ok (.aload_n 0, 1) := by decide +kernel
theorem dX12_pass_104 : decode cX12_pass 104 = .ok (.getfield 3, 3) := by decide +kernel
theorem dX12_pass_107 : decode cX12_pass 107 = .ok (.getfield 81, 3) := by decide +kernel
theorem dX12_pass_110 : decode cX12_pass 110 = .ok (.getfield 93, 3) := by decide +kernel
theorem dX12_pass_113 : decode cX12_pass 113 = .ok (.if_icmp .ge 24, 3) := by decide +kernel
theorem dX12_pass_116 : decode cX12_pass 116 = .ok (.aload_n 0, 1) := by decide +kernel
theorem dX12_pass_117 : decode cX12_pass 117 = .ok (.getfield 32, 3) := by decide +kernel
theorem dX12_pass_120 : decode cX12_pass 120 = .ok (.iload_n 1, 1) := by decide +kernel
theorem dX12_pass_121 : decode cX12_pass 121 = .ok (.dup2, 1) := by decide +kernel
theorem dX12_pass_122 : decode cX12_pass 122 = .ok (.iaload, 1) := by decide +kernel
theorem dX12_pass_123 : decode cX12_pass 123 = .ok (.aload_n 0, 1) := by decide +kernel
theorem dX12_pass_124 : decode cX12_pass 124 = .ok (.getfield 35, 3) := by decide +kernel
theorem dX12_pass_127 : decode cX12_pass 127 = .ok (.iload_n 1, 1) := by decide +kernel
theorem dX12_pass_128 : decode cX12_pass 128 = .ok (.iaload, 1) := by decide +kernel
theorem dX12_pass_129 : decode cX12_pass 129 = .ok (.iadd, 1) := by decide +kernel
theorem dX12_pass_130 : decode cX12_pass 130 = .ok (.iastore, 1) := by decide +kernel
theorem dX12_pass_131 : decode cX12_pass 131 = .ok (.iinc 1 1, 3) := by decide +kernel
theorem dX12_pass_134 : decode cX12_pass 134 = .ok (.goto (-32), 3) := by decide +kernel
theorem dX12_pass_137 : decode cX12_pass 137 = .ok (.iconst 0, 1) := by decide +kernel
theorem dX12_pass_138 : decode cX12_pass 138 = .ok (.istore_n 1, 1) := by decide +kernel
theorem dX12_pass_139 : decode cX12_pass 139 = .ok (.iload_n 1, 1) := by decide +kernel
theorem dX12_pass_140 : decode cX12_pass 140 = .ok (.aload_n 0, 1) := by decide +kernel
theorem dX12_pass_141 : decode cX12_pass 141 = .ok (.getfield 3, 3) := by decide +kernel
theorem dX12_pass_144 : decode cX12_pass 144 = .ok (.getfield 81, 3) := by decide +kernel
theorem dX12_pass_147 : decode cX12_pass 147 = .ok (.getfield 122, 3) := by decide +kernel
theorem dX12_pass_150 : decode cX12_pass 150 = .ok (.if_icmp .ge 14, 3) := by decide +kernel
theorem dX12_pass_153 : decode cX12_pass 153 = .ok (.aload_n 0, 1) := by decide +kernel
theorem dX12_pass_154 : decode cX12_pass 154 = .ok (.iload_n 1, 1) := by decide +kernel
theorem dX12_pass_155 : decode cX12_pass 155 = .ok (.invokevirtual 125, 3) := by decide +kernel
theorem dX12_pass_158 : decode cX12_pass 158 = .ok (.iinc 1 1, 3) := by decide +kernel
theorem dX12_pass_161 : decode cX12_pass 161 = .ok (.goto (-22), 3) := by decide +kernel
theorem dX12_pass_164 : decode cX12_pass 164 = .ok (.aload_n 0, 1) := by decide +kernel
theorem dX12_pass_165 : decode cX12_pass 165 = .ok (.dup, 1) := by decide +kernel
theorem dX12_pass_166 : decode cX12_pass 166 = .ok (.getfield 74, 3) := by decide +kernel
theorem dX12_pass_169 : decode cX12_pass 169 = .ok (.iconst 1, 1) := by decide +kernel
theorem dX12_pass_170 : decode cX12_pass 170 = .ok (.iadd, 1) := by decide +kernel
theorem dX12_pass_171 : decode cX12_pass 171 = .ok (.putfield 74, 3) := by decide +kernel
theorem dX12_pass_174 : decode cX12_pass 174 = .ok (.return_, 1) := by decide +kernel
theorem dX12_fisher_0 : decode cX12_fisher 0 = .ok (.aload_n 0, 1) := by decide +kernel
theorem dX12_fisher_1 : decode cX12_fisher 1 = .ok (.getfield 38, 3) := by decide +kernel
theorem dX12_fisher_4 : decode cX12_fisher 4 = .ok (.iload_n 1, 1) := by decide +kernel
theorem dX12_fisher_5 : decode cX12_fisher 5 = .ok (.iconst (-1), 1) := by decide +kernel
theorem dX12_fisher_6 : decode cX12_fisher 6 = .ok (.iastore, 1) := by decide +kernel
theorem dX12_fisher_7 : decode cX12_fisher 7 = .ok (.iconst 0, 1) := by decide +kernel
theorem dX12_fisher_8 : decode cX12_fisher 8 = .ok (.istore_n 2, 1) := by decide +kernel
theorem dX12_fisher_9 : decode cX12_fisher 9 = .ok (.iload_n 2, 1) := by decide +kernel
theorem dX12_fisher_10 : decode cX12_fisher 10 = .ok (.aload_n 0, 1) := by decide +kernel
theorem dX12_fisher_11 : decode cX12_fisher 11 = .ok (.getfield 3, 3) := by decide +kernel
theorem dX12_fisher_14 : decode cX12_fisher 14 = .ok (.getfield 81, 3) := by decide +kernel
theorem dX12_fisher_17 : decode cX12_fisher 17 = .ok (.getfield 128, 3) := by decide +kernel
theorem dX12_fisher_20 : decode cX12_fisher 20 = .ok (.if_icmp .ge 62, 3) := by decide +kernel
theorem dX12_fisher_23 : decode cX12_fisher 23 = .ok (.aload_n 0, 1) := by decide +kernel
theorem dX12_fisher_24 : decode cX12_fisher 24 = .ok (.getfield 38, 3) := by decide +kernel
theorem dX12_fisher_27 : decode cX12_fisher 27 = .ok (.iload_n 1, 1) := by decide +kernel
theorem dX12_fisher_28 : decode cX12_fisher 28 = .ok (.iaload, 1) := by decide +kernel
theorem dX12_fisher_29 : decode cX12_fisher 29 = .ok (.iconst (-1), 1) := by decide +kernel
theorem dX12_fisher_30 : decode cX12_fisher 30 = .ok (.if_icmp .ne 52, 3) := by decide +kernel
theorem dX12_fisher_33 : decode cX12_fisher 33 = .ok (.aload_n 0, 1) := by decide +kernel
theorem dX12_fisher_34 : decode cX12_fisher 34 = .ok (.getfield 3, 3) := by decide +kernel
theorem dX12_fisher_37 : decode cX12_fisher 37 = .ok (.getfield 81, 3) := by decide +kernel
theorem dX12_fisher_40 : decode cX12_fisher 40 = .ok (.getfield 131, 3) := by decide +kernel
theorem dX12_fisher_43 : decode cX12_fisher 43 = .ok (.iload_n 2, 1) := by decide +kernel
theorem dX12_fisher_44 : decode cX12_fisher 44 = .ok (.iaload, 1) := by decide +kernel
theorem dX12_fisher_45 : decode cX12_fisher 45 = .ok (.iload_n 1, 1) := by decide +kernel
theorem dX12_fisher_46 : decode cX12_fisher 46 = .ok (.if_icmp .ne 30, 3) := by decide +kernel
theorem dX12_fisher_49 : decode cX12_fisher 49 = .ok (.aload_n 0, 1) := by decide +kernel
theorem dX12_fisher_50 : decode cX12_fisher 50 = .ok (.iload_n 1, 1) := by decide +kernel
theorem dX12_fisher_51 : decode cX12_fisher 51 = .ok (.iload_n 2, 1) := by decide +kernel
theorem dX12_fisher_52 : decode cX12_fisher 52 = .ok (.invokevirtual 134, 3) := by decide +kernel
theorem dX12_fisher_55 : decode cX12_fisher 55 = .ok (.ifCond .eq 21, 3) := by decide +kernel
theorem dX12_fisher_58 : decode cX12_fisher 58 = .ok (.aload_n 0, 1) := by decide +kernel
theorem dX12_fisher_59 : decode cX12_fisher 59 = .ok (.getfield 38, 3) := by decide +kernel
theorem dX12_fisher_62 : decode cX12_fisher 62 = .ok (.iload_n 1, 1) := by decide +kernel
theorem dX12_fisher_63 : decode cX12_fisher 63 = .ok (.aload_n 0, 1) := by decide +kernel
theorem dX12_fisher_64 : decode cX12_fisher 64 = .ok (.getfield 3, 3) := by decide +kernel
theorem dX12_fisher_67 : decode cX12_fisher 67 = .ok (.getfield 81, 3) := by decide +kernel
theorem dX12_fisher_70 : decode cX12_fisher 70 = .ok (.getfield 138, 3) := by decide +kernel
theorem dX12_fisher_73 : decode cX12_fisher 73 = .ok (.iload_n 2, 1) := by decide +kernel
theorem dX12_fisher_74 : decode cX12_fisher 74 = .ok (.iaload, 1) := by decide +kernel
theorem dX12_fisher_75 : decode cX12_fisher 75 = .ok (.iastore, 1) := by decide +kernel
theorem dX12_fisher_76 : decode cX12_fisher 76 = .ok (.iinc 2 1, 3) := by decide +kernel
theorem dX12_fisher_79 : decode cX12_fisher 79 = .ok (.goto (-70), 3) := by decide +kernel
theorem dX12_fisher_82 : decode cX12_fisher 82 = .ok (.aload_n 0, 1) := by decide +kernel
theorem dX12_fisher_83 : decode cX12_fisher 83 = .ok (.getfield 38, 3) := by decide +kernel
theorem dX12_fisher_86 : decode cX12_fisher 86 = .ok (.iload_n 1, 1) := by decide +kernel
theorem dX12_fisher_87 : decode cX12_fisher 87 = .ok (.iaload, 1) := by decide +kernel
theorem dX12_fisher_88 : decode cX12_fisher 88 = .ok (.iconst (-1), 1) := by decide +kernel
theorem dX12_fisher_89 : decode cX12_fisher 89 = .ok (.if_icmp .ne 11, 3) := by decide +kernel
theorem dX12_fisher_92 : decode cX12_fisher 92 = .ok (.aload_n 0, 1) := by decide +kernel
theorem dX12_fisher_93 : decode cX12_fisher 93 = .ok (.getfield 35, 3) := by decide +kernel
theorem dX12_fisher_96 : decode cX12_fisher 96 = .ok (.iload_n 1, 1) := by decide +kernel
theorem dX12_fisher_97 : decode cX12_fisher 97 = .ok (.iconst 0, 1) := by decide +kernel
theorem dX12_fisher_98 : decode cX12_fisher 98 = .ok (.iastore, 1) := by decide +kernel
theorem dX12_fisher_99 : decode cX12_fisher 99 = .ok (.return_, 1) := by decide +kernel
theorem dX12_fisher_100 : decode cX12_fisher 100 = .ok (.aload_n 0, 1) := by decide +kernel
theorem dX12_fisher_101 : decode cX12_fisher 101 = .ok (.getfield 23, 3) := by decide +kernel
theorem dX12_fisher_104 : decode cX12_fisher 104 = .ok (.aload_n 0, 1) := by decide +kernel
theorem dX12_fisher_105 : decode cX12_fisher 105 = .ok (.getfield 38, 3) := by decide +kernel
theorem dX12_fisher_108 : decode cX12_fisher 108 = .ok (.iload_n 1, 1) := by decide +kernel
theorem dX12_fisher_109 : decode cX12_fisher 109 = .ok (.iaload, 1) := by decide +kernel
theorem dX12_fisher_110 : decode cX12_fisher 110 = .ok (.dup2, 1) := by decide +kernel
theorem dX12_fisher_111 : decode cX12_fisher 111 = .ok (.iaload, 1) := by decide +kernel
theorem dX12_fisher_112 : decode cX12_fisher 112 = .ok (.iconst 1, 1) := by decide +kernel
theorem dX12_fisher_113 : decode cX12_fisher 113 = .ok (.iadd, 1) := by decide +kernel
theorem dX12_fisher_114 : decode cX12_fisher 114 = .ok (.iastore, 1) := by decide +kernel
theorem dX12_fisher_115 : decode cX12_fisher 115 = .ok (.aload_n 0, 1) := by decide +kernel
theorem dX12_fisher_116 : decode cX12_fisher 116 = .ok (.iload_n 1, 1) := by decide +kernel
theorem dX12_fisher_117 : decode cX12_fisher 117 = .ok (.aload_n 0, 1) := by decide +kernel
theorem dX12_fisher_118 : decode cX12_fisher 118 = .ok (.getfield 38, 3) := by decide +kernel
theorem dX12_fisher_121 : decode cX12_fisher 121 = .ok (.iload_n 1, 1) := by decide +kernel
theorem dX12_fisher_122 : decode cX12_fisher 122 = .ok (.iaload, 1) := by decide +kernel
theorem dX12_fisher_123 : decode cX12_fisher 123 = .ok (.invokevirtual 141, 3) := by decide +kernel
theorem dX12_fisher_126 : decode cX12_fisher 126 = .ok (.return_, 1) := by decide +kernel
theorem dX12_canGo_0 : decode cX12_canGo 0 = .ok (.aload_n 0, 1) := by decide +kernel
theorem dX12_canGo_1 : decode cX12_canGo 1 = .ok (.getfield 3, 3) := by decide +kernel
theorem dX12_canGo_4 : decode cX12_canGo 4 = .ok (.getfield 81, 3) := by decide +kernel
theorem dX12_canGo_7 : decode cX12_canGo 7 = .ok (.getfield 138, 3) := by decide +kernel
theorem dX12_canGo_10 : decode cX12_canGo 10 = .ok (.iload_n 2, 1) := by decide +kernel
theorem dX12_canGo_11 : decode cX12_canGo 11 = .ok (.iaload, 1) := by decide +kernel
theorem dX12_canGo_12 : decode cX12_canGo 12 = .ok (.istore_n 3, 1) := by decide +kernel
theorem dX12_canGo_13 : decode cX12_canGo 13 = .ok (.aload_n 0, 1) := by decide +kernel
theorem dX12_canGo_14 : decode cX12_canGo 14 = .ok (.getfield 23, 3) := by decide +kernel
theorem dX12_canGo_17 : decode cX12_canGo 17 = .ok (.iload_n 3, 1) := by decide +kernel
theorem dX12_canGo_18 : decode cX12_canGo 18 = .ok (.iaload, 1) := by decide +kernel
theorem dX12_canGo_19 : decode cX12_canGo 19 = .ok (.aload_n 0, 1) := by decide +kernel
theorem dX12_canGo_20 : decode cX12_canGo 20 = .ok (.getfield 3, 3) := by decide +kernel
theorem dX12_canGo_23 : decode cX12_canGo 23 = .ok (.getfield 81, 3) := by decide +kernel
theorem dX12_canGo_26 : decode cX12_canGo 26 = .ok (.getfield 145, 3) := by decide +kernel
theorem dX12_canGo_29 : decode cX12_canGo 29 = .ok (.iload_n 3, 1) := by decide +kernel
theorem dX12_canGo_30 : decode cX12_canGo 30 = .ok (.iaload, 1) := by decide +kernel
theorem dX12_canGo_31 : decode cX12_canGo 31 = .ok (.if_icmp .lt 5, 3) := by decide +kernel
theorem dX12_canGo_34 : decode cX12_canGo 34 = .ok (.iconst 0, 1) := by decide +kernel
theorem dX12_canGo_35 : decode cX12_canGo 35 = .ok (.ireturn, 1) := by decide +kernel
theorem dX12_canGo_36 : decode cX12_canGo 36 = .ok (.aload_n 0, 1) := by decide +kernel
theorem dX12_canGo_37 : decode cX12_canGo 37 = .ok (.getfield 3, 3) := by decide +kernel
theorem dX12_canGo_40 : decode cX12_canGo 40 = .ok (.getfield 81, 3) := by decide +kernel
theorem dX12_canGo_43 : decode cX12_canGo 43 = .ok (.getfield 148, 3) := by decide +kernel
theorem dX12_canGo_46 : decode cX12_canGo 46 = .ok (.iload_n 2, 1) := by decide +kernel
theorem dX12_canGo_47 : decode cX12_canGo 47 = .ok (.iaload, 1) := by decide +kernel
theorem dX12_canGo_48 : decode cX12_canGo 48 = .ok (.aload_n 0, 1) := by decide +kernel
theorem dX12_canGo_49 : decode cX12_canGo 49 = .ok (.getfield 3, 3) := by decide +kernel
theorem dX12_canGo_52 : decode cX12_canGo 52 = .ok (.getfield 81, 3) := by decide +kernel
theorem dX12_canGo_55 : decode cX12_canGo 55 = .ok (.getfield 151, 3) := by decide +kernel
theorem dX12_canGo_58 : decode cX12_canGo 58 = .ok (.iload_n 2, 1) := by decide +kernel
theorem dX12_canGo_59 : decode cX12_canGo 59 = .ok (.iaload, 1) := by decide +kernel
theorem dX12_canGo_60 : decode cX12_canGo 60 = .ok (.if_icmp .le 36, 3) := by decide +kernel
theorem dX12_canGo_63 : decode cX12_canGo 63 = .ok (.aload_n 0, 1) := by decide +kernel
theorem dX12_canGo_64 : decode cX12_canGo 64 = .ok (.aload_n 0, 1) := by decide +kernel
theorem dX12_canGo_65 : decode cX12_canGo 65 = .ok (.getfield 3, 3) := by decide +kernel
theorem dX12_canGo_68 : decode cX12_canGo 68 = .ok (.getfield 81, 3) := by decide +kernel
theorem dX12_canGo_71 : decode cX12_canGo 71 = .ok (.getfield 151, 3) := by decide +kernel
theorem dX12_canGo_74 : decode cX12_canGo 74 = .ok (.iload_n 2, 1) := by decide +kernel
theorem dX12_canGo_75 : decode cX12_canGo 75 = .ok (.iaload, 1) := by decide +kernel
theorem dX12_canGo_76 : decode cX12_canGo 76 = .ok (.aload_n 0, 1) := by decide +kernel
theorem dX12_canGo_77 : decode cX12_canGo 77 = .ok (.getfield 3, 3) := by decide +kernel
theorem dX12_canGo_80 : decode cX12_canGo 80 = .ok (.getfield 81, 3) := by decide +kernel
theorem dX12_canGo_83 : decode cX12_canGo 83 = .ok (.getfield 148, 3) := by decide +kernel
theorem dX12_canGo_86 : decode cX12_canGo 86 = .ok (.iload_n 2, 1) := by decide +kernel
theorem dX12_canGo_87 : decode cX12_canGo 87 = .ok (.iaload, 1) := by decide +kernel
theorem dX12_canGo_88 : decode cX12_canGo 88 = .ok (.invokevirtual 154, 3) := by decide +kernel
theorem dX12_canGo_91 : decode cX12_canGo 91 = .ok (.ifCond .ne 5, 3) := by decide +kernel
theorem dX12_canGo_94 : decode cX12_canGo 94 = .ok (.iconst 0, 1) := by decide +kernel
theorem dX12_canGo_95 : decode cX12_canGo 95 = .ok (.ireturn, 1) := by decide +kernel
theorem dX12_canGo_96 : decode cX12_canGo 96 = .ok (.aload_n 0, 1) := by decide +kernel
theorem dX12_canGo_97 : decode cX12_canGo 97 = .ok (.getfield 44, 3) := by decide +kernel
theorem dX12_canGo_100 : decode cX12_canGo 100 = .ok (.iload_n 1, 1) := by decide +kernel
theorem dX12_canGo_101 : decode cX12_canGo 101 = .ok (.iaload, 1) := by decide +kernel
theorem dX12_canGo_102 : decode cX12_canGo 102 = .ok (.iconst 1, 1) := by decide +kernel
theorem dX12_canGo_103 : decode cX12_canGo 103 = .ok (.if_icmp .eq 12, 3) := by decide +kernel
theorem dX12_canGo_106 : decode cX12_canGo 106 = .ok (.aload_n 0, 1) := by decide +kernel
theorem dX12_canGo_107 : decode cX12_canGo 107 = .ok (.iload_n 1, 1) := by decide +kernel
theorem dX12_canGo_108 : decode cX12_canGo 108 = .ok (.iload_n 3, 1) := by decide +kernel
theorem dX12_canGo_109 : decode cX12_canGo 109 = .ok (.invokevirtual 157, 3) := by decide +kernel
theorem dX12_canGo_112 : decode cX12_canGo 112 = .ok (.ifCond .ne 7, 3) := by decide +kernel
theorem dX12_canGo_115 : decode cX12_canGo 115 = .ok (.iconst 1, 1) := by decide +kernel
theorem dX12_canGo_116 : decode cX12_canGo 116 = .ok (.goto 4, 3) := by decide +kernel
theorem dX12_canGo_119 : decode cX12_canGo 119 = .ok (.iconst 0, 1) := by decide +kernel
theorem dX12_canGo_120 : decode cX12_canGo 120 = .ok (.ireturn, 1) := by decide +kernel
theorem dX12_isSpared_0 : decode cX12_isSpared 0 = .ok (.iconst 0, 1) := by decide +kernel
theorem dX12_isSpared_1 : decode cX12_isSpared 1 = .ok (.istore_n 3, 1) := by decide +kernel
theorem dX12_isSpared_2 : decode cX12_isSpared 2 = .ok (.iload_n 3, 1) := by decide +kernel
theorem dX12_isSpared_3 : decode cX12_isSpared 3 = .ok (.aload_n 0, 1) := by decide +kernel
theorem dX12_isSpared_4 : decode cX12_isSpared 4 = .ok (.getfield 3, 3) := by decide +kernel
theorem dX12_isSpared_7 : decode cX12_isSpared 7 = .ok (.getfield 81, 3) := by decide +kernel
theorem dX12_isSpared_10 : decode cX12_isSpared 10 = .ok (.getfield 113, 3) := by decide +kernel
theorem dX12_isSpared_13 : decode cX12_isSpared 13 = .ok (.if_icmp .ge 129, 3) := by decide +kernel
theorem dX12_isSpared_16 : decode cX12_isSpared 16 = .ok (.iconst 0, 1) := by decide +kernel
theorem dX12_isSpared_17 : decode cX12_isSpared 17 = .ok (.istore 4, 2) := by decide +kernel
theorem dX12_isSpared_19 : decode cX12_isSpared 19 = .ok (.iconst 0, 1) := by decide +kernel
theorem dX12_isSpared_20 : decode cX12_isSpared 20 = .ok (.istore 5, 2) := by decide +kernel
theorem dX12_isSpared_22 : decode cX12_isSpared 22 = .ok (.iload 5, 2) := by decide +kernel
theorem dX12_isSpared_24 : decode cX12_isSpared 24 = .ok (.aload_n 0, 1) := by decide +kernel
theorem dX12_isSpared_25 : decode cX12_isSpared 25 = .ok (.getfield 3, 3) := by decide +kernel
theorem dX12_isSpared_28 : decode cX12_isSpared 28 = .ok (.getfield 81, 3) := by decide +kernel
theorem dX12_isSpared_31 : decode cX12_isSpared 31 = .ok (.getfield 160, 3) := by decide +kernel
theorem dX12_isSpared_34 : decode cX12_isSpared 34 = .ok (.iload_n 3, 1) := by decide +kernel
theorem dX12_isSpared_35 : decode cX12_isSpared 35 = .ok (.iaload, 1) := by decide +kernel
theorem dX12_isSpared_36 : decode cX12_isSpared 36 = .ok (.if_icmp .ge 41, 3) := by decide +kernel
theorem dX12_isSpared_39 : decode cX12_isSpared 39 = .ok (.iload 4, 2) := by decide +kernel
theorem dX12_isSpared_41 : decode cX12_isSpared 41 = .ok (.aload_n 0, 1) := by decide +kernel
theorem dX12_isSpared_42 : decode cX12_isSpared 42 = .ok (.getfield 3, 3) := by decide +kernel
theorem dX12_isSpared_45 : decode cX12_isSpared 45 = .ok (.getfield 81, 3) := by decide +kernel
theorem dX12_isSpared_48 : decode cX12_isSpared 48 = .ok (.getfield 163, 3) := by decide +kernel
theorem dX12_isSpared_51 : decode cX12_isSpared 51 = .ok (.bipush 8, 2) := by decide +kernel
theorem dX12_isSpared_53 : decode cX12_isSpared 53 = .ok (.iload_n 3, 1) := by decide +kernel
theorem dX12_isSpared_54 : decode cX12_isSpared 54 = .ok (.imul, 1) := by decide +kernel
theorem dX12_isSpared_55 : decode cX12_isSpared 55 = .ok (.iload 5, 2) := by decide +kernel
theorem dX12_isSpared_57 : decode cX12_isSpared 57 = .ok (.iadd, 1) := by decide +kernel
theorem dX12_isSpared_58 : decode cX12_isSpared 58 = .ok (.iaload, 1) := by decide +kernel
theorem dX12_isSpared_59 : decode cX12_isSpared 59 = .ok (.iload_n 1, 1) := by decide +kernel
theorem dX12_isSpared_60 : decode cX12_isSpared 60 = .ok (.if_icmp .ne 7, 3) := by decide +kernel
theorem dX12_isSpared_63 : decode cX12_isSpared 63 = .ok (.iconst 1, 1) := by decide +kernel
theorem dX12_isSpared_64 : decode cX12_isSpared 64 = .ok (.goto 4, 3) := by decide +kernel
theorem dX12_isSpared_67 : decode cX12_isSpared 67 = .ok (.iconst 0, 1) := by decide +kernel
theorem dX12_isSpared_68 : decode cX12_isSpared 68 = .ok (.ior, 1) := by decide +kernel
theorem dX12_isSpared_69 : decode cX12_isSpared 69 = .ok (.istore 4, 2) := by decide +kernel
theorem dX12_isSpared_71 : decode cX12_isSpared 71 = .ok (.iinc 5 1, 3) := by decide +kernel
theorem dX12_isSpared_74 : decode cX12_isSpared 74 = .ok (.goto (-52), 3) := by decide +kernel
theorem dX12_isSpared_77 : decode cX12_isSpared 77 = .ok (.iload 4, 2) := by decide +kernel
theorem dX12_isSpared_79 : decode cX12_isSpared 79 = .ok (.ifCond .eq 57, 3) := by decide +kernel
theorem dX12_isSpared_82 : decode cX12_isSpared 82 = .ok (.aload_n 0, 1) := by decide +kernel
theorem dX12_isSpared_83 : decode cX12_isSpared 83 = .ok (.getfield 3, 3) := by decide +kernel
theorem dX12_isSpared_86 : decode cX12_isSpared 86 = .ok (.getfield 81, 3) := by decide +kernel
theorem dX12_isSpared_89 : decode cX12_isSpared 89 = .ok (.getfield 116, 3) := by decide +kernel
theorem dX12_isSpared_92 : decode cX12_isSpared 92 = .ok (.iload_n 3, 1) := by decide +kernel
theorem dX12_isSpared_93 : decode cX12_isSpared 93 = .ok (.iaload, 1) := by decide +kernel
theorem dX12_isSpared_94 : decode cX12_isSpared 94 = .ok (.iload_n 2, 1) := by decide +kernel
theorem dX12_isSpared_95 : decode cX12_isSpared 95 = .ok (.if_icmp .ne 41, 3) := by decide +kernel
theorem dX12_isSpared_98 : decode cX12_isSpared 98 = .ok (.aload_n 0, 1) := by decide +kernel
theorem dX12_isSpared_99 : decode cX12_isSpared 99 = .ok (.iload_n 2, 1) := by decide +kernel
theorem dX12_isSpared_100 : decode cX12_isSpared 100 = .ok (.invokevirtual 166, 3) := by decide +kernel
theorem dX12_isSpared_103 : decode cX12_isSpared 103 = .ok (.aload_n 0, 1) := by decide +kernel
theorem dX12_isSpared_104 : decode cX12_isSpared 104 = .ok (.aload_n 0, 1) := by decide +kernel
theorem dX12_isSpared_105 : decode cX12_isSpared 105 = .ok (.getfield 3, 3) := by decide +kernel
theorem dX12_isSpared_108 : decode cX12_isSpared 108 = .ok (.getfield 81, 3) := by decide +kernel
theorem dX12_isSpared_111 : decode cX12_isSpared 111 = .ok (.getfield 170, 3) := by decide +kernel
theorem dX12_isSpared_114 : decode cX12_isSpared 114 = .ok (.iload_n 3, 1) := by decide +kernel
theorem dX12_isSpared_115 : decode cX12_isSpared 115 = .ok (.iaload, 1) := by decide +kernel
theorem dX12_isSpared_116 : decode cX12_isSpared 116 = .ok (.aload_n 0, 1) := by decide +kernel
theorem dX12_isSpared_117 : decode cX12_isSpared 117 = .ok (.getfield 3, 3) := by decide +kernel
theorem dX12_isSpared_120 : decode cX12_isSpared 120 = .ok (.getfield 81, 3) := by decide +kernel
theorem dX12_isSpared_123 : decode cX12_isSpared 123 = .ok (.getfield 173, 3) := by decide +kernel
theorem dX12_isSpared_126 : decode cX12_isSpared 126 = .ok (.iload_n 3, 1) := by decide +kernel
theorem dX12_isSpared_127 : decode cX12_isSpared 127 = .ok (.iaload, 1) := by decide +kernel
theorem dX12_isSpared_128 : decode cX12_isSpared 128 = .ok (.invokevirtual 154, 3) := by decide +kernel
theorem dX12_isSpared_131 : decode cX12_isSpared 131 = .ok (.if_icmp .ge 5, 3) := by decide +kernel
theorem dX12_isSpared_134 : decode cX12_isSpared 134 = .ok (.iconst 1, 1) := by decide +kernel
theorem dX12_isSpared_135 : decode cX12_isSpared 135 = .ok (.ireturn, 1) := by decide +kernel
theorem dX12_isSpared_136 : decode cX12_isSpared 136 = .ok (.iinc 3 1, 3) := by decide +kernel
theorem dX12_isSpared_139 : decode cX12_isSpared 139 = .ok (.goto (-137), 3) := by decide +kernel
theorem dX12_isSpared_142 : decode cX12_isSpared 142 = .ok (.iconst 0, 1) := by decide +kernel
theorem dX12_isSpared_143 : decode cX12_isSpared 143 = .ok (.ireturn, 1) := by decide +kernel
theorem dX12_fishFor_0 : decode cX12_fishFor 0 = .ok (.iconst 0, 1) := by decide +kernel
theorem dX12_fishFor_1 : decode cX12_fishFor 1 = .ok (.istore_n 3, 1) := by decide +kernel
theorem dX12_fishFor_2 : decode cX12_fishFor 2 = .ok (.iconst 0, 1) := by decide +kernel
theorem dX12_fishFor_3 : decode cX12_fishFor 3 = .ok (.istore 4, 2) := by decide +kernel
theorem dX12_fishFor_5 : decode cX12_fishFor 5 = .ok (.iconst 1, 1) := by decide +kernel
theorem dX12_fishFor_6 : decode cX12_fishFor 6 = .ok (.istore 5, 2) := by decide +kernel
theorem dX12_fishFor_8 : decode cX12_fishFor 8 = .ok (.iconst 1, 1) := by decide +kernel
theorem dX12_fishFor_9 : decode cX12_fishFor 9 = .ok (.istore 6, 2) := by decide +kernel
theorem dX12_fishFor_11 : decode cX12_fishFor 11 = .ok (.iload 6, 2) := by decide +kernel
theorem dX12_fishFor_13 : decode cX12_fishFor 13 = .ok (.iconst 5, 1) := by decide +kernel
theorem dX12_fishFor_14 : decode cX12_fishFor 14 = .ok (.if_icmp .gt 17, 3) := by decide +kernel
theorem dX12_fishFor_17 : decode cX12_fishFor 17 = .ok (.aload_n 0, 1) := by decide +kernel
theorem dX12_fishFor_18 : decode cX12_fishFor 18 = .ok (.getfield 62, 3) := by decide +kernel
theorem dX12_fishFor_21 : decode cX12_fishFor 21 = .ok (.iload 6, 2) := by decide +kernel
theorem dX12_fishFor_23 : decode cX12_fishFor 23 = .ok (.iconst 0, 1) := by decide +kernel
theorem dX12_fishFor_24 : decode cX12_fishFor 24 = .ok (.iastore, 1) := by decide +kernel
theorem dX12_fishFor_25 : decode cX12_fishFor 25 = .ok (.iinc 6 1, 3) := by decide +kernel
theorem dX12_fishFor_28 : decode cX12_fishFor 28 = .ok (.goto (-17), 3) := by decide +kernel
theorem dX12_fishFor_31 : decode cX12_fishFor 31 = .ok (.iconst 5, 1) := by decide +kernel
theorem dX12_fishFor_32 : decode cX12_fishFor 32 = .ok (.istore 6, 2) := by decide +kernel
theorem dX12_fishFor_34 : decode cX12_fishFor 34 = .ok (.iload 6, 2) := by decide +kernel
theorem dX12_fishFor_36 : decode cX12_fishFor 36 = .ok (.aload_n 0, 1) := by decide +kernel
theorem dX12_fishFor_37 : decode cX12_fishFor 37 = .ok (.getfield 29, 3) := by decide +kernel
theorem dX12_fishFor_40 : decode cX12_fishFor 40 = .ok (.iload_n 1, 1) := by decide +kernel
theorem dX12_fishFor_41 : decode cX12_fishFor 41 = .ok (.iaload, 1) := by decide +kernel
theorem dX12_fishFor_42 : decode cX12_fishFor 42 = .ok (.if_icmp .lt 127, 3) := by decide +kernel
theorem dX12_fishFor_45 : decode cX12_fishFor 45 = .ok (.iload 5, 2) := by decide +kernel
theorem dX12_fishFor_47 : decode cX12_fishFor 47 = .ok (.ifCond .eq 122, 3) := by decide +kernel
theorem dX12_fishFor_50 : decode cX12_fishFor 50 = .ok (.iload 5, 2) := by decide +kernel
theorem dX12_fishFor_52 : decode cX12_fishFor 52 = .ok (.ifCond .eq 111, 3) := by decide +kernel
theorem dX12_fishFor_55 : decode cX12_fishFor 55 = .ok (.aload_n 0, 1) := by decide +kernel
theorem dX12_fishFor_56 : decode cX12_fishFor 56 = .ok (.getfield 19, 3) := by decide +kernel
theorem dX12_fishFor_59 : decode cX12_fishFor 59 = .ok (.iconst 5, 1) := by decide +kernel
theorem dX12_fishFor_60 : decode cX12_fishFor 60 = .ok (.iload_n 2, 1) := by decide +kernel
theorem dX12_fishFor_61 : decode cX12_fishFor 61 = .ok (.imul, 1) := by decide +kernel
theorem dX12_fishFor_62 : decode cX12_fishFor 62 = .ok (.iload 6, 2) := by decide +kernel
theorem dX12_fishFor_64 : decode cX12_fishFor 64 = .ok (.iadd, 1) := by decide +kernel
theorem dX12_fishFor_65 : decode cX12_fishFor 65 = .ok (.iconst 1, 1) := by decide +kernel
theorem dX12_fishFor_66 : decode cX12_fishFor 66 = .ok (.isub, 1) := by decide +kernel
theorem dX12_fishFor_67 : decode cX12_fishFor 67 = .ok (.iaload, 1) := by decide +kernel
theorem dX12_fishFor_68 : decode cX12_fishFor 68 = .ok (.ifCond .le 95, 3) := by decide +kernel
theorem dX12_fishFor_71 : decode cX12_fishFor 71 = .ok (.iload_n 3, 1) := by decide +kernel
theorem dX12_fishFor_72 : decode cX12_fishFor 72 = .ok (.aload_n 0, 1) := by decide +kernel
theorem dX12_fishFor_73 : decode cX12_fishFor 73 = .ok (.getfield 3, 3) := by decide +kernel
theorem dX12_fishFor_76 : decode cX12_fishFor 76 = .ok (.getfield 81, 3) := by decide +kernel
theorem dX12_fishFor_79 : decode cX12_fishFor 79 = .ok (.getfield 176, 3) := by decide +kernel
theorem dX12_fishFor_82 : decode cX12_fishFor 82 = .ok (.iload_n 1, 1) := by decide +kernel
theorem dX12_fishFor_83 : decode cX12_fishFor 83 = .ok (.iaload, 1) := by decide +kernel
theorem dX12_fishFor_84 : decode cX12_fishFor 84 = .ok (.if_icmp .ge 79, 3) := by decide +kernel
theorem dX12_fishFor_87 : decode cX12_fishFor 87 = .ok (.iload 4, 2) := by decide +kernel
theorem dX12_fishFor_89 : decode cX12_fishFor 89 = .ok (.iload 6, 2) := by decide +kernel
theorem dX12_fishFor_91 : decode cX12_fishFor 91 = .ok (.iadd, 1) := by decide +kernel
theorem dX12_fishFor_92 : decode cX12_fishFor 92 = .ok (.aload_n 0, 1) := by decide +kernel
theorem dX12_fishFor_93 : decode cX12_fishFor 93 = .ok (.getfield 3, 3) := by decide +kernel
theorem dX12_fishFor_96 : decode cX12_fishFor 96 = .ok (.getfield 81, 3) := by decide +kernel
theorem dX12_fishFor_99 : decode cX12_fishFor 99 = .ok (.getfield 179, 3) := by decide +kernel
theorem dX12_fishFor_102 : decode cX12_fishFor 102 = .ok (.iload_n 1, 1) := by decide +kernel
theorem dX12_fishFor_103 : decode cX12_fishFor 103 = .ok (.iaload, 1) := by decide +kernel
theorem dX12_fishFor_104 : decode cX12_fishFor 104 = .ok (.if_icmp .gt 7, 3) := by decide +kernel
theorem dX12_fishFor_107 : decode cX12_fishFor 107 = .ok (.iconst 1, 1) := by decide +kernel
theorem dX12_fishFor_108 : decode cX12_fishFor 108 = .ok (.goto 4, 3) := by decide +kernel
theorem dX12_fishFor_111 : decode cX12_fishFor 111 = .ok (.iconst 0, 1) := by decide +kernel
theorem dX12_fishFor_112 : decode cX12_fishFor 112 = .ok (.istore 5, 2) := by decide +kernel
theorem dX12_fishFor_114 : decode cX12_fishFor 114 = .ok (.iload 5, 2) := by decide +kernel
theorem dX12_fishFor_116 : decode cX12_fishFor 116 = .ok (.ifCond .ne 6, 3) := by decide +kernel
theorem dX12_fishFor_119 : decode cX12_fishFor 119 = .ok (.goto (-69), 3) := by decide +kernel
theorem dX12_fishFor_122 : decode cX12_fishFor 122 = .ok (.aload_n 0, 1) := by decide +kernel
theorem dX12_fishFor_123 : decode cX12_fishFor 123 = .ok (.getfield 19, 3) := by decide +kernel
theorem dX12_fishFor_126 : decode cX12_fishFor 126 = .ok (.iconst 5, 1) := by decide +kernel
theorem dX12_fishFor_127 : decode cX12_fishFor 127 = .ok (.iload_n 2, 1) := by decide +kernel
theorem dX12_fishFor_128 : decode cX12_fishFor 128 = .ok (.imul, 1) := by decide +kernel
theorem dX12_fishFor_129 : decode cX12_fishFor 129 = .ok (.iload 6, 2) := by decide +kernel
theorem dX12_fishFor_131 : decode cX12_fishFor 131 = .ok (.iadd, 1) := by decide +kernel
theorem dX12_fishFor_132 : decode cX12_fishFor 132 = .ok (.iconst 1, 1) := by decide +kernel
theorem dX12_fishFor_133 : decode cX12_fishFor 133 = .ok (.isub, 1) := by decide +kernel
theorem dX12_fishFor_134 : decode cX12_fishFor 134 = .ok (.dup2, 1) := by decide +kernel
theorem dX12_fishFor_135 : decode cX12_fishFor 135 = .ok (.iaload, 1) := by decide +kernel
theorem dX12_fishFor_136 : decode cX12_fishFor 136 = .ok (.iconst 1, 1) := by decide +kernel
theorem dX12_fishFor_137 : decode cX12_fishFor 137 = .ok (.isub, 1) := by decide +kernel
theorem dX12_fishFor_138 : decode cX12_fishFor 138 = .ok (.iastore, 1) := by decide +kernel
theorem dX12_fishFor_139 : decode cX12_fishFor 139 = .ok (.aload_n 0, 1) := by decide +kernel
theorem dX12_fishFor_140 : decode cX12_fishFor 140 = .ok (.getfield 62, 3) := by decide +kernel
theorem dX12_fishFor_143 : decode cX12_fishFor 143 = .ok (.iload 6, 2) := by decide +kernel
theorem dX12_fishFor_145 : decode cX12_fishFor 145 = .ok (.dup2, 1) := by decide +kernel
theorem dX12_fishFor_146 : decode cX12_fishFor 146 = .ok (.iaload, 1) := by decide +kernel
theorem dX12_fishFor_147 : decode cX12_fishFor 147 = .ok (.iconst 1, 1) := by decide +kernel
theorem dX12_fishFor_148 : decode cX12_fishFor 148 = .ok (.iadd, 1) := by decide +kernel
theorem dX12_fishFor_149 : decode cX12_fishFor 149 = .ok (.iastore, 1) := by decide +kernel
theorem dX12_fishFor_150 : decode cX12_fishFor 150 = .ok (.iinc 3 1, 3) := by decide +kernel
theorem dX12_fishFor_153 : decode cX12_fishFor 153 = .ok (.iload 4, 2) := by decide +kernel
theorem dX12_fishFor_155 : decode cX12_fishFor 155 = .ok (.iload 6, 2) := by decide +kernel
theorem dX12_fishFor_157 : decode cX12_fishFor 157 = .ok (.iadd, 1) := by decide +kernel
theorem dX12_fishFor_158 : decode cX12_fishFor 158 = .ok (.istore 4, 2) := by decide +kernel
theorem dX12_fishFor_160 : decode cX12_fishFor 160 = .ok (.goto (-110), 3) := by decide +kernel
theorem dX12_fishFor_163 : decode cX12_fishFor 163 = .ok (.iinc 6 (-1), 3) := by decide +kernel
theorem dX12_fishFor_166 : decode cX12_fishFor 166 = .ok (.goto (-132), 3) := by decide +kernel
theorem dX12_fishFor_169 : decode cX12_fishFor 169 = .ok (.iload 5, 2) := by decide +kernel
theorem dX12_fishFor_171 : decode cX12_fishFor 171 = .ok (.ifCond .ne 100, 3) := by decide +kernel
theorem dX12_fishFor_174 : decode cX12_fishFor 174 = .ok (.aload_n 0, 1) := by decide +kernel
theorem dX12_fishFor_175 : decode cX12_fishFor 175 = .ok (.getfield 29, 3) := by decide +kernel
theorem dX12_fishFor_178 : decode cX12_fishFor 178 = .ok (.iload_n 1, 1) := by decide +kernel
theorem dX12_fishFor_179 : decode cX12_fishFor 179 = .ok (.bipush 6, 2) := by decide +kernel
theorem dX12_fishFor_181 : decode cX12_fishFor 181 = .ok (.aload_n 0, 1) := by decide +kernel
theorem dX12_fishFor_182 : decode cX12_fishFor 182 = .ok (.getfield 29, 3) := by decide +kernel
theorem dX12_fishFor_185 : decode cX12_fishFor 185 = .ok (.iload_n 1, 1) := by decide +kernel
theorem dX12_fishFor_186 : decode cX12_fishFor 186 = .ok (.iaload, 1) := by decide +kernel
theorem dX12_fishFor_187 : decode cX12_fishFor 187 = .ok (.iconst 1, 1) := by decide +kernel
theorem dX12_fishFor_188 : decode cX12_fishFor 188 = .ok (.iadd, 1) := by decide +kernel
theorem dX12_fishFor_189 : decode cX12_fishFor 189 = .ok (.invokestatic 96, 3) := by decide +kernel
theorem dX12_fishFor_192 : decode cX12_fishFor 192 = .ok (.iastore, 1) := by decide +kernel
theorem dX12_fishFor_193 : decode cX12_fishFor 193 = .ok (.aload_n 0, 1) := by decide +kernel
theorem dX12_fishFor_194 : decode cX12_fishFor 194 = .ok (.getfield 41, 3) := by decide +kernel
theorem dX12_fishFor_197 : decode cX12_fishFor 197 = .ok (.iload_n 1, 1) := by decide +kernel
theorem dX12_fishFor_198 : decode cX12_fishFor 198 = .ok (.dup2, 1) := by decide +kernel
theorem dX12_fishFor_199 : decode cX12_fishFor 199 = .ok (.iaload, 1) := by decide +kernel
theorem dX12_fishFor_200 : decode cX12_fishFor 200 = .ok (.iconst 1, 1) := by decide +kernel
theorem dX12_fishFor_201 : decode cX12_fishFor 201 = .ok (.iadd, 1) := by decide +kernel
theorem dX12_fishFor_202 : decode cX12_fishFor 202 = .ok (.iastore, 1) := by decide +kernel
theorem dX12_fishFor_203 : decode cX12_fishFor 203 = .ok (.iconst 1, 1) := by decide +kernel
theorem dX12_fishFor_204 : decode cX12_fishFor 204 = .ok (.istore 6, 2) := by decide +kernel
theorem dX12_fishFor_206 : decode cX12_fishFor 206 = .ok (.iload 6, 2) := by decide +kernel
theorem dX12_fishFor_208 : decode cX12_fishFor 208 = .ok (.aload_n 0, 1) := by decide +kernel
theorem dX12_fishFor_209 : decode cX12_fishFor 209 = .ok (.getfield 29, 3) := by decide +kernel
theorem dX12_fishFor_212 : decode cX12_fishFor 212 = .ok (.iload_n 1, 1) := by decide +kernel
theorem dX12_fishFor_213 : decode cX12_fishFor 213 = .ok (.iaload, 1) := by decide +kernel
theorem dX12_fishFor_214 : decode cX12_fishFor 214 = .ok (.if_icmp .ge 57, 3) := by decide +kernel
theorem dX12_fishFor_217 : decode cX12_fishFor 217 = .ok (.aload_n 0, 1) := by decide +kernel
theorem dX12_fishFor_218 : decode cX12_fishFor 218 = .ok (.getfield 19, 3) := by decide +kernel
theorem dX12_fishFor_221 : decode cX12_fishFor 221 = .ok (.iconst 5, 1) := by decide +kernel
theorem dX12_fishFor_222 : decode cX12_fishFor 222 = .ok (.iload_n 2, 1) := by decide +kernel
theorem dX12_fishFor_223 : decode cX12_fishFor 223 = .ok (.imul, 1) := by decide +kernel
theorem dX12_fishFor_224 : decode cX12_fishFor 224 = .ok (.iload 6, 2) := by decide +kernel
theorem dX12_fishFor_226 : decode cX12_fishFor 226 = .ok (.iadd, 1) := by decide +kernel
theorem dX12_fishFor_227 : decode cX12_fishFor 227 = .ok (.iconst 1, 1) := by decide +kernel
theorem dX12_fishFor_228 : decode cX12_fishFor 228 = .ok (.isub, 1) := by decide +kernel
theorem dX12_fishFor_229 : decode cX12_fishFor 229 = .ok (.dup2, 1) := by decide +kernel
theorem dX12_fishFor_230 : decode cX12_fishFor 230 = .ok (.iaload, 1) := by decide +kernel
theorem dX12_fishFor_231 : decode cX12_fishFor 231 = .ok (.aload_n 0, 1) := by decide +kernel
theorem dX12_fishFor_232 : decode cX12_fishFor 232 = .ok (.getfield 62, 3) := by decide +kernel
theorem dX12_fishFor_235 : decode cX12_fishFor 235 = .ok (.iload 6, 2) := by decide +kernel
theorem dX12_fishFor_237 : decode cX12_fishFor 237 = .ok (.iaload, 1) := by decide +kernel
theorem dX12_fishFor_238 : decode cX12_fishFor 238 = .ok (.iadd, 1) := by decide +kernel
theorem dX12_fishFor_239 : decode cX12_fishFor 239 = .ok (.iastore, 1) := by decide +kernel
theorem dX12_fishFor_240 : decode cX12_fishFor 240 = .ok (.iload_n 3, 1) := by decide +kernel
theorem dX12_fishFor_241 : decode cX12_fishFor 241 = .ok (.aload_n 0, 1) := by decide +kernel
theorem dX12_fishFor_242 : decode cX12_fishFor 242 = .ok (.getfield 62, 3) := by decide +kernel
theorem dX12_fishFor_245 : decode cX12_fishFor 245 = .ok (.iload 6, 2) := by decide +kernel
theorem dX12_fishFor_247 : decode cX12_fishFor 247 = .ok (.iaload, 1) := by decide +kernel
theorem dX12_fishFor_248 : decode cX12_fishFor 248 = .ok (.isub, 1) := by decide +kernel
theorem dX12_fishFor_249 : decode cX12_fishFor 249 = .ok (.istore_n 3, 1) := by decide +kernel
theorem dX12_fishFor_250 : decode cX12_fishFor 250 = .ok (.iload 4, 2) := by decide +kernel
theorem dX12_fishFor_252 : decode cX12_fishFor 252 = .ok (.iload 6, 2) := by decide +kernel
theorem dX12_fishFor_254 : decode cX12_fishFor 254 = .ok (.aload_n 0, 1) := by decide +kernel
theorem dX12_fishFor_255 : decode cX12_fishFor 255 = .ok (.getfield 62, 3) := by decide +kernel
theorem dX12_fishFor_258 : decode cX12_fishFor 258 = .ok (.iload 6, 2) := by decide +kernel
theorem dX12_fishFor_260 : decode cX12_fishFor 260 = .ok (.iaload, 1) := by decide +kernel
theorem dX12_fishFor_261 : decode cX12_fishFor 261 = .ok (.imul, 1) := by decide +kernel
theorem dX12_fishFor_262 : decode cX12_fishFor 262 = .ok (.isub, 1) := by decide +kernel
theorem dX12_fishFor_263 : decode cX12_fishFor 263 = .ok (.istore 4, 2) := by decide +kernel
theorem dX12_fishFor_265 : decode cX12_fishFor 265 = .ok (.iinc 6 1, 3) := by decide +kernel
theorem dX12_fishFor_268 : decode cX12_fishFor 268 = .ok (.goto (-62), 3) := by decide +kernel
theorem dX12_fishFor_271 : decode cX12_fishFor 271 = .ok (.aload_n 0, 1) := by decide +kernel
theorem dX12_fishFor_272 : decode cX12_fishFor 272 = .ok (.getfield 35, 3) := by decide +kernel
theorem dX12_fishFor_275 : decode cX12_fishFor 275 = .ok (.iload_n 1, 1) := by decide +kernel
theorem dX12_fishFor_276 : decode cX12_fishFor 276 = .ok (.iload 4, 2) := by decide +kernel
theorem dX12_fishFor_278 : decode cX12_fishFor 278 = .ok (.iastore, 1) := by decide +kernel
theorem dX12_fishFor_279 : decode cX12_fishFor 279 = .ok (.aload_n 0, 1) := by decide +kernel
theorem dX12_fishFor_280 : decode cX12_fishFor 280 = .ok (.getfield 26, 3) := by decide +kernel
theorem dX12_fishFor_283 : decode cX12_fishFor 283 = .ok (.bipush 8, 2) := by decide +kernel
theorem dX12_fishFor_285 : decode cX12_fishFor 285 = .ok (.iload_n 2, 1) := by decide +kernel
theorem dX12_fishFor_286 : decode cX12_fishFor 286 = .ok (.imul, 1) := by decide +kernel
theorem dX12_fishFor_287 : decode cX12_fishFor 287 = .ok (.iload_n 1, 1) := by decide +kernel
theorem dX12_fishFor_288 : decode cX12_fishFor 288 = .ok (.iadd, 1) := by decide +kernel
theorem dX12_fishFor_289 : decode cX12_fishFor 289 = .ok (.dup2, 1) := by decide +kernel
theorem dX12_fishFor_290 : decode cX12_fishFor 290 = .ok (.iaload, 1) := by decide +kernel
theorem dX12_fishFor_291 : decode cX12_fishFor 291 = .ok (.iload_n 3, 1) := by decide +kernel
theorem dX12_fishFor_292 : decode cX12_fishFor 292 = .ok (.iadd, 1) := by decide +kernel
theorem dX12_fishFor_293 : decode cX12_fishFor 293 = .ok (.iastore, 1) := by decide +kernel
theorem dX12_fishFor_294 : decode cX12_fishFor 294 = .ok (.return_, 1) := by decide +kernel
theorem dX12_split_0 : decode cX12_split 0 = .ok (.iconst 0, 1) := by decide +kernel
theorem dX12_split_1 : decode cX12_split 1 = .ok (.istore_n 2, 1) := by decide +kernel
theorem dX12_split_2 : decode cX12_split 2 = .ok (.iconst 0, 1) := by decide +kernel
theorem dX12_split_3 : decode cX12_split 3 = .ok (.istore_n 3, 1) := by decide +kernel
theorem dX12_split_4 : decode cX12_split 4 = .ok (.aload_n 0, 1) := by decide +kernel
theorem dX12_split_5 : decode cX12_split 5 = .ok (.getfield 3, 3) := by decide +kernel
theorem dX12_split_8 : decode cX12_split 8 = .ok (.getfield 81, 3) := by decide +kernel
theorem dX12_split_11 : decode cX12_split 11 = .ok (.getfield 160, 3) := by decide +kernel
theorem dX12_split_14 : decode cX12_split 14 = .ok (.iload_n 1, 1) := by decide +kernel
theorem dX12_split_15 : decode cX12_split 15 = .ok (.iaload, 1) := by decide +kernel
theorem dX12_split_16 : decode cX12_split 16 = .ok (.istore 4, 2) := by decide +kernel
theorem dX12_split_18 : decode cX12_split 18 = .ok (.iconst 0, 1) := by decide +kernel
theorem dX12_split_19 : decode cX12_split 19 = .ok (.istore 5, 2) := by decide +kernel
theorem dX12_split_21 : decode cX12_split 21 = .ok (.iload 5, 2) := by decide +kernel
theorem dX12_split_23 : decode cX12_split 23 = .ok (.iload 4, 2) := by decide +kernel
theorem dX12_split_25 : decode cX12_split 25 = .ok (.if_icmp .ge 88, 3) := by decide +kernel
theorem dX12_split_28 : decode cX12_split 28 = .ok (.aload_n 0, 1) := by decide +kernel
theorem dX12_split_29 : decode cX12_split 29 = .ok (.getfield 3, 3) := by decide +kernel
theorem dX12_split_32 : decode cX12_split 32 = .ok (.getfield 81, 3) := by decide +kernel
theorem dX12_split_35 : decode cX12_split 35 = .ok (.getfield 163, 3) := by decide +kernel
theorem dX12_split_38 : decode cX12_split 38 = .ok (.bipush 8, 2) := by decide +kernel
theorem dX12_split_40 : decode cX12_split 40 = .ok (.iload_n 1, 1) := by decide +kernel
theorem dX12_split_41 : decode cX12_split 41 = .ok (.imul, 1) := by decide +kernel
theorem dX12_split_42 : decode cX12_split 42 = .ok (.iload 5, 2) := by decide +kernel
theorem dX12_split_44 : decode cX12_split 44 = .ok (.iadd, 1) := by decide +kernel
theorem dX12_split_45 : decode cX12_split 45 = .ok (.iaload, 1) := by decide +kernel
theorem dX12_split_46 : decode cX12_split 46 = .ok (.istore 6, 2) := by decide +kernel
theorem dX12_split_48 : decode cX12_split 48 = .ok (.aload_n 0, 1) := by decide +kernel
theorem dX12_split_49 : decode cX12_split 49 = .ok (.getfield 44, 3) := by decide +kernel
theorem dX12_split_52 : decode cX12_split 52 = .ok (.iload 6, 2) := by decide +kernel
theorem dX12_split_54 : decode cX12_split 54 = .ok (.iaload, 1) := by decide +kernel
theorem dX12_split_55 : decode cX12_split 55 = .ok (.iconst 1, 1) := by decide +kernel
theorem dX12_split_56 : decode cX12_split 56 = .ok (.if_icmp .ne 15, 3) := by decide +kernel
theorem dX12_split_59 : decode cX12_split 59 = .ok (.aload_n 0, 1) := by decide +kernel
theorem dX12_split_60 : decode cX12_split 60 = .ok (.getfield 35, 3) := by decide +kernel
theorem dX12_split_63 : decode cX12_split 63 = .ok (.iload 6, 2) := by decide +kernel
theorem dX12_split_65 : decode cX12_split 65 = .ok (.iaload, 1) := by decide +kernel
theorem dX12_split_66 : decode cX12_split 66 = .ok (.iconst 2, 1) := by decide +kernel
theorem dX12_split_67 : decode cX12_split 67 = .ok (.idiv, 1) := by decide +kernel
theorem dX12_split_68 : decode cX12_split 68 = .ok (.goto 10, 3) := by decide +kernel
theorem dX12_split_71 : decode cX12_split 71 = .ok (.aload_n 0, 1) := by decide +kernel
theorem dX12_split_72 : decode cX12_split 72 = .ok (.getfield 35, 3) := by decide +kernel
theorem dX12_split_75 : decode cX12_split 75 = .ok (.iload 6, 2) := by decide +kernel
theorem dX12_split_77 : decode cX12_split 77 = .ok (.iaload, 1) := by decide +kernel
theorem dX12_split_78 : decode cX12_split 78 = .ok (.istore 7, 2) := by decide +kernel
theorem dX12_split_80 : decode cX12_split 80 = .ok (.iload_n 2, 1) := by decide +kernel
theorem dX12_split_81 : decode cX12_split 81 = .ok (.iload 7, 2) := by decide +kernel
theorem dX12_split_83 : decode cX12_split 83 = .ok (.iadd, 1) := by decide +kernel
theorem dX12_split_84 : decode cX12_split 84 = .ok (.istore_n 2, 1) := by decide +kernel
theorem dX12_split_85 : decode cX12_split 85 = .ok (.aload_n 0, 1) := by decide +kernel
theorem dX12_split_86 : decode cX12_split 86 = .ok (.getfield 35, 3) := by decide +kernel
theorem dX12_split_89 : decode cX12_split 89 = .ok (.iload 6, 2) := by decide +kernel
theorem dX12_split_91 : decode cX12_split 91 = .ok (.dup2, 1) := by decide +kernel
theorem dX12_split_92 : decode cX12_split 92 = .ok (.iaload, 1) := by decide +kernel
theorem dX12_split_93 : decode cX12_split 93 = .ok (.iload 7, 2) := by decide +kernel
theorem dX12_split_95 : decode cX12_split 95 = .ok (.isub, 1) := by decide +kernel
theorem dX12_split_96 : decode cX12_split 96 = .ok (.iastore, 1) := by decide +kernel
theorem dX12_split_97 : decode cX12_split 97 = .ok (.iload_n 3, 1) := by decide +kernel
theorem dX12_split_98 : decode cX12_split 98 = .ok (.aload_n 0, 1) := by decide +kernel
theorem dX12_split_99 : decode cX12_split 99 = .ok (.getfield 35, 3) := by decide +kernel
theorem dX12_split_102 : decode cX12_split 102 = .ok (.iload 6, 2) := by decide +kernel
theorem dX12_split_104 : decode cX12_split 104 = .ok (.iaload, 1) := by decide +kernel
theorem dX12_split_105 : decode cX12_split 105 = .ok (.iadd, 1) := by decide +kernel
theorem dX12_split_106 : decode cX12_split 106 = .ok (.istore_n 3, 1) := by decide +kernel
theorem dX12_split_107 : decode cX12_split 107 = .ok (.iinc 5 1, 3) := by decide +kernel
theorem dX12_split_110 : decode cX12_split 110 = .ok (.goto (-89), 3) := by decide +kernel
theorem dX12_split_113 : decode cX12_split 113 = .ok (.iconst 0, 1) := by decide +kernel
theorem dX12_split_114 : decode cX12_split 114 = .ok (.istore 5, 2) := by decide +kernel
theorem dX12_split_116 : decode cX12_split 116 = .ok (.iload 5, 2) := by decide +kernel
theorem dX12_split_118 : decode cX12_split 118 = .ok (.iload 4, 2) := by decide +kernel
theorem dX12_split_120 : decode cX12_split 120 = .ok (.if_icmp .ge 53, 3) := by decide +kernel
theorem dX12_split_123 : decode cX12_split 123 = .ok (.aload_n 0, 1) := by decide +kernel
theorem dX12_split_124 : decode cX12_split 124 = .ok (.getfield 35, 3) := by decide +kernel
theorem dX12_split_127 : decode cX12_split 127 = .ok (.aload_n 0, 1) := by decide +kernel
theorem dX12_split_128 : decode cX12_split 128 = .ok (.getfield 3, 3) := by decide +kernel
theorem dX12_split_131 : decode cX12_split 131 = .ok (.getfield 81, 3) := by decide +kernel
theorem dX12_split_134 : decode cX12_split 134 = .ok (.getfield 163, 3) := by decide +kernel
theorem dX12_split_137 : decode cX12_split 137 = .ok (.bipush 8, 2) := by decide +kernel
theorem dX12_split_139 : decode cX12_split 139 = .ok (.iload_n 1, 1) := by decide +kernel
theorem dX12_split_140 : decode cX12_split 140 = .ok (.imul, 1) := by decide +kernel
theorem dX12_split_141 : decode cX12_split 141 = .ok (.iload 5, 2) := by decide +kernel
theorem dX12_split_143 : decode cX12_split 143 = .ok (.iadd, 1) := by decide +kernel
theorem dX12_split_144 : decode cX12_split 144 = .ok (.iaload, 1) := by decide +kernel
theorem dX12_split_145 : decode cX12_split 145 = .ok (.dup2, 1) := by decide +kernel
theorem dX12_split_146 : decode cX12_split 146 = .ok (.iaload, 1) := by decide +kernel
theorem dX12_split_147 : decode cX12_split 147 = .ok (.iload_n 2, 1) := by decide +kernel
theorem dX12_split_148 : decode cX12_split 148 = .ok (.iload 4, 2) := by decide +kernel
theorem dX12_split_150 : decode cX12_split 150 = .ok (.idiv, 1) := by decide +kernel
theorem dX12_split_151 : decode cX12_split 151 = .ok (.iload 5, 2) := by decide +kernel
theorem dX12_split_153 : decode cX12_split 153 = .ok (.ifCond .ne 10, 3) := by decide +kernel
theorem dX12_split_156 : decode cX12_split 156 = .ok (.iload_n 2, 1) := by decide +kernel
theorem dX12_split_157 : decode cX12_split 157 = .ok (.iload 4, 2) := by decide +kernel
theorem dX12_split_159 : decode cX12_split 159 = .ok (.irem, 1) := by decide +kernel
theorem dX12_split_160 : decode cX12_split 160 = .ok (.goto 4, 3) := by decide +kernel
theorem dX12_split_163 : decode cX12_split 163 = .ok (.iconst 0, 1) := by decide +kernel
theorem dX12_split_164 : decode cX12_split 164 = .ok (.iadd, 1) := by decide +kernel
theorem dX12_split_165 : decode cX12_split 165 = .ok (.iadd, 1) := by decide +kernel
theorem dX12_split_166 : decode cX12_split 166 = .ok (.iastore, 1) := by decide +kernel
theorem dX12_split_167 : decode cX12_split 167 = .ok (.iinc 5 1, 3) := by decide +kernel
theorem dX12_split_170 : decode cX12_split 170 = .ok (.goto (-54), 3) := by decide +kernel
theorem dX12_split_173 : decode cX12_split 173 = .ok (.aload_n 0, 1) := by decide +kernel
theorem dX12_split_174 : decode cX12_split 174 = .ok (.getfield 47, 3) := by decide +kernel
theorem dX12_split_177 : decode cX12_split 177 = .ok (.iload_n 1, 1) := by decide +kernel
theorem dX12_split_178 : decode cX12_split 178 = .ok (.dup2, 1) := by decide +kernel
theorem dX12_split_179 : decode cX12_split 179 = .ok (.iaload, 1) := by decide +kernel
theorem dX12_split_180 : decode cX12_split 180 = .ok (.iload_n 2, 1) := by decide +kernel
theorem dX12_split_181 : decode cX12_split 181 = .ok (.iadd, 1) := by decide +kernel
theorem dX12_split_182 : decode cX12_split 182 = .ok (.iastore, 1) := by decide +kernel
theorem dX12_split_183 : decode cX12_split 183 = .ok (.aload_n 0, 1) := by decide +kernel
theorem dX12_split_184 : decode cX12_split 184 = .ok (.getfield 50, 3) := by decide +kernel
theorem dX12_split_187 : decode cX12_split 187 = .ok (.iload_n 1, 1) := by decide +kernel
theorem dX12_split_188 : decode cX12_split 188 = .ok (.dup2, 1) := by decide +kernel
theorem dX12_split_189 : decode cX12_split 189 = .ok (.iaload, 1) := by decide +kernel
theorem dX12_split_190 : decode cX12_split 190 = .ok (.iload_n 3, 1) := by decide +kernel
theorem dX12_split_191 : decode cX12_split 191 = .ok (.iadd, 1) := by decide +kernel
theorem dX12_split_192 : decode cX12_split 192 = .ok (.iastore, 1) := by decide +kernel
theorem dX12_split_193 : decode cX12_split 193 = .ok (.aload_n 0, 1) := by decide +kernel
theorem dX12_split_194 : decode cX12_split 194 = .ok (.getfield 53, 3) := by decide +kernel
theorem dX12_split_197 : decode cX12_split 197 = .ok (.iload_n 1, 1) := by decide +kernel
theorem dX12_split_198 : decode cX12_split 198 = .ok (.dup2, 1) := by decide +kernel
theorem dX12_split_199 : decode cX12_split 199 = .ok (.iaload, 1) := by decide +kernel
theorem dX12_split_200 : decode cX12_split 200 = .ok (.iload_n 3, 1) := by decide +kernel
theorem dX12_split_201 : decode cX12_split 201 = .ok (.ifCond .le 7, 3) := by decide +kernel
theorem dX12_split_204 : decode cX12_split 204 = .ok (.iconst 1, 1) := by decide +kernel
theorem dX12_split_205 : decode cX12_split 205 = .ok (.goto 4, 3) := by decide +kernel
theorem dX12_split_208 : decode cX12_split 208 = .ok (.iconst 0, 1) := by decide +kernel
theorem dX12_split_209 : decode cX12_split 209 = .ok (.iadd, 1) := by decide +kernel
theorem dX12_split_210 : decode cX12_split 210 = .ok (.iastore, 1) := by decide +kernel
theorem dX12_split_211 : decode cX12_split 211 = .ok (.return_, 1) := by decide +kernel
theorem dX12_grow_0 : decode cX12_grow 0 = .ok (.iconst 5, 1) := by decide +kernel
theorem dX12_grow_1 : decode cX12_grow 1 = .ok (.iload_n 1, 1) := by decide +kernel
theorem dX12_grow_2 : decode cX12_grow 2 = .ok (.imul, 1) := by decide +kernel
theorem dX12_grow_3 : decode cX12_grow 3 = .ok (.istore_n 2, 1) := by decide +kernel
theorem dX12_grow_4 : decode cX12_grow 4 = .ok (.iconst 3, 1) := by decide +kernel
theorem dX12_grow_5 : decode cX12_grow 5 = .ok (.istore_n 3, 1) := by decide +kernel
theorem dX12_grow_6 : decode cX12_grow 6 = .ok (.iload_n 3, 1) := by decide +kernel
theorem dX12_grow_7 : decode cX12_grow 7 = .ok (.ifCond .lt 62, 3) := by decide +kernel
theorem dX12_grow_10 : decode cX12_grow 10 = .ok (.aload_n 0, 1) := by decide +kernel
theorem dX12_grow_11 : decode cX12_grow 11 = .ok (.getfield 19, 3) := by decide +kernel
theorem dX12_grow_14 : decode cX12_grow 14 = .ok (.iload_n 2, 1) := by decide +kernel
theorem dX12_grow_15 : decode cX12_grow 15 = .ok (.iload_n 3, 1) := by decide +kernel
theorem dX12_grow_16 : decode cX12_grow 16 = .ok (.iadd, 1) := by decide +kernel
theorem dX12_grow_17 : decode cX12_grow 17 = .ok (.iaload, 1) := by decide +kernel
theorem dX12_grow_18 : decode cX12_grow 18 = .ok (.iconst 5, 1) := by decide +kernel
theorem dX12_grow_19 : decode cX12_grow 19 = .ok (.idiv, 1) := by decide +kernel
theorem dX12_grow_20 : decode cX12_grow 20 = .ok (.istore 4, 2) := by decide +kernel
theorem dX12_grow_22 : decode cX12_grow 22 = .ok (.aload_n 0, 1) := by decide +kernel
theorem dX12_grow_23 : decode cX12_grow 23 = .ok (.getfield 19, 3) := by decide +kernel
theorem dX12_grow_26 : decode cX12_grow 26 = .ok (.iload_n 2, 1) := by decide +kernel
theorem dX12_grow_27 : decode cX12_grow 27 = .ok (.iload_n 3, 1) := by decide +kernel
theorem dX12_grow_28 : decode cX12_grow 28 = .ok (.iadd, 1) := by decide +kernel
theorem dX12_grow_29 : decode cX12_grow 29 = .ok (.dup2, 1) := by decide +kernel
theorem dX12_grow_30 : decode cX12_grow 30 = .ok (.iaload, 1) := by decide +kernel
theorem dX12_grow_31 : decode cX12_grow 31 = .ok (.iload 4, 2) := by decide +kernel
theorem dX12_grow_33 : decode cX12_grow 33 = .ok (.isub, 1) := by decide +kernel
theorem dX12_grow_34 : decode cX12_grow 34 = .ok (.iastore, 1) := by decide +kernel
theorem dX12_grow_35 : decode cX12_grow 35 = .ok (.aload_n 0, 1) := by decide +kernel
theorem dX12_grow_36 : decode cX12_grow 36 = .ok (.getfield 19, 3) := by decide +kernel
theorem dX12_grow_39 : decode cX12_grow 39 = .ok (.iload_n 2, 1) := by decide +kernel
theorem dX12_grow_40 : decode cX12_grow 40 = .ok (.iload_n 3, 1) := by decide +kernel
theorem dX12_grow_41 : decode cX12_grow 41 = .ok (.iadd, 1) := by decide +kernel
theorem dX12_grow_42 : decode cX12_grow 42 = .ok (.iconst 1, 1) := by decide +kernel
theorem dX12_grow_43 : decode cX12_grow 43 = .ok (.iadd, 1) := by decide +kernel
theorem dX12_grow_44 : decode cX12_grow 44 = .ok (.bipush 99, 2) := by decide +kernel
theorem dX12_grow_46 : decode cX12_grow 46 = .ok (.aload_n 0, 1) := by decide +kernel
theorem dX12_grow_47 : decode cX12_grow 47 = .ok (.getfield 19, 3) := by decide +kernel
theorem dX12_grow_50 : decode cX12_grow 50 = .ok (.iload_n 2, 1) := by decide +kernel
theorem dX12_grow_51 : decode cX12_grow 51 = .ok (.iload_n 3, 1) := by decide +kernel
theorem dX12_grow_52 : decode cX12_grow 52 = .ok (.iadd, 1) := by decide +kernel
theorem dX12_grow_53 : decode cX12_grow 53 = .ok (.iconst 1, 1) := by decide +kernel
theorem dX12_grow_54 : decode cX12_grow 54 = .ok (.iadd, 1) := by decide +kernel
theorem dX12_grow_55 : decode cX12_grow 55 = .ok (.iaload, 1) := by decide +kernel
theorem dX12_grow_56 : decode cX12_grow 56 = .ok (.iload 4, 2) := by decide +kernel
theorem dX12_grow_58 : decode cX12_grow 58 = .ok (.iadd, 1) := by decide +kernel
theorem dX12_grow_59 : decode cX12_grow 59 = .ok (.invokestatic 96, 3) := by decide +kernel
theorem dX12_grow_62 : decode cX12_grow 62 = .ok (.iastore, 1) := by decide +kernel
theorem dX12_grow_63 : decode cX12_grow 63 = .ok (.iinc 3 (-1), 3) := by decide +kernel
theorem dX12_grow_66 : decode cX12_grow 66 = .ok (.goto (-60), 3) := by decide +kernel
theorem dX12_grow_69 : decode cX12_grow 69 = .ok (.aload_n 0, 1) := by decide +kernel
theorem dX12_grow_70 : decode cX12_grow 70 = .ok (.getfield 19, 3) := by decide +kernel
theorem dX12_grow_73 : decode cX12_grow 73 = .ok (.iload_n 2, 1) := by decide +kernel
theorem dX12_grow_74 : decode cX12_grow 74 = .ok (.bipush 99, 2) := by decide +kernel
theorem dX12_grow_76 : decode cX12_grow 76 = .ok (.aload_n 0, 1) := by decide +kernel
theorem dX12_grow_77 : decode cX12_grow 77 = .ok (.getfield 19, 3) := by decide +kernel
theorem dX12_grow_80 : decode cX12_grow 80 = .ok (.iload_n 2, 1) := by decide +kernel
theorem dX12_grow_81 : decode cX12_grow 81 = .ok (.iaload, 1) := by decide +kernel
theorem dX12_grow_82 : decode cX12_grow 82 = .ok (.aload_n 0, 1) := by decide +kernel
theorem dX12_grow_83 : decode cX12_grow 83 = .ok (.iload_n 1, 1) := by decide +kernel
theorem dX12_grow_84 : decode cX12_grow 84 = .ok (.invokevirtual 166, 3) := by decide +kernel
theorem dX12_grow_87 : decode cX12_grow 87 = .ok (.bipush 6, 2) := by decide +kernel
theorem dX12_grow_89 : decode cX12_grow 89 = .ok (.idiv, 1) := by decide +kernel
theorem dX12_grow_90 : decode cX12_grow 90 = .ok (.iadd, 1) := by decide +kernel
theorem dX12_grow_91 : decode cX12_grow 91 = .ok (.invokestatic 96, 3) := by decide +kernel
theorem dX12_grow_94 : decode cX12_grow 94 = .ok (.iastore, 1) := by decide +kernel
theorem dX12_grow_95 : decode cX12_grow 95 = .ok (.return_, 1) := by decide +kernel
theorem dX12_carryOut_0 : decode cX12_carryOut 0 = .ok (.iconst (-1), 1) := by decide +kernel
theorem dX12_carryOut_1 : decode cX12_carryOut 1 = .ok (.istore_n 3, 1) := by decide +kernel
theorem dX12_carryOut_2 : decode cX12_carryOut 2 = .ok (.iload_n 1, 1) := by decide +kernel
theorem dX12_carryOut_3 : decode cX12_carryOut 3 = .ok (.istore 4, 2) := by decide +kernel
theorem dX12_carryOut_5 : decode cX12_carryOut 5 = .ok (.iload 4, 2) := by decide +kernel
theorem dX12_carryOut_7 : decode cX12_carryOut 7 = .ok (.iload_n 2, 1) := by decide +kernel
theorem dX12_carryOut_8 : decode cX12_carryOut 8 = .ok (.if_icmp .ge 163, 3) := by decide +kernel
theorem dX12_carryOut_11 : decode cX12_carryOut 11 = .ok (.aload_n 0, 1) := by decide +kernel
theorem dX12_carryOut_12 : decode cX12_carryOut 12 = .ok (.getfield 3, 3) := by decide +kernel
theorem dX12_carryOut_15 : decode cX12_carryOut 15 = .ok (.getfield 81, 3) := by decide +kernel
theorem dX12_carryOut_18 : decode cX12_carryOut 18 = .ok (.getfield 180, 3) := by decide +kernel
theorem dX12_carryOut_21 : decode cX12_carryOut 21 = .ok (.iload 4, 2) := by decide +kernel
theorem dX12_carryOut_23 : decode cX12_carryOut 23 = .ok (.iaload, 1) := by decide +kernel
theorem dX12_carryOut_24 : decode cX12_carryOut 24 = .ok (.istore 5, 2) := by decide +kernel
theorem dX12_carryOut_26 : decode cX12_carryOut 26 = .ok (.iinc 4 1, 3) := by decide +kernel
theorem dX12_carryOut_29 : decode cX12_carryOut 29 = .ok (.iload 5, 2) := by decide +kernel
theorem dX12_carryOut_31 : decode cX12_carryOut 31 = .ok (.invokestatic 183, 3) := by decide +kernel
theorem dX12_carryOut_34 : decode cX12_carryOut 34 = .ok (.ifCond .eq 58, 3) := by decide +kernel
theorem dX12_carryOut_37 : decode cX12_carryOut 37 = .ok (.iinc 3 1, 3) := by decide +kernel
theorem dX12_carryOut_40 : decode cX12_carryOut 40 = .ok (.aload_n 0, 1) := by decide +kernel
theorem dX12_carryOut_41 : decode cX12_carryOut 41 = .ok (.getfield 65, 3) := by decide +kernel
theorem dX12_carryOut_44 : decode cX12_carryOut 44 = .ok (.iload_n 3, 1) := by decide +kernel
theorem dX12_carryOut_45 : decode cX12_carryOut 45 = .ok (.iload 5, 2) := by decide +kernel
theorem dX12_carryOut_47 : decode cX12_carryOut 47 = .ok (.bipush 15, 2) := by decide +kernel
theorem dX12_carryOut_49 : decode cX12_carryOut 49 = .ok (.if_icmp .ne 10, 3) := by decide +kernel
theorem dX12_carryOut_52 : decode cX12_carryOut 52 = .ok (.aload_n 0, 1) := by decide +kernel
theorem dX12_carryOut_53 : decode cX12_carryOut 53 = .ok (.getfield 74, 3) := by decide +kernel
theorem dX12_carryOut_56 : decode cX12_carryOut 56 = .ok (.goto 22, 3) := by decide +kernel
theorem dX12_carryOut_59 : decode cX12_carryOut 59 = .ok (.aload_n 0, 1) := by decide +kernel
theorem dX12_carryOut_60 : decode cX12_carryOut 60 = .ok (.iload 5, 2) := by decide +kernel
theorem dX12_carryOut_62 : decode cX12_carryOut 62 = .ok (.aload_n 0, 1) := by decide +kernel
theorem dX12_carryOut_63 : decode cX12_carryOut 63 = .ok (.getfield 3, 3) := by decide +kernel
theorem dX12_carryOut_66 : decode cX12_carryOut 66 = .ok (.getfield 81, 3) := by decide +kernel
theorem dX12_carryOut_69 : decode cX12_carryOut 69 = .ok (.getfield 180, 3) := by decide +kernel
theorem dX12_carryOut_72 : decode cX12_carryOut 72 = .ok (.iload 4, 2) := by decide +kernel
theorem dX12_carryOut_74 : decode cX12_carryOut 74 = .ok (.iaload, 1) := by decide +kernel
theorem dX12_carryOut_75 : decode cX12_carryOut 75 = .ok (.invokevirtual 187, 3) := by decide +kernel
theorem dX12_carryOut_78 : decode cX12_carryOut 78 = .ok (.iastore, 1) := by decide +kernel
theorem dX12_carryOut_79 : decode cX12_carryOut 79 = .ok (.iload 5, 2) := by decide +kernel
theorem dX12_carryOut_81 : decode cX12_carryOut 81 = .ok (.bipush 15, 2) := by decide +kernel
theorem dX12_carryOut_83 : decode cX12_carryOut 83 = .ok (.if_icmp .eq (-78), 3) := by decide +kernel
theorem dX12_carryOut_86 : decode cX12_carryOut 86 = .ok (.iinc 4 1, 3) := by decide +kernel
theorem dX12_carryOut_89 : decode cX12_carryOut 89 = .ok (.goto (-84), 3) := by decide +kernel
theorem dX12_carryOut_92 : decode cX12_carryOut 92 = .ok (.iload 5, 2) := by decide +kernel
theorem dX12_carryOut_94 : decode cX12_carryOut 94 = .ok (.bipush 31, 2) := by decide +kernel
theorem dX12_carryOut_96 : decode cX12_carryOut 96 = .ok (.if_icmp .eq 10, 3) := by decide +kernel
theorem dX12_carryOut_99 : decode cX12_carryOut 99 = .ok (.iload 5, 2) := by decide +kernel
theorem dX12_carryOut_101 : decode cX12_carryOut 101 = .ok (.bipush 20, 2) := by decide +kernel
theorem dX12_carryOut_103 : decode cX12_carryOut 103 = .ok (.if_icmp .ne 37, 3) := by decide +kernel
theorem dX12_carryOut_106 : decode cX12_carryOut 106 = .ok (.aload_n 0, 1) := by decide +kernel
theorem dX12_carryOut_107 : decode cX12_carryOut 107 = .ok (.getfield 65, 3) := by decide +kernel
theorem dX12_carryOut_110 : decode cX12_carryOut 110 = .ok (.iload_n 3, 1) := by decide +kernel
theorem dX12_carryOut_111 : decode cX12_carryOut 111 = .ok (.iload 5, 2) := by decide +kernel
theorem dX12_carryOut_113 : decode cX12_carryOut 113 = .ok (.bipush 31, 2) := by decide +kernel
theorem dX12_carryOut_115 : decode cX12_carryOut 115 = .ok (.if_icmp .ne 13, 3) := by decide +kernel
theorem dX12_carryOut_118 : decode cX12_carryOut 118 = .ok (.aload_n 0, 1) := by decide +kernel
theorem dX12_carryOut_119 : decode cX12_carryOut 119 = .ok (.getfield 65, 3) := by decide +kernel
theorem dX12_carryOut_122 : decode cX12_carryOut 122 = .ok (.iload_n 3, 1) := by decide +kernel
theorem dX12_carryOut_123 : decode cX12_carryOut 123 = .ok (.iaload, 1) := by decide +kernel
theorem dX12_carryOut_124 : decode cX12_carryOut 124 = .ok (.ineg, 1) := by decide +kernel
theorem dX12_carryOut_125 : decode cX12_carryOut 125 = .ok (.goto 11, 3) := by decide +kernel
theorem dX12_carryOut_128 : decode cX12_carryOut 128 = .ok (.iconst 1, 1) := by decide +kernel
theorem dX12_carryOut_129 : decode cX12_carryOut 129 = .ok (.aload_n 0, 1) := by decide +kernel
theorem dX12_carryOut_130 : decode cX12_carryOut 130 = .ok (.getfield 65, 3) := by decide +kernel
theorem dX12_carryOut_133 : decode cX12_carryOut 133 = .ok (.iload_n 3, 1) := by decide +kernel
theorem dX12_carryOut_134 : decode cX12_carryOut 134 = .ok (.iaload, 1) := by decide +kernel
theorem dX12_carryOut_135 : decode cX12_carryOut 135 = .ok (.isub, 1) := by decide +kernel
theorem dX12_carryOut_136 : decode cX12_carryOut 136 = .ok (.iastore, 1) := by decide +kernel
theorem dX12_carryOut_137 : decode cX12_carryOut 137 = .ok (.goto (-132), 3) := by decide +kernel
theorem dX12_carryOut_140 : decode cX12_carryOut 140 = .ok (.iinc 3 (-1), 3) := by decide +kernel
theorem dX12_carryOut_143 : decode cX12_carryOut 143 = .ok (.aload_n 0, 1) := by decide +kernel
theorem dX12_carryOut_144 : decode cX12_carryOut 144 = .ok (.getfield 65, 3) := by decide +kernel
theorem dX12_carryOut_147 : decode cX12_carryOut 147 = .ok (.iload_n 3, 1) := by decide +kernel
theorem dX12_carryOut_148 : decode cX12_carryOut 148 = .ok (.iload 5, 2) := by decide +kernel
theorem dX12_carryOut_150 : decode cX12_carryOut 150 = .ok (.aload_n 0, 1) := by decide +kernel
theorem dX12_carryOut_151 : decode cX12_carryOut 151 = .ok (.getfield 65, 3) := by decide +kernel
theorem dX12_carryOut_154 : decode cX12_carryOut 154 = .ok (.iload_n 3, 1) := by decide +kernel
theorem dX12_carryOut_155 : decode cX12_carryOut 155 = .ok (.iaload, 1) := by decide +kernel
theorem dX12_carryOut_156 : decode cX12_carryOut 156 = .ok (.aload_n 0, 1) := by decide +kernel
theorem dX12_carryOut_157 : decode cX12_carryOut 157 = .ok (.getfield 65, 3) := by decide +kernel
theorem dX12_carryOut_160 : decode cX12_carryOut 160 = .ok (.iload_n 3, 1) := by decide +kernel
theorem dX12_carryOut_161 : decode cX12_carryOut 161 = .ok (.iconst 1, 1) := by decide +kernel
theorem dX12_carryOut_162 : decode cX12_carryOut 162 = .ok (.iadd, 1) := by decide +kernel
theorem dX12_carryOut_163 : decode cX12_carryOut 163 = .ok (.iaload, 1) := by decide +kernel
theorem dX12_carryOut_164 : decode cX12_carryOut 164 = .ok (.invokestatic 190, 3) := by decide +kernel
theorem dX12_carryOut_167 : decode cX12_carryOut 167 = .ok (.iastore, 1) := by decide +kernel
theorem dX12_carryOut_168 : decode cX12_carryOut 168 = .ok (.goto (-163), 3) := by decide +kernel
theorem dX12_carryOut_171 : decode cX12_carryOut 171 = .ok (.aload_n 0, 1) := by decide +kernel
theorem dX12_carryOut_172 : decode cX12_carryOut 172 = .ok (.getfield 65, 3) := by decide +kernel
theorem dX12_carryOut_175 : decode cX12_carryOut 175 = .ok (.iconst 0, 1) := by decide +kernel
theorem dX12_carryOut_176 : decode cX12_carryOut 176 = .ok (.iaload, 1) := by decide +kernel
theorem dX12_carryOut_177 : decode cX12_carryOut 177 = .ok (.ireturn, 1) := by decide +kernel
theorem dX12_pushed_0 : decode cX12_pushed 0 = .ok (.iload_n 1, 1) := by decide +kernel
theorem dX12_pushed_1 : decode cX12_pushed 1 = .ok (.lookupswitch 95 #[(2, 82), (4, 75), (16, 61), (17, 68), (18, 88), (30, 59)], 59) := by decide +kernel
theorem dX12_pushed_60 : decode cX12_pushed 60 = .ok (.iload_n 2, 1) := by decide +kernel
theorem dX12_pushed_61 : decode cX12_pushed 61 = .ok (.ireturn, 1) := by decide +kernel
theorem dX12_pushed_62 : decode cX12_pushed 62 = .ok (.aload_n 0, 1) := by decide +kernel
theorem dX12_pushed_63 : decode cX12_pushed 63 = .ok (.getfield 32, 3) := by decide +kernel
theorem dX12_pushed_66 : decode cX12_pushed 66 = .ok (.iload_n 2, 1) := by decide +kernel
theorem dX12_pushed_67 : decode cX12_pushed 67 = .ok (.iaload, 1) := by decide +kernel
theorem dX12_pushed_68 : decode cX12_pushed 68 = .ok (.ireturn, 1) := by decide +kernel
theorem dX12_pushed_69 : decode cX12_pushed 69 = .ok (.aload_n 0, 1) := by decide +kernel
theorem dX12_pushed_70 : decode cX12_pushed 70 = .ok (.getfield 35, 3) := by decide +kernel
theorem dX12_pushed_73 : decode cX12_pushed 73 = .ok (.iload_n 2, 1) := by decide +kernel
theorem dX12_pushed_74 : decode cX12_pushed 74 = .ok (.iaload, 1) := by decide +kernel
theorem dX12_pushed_75 : decode cX12_pushed 75 = .ok (.ireturn, 1) := by decide +kernel
theorem dX12_pushed_76 : decode cX12_pushed 76 = .ok (.aload_n 0, 1) := by decide +kernel
theorem dX12_pushed_77 : decode cX12_pushed 77 = .ok (.getfield 29, 3) := by decide +kernel
theorem dX12_pushed_80 : decode cX12_pushed 80 = .ok (.iload_n 2, 1) := by decide +kernel
theorem dX12_pushed_81 : decode cX12_pushed 81 = .ok (.iaload, 1) := by decide +kernel
theorem dX12_pushed_82 : decode cX12_pushed 82 = .ok (.ireturn, 1) := by decide +kernel
theorem dX12_pushed_83 : decode cX12_pushed 83 = .ok (.aload_n 0, 1) := by decide +kernel
theorem dX12_pushed_84 : decode cX12_pushed 84 = .ok (.iload_n 2, 1) := by decide +kernel
theorem dX12_pushed_85 : decode cX12_pushed 85 = .ok (.invokevirtual 166, 3) := by decide +kernel
theorem dX12_pushed_88 : decode cX12_pushed 88 = .ok (.ireturn, 1) := by decide +kernel
theorem dX12_pushed_89 : decode cX12_pushed 89 = .ok (.aload_n 0, 1) := by decide +kernel
theorem dX12_pushed_90 : decode cX12_pushed 90 = .ok (.getfield 23, 3) := by decide +kernel
theorem dX12_pushed_93 : decode cX12_pushed 93 = .ok (.iload_n 2, 1) := by decide +kernel
theorem dX12_pushed_94 : decode cX12_pushed 94 = .ok (.iaload, 1) := by decide +kernel
theorem dX12_pushed_95 : decode cX12_pushed 95 = .ok (.ireturn, 1) := by decide +kernel
theorem dX12_pushed_96 : decode cX12_pushed 96 = .ok (.aload_n 0, 1) := by decide +kernel
theorem dX12_pushed_97 : decode cX12_pushed 97 = .ok (.getfield 44, 3) := by decide +kernel
theorem dX12_pushed_100 : decode cX12_pushed 100 = .ok (.iload_n 2, 1) := by decide +kernel
theorem dX12_pushed_101 : decode cX12_pushed 101 = .ok (.iaload, 1) := by decide +kernel
theorem dX12_pushed_102 : decode cX12_pushed 102 = .ok (.ireturn, 1) := by decide +kernel
theorem dX13_init_0 : decode cX13_init 0 = .ok (.aload_n 0, 1) := by decide +kernel
theorem dX13_init_1 : decode cX13_init 1 = .ok (.invokespecial 3, 3) := by decide +kernel
theorem dX13_init_4 : decode cX13_init 4 = .ok (.aload_n 0, 1) := by decide +kernel
theorem dX13_init_5 : decode cX13_init 5 = .ok (.bipush 8, 2) := by decide +kernel
theorem dX13_init_7 : decode cX13_init 7 = .ok (.newarray .int, 2) := by decide +kernel
theorem dX13_init_9 : decode cX13_init 9 = .ok (.putfield 9, 3) := by decide +kernel
theorem dX13_init_12 : decode cX13_init 12 = .ok (.aload_n 0, 1) := by decide +kernel
theorem dX13_init_13 : decode cX13_init 13 = .ok (.bipush 40, 2) := by decide +kernel
theorem dX13_init_15 : decode cX13_init 15 = .ok (.newarray .int, 2) := by decide +kernel
theorem dX13_init_17 : decode cX13_init 17 = .ok (.putfield 15, 3) := by decide +kernel
theorem dX13_init_20 : decode cX13_init 20 = .ok (.aload_n 0, 1) := by decide +kernel
theorem dX13_init_21 : decode cX13_init 21 = .ok (.bipush 8, 2) := by decide +kernel
theorem dX13_init_23 : decode cX13_init 23 = .ok (.newarray .int, 2) := by decide +kernel
theorem dX13_init_25 : decode cX13_init 25 = .ok (.putfield 18, 3) := by decide +kernel
theorem dX13_init_28 : decode cX13_init 28 = .ok (.aload_n 0, 1) := by decide +kernel
theorem dX13_init_29 : decode cX13_init 29 = .ok (.bipush 8, 2) := by decide +kernel
theorem dX13_init_31 : decode cX13_init 31 = .ok (.newarray .int, 2) := by decide +kernel
theorem dX13_init_33 : decode cX13_init 33 = .ok (.putfield 21, 3) := by decide +kernel
theorem dX13_init_36 : decode cX13_init 36 = .ok (.aload_n 0, 1) := by decide +kernel
theorem dX13_init_37 : decode cX13_init 37 = .ok (.bipush 8, 2) := by decide +kernel
theorem dX13_init_39 : decode cX13_init 39 = .ok (.newarray .int, 2) := by decide +kernel
theorem dX13_init_41 : decode cX13_init 41 = .ok (.putfield 24, 3) := by decide +kernel
theorem dX13_init_44 : decode cX13_init 44 = .ok (.aload_n 0, 1) := by decide +kernel
theorem dX13_init_45 : decode cX13_init 45 = .ok (.bipush 24, 2) := by decide +kernel
theorem dX13_init_47 : decode cX13_init 47 = .ok (.newarray .int, 2) := by decide +kernel
theorem dX13_init_49 : decode cX13_init 49 = .ok (.putfield 27, 3) := by decide +kernel
theorem dX13_init_52 : decode cX13_init 52 = .ok (.aload_n 0, 1) := by decide +kernel
theorem dX13_init_53 : decode cX13_init 53 = .ok (.bipush 24, 2) := by decide +kernel
theorem dX13_init_55 : decode cX13_init 55 = .ok (.newarray .int, 2) := by decide +kernel
theorem dX13_init_57 : decode cX13_init 57 = .ok (.putfield 30, 3) := by decide +kernel
theorem dX13_init_60 : decode cX13_init 60 = .ok (.aload_n 0, 1) := by decide +kernel
theorem dX13_init_61 : decode cX13_init 61 = .ok (.bipush 6, 2) := by decide +kernel
theorem dX13_init_63 : decode cX13_init 63 = .ok (.newarray .int, 2) := by decide +kernel
theorem dX13_init_65 : decode cX13_init 65 = .ok (.putfield 33, 3) := by decide +kernel
theorem dX13_init_68 : decode cX13_init 68 = .ok (.aload_n 0, 1) := by decide +kernel
theorem dX13_init_69 : decode cX13_init 69 = .ok (.bipush 6, 2) := by decide +kernel
theorem dX13_init_71 : decode cX13_init 71 = .ok (.newarray .int, 2) := by decide +kernel
theorem dX13_init_73 : decode cX13_init 73 = .ok (.putfield 36, 3) := by decide +kernel
theorem dX13_init_76 : decode cX13_init 76 = .ok (.aload_n 0, 1) := by decide +kernel
theorem dX13_init_77 : decode cX13_init 77 = .ok (.bipush 48, 2) := by decide +kernel
theorem dX13_init_79 : decode cX13_init 79 = .ok (.newarray .int, 2) := by decide +kernel
theorem dX13_init_81 : decode cX13_init 81 = .ok (.putfield 39, 3) := by decide +kernel
theorem dX13_init_84 : decode cX13_init 84 = .ok (.aload_n 0, 1) := by decide +kernel
theorem dX13_init_85 : decode cX13_init 85 = .ok (.bipush 25, 2) := by decide +kernel
theorem dX13_init_87 : decode cX13_init 87 = .ok (.newarray .int, 2) := by decide +kernel
theorem dX13_init_89 : decode cX13_init 89 = .ok (.putfield 42, 3) := by decide +kernel
theorem dX13_init_92 : decode cX13_init 92 = .ok (.aload_n 0, 1) := by decide +kernel
theorem dX13_init_93 : decode cX13_init 93 = .ok (.bipush 25, 2) := by decide +kernel
theorem dX13_init_95 : decode cX13_init 95 = .ok (.newarray .int, 2) := by decide +kernel
theorem dX13_init_97 : decode cX13_init 97 = .ok (.putfield 45, 3) := by decide +kernel
theorem dX13_init_100 : decode cX13_init 100 = .ok (.aload_n 0, 1) := by decide +kernel
theorem dX13_init_101 : decode cX13_init 101 = .ok (.bipush 7, 2) := by decide +kernel
theorem dX13_init_103 : decode cX13_init 103 = .ok (.newarray .int, 2) := by decide +kernel
theorem dX13_init_105 : decode cX13_init 105 = .ok (.putfield 48, 3) := by decide +kernel
theorem dX13_init_108 : decode cX13_init 108 = .ok (.aload_n 0, 1) := by decide +kernel
theorem dX13_init_109 : decode cX13_init 109 = .ok (.bipush 7, 2) := by decide +kernel
theorem dX13_init_111 : decode cX13_init 111 = .ok (.newarray .int, 2) := by decide +kernel
theorem dX13_init_113 : decode cX13_init 113 = .ok (.putfield 51, 3) := by decide +kernel
theorem dX13_init_116 : decode cX13_init 116 = .ok (.aload_n 0, 1) := by decide +kernel
theorem dX13_init_117 : decode cX13_init 117 = .ok (.sipush 800, 3) := by decide +kernel
theorem dX13_init_120 : decode cX13_init 120 = .ok (.newarray .int, 2) := by decide +kernel
theorem dX13_init_122 : decode cX13_init 122 = .ok (.putfield 54, 3) := by decide +kernel
theorem dX13_init_125 : decode cX13_init 125 = .ok (.aload_n 0, 1) := by decide +kernel
theorem dX13_init_126 : decode cX13_init 126 = .ok (.sipush 400, 3) := by decide +kernel
theorem dX13_init_129 : decode cX13_init 129 = .ok (.newarray .int, 2) := by decide +kernel
theorem dX13_init_131 : decode cX13_init 131 = .ok (.putfield 57, 3) := by decide +kernel
theorem dX13_init_134 : decode cX13_init 134 = .ok (.return_, 1) := by decide +kernel
theorem dX14_init_0 : decode cX14_init 0 = .ok (.aload_n 0, 1) := by decide +kernel
theorem dX14_init_1 : decode cX14_init 1 = .ok (.invokespecial 1, 3) := by decide +kernel
theorem dX14_init_4 : decode cX14_init 4 = .ok (.aload_n 0, 1) := by decide +kernel
theorem dX14_init_5 : decode cX14_init 5 = .ok (.sipush 2000, 3) := by decide +kernel
theorem dX14_init_8 : decode cX14_init 8 = .ok (.newarray .int, 2) := by decide +kernel
theorem dX14_init_10 : decode cX14_init 10 = .ok (.putfield 9, 3) := by decide +kernel
theorem dX14_init_13 : decode cX14_init 13 = .ok (.aload_n 0, 1) := by decide +kernel
theorem dX14_init_14 : decode cX14_init 14 = .ok (.iconst (-1), 1) := by decide +kernel
theorem dX14_init_15 : decode cX14_init 15 = .ok (.putfield 13, 3) := by decide +kernel
theorem dX14_init_18 : decode cX14_init 18 = .ok (.aload_n 0, 1) := by decide +kernel
theorem dX14_init_19 : decode cX14_init 19 = .ok (.sipush 401, 3) := by decide +kernel
theorem dX14_init_22 : decode cX14_init 22 = .ok (.newarray .int, 2) := by decide +kernel
theorem dX14_init_24 : decode cX14_init 24 = .ok (.putfield 17, 3) := by decide +kernel
theorem dX14_init_27 : decode cX14_init 27 = .ok (.aload_n 0, 1) := by decide +kernel
theorem dX14_init_28 : decode cX14_init 28 = .ok (.sipush 401, 3) := by decide +kernel
theorem dX14_init_31 : decode cX14_init 31 = .ok (.newarray .int, 2) := by decide +kernel
theorem dX14_init_33 : decode cX14_init 33 = .ok (.putfield 20, 3) := by decide +kernel
theorem dX14_init_36 : decode cX14_init 36 = .ok (.aload_n 0, 1) := by decide +kernel
theorem dX14_init_37 : decode cX14_init 37 = .ok (.sipush 401, 3) := by decide +kernel
theorem dX14_init_40 : decode cX14_init 40 = .ok (.newarray .int, 2) := by decide +kernel
theorem dX14_init_42 : decode cX14_init 42 = .ok (.putfield 23, 3) := by decide +kernel
theorem dX14_init_45 : decode cX14_init 45 = .ok (.aload_n 0, 1) := by decide +kernel
theorem dX14_init_46 : decode cX14_init 46 = .ok (.sipush 401, 3) := by decide +kernel
theorem dX14_init_49 : decode cX14_init 49 = .ok (.newarray .int, 2) := by decide +kernel
theorem dX14_init_51 : decode cX14_init 51 = .ok (.putfield 26, 3) := by decide +kernel
theorem dX14_init_54 : decode cX14_init 54 = .ok (.aload_n 0, 1) := by decide +kernel
theorem dX14_init_55 : decode cX14_init 55 = .ok (.sipush 401, 3) := by decide +kernel
theorem dX14_init_58 : decode cX14_init 58 = .ok (.newarray .int, 2) := by decide +kernel
theorem dX14_init_60 : decode cX14_init 60 = .ok (.putfield 29, 3) := by decide +kernel
theorem dX14_init_63 : decode cX14_init 63 = .ok (.aload_n 0, 1) := by decide +kernel
theorem dX14_init_64 : decode cX14_init 64 = .ok (.new 32, 3) := by decide +kernel
theorem dX14_init_67 : decode cX14_init 67 = .ok (.dup, 1) := by decide +kernel
theorem dX14_init_68 : decode cX14_init 68 = .ok (.invokespecial 34, 3) := by decide +kernel
theorem dX14_init_71 : decode cX14_init 71 = .ok (.putfield 35, 3) := by decide +kernel
theorem dX14_init_74 : decode cX14_init 74 = .ok (.aload_n 0, 1) := by decide +kernel
theorem dX14_init_75 : decode cX14_init 75 = .ok (.aload_n 0, 1) := by decide +kernel
theorem dX14_init_76 : decode cX14_init 76 = .ok (.getfield 35, 3) := by decide +kernel
theorem dX14_init_79 : decode cX14_init 79 = .ok (.putfield 39, 3) := by decide +kernel
theorem dX14_init_82 : decode cX14_init 82 = .ok (.aload_n 0, 1) := by decide +kernel
theorem dX14_init_83 : decode cX14_init 83 = .ok (.new 42, 3) := by decide +kernel
theorem dX14_init_86 : decode cX14_init 86 = .ok (.dup, 1) := by decide +kernel
theorem dX14_init_87 : decode cX14_init 87 = .ok (.aload_n 0, 1) := by decide +kernel
theorem dX14_init_88 : decode cX14_init 88 = .ok (.invokespecial 44, 3) := by decide +kernel
theorem dX14_init_91 : decode cX14_init 91 = .ok (.putfield 47, 3) := by decide +kernel
theorem dX14_init_94 : decode cX14_init 94 = .ok (.aload_n 0, 1) := by decide +kernel
theorem dX14_init_95 : decode cX14_init 95 = .ok (.new 42, 3) := by decide +kernel
theorem dX14_init_98 : decode cX14_init 98 = .ok (.dup, 1) := by decide +kernel
theorem dX14_init_99 : decode cX14_init 99 = .ok (.aload_n 0, 1) := by decide +kernel
theorem dX14_init_100 : decode cX14_init 100 = .ok (.invokespecial 44, 3) := by decide +kernel
theorem dX14_init_103 : decode cX14_init 103 = .ok (.putfield 51, 3) := by decide +kernel
theorem dX14_init_106 : decode cX14_init 106 = .ok (.aload_n 0, 1) := by decide +kernel
theorem dX14_init_107 : decode cX14_init 107 = .ok (.getfield 47, 3) := by decide +kernel
theorem dX14_init_110 : decode cX14_init 110 = .ok (.invokevirtual 54, 3) := by decide +kernel
theorem dX14_init_113 : decode cX14_init 113 = .ok (.return_, 1) := by decide +kernel
theorem dX14_thrown_0 : decode cX14_thrown 0 = .ok (.aload_n 0, 1) := by decide +kernel
theorem dX14_thrown_1 : decode cX14_thrown 1 = .ok (.getfield 57, 3) := by decide +kernel
theorem dX14_thrown_4 : decode cX14_thrown 4 = .ok (.ireturn, 1) := by decide +kernel
theorem dX14_no_0 : decode cX14_no 0 = .ok (.aload_n 0, 1) := by decide +kernel
theorem dX14_no_1 : decode cX14_no 1 = .ok (.iload_n 1, 1) := by decide +kernel
theorem dX14_no_2 : decode cX14_no 2 = .ok (.putfield 57, 3) := by decide +kernel
theorem dX14_no_5 : decode cX14_no 5 = .ok (.iconst 0, 1) := by decide +kernel
theorem dX14_no_6 : decode cX14_no 6 = .ok (.ireturn, 1) := by decide +kernel
theorem dX14_isIn_0 : decode cX14_isIn 0 = .ok (.iload_n 0, 1) := by decide +kernel
theorem dX14_isIn_1 : decode cX14_isIn 1 = .ok (.iload_n 1, 1) := by decide +kernel
theorem dX14_isIn_2 : decode cX14_isIn 2 = .ok (.if_icmp .lt 12, 3) := by decide +kernel
theorem dX14_isIn_5 : decode cX14_isIn 5 = .ok (.iload_n 0, 1) := by decide +kernel
theorem dX14_isIn_6 : decode cX14_isIn 6 = .ok (.iload_n 2, 1) := by decide +kernel
theorem dX14_isIn_7 : decode cX14_isIn 7 = .ok (.if_icmp .gt 7, 3) := by decide +kernel
theorem dX14_isIn_10 : decode cX14_isIn 10 = .ok (.iconst 1, 1) := by decide +kernel
theorem dX14_isIn_11 : decode cX14_isIn 11 = .ok (.goto 4, 3) := by decide +kernel
theorem dX14_isIn_14 : decode cX14_isIn 14 = .ok (.iconst 0, 1) := by decide +kernel
theorem dX14_isIn_15 : decode cX14_isIn 15 = .ok (.ireturn, 1) := by decide +kernel
theorem dX14_isGround_0 : decode cX14_isGround 0 = .ok (.iload_n 1, 1) := by decide +kernel
theorem dX14_isGround_1 : decode cX14_isGround 1 = .ok (.iconst 0, 1) := by decide +kernel
theorem dX14_isGround_2 : decode cX14_isGround 2 = .ok (.aload_n 0, 1) := by decide +kernel
theorem dX14_isGround_3 : decode cX14_isGround 3 = .ok (.getfield 35, 3) := by decide +kernel
theorem dX14_isGround_6 : decode cX14_isGround 6 = .ok (.getfield 60, 3) := by decide +kernel
theorem dX14_isGround_9 : decode cX14_isGround 9 = .ok (.iconst 1, 1) := by decide +kernel
theorem dX14_isGround_10 : decode cX14_isGround 10 = .ok (.isub, 1) := by decide +kernel
theorem dX14_isGround_11 : decode cX14_isGround 11 = .ok (.invokestatic 63, 3) := by decide +kernel
theorem dX14_isGround_14 : decode cX14_isGround 14 = .ok (.ireturn, 1) := by decide +kernel
theorem dX14_isFisher_0 : decode cX14_isFisher 0 = .ok (.iload_n 1, 1) := by decide +kernel
theorem dX14_isFisher_1 : decode cX14_isFisher 1 = .ok (.iconst 0, 1) := by decide +kernel
theorem dX14_isFisher_2 : decode cX14_isFisher 2 = .ok (.aload_n 0, 1) := by decide +kernel
theorem dX14_isFisher_3 : decode cX14_isFisher 3 = .ok (.getfield 35, 3) := by decide +kernel
theorem dX14_isFisher_6 : decode cX14_isFisher 6 = .ok (.getfield 67, 3) := by decide +kernel
theorem dX14_isFisher_9 : decode cX14_isFisher 9 = .ok (.iconst 1, 1) := by decide +kernel
theorem dX14_isFisher_10 : decode cX14_isFisher 10 = .ok (.isub, 1) := by decide +kernel
theorem dX14_isFisher_11 : decode cX14_isFisher 11 = .ok (.invokestatic 63, 3) := by decide +kernel
theorem dX14_isFisher_14 : decode cX14_isFisher 14 = .ok (.ireturn, 1) := by decide +kernel
theorem dX14_isPushed_0 : decode cX14_isPushed 0 = .ok (.iload_n 0, 1) := by decide +kernel
theorem dX14_isPushed_1 : decode cX14_isPushed 1 = .ok (.bipush 30, 2) := by decide +kernel
theorem dX14_isPushed_3 : decode cX14_isPushed 3 = .ok (.if_icmp .eq 24, 3) := by decide +kernel
theorem dX14_isPushed_6 : decode cX14_isPushed 6 = .ok (.iload_n 0, 1) := by decide +kernel
theorem dX14_isPushed_7 : decode cX14_isPushed 7 = .ok (.iconst 2, 1) := by decide +kernel
theorem dX14_isPushed_8 : decode cX14_isPushed 8 = .ok (.if_icmp .eq 19, 3) := by decide +kernel
theorem dX14_isPushed_11 : decode cX14_isPushed 11 = .ok (.iload_n 0, 1) := by decide +kernel
theorem dX14_isPushed_12 : decode cX14_isPushed 12 = .ok (.iconst 4, 1) := by decide +kernel
theorem dX14_isPushed_13 : decode cX14_isPushed 13 = .ok (.if_icmp .eq 14, 3) := by decide +kernel
theorem dX14_isPushed_16 : decode cX14_isPushed 16 = .ok (.iload_n 0, 1) := by decide +kernel
theorem dX14_isPushed_17 : decode cX14_isPushed 17 = .ok (.bipush 15, 2) := by decide +kernel
theorem dX14_isPushed_19 : decode cX14_isPushed 19 = .ok (.bipush 19, 2) := by decide +kernel
theorem dX14_isPushed_21 : decode cX14_isPushed 21 = .ok (.invokestatic 63, 3) := by decide +kernel
theorem dX14_isPushed_24 : decode cX14_isPushed 24 = .ok (.ifCond .eq 7, 3) := by decide +kernel
theorem dX14_isPushed_27 : decode cX14_isPushed 27 = .ok (.iconst 1, 1) := by decide +kernel
theorem dX14_isPushed_28 : decode cX14_isPushed 28 = .ok (.goto 4, 3) := by decide +kernel
theorem dX14_isPushed_31 : decode cX14_isPushed 31 = .ok (.iconst 0, 1) := by decide +kernel
theorem dX14_isPushed_32 : decode cX14_isPushed 32 = .ok (.ireturn, 1) := by decide +kernel
theorem dX14_both_0 : decode cX14_both 0 = .ok (.iload_n 0, 1) := by decide +kernel
theorem dX14_both_1 : decode cX14_both 1 = .ok (.tableswitch 190 21 40 #[186, 190, 119, 125, 190, 190, 190, 190, 190, 190, 190, 95, 99, 103, 107, 131, 142, 153, 164, 175], 95) := by decide +kernel
theorem dX14_both_96 : decode cX14_both 96 = .ok (.iload_n 1, 1) := by decide +kernel
theorem dX14_both_97 : decode cX14_both 97 = .ok (.iload_n 2, 1) := by decide +kernel
theorem dX14_both_98 : decode cX14_both 98 = .ok (.iadd, 1) := by decide +kernel
theorem dX14_both_99 : decode cX14_both 99 = .ok (.ireturn, 1) := by decide +kernel
theorem dX14_both_100 : decode cX14_both 100 = .ok (.iload_n 1, 1) := by decide +kernel
theorem dX14_both_101 : decode cX14_both 101 = .ok (.iload_n 2, 1) := by decide +kernel
theorem dX14_both_102 : decode cX14_both 102 = .ok (.isub, 1) := by decide +kernel
theorem dX14_both_103 : decode cX14_both 103 = .ok (.ireturn, 1) := by decide +kernel
theorem dX14_both_104 : decode cX14_both 104 = .ok (.iload_n 1, 1) := by decide +kernel
theorem dX14_both_105 : decode cX14_both 105 = .ok (.iload_n 2, 1) := by decide +kernel
theorem dX14_both_106 : decode cX14_both 106 = .ok (.imul, 1) := by decide +kernel
theorem dX14_both_107 : decode cX14_both 107 = .ok (.ireturn, 1) := by decide +kernel
theorem dX14_both_108 : decode cX14_both 108 = .ok (.iload_n 2, 1) := by decide +kernel
theorem dX14_both_109 : decode cX14_both 109 = .ok (.ifCond .ne 7, 3) := by decide +kernel
theorem dX14_both_112 : decode cX14_both 112 = .ok (.iconst 0, 1) := by decide +kernel
theorem dX14_both_113 : decode cX14_both 113 = .ok (.goto 6, 3) := by decide +kernel
theorem dX14_both_116 : decode cX14_both 116 = .ok (.iload_n 1, 1) := by decide +kernel
theorem dX14_both_117 : decode cX14_both 117 = .ok (.iload_n 2, 1) := by decide +kernel
theorem dX14_both_118 : decode cX14_both 118 = .ok (.idiv, 1) := by decide +kernel
theorem dX14_both_119 : decode cX14_both 119 = .ok (.ireturn, 1) := by decide +kernel
theorem dX14_both_120 : decode cX14_both 120 = .ok (.iload_n 1, 1) := by decide +kernel
theorem dX14_both_121 : decode cX14_both 121 = .ok (.iload_n 2, 1) := by decide +kernel
theorem dX14_both_122 : decode cX14_both 122 = .ok (.invokestatic 70, 3) := by decide +kernel
theorem dX14_both_125 : decode cX14_both 125 = .ok (.ireturn, 1) := by decide +kernel
theorem dX14_both_126 : decode cX14_both 126 = .ok (.iload_n 1, 1) := by decide +kernel
theorem dX14_both_127 : decode cX14_both 127 = .ok (.iload_n 2, 1) := by decide +kernel
theorem dX14_both_128 : decode cX14_both 128 = .ok (.invokestatic 76, 3) := by decide +kernel
theorem dX14_both_131 : decode cX14_both 131 = .ok (.ireturn, 1) := by decide +kernel
theorem dX14_both_132 : decode cX14_both 132 = .ok (.iload_n 1, 1) := by decide +kernel
theorem dX14_both_133 : decode cX14_both 133 = .ok (.iload_n 2, 1) := by decide +kernel
theorem dX14_both_134 : decode cX14_both 134 = .ok (.if_icmp .ge 7, 3) := by decide +kernel
theorem dX14_both_137 : decode cX14_both 137 = .ok (.iconst 1, 1) := by decide +kernel
theorem dX14_both_138 : decode cX14_both 138 = .ok (.goto 4, 3) := by decide +kernel
theorem dX14_both_141 : decode cX14_both 141 = .ok (.iconst 0, 1) := by decide +kernel
theorem dX14_both_142 : decode cX14_both 142 = .ok (.ireturn, 1) := by decide +kernel
theorem dX14_both_143 : decode cX14_both 143 = .ok (.iload_n 1, 1) := by decide +kernel
theorem dX14_both_144 : decode cX14_both 144 = .ok (.iload_n 2, 1) := by decide +kernel
theorem dX14_both_145 : decode cX14_both 145 = .ok (.if_icmp .le 7, 3) := by decide +kernel
theorem dX14_both_148 : decode cX14_both 148 = .ok (.iconst 1, 1) := by decide +kernel
theorem dX14_both_149 : decode cX14_both 149 = .ok (.goto 4, 3) := by decide +kernel
theorem dX14_both_152 : decode cX14_both 152 = .ok (.iconst 0, 1) := by decide +kernel
theorem dX14_both_153 : decode cX14_both 153 = .ok (.ireturn, 1) := by decide +kernel
theorem dX14_both_154 : decode cX14_both 154 = .ok (.iload_n 1, 1) := by decide +kernel
theorem dX14_both_155 : decode cX14_both 155 = .ok (.iload_n 2, 1) := by decide +kernel
theorem dX14_both_156 : decode cX14_both 156 = .ok (.if_icmp .ne 7, 3) := by decide +kernel
theorem dX14_both_159 : decode cX14_both 159 = .ok (.iconst 1, 1) := by decide +kernel
theorem dX14_both_160 : decode cX14_both 160 = .ok (.goto 4, 3) := by decide +kernel
theorem dX14_both_163 : decode cX14_both 163 = .ok (.iconst 0, 1) := by decide +kernel
theorem dX14_both_164 : decode cX14_both 164 = .ok (.ireturn, 1) := by decide +kernel
theorem dX14_both_165 : decode cX14_both 165 = .ok (.iload_n 1, 1) := by decide +kernel
theorem dX14_both_166 : decode cX14_both 166 = .ok (.iload_n 2, 1) := by decide +kernel
theorem dX14_both_167 : decode cX14_both 167 = .ok (.if_icmp .gt 7, 3) := by decide +kernel
theorem dX14_both_170 : decode cX14_both 170 = .ok (.iconst 1, 1) := by decide +kernel
theorem dX14_both_171 : decode cX14_both 171 = .ok (.goto 4, 3) := by decide +kernel
theorem dX14_both_174 : decode cX14_both 174 = .ok (.iconst 0, 1) := by decide +kernel
theorem dX14_both_175 : decode cX14_both 175 = .ok (.ireturn, 1) := by decide +kernel
theorem dX14_both_176 : decode cX14_both 176 = .ok (.iload_n 1, 1) := by decide +kernel
theorem dX14_both_177 : decode cX14_both 177 = .ok (.iload_n 2, 1) := by decide +kernel
theorem dX14_both_178 : decode cX14_both 178 = .ok (.if_icmp .lt 7, 3) := by decide +kernel
theorem dX14_both_181 : decode cX14_both 181 = .ok (.iconst 1, 1) := by decide +kernel
theorem dX14_both_182 : decode cX14_both 182 = .ok (.goto 4, 3) := by decide +kernel
theorem dX14_both_185 : decode cX14_both 185 = .ok (.iconst 0, 1) := by decide +kernel
theorem dX14_both_186 : decode cX14_both 186 = .ok (.ireturn, 1) := by decide +kernel
theorem dX14_both_187 : decode cX14_both 187 = .ok (.iload_n 1, 1) := by decide +kernel
theorem dX14_both_188 : decode cX14_both 188 = .ok (.iload_n 2, 1) := by decide +kernel
theorem dX14_both_189 : decode cX14_both 189 = .ok (.iand, 1) := by decide +kernel
theorem dX14_both_190 : decode cX14_both 190 = .ok (.ireturn, 1) := by decide +kernel
theorem dX14_both_191 : decode cX14_both 191 = .ok (.iload_n 1, 1) := by decide +kernel
theorem dX14_both_192 : decode cX14_both 192 = .ok (.iload_n 2, 1) := by decide +kernel
theorem dX14_both_193 : decode cX14_both 193 = .ok (.ior, 1) := by decide +kernel
theorem dX14_both_194 : decode cX14_both 194 = .ok (.ireturn, 1) := by decide +kernel
theorem dX14_isLetter_0 : decode cX14_isLetter 0 = .ok (.iload_n 0, 1) := by decide +kernel
theorem dX14_isLetter_1 : decode cX14_isLetter 1 = .ok (.bipush 97, 2) := by decide +kernel
theorem dX14_isLetter_3 : decode cX14_isLetter 3 = .ok (.if_icmp .lt 13, 3) := by decide +kernel
theorem dX14_isLetter_6 : decode cX14_isLetter 6 = .ok (.iload_n 0, 1) := by decide +kernel
theorem dX14_isLetter_7 : decode cX14_isLetter 7 = .ok (.bipush 122, 2) := by decide +kernel
theorem dX14_isLetter_9 : decode cX14_isLetter 9 = .ok (.if_icmp .gt 7, 3) := by decide +kernel
theorem dX14_isLetter_12 : decode cX14_isLetter 12 = .ok (.iconst 1, 1) := by decide +kernel
theorem dX14_isLetter_13 : decode cX14_isLetter 13 = .ok (.goto 4, 3) := by decide +kernel
theorem dX14_isLetter_16 : decode cX14_isLetter 16 = .ok (.iconst 0, 1) := by decide +kernel
theorem dX14_isLetter_17 : decode cX14_isLetter 17 = .ok (.ireturn, 1) := by decide +kernel
theorem dX14_isDigit_0 : decode cX14_isDigit 0 = .ok (.iload_n 0, 1) := by decide +kernel
theorem dX14_isDigit_1 : decode cX14_isDigit 1 = .ok (.bipush 48, 2) := by decide +kernel
theorem dX14_isDigit_3 : decode cX14_isDigit 3 = .ok (.if_icmp .lt 13, 3) := by decide +kernel
theorem dX14_isDigit_6 : decode cX14_isDigit 6 = .ok (.iload_n 0, 1) := by decide +kernel
theorem dX14_isDigit_7 : decode cX14_isDigit 7 = .ok (.bipush 57, 2) := by decide +kernel
theorem dX14_isDigit_9 : decode cX14_isDigit 9 = .ok (.if_icmp .gt 7, 3) := by decide +kernel
theorem dX14_isDigit_12 : decode cX14_isDigit 12 = .ok (.iconst 1, 1) := by decide +kernel
theorem dX14_isDigit_13 : decode cX14_isDigit 13 = .ok (.goto 4, 3) := by decide +kernel
theorem dX14_isDigit_16 : decode cX14_isDigit 16 = .ok (.iconst 0, 1) := by decide +kernel
theorem dX14_isDigit_17 : decode cX14_isDigit 17 = .ok (.ireturn, 1) := by decide +kernel
theorem dX14_byteOf_0 : decode cX14_byteOf 0 = .ok (.iload_n 1, 1) := by decide +kernel
theorem dX14_byteOf_1 : decode cX14_byteOf 1 = .ok (.aload_n 0, 1) := by decide +kernel
theorem dX14_byteOf_2 : decode cX14_byteOf 2 = .ok (.getfield 79, 3) := by decide +kernel
theorem dX14_byteOf_5 : decode cX14_byteOf 5 = .ok (.if_icmp .ge 12, 3) := by decide +kernel
theorem dX14_byteOf_8 : decode cX14_byteOf 8 = .ok (.aload_n 0, 1) := by decide +kernel
theorem dX14_byteOf_9 : decode cX14_byteOf 9 = .ok (.getfield 9, 3) := by decide +kernel
theorem dX14_byteOf_12 : decode cX14_byteOf 12 = .ok (.iload_n 1, 1) := by decide +kernel
theorem dX14_byteOf_13 : decode cX14_byteOf 13 = .ok (.iaload, 1) := by decide +kernel
theorem dX14_byteOf_14 : decode cX14_byteOf 14 = .ok (.goto 4, 3) := by decide +kernel
theorem dX14_byteOf_17 : decode cX14_byteOf 17 = .ok (.iconst (-1), 1) := by decide +kernel
theorem dX14_byteOf_18 : decode cX14_byteOf 18 = .ok (.ireturn, 1) := by decide +kernel
theorem dX14_kindAt_0 : decode cX14_kindAt 0 = .ok (.aload_n 0, 1) := by decide +kernel
theorem dX14_kindAt_1 : decode cX14_kindAt 1 = .ok (.iload_n 1, 1) := by decide +kernel
theorem dX14_kindAt_2 : decode cX14_kindAt 2 = .ok (.invokevirtual 82, 3) := by decide +kernel
theorem dX14_kindAt_5 : decode cX14_kindAt 5 = .ok (.istore_n 3, 1) := by decide +kernel
theorem dX14_kindAt_6 : decode cX14_kindAt 6 = .ok (.iload_n 1, 1) := by decide +kernel
theorem dX14_kindAt_7 : decode cX14_kindAt 7 = .ok (.iconst 1, 1) := by decide +kernel
theorem dX14_kindAt_8 : decode cX14_kindAt 8 = .ok (.iadd, 1) := by decide +kernel
theorem dX14_kindAt_9 : decode cX14_kindAt 9 = .ok (.istore 4, 2) := by decide +kernel
theorem dX14_kindAt_11 : decode cX14_kindAt 11 = .ok (.iload_n 3, 1) := by decide +kernel
theorem dX14_kindAt_12 : decode cX14_kindAt 12 = .ok (.iconst (-1), 1) := by decide +kernel
theorem dX14_kindAt_13 : decode cX14_kindAt 13 = .ok (.if_icmp .ne 7, 3) := by decide +kernel
theorem dX14_kindAt_16 : decode cX14_kindAt 16 = .ok (.sipush 900, 3) := by decide +kernel
theorem dX14_kindAt_19 : decode cX14_kindAt 19 = .ok (.ireturn, 1) := by decide +kernel
theorem dX14_kindAt_20 : decode cX14_kindAt 20 = .ok (.iload_n 3, 1) := by decide +kernel
theorem dX14_kindAt_21 : decode cX14_kindAt 21 = .ok (.invokestatic 86, 3) := by decide +kernel
theorem dX14_kindAt_24 : decode cX14_kindAt 24 = .ok (.ifCond .ne 10, 3) := by decide +kernel
theorem dX14_kindAt_27 : decode cX14_kindAt 27 = .ok (.iload_n 3, 1) := by decide +kernel
theorem dX14_kindAt_28 : decode cX14_kindAt 28 = .ok (.invokestatic 90, 3) := by decide +kernel
theorem dX14_kindAt_31 : decode cX14_kindAt 31 = .ok (.ifCond .eq 97, 3) := by decide +kernel
theorem dX14_kindAt_34 : decode cX14_kindAt 34 = .ok (.aload_n 0, 1) := by decide +kernel
theorem dX14_kindAt_35 : decode cX14_kindAt 35 = .ok (.iload 4, 2) := by decide +kernel
theorem dX14_kindAt_37 : decode cX14_kindAt 37 = .ok (.invokevirtual 82, 3) := by decide +kernel
theorem dX14_kindAt_40 : decode cX14_kindAt 40 = .ok (.invokestatic 90, 3) := by decide +kernel
theorem dX14_kindAt_43 : decode cX14_kindAt 43 = .ok (.ifCond .ne 22, 3) := by decide +kernel
theorem dX14_kindAt_46 : decode cX14_kindAt 46 = .ok (.iload_n 3, 1) := by decide +kernel
theorem dX14_kindAt_47 : decode cX14_kindAt 47 = .ok (.invokestatic 86, 3) := by decide +kernel
theorem dX14_kindAt_50 : decode cX14_kindAt 50 = .ok (.ifCond .eq 21, 3) := by decide +kernel
theorem dX14_kindAt_53 : decode cX14_kindAt 53 = .ok (.aload_n 0, 1) := by decide +kernel
theorem dX14_kindAt_54 : decode cX14_kindAt 54 = .ok (.iload 4, 2) := by decide +kernel
theorem dX14_kindAt_56 : decode cX14_kindAt 56 = .ok (.invokevirtual 82, 3) := by decide +kernel
theorem dX14_kindAt_59 : decode cX14_kindAt 59 = .ok (.invokestatic 86, 3) := by decide +kernel
theorem dX14_kindAt_62 : decode cX14_kindAt 62 = .ok (.ifCond .eq 9, 3) := by decide +kernel
theorem dX14_kindAt_65 : decode cX14_kindAt 65 = .ok (.iinc 4 1, 3) := by decide +kernel
theorem dX14_kindAt_68 : decode cX14_kindAt 68 = .ok (.goto (-34), 3) := by decide +kernel
theorem dX14_kindAt_71 : decode cX14_kindAt 71 = .ok (.aload_n 0, 1) := by decide +kernel
theorem dX14_kindAt_72 : decode cX14_kindAt 72 = .ok (.getfield 23, 3) := by decide +kernel
theorem dX14_kindAt_75 : decode cX14_kindAt 75 = .ok (.iload_n 2, 1) := by decide +kernel
theorem dX14_kindAt_76 : decode cX14_kindAt 76 = .ok (.iload 4, 2) := by decide +kernel
theorem dX14_kindAt_78 : decode cX14_kindAt 78 = .ok (.iload_n 1, 1) := by decide +kernel
theorem dX14_kindAt_79 : decode cX14_kindAt 79 = .ok (.isub, 1) := by decide +kernel
theorem dX14_kindAt_80 : decode cX14_kindAt 80 = .ok (.iastore, 1) := by decide +kernel
theorem dX14_kindAt_81 : decode cX14_kindAt 81 = .ok (.iload 4, 2) := by decide +kernel
theorem dX14_kindAt_83 : decode cX14_kindAt 83 = .ok (.iload_n 1, 1) := by decide +kernel
theorem dX14_kindAt_84 : decode cX14_kindAt 84 = .ok (.isub, 1) := by decide +kernel
theorem dX14_kindAt_85 : decode cX14_kindAt 85 = .ok (.iload_n 3, 1) := by decide +kernel
theorem dX14_kindAt_86 : decode cX14_kindAt 86 = .ok (.invokestatic 86, 3) := by decide +kernel
theorem dX14_kindAt_89 : decode cX14_kindAt 89 = .ok (.ifCond .eq 8, 3) := by decide +kernel
theorem dX14_kindAt_92 : decode cX14_kindAt 92 = .ok (.bipush 10, 2) := by decide +kernel
theorem dX14_kindAt_94 : decode cX14_kindAt 94 = .ok (.goto 5, 3) := by decide +kernel
theorem dX14_kindAt_97 : decode cX14_kindAt 97 = .ok (.bipush 6, 2) := by decide +kernel
theorem dX14_kindAt_99 : decode cX14_kindAt 99 = .ok (.if_icmp .le 7, 3) := by decide +kernel
theorem dX14_kindAt_102 : decode cX14_kindAt 102 = .ok (.sipush 901, 3) := by decide +kernel
theorem dX14_kindAt_105 : decode cX14_kindAt 105 = .ok (.ireturn, 1) := by decide +kernel
theorem dX14_kindAt_106 : decode cX14_kindAt 106 = .ok (.iload_n 3, 1) := by decide +kernel
theorem dX14_kindAt_107 : decode cX14_kindAt 107 = .ok (.invokestatic 86, 3) := by decide +kernel
theorem dX14_kindAt_110 : decode cX14_kindAt 110 = .ok (.ifCond .eq 15, 3) := by decide +kernel
theorem dX14_kindAt_113 : decode cX14_kindAt 113 = .ok (.aload_n 0, 1) := by decide +kernel
theorem dX14_kindAt_114 : decode cX14_kindAt 114 = .ok (.iload_n 1, 1) := by decide +kernel
theorem dX14_kindAt_115 : decode cX14_kindAt 115 = .ok (.iload 4, 2) := by decide +kernel
theorem dX14_kindAt_117 : decode cX14_kindAt 117 = .ok (.iload_n 1, 1) := by decide +kernel
theorem dX14_kindAt_118 : decode cX14_kindAt 118 = .ok (.isub, 1) := by decide +kernel
theorem dX14_kindAt_119 : decode cX14_kindAt 119 = .ok (.invokevirtual 93, 3) := by decide +kernel
theorem dX14_kindAt_122 : decode cX14_kindAt 122 = .ok (.goto 5, 3) := by decide +kernel
theorem dX14_kindAt_125 : decode cX14_kindAt 125 = .ok (.bipush 41, 2) := by decide +kernel
theorem dX14_kindAt_127 : decode cX14_kindAt 127 = .ok (.ireturn, 1) := by decide +kernel
theorem dX14_kindAt_128 : decode cX14_kindAt 128 = .ok (.iload_n 3, 1) := by decide +kernel
theorem dX14_kindAt_129 : decode cX14_kindAt 129 = .ok (.bipush 60, 2) := by decide +kernel
theorem dX14_kindAt_131 : decode cX14_kindAt 131 = .ok (.if_icmp .eq 9, 3) := by decide +kernel
theorem dX14_kindAt_134 : decode cX14_kindAt 134 = .ok (.iload_n 3, 1) := by decide +kernel
theorem dX14_kindAt_135 : decode cX14_kindAt 135 = .ok (.bipush 62, 2) := by decide +kernel
theorem dX14_kindAt_137 : decode cX14_kindAt 137 = .ok (.if_icmp .ne 18, 3) := by decide +kernel
theorem dX14_kindAt_140 : decode cX14_kindAt 140 = .ok (.aload_n 0, 1) := by decide +kernel
theorem dX14_kindAt_141 : decode cX14_kindAt 141 = .ok (.iload 4, 2) := by decide +kernel
theorem dX14_kindAt_143 : decode cX14_kindAt 143 = .ok (.invokevirtual 82, 3) := by decide +kernel
theorem dX14_kindAt_146 : decode cX14_kindAt 146 = .ok (.bipush 61, 2) := by decide +kernel
theorem dX14_kindAt_148 : decode cX14_kindAt 148 = .ok (.if_icmp .ne 7, 3) := by decide +kernel
theorem dX14_kindAt_151 : decode cX14_kindAt 151 = .ok (.iconst 1, 1) := by decide +kernel
theorem dX14_kindAt_152 : decode cX14_kindAt 152 = .ok (.goto 4, 3) := by decide +kernel
theorem dX14_kindAt_155 : decode cX14_kindAt 155 = .ok (.iconst 0, 1) := by decide +kernel
theorem dX14_kindAt_156 : decode cX14_kindAt 156 = .ok (.istore 5, 2) := by decide +kernel
theorem dX14_kindAt_158 : decode cX14_kindAt 158 = .ok (.aload_n 0, 1) := by decide +kernel
theorem dX14_kindAt_159 : decode cX14_kindAt 159 = .ok (.getfield 23, 3) := by decide +kernel
theorem dX14_kindAt_162 : decode cX14_kindAt 162 = .ok (.iload_n 2, 1) := by decide +kernel
theorem dX14_kindAt_163 : decode cX14_kindAt 163 = .ok (.iload 5, 2) := by decide +kernel
theorem dX14_kindAt_165 : decode cX14_kindAt 165 = .ok (.ifCond .eq 7, 3) := by decide +kernel
theorem dX14_kindAt_168 : decode cX14_kindAt 168 = .ok (.iconst 2, 1) := by decide +kernel
theorem dX14_kindAt_169 : decode cX14_kindAt 169 = .ok (.goto 4, 3) := by decide +kernel
theorem dX14_kindAt_172 : decode cX14_kindAt 172 = .ok (.iconst 1, 1) := by decide +kernel
theorem dX14_kindAt_173 : decode cX14_kindAt 173 = .ok (.iastore, 1) := by decide +kernel
theorem dX14_kindAt_174 : decode cX14_kindAt 174 = .ok (.iload 5, 2) := by decide +kernel
theorem dX14_kindAt_176 : decode cX14_kindAt 176 = .ok (.ifCond .eq 19, 3) := by decide +kernel
theorem dX14_kindAt_179 : decode cX14_kindAt 179 = .ok (.iload_n 3, 1) := by decide +kernel
theorem dX14_kindAt_180 : decode cX14_kindAt 180 = .ok (.bipush 60, 2) := by decide +kernel
theorem dX14_kindAt_182 : decode cX14_kindAt 182 = .ok (.if_icmp .ne 9, 3) := by decide +kernel
theorem dX14_kindAt_185 : decode cX14_kindAt 185 = .ok (.sipush 300, 3) := by decide +kernel
theorem dX14_kindAt_188 : decode cX14_kindAt 188 = .ok (.goto 6, 3) := by decide +kernel
theorem dX14_kindAt_191 : decode cX14_kindAt 191 = .ok (.sipush 301, 3) := by decide +kernel
theorem dX14_kindAt_194 : decode cX14_kindAt 194 = .ok (.ireturn, 1) := by decide +kernel
theorem dX14_kindAt_195 : decode cX14_kindAt 195 = .ok (.iload_n 3, 1) := by decide +kernel
theorem dX14_kindAt_196 : decode cX14_kindAt 196 = .ok (.ifCond .le 27, 3) := by decide +kernel
theorem dX14_kindAt_199 : decode cX14_kindAt 199 = .ok (.iload_n 3, 1) := by decide +kernel
theorem dX14_kindAt_200 : decode cX14_kindAt 200 = .ok (.sipush 128, 3) := by decide +kernel
theorem dX14_kindAt_203 : decode cX14_kindAt 203 = .ok (.if_icmp .ge 20, 3) := by decide +kernel
theorem dX14_kindAt_206 : decode cX14_kindAt 206 = .ok (.ldc 96, 2) := by decide +kernel
theorem dX14_kindAt_208 : decode cX14_kindAt 208 = .ok (.iload_n 3, 1) := by decide +kernel
theorem dX14_kindAt_209 : decode cX14_kindAt 209 = .ok (.i2c, 1) := by decide +kernel
theorem dX14_kindAt_210 : decode cX14_kindAt 210 = .ok (.invokevirtual 98, 3) := by decide +kernel
theorem dX14_kindAt_213 : decode cX14_kindAt 213 = .ok (.ifCond .lt 10, 3) := by decide +kernel
theorem dX14_kindAt_216 : decode cX14_kindAt 216 = .ok (.bipush 50, 2) := by decide +kernel
theorem dX14_kindAt_218 : decode cX14_kindAt 218 = .ok (.iload_n 3, 1) := by decide +kernel
theorem dX14_kindAt_219 : decode cX14_kindAt 219 = .ok (.iadd, 1) := by decide +kernel
theorem dX14_kindAt_220 : decode cX14_kindAt 220 = .ok (.goto 6, 3) := by decide +kernel
theorem dX14_kindAt_223 : decode cX14_kindAt 223 = .ok (.sipush 901, 3) := by decide +kernel
theorem dX14_kindAt_226 : decode cX14_kindAt 226 = .ok (.ireturn, 1) := by decide +kernel
theorem dX14_word_0 : decode cX14_word 0 = .ok (.iconst 0, 1) := by decide +kernel
theorem dX14_word_1 : decode cX14_word 1 = .ok (.istore_n 3, 1) := by decide +kernel
theorem dX14_word_2 : decode cX14_word 2 = .ok (.iload_n 3, 1) := by decide +kernel
theorem dX14_word_3 : decode cX14_word 3 = .ok (.getstatic 103, 3) := by decide +kernel
theorem dX14_word_6 : decode cX14_word 6 = .ok (.arraylength, 1) := by decide +kernel
theorem dX14_word_7 : decode cX14_word 7 = .ok (.if_icmp .ge 84, 3) := by decide +kernel
theorem dX14_word_10 : decode cX14_word 10 = .ok (.getstatic 103, 3) := by decide +kernel
theorem dX14_word_13 : decode cX14_word 13 = .ok (.iload_n 3, 1) := by decide +kernel
theorem dX14_word_14 : decode cX14_word 14 = .ok (.aaload, 1) := by decide +kernel
theorem dX14_word_15 : decode cX14_word 15 = .ok (.invokevirtual 107, 3) := by decide +kernel
theorem dX14_word_18 : decode cX14_word 18 = .ok (.iload_n 2, 1) := by decide +kernel
theorem dX14_word_19 : decode cX14_word 19 = .ok (.if_icmp .ne 7, 3) := by decide +kernel
theorem dX14_word_22 : decode cX14_word 22 = .ok (.iconst 1, 1) := by decide +kernel
theorem dX14_word_23 : decode cX14_word 23 = .ok (.goto 4, 3) := by decide +kernel
theorem dX14_word_26 : decode cX14_word 26 = .ok (.iconst 0, 1) := by decide +kernel
theorem dX14_word_27 : decode cX14_word 27 = .ok (.istore 4, 2) := by decide +kernel
theorem dX14_word_29 : decode cX14_word 29 = .ok (.iconst 0, 1) := by decide +kernel
theorem dX14_word_30 : decode cX14_word 30 = .ok (.istore 5, 2) := by decide +kernel
theorem dX14_word_32 : decode cX14_word 32 = .ok (.iload 4, 2) := by decide +kernel
theorem dX14_word_34 : decode cX14_word 34 = .ok (.ifCond .eq 44, 3) := by decide +kernel
theorem dX14_word_37 : decode cX14_word 37 = .ok (.iload 5, 2) := by decide +kernel
theorem dX14_word_39 : decode cX14_word 39 = .ok (.iload_n 2, 1) := by decide +kernel
theorem dX14_word_40 : decode cX14_word 40 = .ok (.if_icmp .ge 38, 3) := by decide +kernel
theorem dX14_word_43 : decode cX14_word 43 = .ok (.getstatic 103, 3) := by decide +kernel
theorem dX14_word_46 : decode cX14_word 46 = .ok (.iload_n 3, 1) := by decide +kernel
theorem dX14_word_47 : decode cX14_word 47 = .ok (.aaload, 1) := by decide +kernel
theorem dX14_word_48 : decode cX14_word 48 = .ok (.iload 5, 2) := by decide +kernel
theorem dX14_word_50 : decode cX14_word 50 = .ok (.invokevirtual 111, 3) := by decide +kernel
theorem dX14_word_53 : decode cX14_word 53 = .ok (.aload_n 0, 1) := by decide +kernel
theorem dX14_word_54 : decode cX14_word 54 = .ok (.getfield 9, 3) := by decide +kernel
theorem dX14_word_57 : decode cX14_word 57 = .ok (.iload_n 1, 1) := by decide +kernel
theorem dX14_word_58 : decode cX14_word 58 = .ok (.iload 5, 2) := by decide +kernel
theorem dX14_word_60 : decode cX14_word 60 = .ok (.iadd, 1) := by decide +kernel
theorem dX14_word_61 : decode cX14_word 61 = .ok (.iaload, 1) := by decide +kernel
theorem dX14_word_62 : decode cX14_word 62 = .ok (.if_icmp .ne 7, 3) := by decide +kernel
theorem dX14_word_65 : decode cX14_word 65 = .ok (.iconst 1, 1) := by decide +kernel
theorem dX14_word_66 : decode cX14_word 66 = .ok (.goto 4, 3) := by decide +kernel
theorem dX14_word_69 : decode cX14_word 69 = .ok (.iconst 0, 1) := by decide +kernel
theorem dX14_word_70 : decode cX14_word 70 = .ok (.istore 4, 2) := by decide +kernel
theorem dX14_word_72 : decode cX14_word 72 = .ok (.iinc 5 1, 3) := by decide +kernel
theorem dX14_word_75 : decode cX14_word 75 = .ok (.goto (-43), 3) := by decide +kernel
theorem dX14_word_78 : decode cX14_word 78 = .ok (.iload 4, 2) := by decide +kernel
theorem dX14_word_80 : decode cX14_word 80 = .ok (.ifCond .eq 5, 3) := by decide +kernel
theorem dX14_word_83 : decode cX14_word 83 = .ok (.iload_n 3, 1) := by decide +kernel
theorem dX14_word_84 : decode cX14_word 84 = .ok (.ireturn, 1) := by decide +kernel
theorem dX14_word_85 : decode cX14_word 85 = .ok (.iinc 3 1, 3) := by decide +kernel
theorem dX14_word_88 : decode cX14_word 88 = .ok (.goto (-86), 3) := by decide +kernel
theorem dX14_word_91 : decode cX14_word 91 = .ok (.bipush 40, 2) := by decide +kernel
theorem dX14_word_93 : decode cX14_word 93 = .ok (.ireturn, 1) := by decide +kernel
theorem dX14_cut_0 : decode cX14_cut 0 = .ok (.iconst 0, 1) := by decide +kernel
theorem dX14_cut_1 : decode cX14_cut 1 = .ok (.istore_n 1, 1) := by decide +kernel
theorem dX14_cut_2 : decode cX14_cut 2 = .ok (.iconst 0, 1) := by decide +kernel
theorem dX14_cut_3 : decode cX14_cut 3 = .ok (.istore_n 2, 1) := by decide +kernel
theorem dX14_cut_4 : decode cX14_cut 4 = .ok (.iload_n 2, 1) := by decide +kernel
theorem dX14_cut_5 : decode cX14_cut 5 = .ok (.sipush 400, 3) := by decide +kernel
theorem dX14_cut_8 : decode cX14_cut 8 = .ok (.if_icmp .gt 118, 3) := by decide +kernel
theorem dX14_cut_11 : decode cX14_cut 11 = .ok (.aload_n 0, 1) := by decide +kernel
theorem dX14_cut_12 : decode cX14_cut 12 = .ok (.iload_n 1, 1) := by decide +kernel
theorem dX14_cut_13 : decode cX14_cut 13 = .ok (.invokevirtual 82, 3) := by decide +kernel
theorem dX14_cut_16 : decode cX14_cut 16 = .ok (.bipush 32, 2) := by decide +kernel
theorem dX14_cut_18 : decode cX14_cut 18 = .ok (.if_icmp .eq 13, 3) := by decide +kernel
theorem dX14_cut_21 : decode cX14_cut 21 = .ok (.aload_n 0, 1) := by decide +kernel
theorem dX14_cut_22 : decode cX14_cut 22 = .ok (.iload_n 1, 1) := by decide +kernel
theorem dX14_cut_23 : decode cX14_cut 23 = .ok (.invokevirtual 82, 3) := by decide +kernel
theorem dX14_cut_26 : decode cX14_cut 26 = .ok (.bipush 10, 2) := by decide +kernel
theorem dX14_cut_28 : decode cX14_cut 28 = .ok (.if_icmp .ne 9, 3) := by decide +kernel
theorem dX14_cut_31 : decode cX14_cut 31 = .ok (.iinc 1 1, 3) := by decide +kernel
theorem dX14_cut_34 : decode cX14_cut 34 = .ok (.goto (-23), 3) := by decide +kernel
theorem dX14_cut_37 : decode cX14_cut 37 = .ok (.aload_n 0, 1) := by decide +kernel
theorem dX14_cut_38 : decode cX14_cut 38 = .ok (.getfield 20, 3) := by decide +kernel
theorem dX14_cut_41 : decode cX14_cut 41 = .ok (.iload_n 2, 1) := by decide +kernel
theorem dX14_cut_42 : decode cX14_cut 42 = .ok (.iload_n 1, 1) := by decide +kernel
theorem dX14_cut_43 : decode cX14_cut 43 = .ok (.iastore, 1) := by decide +kernel
theorem dX14_cut_44 : decode cX14_cut 44 = .ok (.aload_n 0, 1) := by decide +kernel
theorem dX14_cut_45 : decode cX14_cut 45 = .ok (.getfield 26, 3) := by decide +kernel
theorem dX14_cut_48 : decode cX14_cut 48 = .ok (.iload_n 2, 1) := by decide +kernel
theorem dX14_cut_49 : decode cX14_cut 49 = .ok (.iconst 0, 1) := by decide +kernel
theorem dX14_cut_50 : decode cX14_cut 50 = .ok (.iastore, 1) := by decide +kernel
theorem dX14_cut_51 : decode cX14_cut 51 = .ok (.aload_n 0, 1) := by decide +kernel
theorem dX14_cut_52 : decode cX14_cut 52 = .ok (.getfield 29, 3) := by decide +kernel
theorem dX14_cut_55 : decode cX14_cut 55 = .ok (.iload_n 2, 1) := by decide +kernel
theorem dX14_cut_56 : decode cX14_cut 56 = .ok (.iconst 0, 1) := by decide +kernel
theorem dX14_cut_57 : decode cX14_cut 57 = .ok (.iastore, 1) := by decide +kernel
theorem dX14_cut_58 : decode cX14_cut 58 = .ok (.aload_n 0, 1) := by decide +kernel
theorem dX14_cut_59 : decode cX14_cut 59 = .ok (.getfield 17, 3) := by decide +kernel
theorem dX14_cut_62 : decode cX14_cut 62 = .ok (.iload_n 2, 1) := by decide +kernel
theorem dX14_cut_63 : decode cX14_cut 63 = .ok (.aload_n 0, 1) := by decide +kernel
theorem dX14_cut_64 : decode cX14_cut 64 = .ok (.iload_n 1, 1) := by decide +kernel
theorem dX14_cut_65 : decode cX14_cut 65 = .ok (.iload_n 2, 1) := by decide +kernel
theorem dX14_cut_66 : decode cX14_cut 66 = .ok (.invokevirtual 115, 3) := by decide +kernel
theorem dX14_cut_69 : decode cX14_cut 69 = .ok (.iastore, 1) := by decide +kernel
theorem dX14_cut_70 : decode cX14_cut 70 = .ok (.iload_n 2, 1) := by decide +kernel
theorem dX14_cut_71 : decode cX14_cut 71 = .ok (.sipush 400, 3) := by decide +kernel
theorem dX14_cut_74 : decode cX14_cut 74 = .ok (.if_icmp .ne 24, 3) := by decide +kernel
theorem dX14_cut_77 : decode cX14_cut 77 = .ok (.aload_n 0, 1) := by decide +kernel
theorem dX14_cut_78 : decode cX14_cut 78 = .ok (.getfield 17, 3) := by decide +kernel
theorem dX14_cut_81 : decode cX14_cut 81 = .ok (.iload_n 2, 1) := by decide +kernel
theorem dX14_cut_82 : decode cX14_cut 82 = .ok (.iaload, 1) := by decide +kernel
theorem dX14_cut_83 : decode cX14_cut 83 = .ok (.sipush 900, 3) := by decide +kernel
theorem dX14_cut_86 : decode cX14_cut 86 = .ok (.if_icmp .eq 12, 3) := by decide +kernel
theorem dX14_cut_89 : decode cX14_cut 89 = .ok (.aload_n 0, 1) := by decide +kernel
theorem dX14_cut_90 : decode cX14_cut 90 = .ok (.getfield 17, 3) := by decide +kernel
theorem dX14_cut_93 : decode cX14_cut 93 = .ok (.iload_n 2, 1) := by decide +kernel
theorem dX14_cut_94 : decode cX14_cut 94 = .ok (.sipush 901, 3) := by decide +kernel
theorem dX14_cut_97 : decode cX14_cut 97 = .ok (.iastore, 1) := by decide +kernel
