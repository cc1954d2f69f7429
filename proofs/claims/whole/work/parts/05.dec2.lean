theorem dX14_cut_98 : decode cX14_cut 98 = .ok (.aload_n 0, 1) := by decide +kernel
theorem dX14_cut_99 : decode cX14_cut 99 = .ok (.getfield 17, 3) := by decide +kernel
theorem dX14_cut_102 : decode cX14_cut 102 = .ok (.iload_n 2, 1) := by decide +kernel
theorem dX14_cut_103 : decode cX14_cut 103 = .ok (.iaload, 1) := by decide +kernel
theorem dX14_cut_104 : decode cX14_cut 104 = .ok (.sipush 900, 3) := by decide +kernel
theorem dX14_cut_107 : decode cX14_cut 107 = .ok (.if_icmp .lt 4, 3) := by decide +kernel
theorem dX14_cut_110 : decode cX14_cut 110 = .ok (.return_, 1) := by decide +kernel
theorem dX14_cut_111 : decode cX14_cut 111 = .ok (.iload_n 1, 1) := by decide +kernel
theorem dX14_cut_112 : decode cX14_cut 112 = .ok (.aload_n 0, 1) := by decide +kernel
theorem dX14_cut_113 : decode cX14_cut 113 = .ok (.getfield 23, 3) := by decide +kernel
theorem dX14_cut_116 : decode cX14_cut 116 = .ok (.iload_n 2, 1) := by decide +kernel
theorem dX14_cut_117 : decode cX14_cut 117 = .ok (.iaload, 1) := by decide +kernel
theorem dX14_cut_118 : decode cX14_cut 118 = .ok (.iadd, 1) := by decide +kernel
theorem dX14_cut_119 : decode cX14_cut 119 = .ok (.istore_n 1, 1) := by decide +kernel
theorem dX14_cut_120 : decode cX14_cut 120 = .ok (.iinc 2 1, 3) := by decide +kernel
theorem dX14_cut_123 : decode cX14_cut 123 = .ok (.goto (-119), 3) := by decide +kernel
theorem dX14_cut_126 : decode cX14_cut 126 = .ok (.return_, 1) := by decide +kernel
theorem dX14_is_0 : decode cX14_is 0 = .ok (.aload_n 0, 1) := by decide +kernel
theorem dX14_is_1 : decode cX14_is 1 = .ok (.getfield 17, 3) := by decide +kernel
theorem dX14_is_4 : decode cX14_is 4 = .ok (.aload_n 0, 1) := by decide +kernel
theorem dX14_is_5 : decode cX14_is 5 = .ok (.getfield 118, 3) := by decide +kernel
theorem dX14_is_8 : decode cX14_is 8 = .ok (.iaload, 1) := by decide +kernel
theorem dX14_is_9 : decode cX14_is 9 = .ok (.iload_n 1, 1) := by decide +kernel
theorem dX14_is_10 : decode cX14_is 10 = .ok (.if_icmp .ne 7, 3) := by decide +kernel
theorem dX14_is_13 : decode cX14_is 13 = .ok (.iconst 1, 1) := by decide +kernel
theorem dX14_is_14 : decode cX14_is 14 = .ok (.goto 4, 3) := by decide +kernel
theorem dX14_is_17 : decode cX14_is 17 = .ok (.iconst 0, 1) := by decide +kernel
theorem dX14_is_18 : decode cX14_is 18 = .ok (.ireturn, 1) := by decide +kernel
theorem dX14_isSign_0 : decode cX14_isSign 0 = .ok (.aload_n 0, 1) := by decide +kernel
theorem dX14_isSign_1 : decode cX14_isSign 1 = .ok (.getfield 17, 3) := by decide +kernel
theorem dX14_isSign_4 : decode cX14_isSign 4 = .ok (.aload_n 0, 1) := by decide +kernel
theorem dX14_isSign_5 : decode cX14_isSign 5 = .ok (.getfield 118, 3) := by decide +kernel
theorem dX14_isSign_8 : decode cX14_isSign 8 = .ok (.iaload, 1) := by decide +kernel
theorem dX14_isSign_9 : decode cX14_isSign 9 = .ok (.bipush 50, 2) := by decide +kernel
theorem dX14_isSign_11 : decode cX14_isSign 11 = .ok (.iload_n 1, 1) := by decide +kernel
theorem dX14_isSign_12 : decode cX14_isSign 12 = .ok (.iadd, 1) := by decide +kernel
theorem dX14_isSign_13 : decode cX14_isSign 13 = .ok (.if_icmp .ne 7, 3) := by decide +kernel
theorem dX14_isSign_16 : decode cX14_isSign 16 = .ok (.iconst 1, 1) := by decide +kernel
theorem dX14_isSign_17 : decode cX14_isSign 17 = .ok (.goto 4, 3) := by decide +kernel
theorem dX14_isSign_20 : decode cX14_isSign 20 = .ok (.iconst 0, 1) := by decide +kernel
theorem dX14_isSign_21 : decode cX14_isSign 21 = .ok (.ireturn, 1) := by decide +kernel
theorem dX14_eat_0 : decode cX14_eat 0 = .ok (.aload_n 0, 1) := by decide +kernel
theorem dX14_eat_1 : decode cX14_eat 1 = .ok (.iload_n 1, 1) := by decide +kernel
theorem dX14_eat_2 : decode cX14_eat 2 = .ok (.invokevirtual 121, 3) := by decide +kernel
theorem dX14_eat_5 : decode cX14_eat 5 = .ok (.ifCond .ne 5, 3) := by decide +kernel
theorem dX14_eat_8 : decode cX14_eat 8 = .ok (.iconst 0, 1) := by decide +kernel
theorem dX14_eat_9 : decode cX14_eat 9 = .ok (.ireturn, 1) := by decide +kernel
theorem dX14_eat_10 : decode cX14_eat 10 = .ok (.aload_n 0, 1) := by decide +kernel
theorem dX14_eat_11 : decode cX14_eat 11 = .ok (.dup, 1) := by decide +kernel
theorem dX14_eat_12 : decode cX14_eat 12 = .ok (.getfield 118, 3) := by decide +kernel
theorem dX14_eat_15 : decode cX14_eat 15 = .ok (.iconst 1, 1) := by decide +kernel
theorem dX14_eat_16 : decode cX14_eat 16 = .ok (.iadd, 1) := by decide +kernel
theorem dX14_eat_17 : decode cX14_eat 17 = .ok (.putfield 118, 3) := by decide +kernel
theorem dX14_eat_20 : decode cX14_eat 20 = .ok (.iconst 1, 1) := by decide +kernel
theorem dX14_eat_21 : decode cX14_eat 21 = .ok (.ireturn, 1) := by decide +kernel
theorem dX14_eatSign_0 : decode cX14_eatSign 0 = .ok (.aload_n 0, 1) := by decide +kernel
theorem dX14_eatSign_1 : decode cX14_eatSign 1 = .ok (.bipush 50, 2) := by decide +kernel
theorem dX14_eatSign_3 : decode cX14_eatSign 3 = .ok (.iload_n 1, 1) := by decide +kernel
theorem dX14_eatSign_4 : decode cX14_eatSign 4 = .ok (.iadd, 1) := by decide +kernel
theorem dX14_eatSign_5 : decode cX14_eatSign 5 = .ok (.invokevirtual 124, 3) := by decide +kernel
theorem dX14_eatSign_8 : decode cX14_eatSign 8 = .ok (.ireturn, 1) := by decide +kernel
theorem dX14_eatAs_0 : decode cX14_eatAs 0 = .ok (.aload_n 0, 1) := by decide +kernel
theorem dX14_eatAs_1 : decode cX14_eatAs 1 = .ok (.getfield 26, 3) := by decide +kernel
theorem dX14_eatAs_4 : decode cX14_eatAs 4 = .ok (.aload_n 0, 1) := by decide +kernel
theorem dX14_eatAs_5 : decode cX14_eatAs 5 = .ok (.getfield 118, 3) := by decide +kernel
theorem dX14_eatAs_8 : decode cX14_eatAs 8 = .ok (.iload_n 2, 1) := by decide +kernel
theorem dX14_eatAs_9 : decode cX14_eatAs 9 = .ok (.iastore, 1) := by decide +kernel
theorem dX14_eatAs_10 : decode cX14_eatAs 10 = .ok (.aload_n 0, 1) := by decide +kernel
theorem dX14_eatAs_11 : decode cX14_eatAs 11 = .ok (.iload_n 1, 1) := by decide +kernel
theorem dX14_eatAs_12 : decode cX14_eatAs 12 = .ok (.invokevirtual 124, 3) := by decide +kernel
theorem dX14_eatAs_15 : decode cX14_eatAs 15 = .ok (.ireturn, 1) := by decide +kernel
theorem dX14_put_0 : decode cX14_put 0 = .ok (.aload_n 0, 1) := by decide +kernel
theorem dX14_put_1 : decode cX14_put 1 = .ok (.getfield 39, 3) := by decide +kernel
theorem dX14_put_4 : decode cX14_put 4 = .ok (.getfield 127, 3) := by decide +kernel
theorem dX14_put_7 : decode cX14_put 7 = .ok (.aload_n 0, 1) := by decide +kernel
theorem dX14_put_8 : decode cX14_put 8 = .ok (.getfield 39, 3) := by decide +kernel
theorem dX14_put_11 : decode cX14_put 11 = .ok (.getfield 130, 3) := by decide +kernel
theorem dX14_put_14 : decode cX14_put 14 = .ok (.iload_n 1, 1) := by decide +kernel
theorem dX14_put_15 : decode cX14_put 15 = .ok (.iastore, 1) := by decide +kernel
theorem dX14_put_16 : decode cX14_put 16 = .ok (.aload_n 0, 1) := by decide +kernel
theorem dX14_put_17 : decode cX14_put 17 = .ok (.getfield 39, 3) := by decide +kernel
theorem dX14_put_20 : decode cX14_put 20 = .ok (.dup, 1) := by decide +kernel
theorem dX14_put_21 : decode cX14_put 21 = .ok (.getfield 130, 3) := by decide +kernel
theorem dX14_put_24 : decode cX14_put 24 = .ok (.iconst 1, 1) := by decide +kernel
theorem dX14_put_25 : decode cX14_put 25 = .ok (.iadd, 1) := by decide +kernel
theorem dX14_put_26 : decode cX14_put 26 = .ok (.putfield 130, 3) := by decide +kernel
theorem dX14_put_29 : decode cX14_put 29 = .ok (.return_, 1) := by decide +kernel
theorem dX14_isText_0 : decode cX14_isText 0 = .ok (.aload_n 0, 1) := by decide +kernel
theorem dX14_isText_1 : decode cX14_isText 1 = .ok (.sipush 900, 3) := by decide +kernel
theorem dX14_isText_4 : decode cX14_isText 4 = .ok (.invokevirtual 121, 3) := by decide +kernel
theorem dX14_isText_7 : decode cX14_isText 7 = .ok (.ifCond .ne 89, 3) := by decide +kernel
theorem dX14_isText_10 : decode cX14_isText 10 = .ok (.aload_n 0, 1) := by decide +kernel
theorem dX14_isText_11 : decode cX14_isText 11 = .ok (.iconst 0, 1) := by decide +kernel
theorem dX14_isText_12 : decode cX14_isText 12 = .ok (.invokevirtual 121, 3) := by decide +kernel
theorem dX14_isText_15 : decode cX14_isText 15 = .ok (.ifCond .eq 10, 3) := by decide +kernel
theorem dX14_isText_18 : decode cX14_isText 18 = .ok (.aload_n 0, 1) := by decide +kernel
theorem dX14_isText_19 : decode cX14_isText 19 = .ok (.invokevirtual 132, 3) := by decide +kernel
theorem dX14_isText_22 : decode cX14_isText 22 = .ok (.goto 55, 3) := by decide +kernel
theorem dX14_isText_25 : decode cX14_isText 25 = .ok (.aload_n 0, 1) := by decide +kernel
theorem dX14_isText_26 : decode cX14_isText 26 = .ok (.iconst 3, 1) := by decide +kernel
theorem dX14_isText_27 : decode cX14_isText 27 = .ok (.invokevirtual 121, 3) := by decide +kernel
theorem dX14_isText_30 : decode cX14_isText 30 = .ok (.ifCond .eq 10, 3) := by decide +kernel
theorem dX14_isText_33 : decode cX14_isText 33 = .ok (.aload_n 0, 1) := by decide +kernel
theorem dX14_isText_34 : decode cX14_isText 34 = .ok (.invokevirtual 136, 3) := by decide +kernel
theorem dX14_isText_37 : decode cX14_isText 37 = .ok (.goto 40, 3) := by decide +kernel
theorem dX14_isText_40 : decode cX14_isText 40 = .ok (.aload_n 0, 1) := by decide +kernel
theorem dX14_isText_41 : decode cX14_isText 41 = .ok (.bipush 7, 2) := by decide +kernel
theorem dX14_isText_43 : decode cX14_isText 43 = .ok (.invokevirtual 121, 3) := by decide +kernel
theorem dX14_isText_46 : decode cX14_isText 46 = .ok (.ifCond .eq 10, 3) := by decide +kernel
theorem dX14_isText_49 : decode cX14_isText 49 = .ok (.aload_n 0, 1) := by decide +kernel
theorem dX14_isText_50 : decode cX14_isText 50 = .ok (.invokevirtual 139, 3) := by decide +kernel
theorem dX14_isText_53 : decode cX14_isText 53 = .ok (.goto 24, 3) := by decide +kernel
theorem dX14_isText_56 : decode cX14_isText 56 = .ok (.aload_n 0, 1) := by decide +kernel
theorem dX14_isText_57 : decode cX14_isText 57 = .ok (.bipush 10, 2) := by decide +kernel
theorem dX14_isText_59 : decode cX14_isText 59 = .ok (.invokevirtual 121, 3) := by decide +kernel
theorem dX14_isText_62 : decode cX14_isText 62 = .ok (.ifCond .eq 14, 3) := by decide +kernel
theorem dX14_isText_65 : decode cX14_isText 65 = .ok (.aload_n 0, 1) := by decide +kernel
theorem dX14_isText_66 : decode cX14_isText 66 = .ok (.invokevirtual 142, 3) := by decide +kernel
theorem dX14_isText_69 : decode cX14_isText 69 = .ok (.ifCond .eq 7, 3) := by decide +kernel
theorem dX14_isText_72 : decode cX14_isText 72 = .ok (.iconst 1, 1) := by decide +kernel
theorem dX14_isText_73 : decode cX14_isText 73 = .ok (.goto 4, 3) := by decide +kernel
theorem dX14_isText_76 : decode cX14_isText 76 = .ok (.iconst 0, 1) := by decide +kernel
theorem dX14_isText_77 : decode cX14_isText 77 = .ok (.istore_n 1, 1) := by decide +kernel
theorem dX14_isText_78 : decode cX14_isText 78 = .ok (.iload_n 1, 1) := by decide +kernel
theorem dX14_isText_79 : decode cX14_isText 79 = .ok (.ifCond .eq 12, 3) := by decide +kernel
theorem dX14_isText_82 : decode cX14_isText 82 = .ok (.aload_n 0, 1) := by decide +kernel
theorem dX14_isText_83 : decode cX14_isText 83 = .ok (.bipush 59, 2) := by decide +kernel
theorem dX14_isText_85 : decode cX14_isText 85 = .ok (.invokevirtual 145, 3) := by decide +kernel
theorem dX14_isText_88 : decode cX14_isText 88 = .ok (.ifCond .ne 5, 3) := by decide +kernel
theorem dX14_isText_91 : decode cX14_isText 91 = .ok (.iconst 0, 1) := by decide +kernel
theorem dX14_isText_92 : decode cX14_isText 92 = .ok (.ireturn, 1) := by decide +kernel
theorem dX14_isText_93 : decode cX14_isText 93 = .ok (.goto (-93), 3) := by decide +kernel
theorem dX14_isText_96 : decode cX14_isText 96 = .ok (.iconst 1, 1) := by decide +kernel
theorem dX14_isText_97 : decode cX14_isText 97 = .ok (.ireturn, 1) := by decide +kernel
theorem dX14_isGroundLine_0 : decode cX14_isGroundLine 0 = .ok (.aload_n 0, 1) := by decide +kernel
theorem dX14_isGroundLine_1 : decode cX14_isGroundLine 1 = .ok (.dup, 1) := by decide +kernel
theorem dX14_isGroundLine_2 : decode cX14_isGroundLine 2 = .ok (.getfield 118, 3) := by decide +kernel
theorem dX14_isGroundLine_5 : decode cX14_isGroundLine 5 = .ok (.iconst 1, 1) := by decide +kernel
theorem dX14_isGroundLine_6 : decode cX14_isGroundLine 6 = .ok (.iadd, 1) := by decide +kernel
theorem dX14_isGroundLine_7 : decode cX14_isGroundLine 7 = .ok (.putfield 118, 3) := by decide +kernel
theorem dX14_isGroundLine_10 : decode cX14_isGroundLine 10 = .ok (.aload_n 0, 1) := by decide +kernel
theorem dX14_isGroundLine_11 : decode cX14_isGroundLine 11 = .ok (.bipush 40, 2) := by decide +kernel
theorem dX14_isGroundLine_13 : decode cX14_isGroundLine 13 = .ok (.iconst 1, 1) := by decide +kernel
theorem dX14_isGroundLine_14 : decode cX14_isGroundLine 14 = .ok (.invokevirtual 149, 3) := by decide +kernel
theorem dX14_isGroundLine_17 : decode cX14_isGroundLine 17 = .ok (.ifCond .eq 40, 3) := by decide +kernel
theorem dX14_isGroundLine_20 : decode cX14_isGroundLine 20 = .ok (.aload_n 0, 1) := by decide +kernel
theorem dX14_isGroundLine_21 : decode cX14_isGroundLine 21 = .ok (.iconst 1, 1) := by decide +kernel
theorem dX14_isGroundLine_22 : decode cX14_isGroundLine 22 = .ok (.invokevirtual 124, 3) := by decide +kernel
theorem dX14_isGroundLine_25 : decode cX14_isGroundLine 25 = .ok (.ifCond .eq 32, 3) := by decide +kernel
theorem dX14_isGroundLine_28 : decode cX14_isGroundLine 28 = .ok (.aload_n 0, 1) := by decide +kernel
theorem dX14_isGroundLine_29 : decode cX14_isGroundLine 29 = .ok (.bipush 41, 2) := by decide +kernel
theorem dX14_isGroundLine_31 : decode cX14_isGroundLine 31 = .ok (.iconst 5, 1) := by decide +kernel
theorem dX14_isGroundLine_32 : decode cX14_isGroundLine 32 = .ok (.invokevirtual 149, 3) := by decide +kernel
theorem dX14_isGroundLine_35 : decode cX14_isGroundLine 35 = .ok (.ifCond .eq 22, 3) := by decide +kernel
theorem dX14_isGroundLine_38 : decode cX14_isGroundLine 38 = .ok (.aload_n 0, 1) := by decide +kernel
theorem dX14_isGroundLine_39 : decode cX14_isGroundLine 39 = .ok (.iconst 2, 1) := by decide +kernel
theorem dX14_isGroundLine_40 : decode cX14_isGroundLine 40 = .ok (.invokevirtual 124, 3) := by decide +kernel
theorem dX14_isGroundLine_43 : decode cX14_isGroundLine 43 = .ok (.ifCond .eq 14, 3) := by decide +kernel
theorem dX14_isGroundLine_46 : decode cX14_isGroundLine 46 = .ok (.aload_n 0, 1) := by decide +kernel
theorem dX14_isGroundLine_47 : decode cX14_isGroundLine 47 = .ok (.bipush 41, 2) := by decide +kernel
theorem dX14_isGroundLine_49 : decode cX14_isGroundLine 49 = .ok (.bipush 6, 2) := by decide +kernel
theorem dX14_isGroundLine_51 : decode cX14_isGroundLine 51 = .ok (.invokevirtual 149, 3) := by decide +kernel
theorem dX14_isGroundLine_54 : decode cX14_isGroundLine 54 = .ok (.ifCond .ne 5, 3) := by decide +kernel
theorem dX14_isGroundLine_57 : decode cX14_isGroundLine 57 = .ok (.iconst 0, 1) := by decide +kernel
theorem dX14_isGroundLine_58 : decode cX14_isGroundLine 58 = .ok (.ireturn, 1) := by decide +kernel
theorem dX14_isGroundLine_59 : decode cX14_isGroundLine 59 = .ok (.aload_n 0, 1) := by decide +kernel
theorem dX14_isGroundLine_60 : decode cX14_isGroundLine 60 = .ok (.bipush 44, 2) := by decide +kernel
theorem dX14_isGroundLine_62 : decode cX14_isGroundLine 62 = .ok (.invokevirtual 145, 3) := by decide +kernel
theorem dX14_isGroundLine_65 : decode cX14_isGroundLine 65 = .ok (.ifCond .eq 16, 3) := by decide +kernel
theorem dX14_isGroundLine_68 : decode cX14_isGroundLine 68 = .ok (.aload_n 0, 1) := by decide +kernel
theorem dX14_isGroundLine_69 : decode cX14_isGroundLine 69 = .ok (.bipush 41, 2) := by decide +kernel
theorem dX14_isGroundLine_71 : decode cX14_isGroundLine 71 = .ok (.bipush 6, 2) := by decide +kernel
theorem dX14_isGroundLine_73 : decode cX14_isGroundLine 73 = .ok (.invokevirtual 149, 3) := by decide +kernel
theorem dX14_isGroundLine_76 : decode cX14_isGroundLine 76 = .ok (.ifCond .ne (-17), 3) := by decide +kernel
theorem dX14_isGroundLine_79 : decode cX14_isGroundLine 79 = .ok (.iconst 0, 1) := by decide +kernel
theorem dX14_isGroundLine_80 : decode cX14_isGroundLine 80 = .ok (.ireturn, 1) := by decide +kernel
theorem dX14_isGroundLine_81 : decode cX14_isGroundLine 81 = .ok (.iconst 1, 1) := by decide +kernel
theorem dX14_isGroundLine_82 : decode cX14_isGroundLine 82 = .ok (.ireturn, 1) := by decide +kernel
theorem dX14_isFisherLine_0 : decode cX14_isFisherLine 0 = .ok (.aload_n 0, 1) := by decide +kernel
theorem dX14_isFisherLine_1 : decode cX14_isFisherLine 1 = .ok (.dup, 1) := by decide +kernel
theorem dX14_isFisherLine_2 : decode cX14_isFisherLine 2 = .ok (.getfield 118, 3) := by decide +kernel
theorem dX14_isFisherLine_5 : decode cX14_isFisherLine 5 = .ok (.iconst 1, 1) := by decide +kernel
theorem dX14_isFisherLine_6 : decode cX14_isFisherLine 6 = .ok (.iadd, 1) := by decide +kernel
theorem dX14_isFisherLine_7 : decode cX14_isFisherLine 7 = .ok (.putfield 118, 3) := by decide +kernel
theorem dX14_isFisherLine_10 : decode cX14_isFisherLine 10 = .ok (.aload_n 0, 1) := by decide +kernel
theorem dX14_isFisherLine_11 : decode cX14_isFisherLine 11 = .ok (.bipush 40, 2) := by decide +kernel
theorem dX14_isFisherLine_13 : decode cX14_isFisherLine 13 = .ok (.iconst 2, 1) := by decide +kernel
theorem dX14_isFisherLine_14 : decode cX14_isFisherLine 14 = .ok (.invokevirtual 149, 3) := by decide +kernel
theorem dX14_isFisherLine_17 : decode cX14_isFisherLine 17 = .ok (.ifCond .eq 65, 3) := by decide +kernel
theorem dX14_isFisherLine_20 : decode cX14_isFisherLine 20 = .ok (.aload_n 0, 1) := by decide +kernel
theorem dX14_isFisherLine_21 : decode cX14_isFisherLine 21 = .ok (.iconst 4, 1) := by decide +kernel
theorem dX14_isFisherLine_22 : decode cX14_isFisherLine 22 = .ok (.invokevirtual 124, 3) := by decide +kernel
theorem dX14_isFisherLine_25 : decode cX14_isFisherLine 25 = .ok (.ifCond .eq 57, 3) := by decide +kernel
theorem dX14_isFisherLine_28 : decode cX14_isFisherLine 28 = .ok (.aload_n 0, 1) := by decide +kernel
theorem dX14_isFisherLine_29 : decode cX14_isFisherLine 29 = .ok (.bipush 41, 2) := by decide +kernel
theorem dX14_isFisherLine_31 : decode cX14_isFisherLine 31 = .ok (.bipush 7, 2) := by decide +kernel
theorem dX14_isFisherLine_33 : decode cX14_isFisherLine 33 = .ok (.invokevirtual 149, 3) := by decide +kernel
theorem dX14_isFisherLine_36 : decode cX14_isFisherLine 36 = .ok (.ifCond .eq 46, 3) := by decide +kernel
theorem dX14_isFisherLine_39 : decode cX14_isFisherLine 39 = .ok (.aload_n 0, 1) := by decide +kernel
theorem dX14_isFisherLine_40 : decode cX14_isFisherLine 40 = .ok (.iconst 5, 1) := by decide +kernel
theorem dX14_isFisherLine_41 : decode cX14_isFisherLine 41 = .ok (.invokevirtual 124, 3) := by decide +kernel
theorem dX14_isFisherLine_44 : decode cX14_isFisherLine 44 = .ok (.ifCond .eq 38, 3) := by decide +kernel
theorem dX14_isFisherLine_47 : decode cX14_isFisherLine 47 = .ok (.aload_n 0, 1) := by decide +kernel
theorem dX14_isFisherLine_48 : decode cX14_isFisherLine 48 = .ok (.bipush 41, 2) := by decide +kernel
theorem dX14_isFisherLine_50 : decode cX14_isFisherLine 50 = .ok (.bipush 8, 2) := by decide +kernel
theorem dX14_isFisherLine_52 : decode cX14_isFisherLine 52 = .ok (.invokevirtual 149, 3) := by decide +kernel
theorem dX14_isFisherLine_55 : decode cX14_isFisherLine 55 = .ok (.ifCond .eq 27, 3) := by decide +kernel
theorem dX14_isFisherLine_58 : decode cX14_isFisherLine 58 = .ok (.aload_n 0, 1) := by decide +kernel
theorem dX14_isFisherLine_59 : decode cX14_isFisherLine 59 = .ok (.bipush 6, 2) := by decide +kernel
theorem dX14_isFisherLine_61 : decode cX14_isFisherLine 61 = .ok (.invokevirtual 124, 3) := by decide +kernel
theorem dX14_isFisherLine_64 : decode cX14_isFisherLine 64 = .ok (.ifCond .eq 18, 3) := by decide +kernel
theorem dX14_isFisherLine_67 : decode cX14_isFisherLine 67 = .ok (.aload_n 0, 1) := by decide +kernel
theorem dX14_isFisherLine_68 : decode cX14_isFisherLine 68 = .ok (.bipush 41, 2) := by decide +kernel
theorem dX14_isFisherLine_70 : decode cX14_isFisherLine 70 = .ok (.bipush 9, 2) := by decide +kernel
theorem dX14_isFisherLine_72 : decode cX14_isFisherLine 72 = .ok (.invokevirtual 149, 3) := by decide +kernel
theorem dX14_isFisherLine_75 : decode cX14_isFisherLine 75 = .ok (.ifCond .eq 7, 3) := by decide +kernel
theorem dX14_isFisherLine_78 : decode cX14_isFisherLine 78 = .ok (.iconst 1, 1) := by decide +kernel
theorem dX14_isFisherLine_79 : decode cX14_isFisherLine 79 = .ok (.goto 4, 3) := by decide +kernel
theorem dX14_isFisherLine_82 : decode cX14_isFisherLine 82 = .ok (.iconst 0, 1) := by decide +kernel
theorem dX14_isFisherLine_83 : decode cX14_isFisherLine 83 = .ok (.ireturn, 1) := by decide +kernel
theorem dX14_isGoLine_0 : decode cX14_isGoLine 0 = .ok (.aload_n 0, 1) := by decide +kernel
theorem dX14_isGoLine_1 : decode cX14_isGoLine 1 = .ok (.getfield 26, 3) := by decide +kernel
theorem dX14_isGoLine_4 : decode cX14_isGoLine 4 = .ok (.aload_n 0, 1) := by decide +kernel
theorem dX14_isGoLine_5 : decode cX14_isGoLine 5 = .ok (.getfield 118, 3) := by decide +kernel
theorem dX14_isGoLine_8 : decode cX14_isGoLine 8 = .ok (.iconst 4, 1) := by decide +kernel
theorem dX14_isGoLine_9 : decode cX14_isGoLine 9 = .ok (.iastore, 1) := by decide +kernel
theorem dX14_isGoLine_10 : decode cX14_isGoLine 10 = .ok (.aload_n 0, 1) := by decide +kernel
theorem dX14_isGoLine_11 : decode cX14_isGoLine 11 = .ok (.dup, 1) := by decide +kernel
theorem dX14_isGoLine_12 : decode cX14_isGoLine 12 = .ok (.getfield 118, 3) := by decide +kernel
theorem dX14_isGoLine_15 : decode cX14_isGoLine 15 = .ok (.iconst 1, 1) := by decide +kernel
theorem dX14_isGoLine_16 : decode cX14_isGoLine 16 = .ok (.iadd, 1) := by decide +kernel
theorem dX14_isGoLine_17 : decode cX14_isGoLine 17 = .ok (.putfield 118, 3) := by decide +kernel
theorem dX14_isGoLine_20 : decode cX14_isGoLine 20 = .ok (.aload_n 0, 1) := by decide +kernel
theorem dX14_isGoLine_21 : decode cX14_isGoLine 21 = .ok (.getfield 39, 3) := by decide +kernel
theorem dX14_isGoLine_24 : decode cX14_isGoLine 24 = .ok (.getfield 153, 3) := by decide +kernel
theorem dX14_isGoLine_27 : decode cX14_isGoLine 27 = .ok (.bipush 24, 2) := by decide +kernel
theorem dX14_isGoLine_29 : decode cX14_isGoLine 29 = .ok (.invokestatic 70, 3) := by decide +kernel
theorem dX14_isGoLine_32 : decode cX14_isGoLine 32 = .ok (.istore_n 1, 1) := by decide +kernel
theorem dX14_isGoLine_33 : decode cX14_isGoLine 33 = .ok (.aload_n 0, 1) := by decide +kernel
theorem dX14_isGoLine_34 : decode cX14_isGoLine 34 = .ok (.getfield 39, 3) := by decide +kernel
theorem dX14_isGoLine_37 : decode cX14_isGoLine 37 = .ok (.dup, 1) := by decide +kernel
theorem dX14_isGoLine_38 : decode cX14_isGoLine 38 = .ok (.getfield 153, 3) := by decide +kernel
theorem dX14_isGoLine_41 : decode cX14_isGoLine 41 = .ok (.iconst 1, 1) := by decide +kernel
theorem dX14_isGoLine_42 : decode cX14_isGoLine 42 = .ok (.iadd, 1) := by decide +kernel
theorem dX14_isGoLine_43 : decode cX14_isGoLine 43 = .ok (.putfield 153, 3) := by decide +kernel
theorem dX14_isGoLine_46 : decode cX14_isGoLine 46 = .ok (.aload_n 0, 1) := by decide +kernel
theorem dX14_isGoLine_47 : decode cX14_isGoLine 47 = .ok (.getfield 39, 3) := by decide +kernel
theorem dX14_isGoLine_50 : decode cX14_isGoLine 50 = .ok (.getfield 156, 3) := by decide +kernel
theorem dX14_isGoLine_53 : decode cX14_isGoLine 53 = .ok (.iload_n 1, 1) := by decide +kernel
theorem dX14_isGoLine_54 : decode cX14_isGoLine 54 = .ok (.aload_n 0, 1) := by decide +kernel
theorem dX14_isGoLine_55 : decode cX14_isGoLine 55 = .ok (.getfield 39, 3) := by decide +kernel
theorem dX14_isGoLine_58 : decode cX14_isGoLine 58 = .ok (.getfield 130, 3) := by decide +kernel
theorem dX14_isGoLine_61 : decode cX14_isGoLine 61 = .ok (.iastore, 1) := by decide +kernel
theorem dX14_isGoLine_62 : decode cX14_isGoLine 62 = .ok (.aload_n 0, 1) := by decide +kernel
theorem dX14_isGoLine_63 : decode cX14_isGoLine 63 = .ok (.bipush 40, 2) := by decide +kernel
theorem dX14_isGoLine_65 : decode cX14_isGoLine 65 = .ok (.bipush 10, 2) := by decide +kernel
theorem dX14_isGoLine_67 : decode cX14_isGoLine 67 = .ok (.invokevirtual 149, 3) := by decide +kernel
theorem dX14_isGoLine_70 : decode cX14_isGoLine 70 = .ok (.ifCond .eq 39, 3) := by decide +kernel
theorem dX14_isGoLine_73 : decode cX14_isGoLine 73 = .ok (.aload_n 0, 1) := by decide +kernel
theorem dX14_isGoLine_74 : decode cX14_isGoLine 74 = .ok (.bipush 8, 2) := by decide +kernel
theorem dX14_isGoLine_76 : decode cX14_isGoLine 76 = .ok (.invokevirtual 124, 3) := by decide +kernel
theorem dX14_isGoLine_79 : decode cX14_isGoLine 79 = .ok (.ifCond .eq 30, 3) := by decide +kernel
theorem dX14_isGoLine_82 : decode cX14_isGoLine 82 = .ok (.aload_n 0, 1) := by decide +kernel
theorem dX14_isGoLine_83 : decode cX14_isGoLine 83 = .ok (.bipush 40, 2) := by decide +kernel
theorem dX14_isGoLine_85 : decode cX14_isGoLine 85 = .ok (.bipush 11, 2) := by decide +kernel
theorem dX14_isGoLine_87 : decode cX14_isGoLine 87 = .ok (.invokevirtual 149, 3) := by decide +kernel
theorem dX14_isGoLine_90 : decode cX14_isGoLine 90 = .ok (.ifCond .eq 19, 3) := by decide +kernel
theorem dX14_isGoLine_93 : decode cX14_isGoLine 93 = .ok (.aload_n 0, 1) := by decide +kernel
theorem dX14_isGoLine_94 : decode cX14_isGoLine 94 = .ok (.bipush 9, 2) := by decide +kernel
theorem dX14_isGoLine_96 : decode cX14_isGoLine 96 = .ok (.invokevirtual 124, 3) := by decide +kernel
theorem dX14_isGoLine_99 : decode cX14_isGoLine 99 = .ok (.ifCond .eq 12, 3) := by decide +kernel
theorem dX14_isGoLine_102 : decode cX14_isGoLine 102 = .ok (.aload_n 0, 1) := by decide +kernel
theorem dX14_isGoLine_103 : decode cX14_isGoLine 103 = .ok (.invokevirtual 159, 3) := by decide +kernel
theorem dX14_isGoLine_106 : decode cX14_isGoLine 106 = .ok (.ifCond .ne 5, 3) := by decide +kernel
theorem dX14_isGoLine_109 : decode cX14_isGoLine 109 = .ok (.iconst 0, 1) := by decide +kernel
theorem dX14_isGoLine_110 : decode cX14_isGoLine 110 = .ok (.ireturn, 1) := by decide +kernel
theorem dX14_isGoLine_111 : decode cX14_isGoLine 111 = .ok (.aload_n 0, 1) := by decide +kernel
theorem dX14_isGoLine_112 : decode cX14_isGoLine 112 = .ok (.getfield 39, 3) := by decide +kernel
theorem dX14_isGoLine_115 : decode cX14_isGoLine 115 = .ok (.getfield 162, 3) := by decide +kernel
theorem dX14_isGoLine_118 : decode cX14_isGoLine 118 = .ok (.iload_n 1, 1) := by decide +kernel
theorem dX14_isGoLine_119 : decode cX14_isGoLine 119 = .ok (.aload_n 0, 1) := by decide +kernel
theorem dX14_isGoLine_120 : decode cX14_isGoLine 120 = .ok (.getfield 39, 3) := by decide +kernel
theorem dX14_isGoLine_123 : decode cX14_isGoLine 123 = .ok (.getfield 130, 3) := by decide +kernel
theorem dX14_isGoLine_126 : decode cX14_isGoLine 126 = .ok (.iastore, 1) := by decide +kernel
theorem dX14_isGoLine_127 : decode cX14_isGoLine 127 = .ok (.iconst 1, 1) := by decide +kernel
theorem dX14_isGoLine_128 : decode cX14_isGoLine 128 = .ok (.ireturn, 1) := by decide +kernel
theorem dX14_isPactLine_0 : decode cX14_isPactLine 0 = .ok (.aload_n 0, 1) := by decide +kernel
theorem dX14_isPactLine_1 : decode cX14_isPactLine 1 = .ok (.dup, 1) := by decide +kernel
theorem dX14_isPactLine_2 : decode cX14_isPactLine 2 = .ok (.getfield 118, 3) := by decide +kernel
theorem dX14_isPactLine_5 : decode cX14_isPactLine 5 = .ok (.iconst 1, 1) := by decide +kernel
theorem dX14_isPactLine_6 : decode cX14_isPactLine 6 = .ok (.iadd, 1) := by decide +kernel
theorem dX14_isPactLine_7 : decode cX14_isPactLine 7 = .ok (.putfield 118, 3) := by decide +kernel
theorem dX14_isPactLine_10 : decode cX14_isPactLine 10 = .ok (.aload_n 0, 1) := by decide +kernel
theorem dX14_isPactLine_11 : decode cX14_isPactLine 11 = .ok (.getfield 39, 3) := by decide +kernel
theorem dX14_isPactLine_14 : decode cX14_isPactLine 14 = .ok (.getfield 165, 3) := by decide +kernel
theorem dX14_isPactLine_17 : decode cX14_isPactLine 17 = .ok (.bipush 6, 2) := by decide +kernel
theorem dX14_isPactLine_19 : decode cX14_isPactLine 19 = .ok (.invokestatic 70, 3) := by decide +kernel
theorem dX14_isPactLine_22 : decode cX14_isPactLine 22 = .ok (.istore_n 1, 1) := by decide +kernel
theorem dX14_isPactLine_23 : decode cX14_isPactLine 23 = .ok (.aload_n 0, 1) := by decide +kernel
theorem dX14_isPactLine_24 : decode cX14_isPactLine 24 = .ok (.getfield 39, 3) := by decide +kernel
theorem dX14_isPactLine_27 : decode cX14_isPactLine 27 = .ok (.dup, 1) := by decide +kernel
theorem dX14_isPactLine_28 : decode cX14_isPactLine 28 = .ok (.getfield 165, 3) := by decide +kernel
theorem dX14_isPactLine_31 : decode cX14_isPactLine 31 = .ok (.iconst 1, 1) := by decide +kernel
theorem dX14_isPactLine_32 : decode cX14_isPactLine 32 = .ok (.iadd, 1) := by decide +kernel
theorem dX14_isPactLine_33 : decode cX14_isPactLine 33 = .ok (.putfield 165, 3) := by decide +kernel
theorem dX14_isPactLine_36 : decode cX14_isPactLine 36 = .ok (.aload_n 0, 1) := by decide +kernel
theorem dX14_isPactLine_37 : decode cX14_isPactLine 37 = .ok (.getfield 39, 3) := by decide +kernel
theorem dX14_isPactLine_40 : decode cX14_isPactLine 40 = .ok (.getfield 168, 3) := by decide +kernel
theorem dX14_isPactLine_43 : decode cX14_isPactLine 43 = .ok (.iload_n 1, 1) := by decide +kernel
theorem dX14_isPactLine_44 : decode cX14_isPactLine 44 = .ok (.aload_n 0, 1) := by decide +kernel
theorem dX14_isPactLine_45 : decode cX14_isPactLine 45 = .ok (.getfield 39, 3) := by decide +kernel
theorem dX14_isPactLine_48 : decode cX14_isPactLine 48 = .ok (.getfield 130, 3) := by decide +kernel
theorem dX14_isPactLine_51 : decode cX14_isPactLine 51 = .ok (.iastore, 1) := by decide +kernel
theorem dX14_isPactLine_52 : decode cX14_isPactLine 52 = .ok (.aload_n 0, 1) := by decide +kernel
theorem dX14_isPactLine_53 : decode cX14_isPactLine 53 = .ok (.bipush 40, 2) := by decide +kernel
theorem dX14_isPactLine_55 : decode cX14_isPactLine 55 = .ok (.iconst 3, 1) := by decide +kernel
theorem dX14_isPactLine_56 : decode cX14_isPactLine 56 = .ok (.invokevirtual 149, 3) := by decide +kernel
theorem dX14_isPactLine_59 : decode cX14_isPactLine 59 = .ok (.ifCond .eq 23, 3) := by decide +kernel
theorem dX14_isPactLine_62 : decode cX14_isPactLine 62 = .ok (.aload_n 0, 1) := by decide +kernel
theorem dX14_isPactLine_63 : decode cX14_isPactLine 63 = .ok (.bipush 11, 2) := by decide +kernel
theorem dX14_isPactLine_65 : decode cX14_isPactLine 65 = .ok (.invokevirtual 124, 3) := by decide +kernel
theorem dX14_isPactLine_68 : decode cX14_isPactLine 68 = .ok (.ifCond .eq 14, 3) := by decide +kernel
theorem dX14_isPactLine_71 : decode cX14_isPactLine 71 = .ok (.aload_n 0, 1) := by decide +kernel
theorem dX14_isPactLine_72 : decode cX14_isPactLine 72 = .ok (.bipush 40, 2) := by decide +kernel
theorem dX14_isPactLine_74 : decode cX14_isPactLine 74 = .ok (.bipush 12, 2) := by decide +kernel
theorem dX14_isPactLine_76 : decode cX14_isPactLine 76 = .ok (.invokevirtual 149, 3) := by decide +kernel
theorem dX14_isPactLine_79 : decode cX14_isPactLine 79 = .ok (.ifCond .ne 5, 3) := by decide +kernel
theorem dX14_isPactLine_82 : decode cX14_isPactLine 82 = .ok (.iconst 0, 1) := by decide +kernel
theorem dX14_isPactLine_83 : decode cX14_isPactLine 83 = .ok (.ireturn, 1) := by decide +kernel
theorem dX14_isPactLine_84 : decode cX14_isPactLine 84 = .ok (.aload_n 0, 1) := by decide +kernel
theorem dX14_isPactLine_85 : decode cX14_isPactLine 85 = .ok (.bipush 44, 2) := by decide +kernel
theorem dX14_isPactLine_87 : decode cX14_isPactLine 87 = .ok (.invokevirtual 145, 3) := by decide +kernel
theorem dX14_isPactLine_90 : decode cX14_isPactLine 90 = .ok (.ifCond .eq 16, 3) := by decide +kernel
theorem dX14_isPactLine_93 : decode cX14_isPactLine 93 = .ok (.aload_n 0, 1) := by decide +kernel
theorem dX14_isPactLine_94 : decode cX14_isPactLine 94 = .ok (.bipush 40, 2) := by decide +kernel
theorem dX14_isPactLine_96 : decode cX14_isPactLine 96 = .ok (.bipush 12, 2) := by decide +kernel
theorem dX14_isPactLine_98 : decode cX14_isPactLine 98 = .ok (.invokevirtual 149, 3) := by decide +kernel
theorem dX14_isPactLine_101 : decode cX14_isPactLine 101 = .ok (.ifCond .ne (-17), 3) := by decide +kernel
theorem dX14_isPactLine_104 : decode cX14_isPactLine 104 = .ok (.iconst 0, 1) := by decide +kernel
theorem dX14_isPactLine_105 : decode cX14_isPactLine 105 = .ok (.ireturn, 1) := by decide +kernel
theorem dX14_isPactLine_106 : decode cX14_isPactLine 106 = .ok (.aload_n 0, 1) := by decide +kernel
theorem dX14_isPactLine_107 : decode cX14_isPactLine 107 = .ok (.bipush 12, 2) := by decide +kernel
theorem dX14_isPactLine_109 : decode cX14_isPactLine 109 = .ok (.invokevirtual 124, 3) := by decide +kernel
theorem dX14_isPactLine_112 : decode cX14_isPactLine 112 = .ok (.ifCond .eq 5, 3) := by decide +kernel
theorem dX14_isPactLine_115 : decode cX14_isPactLine 115 = .ok (.iconst 1, 1) := by decide +kernel
theorem dX14_isPactLine_116 : decode cX14_isPactLine 116 = .ok (.ireturn, 1) := by decide +kernel
theorem dX14_isPactLine_117 : decode cX14_isPactLine 117 = .ok (.aload_n 0, 1) := by decide +kernel
theorem dX14_isPactLine_118 : decode cX14_isPactLine 118 = .ok (.bipush 13, 2) := by decide +kernel
theorem dX14_isPactLine_120 : decode cX14_isPactLine 120 = .ok (.invokevirtual 124, 3) := by decide +kernel
theorem dX14_isPactLine_123 : decode cX14_isPactLine 123 = .ok (.ifCond .eq 30, 3) := by decide +kernel
theorem dX14_isPactLine_126 : decode cX14_isPactLine 126 = .ok (.aload_n 0, 1) := by decide +kernel
theorem dX14_isPactLine_127 : decode cX14_isPactLine 127 = .ok (.bipush 40, 2) := by decide +kernel
theorem dX14_isPactLine_129 : decode cX14_isPactLine 129 = .ok (.bipush 13, 2) := by decide +kernel
theorem dX14_isPactLine_131 : decode cX14_isPactLine 131 = .ok (.invokevirtual 149, 3) := by decide +kernel
theorem dX14_isPactLine_134 : decode cX14_isPactLine 134 = .ok (.ifCond .eq 19, 3) := by decide +kernel
theorem dX14_isPactLine_137 : decode cX14_isPactLine 137 = .ok (.aload_n 0, 1) := by decide +kernel
theorem dX14_isPactLine_138 : decode cX14_isPactLine 138 = .ok (.bipush 14, 2) := by decide +kernel
theorem dX14_isPactLine_140 : decode cX14_isPactLine 140 = .ok (.invokevirtual 124, 3) := by decide +kernel
theorem dX14_isPactLine_143 : decode cX14_isPactLine 143 = .ok (.ifCond .eq 10, 3) := by decide +kernel
theorem dX14_isPactLine_146 : decode cX14_isPactLine 146 = .ok (.aload_n 0, 1) := by decide +kernel
theorem dX14_isPactLine_147 : decode cX14_isPactLine 147 = .ok (.invokevirtual 171, 3) := by decide +kernel
theorem dX14_isPactLine_150 : decode cX14_isPactLine 150 = .ok (.ifCond .ne 5, 3) := by decide +kernel
theorem dX14_isPactLine_153 : decode cX14_isPactLine 153 = .ok (.iconst 0, 1) := by decide +kernel
theorem dX14_isPactLine_154 : decode cX14_isPactLine 154 = .ok (.ireturn, 1) := by decide +kernel
theorem dX14_isPactLine_155 : decode cX14_isPactLine 155 = .ok (.aload_n 0, 1) := by decide +kernel
theorem dX14_isPactLine_156 : decode cX14_isPactLine 156 = .ok (.getfield 39, 3) := by decide +kernel
theorem dX14_isPactLine_159 : decode cX14_isPactLine 159 = .ok (.getfield 174, 3) := by decide +kernel
theorem dX14_isPactLine_162 : decode cX14_isPactLine 162 = .ok (.iload_n 1, 1) := by decide +kernel
theorem dX14_isPactLine_163 : decode cX14_isPactLine 163 = .ok (.aload_n 0, 1) := by decide +kernel
theorem dX14_isPactLine_164 : decode cX14_isPactLine 164 = .ok (.getfield 39, 3) := by decide +kernel
theorem dX14_isPactLine_167 : decode cX14_isPactLine 167 = .ok (.getfield 130, 3) := by decide +kernel
theorem dX14_isPactLine_170 : decode cX14_isPactLine 170 = .ok (.iastore, 1) := by decide +kernel
theorem dX14_isPactLine_171 : decode cX14_isPactLine 171 = .ok (.iconst 1, 1) := by decide +kernel
theorem dX14_isPactLine_172 : decode cX14_isPactLine 172 = .ok (.ireturn, 1) := by decide +kernel
theorem dX14_isTest_0 : decode cX14_isTest 0 = .ok (.aload_n 0, 1) := by decide +kernel
theorem dX14_isTest_1 : decode cX14_isTest 1 = .ok (.invokevirtual 177, 3) := by decide +kernel
theorem dX14_isTest_4 : decode cX14_isTest 4 = .ok (.ifCond .ne 5, 3) := by decide +kernel
theorem dX14_isTest_7 : decode cX14_isTest 7 = .ok (.iconst 0, 1) := by decide +kernel
theorem dX14_isTest_8 : decode cX14_isTest 8 = .ok (.ireturn, 1) := by decide +kernel
theorem dX14_isTest_9 : decode cX14_isTest 9 = .ok (.aload_n 0, 1) := by decide +kernel
theorem dX14_isTest_10 : decode cX14_isTest 10 = .ok (.bipush 22, 2) := by decide +kernel
theorem dX14_isTest_12 : decode cX14_isTest 12 = .ok (.invokevirtual 124, 3) := by decide +kernel
theorem dX14_isTest_15 : decode cX14_isTest 15 = .ok (.ifCond .eq 21, 3) := by decide +kernel
theorem dX14_isTest_18 : decode cX14_isTest 18 = .ok (.aload_n 0, 1) := by decide +kernel
theorem dX14_isTest_19 : decode cX14_isTest 19 = .ok (.invokevirtual 177, 3) := by decide +kernel
theorem dX14_isTest_22 : decode cX14_isTest 22 = .ok (.ifCond .ne 5, 3) := by decide +kernel
theorem dX14_isTest_25 : decode cX14_isTest 25 = .ok (.iconst 0, 1) := by decide +kernel
theorem dX14_isTest_26 : decode cX14_isTest 26 = .ok (.ireturn, 1) := by decide +kernel
theorem dX14_isTest_27 : decode cX14_isTest 27 = .ok (.aload_n 0, 1) := by decide +kernel
theorem dX14_isTest_28 : decode cX14_isTest 28 = .ok (.bipush 22, 2) := by decide +kernel
theorem dX14_isTest_30 : decode cX14_isTest 30 = .ok (.invokevirtual 180, 3) := by decide +kernel
theorem dX14_isTest_33 : decode cX14_isTest 33 = .ok (.goto (-24), 3) := by decide +kernel
theorem dX14_isTest_36 : decode cX14_isTest 36 = .ok (.iconst 1, 1) := by decide +kernel
theorem dX14_isTest_37 : decode cX14_isTest 37 = .ok (.ireturn, 1) := by decide +kernel
theorem dX14_isBoth_0 : decode cX14_isBoth 0 = .ok (.aload_n 0, 1) := by decide +kernel
theorem dX14_isBoth_1 : decode cX14_isBoth 1 = .ok (.invokevirtual 184, 3) := by decide +kernel
theorem dX14_isBoth_4 : decode cX14_isBoth 4 = .ok (.ifCond .ne 5, 3) := by decide +kernel
theorem dX14_isBoth_7 : decode cX14_isBoth 7 = .ok (.iconst 0, 1) := by decide +kernel
theorem dX14_isBoth_8 : decode cX14_isBoth 8 = .ok (.ireturn, 1) := by decide +kernel
theorem dX14_isBoth_9 : decode cX14_isBoth 9 = .ok (.aload_n 0, 1) := by decide +kernel
theorem dX14_isBoth_10 : decode cX14_isBoth 10 = .ok (.bipush 21, 2) := by decide +kernel
theorem dX14_isBoth_12 : decode cX14_isBoth 12 = .ok (.invokevirtual 124, 3) := by decide +kernel
theorem dX14_isBoth_15 : decode cX14_isBoth 15 = .ok (.ifCond .eq 21, 3) := by decide +kernel
theorem dX14_isBoth_18 : decode cX14_isBoth 18 = .ok (.aload_n 0, 1) := by decide +kernel
theorem dX14_isBoth_19 : decode cX14_isBoth 19 = .ok (.invokevirtual 184, 3) := by decide +kernel
theorem dX14_isBoth_22 : decode cX14_isBoth 22 = .ok (.ifCond .ne 5, 3) := by decide +kernel
theorem dX14_isBoth_25 : decode cX14_isBoth 25 = .ok (.iconst 0, 1) := by decide +kernel
theorem dX14_isBoth_26 : decode cX14_isBoth 26 = .ok (.ireturn, 1) := by decide +kernel
theorem dX14_isBoth_27 : decode cX14_isBoth 27 = .ok (.aload_n 0, 1) := by decide +kernel
theorem dX14_isBoth_28 : decode cX14_isBoth 28 = .ok (.bipush 21, 2) := by decide +kernel
theorem dX14_isBoth_30 : decode cX14_isBoth 30 = .ok (.invokevirtual 180, 3) := by decide +kernel
theorem dX14_isBoth_33 : decode cX14_isBoth 33 = .ok (.goto (-24), 3) := by decide +kernel
theorem dX14_isBoth_36 : decode cX14_isBoth 36 = .ok (.iconst 1, 1) := by decide +kernel
theorem dX14_isBoth_37 : decode cX14_isBoth 37 = .ok (.ireturn, 1) := by decide +kernel
theorem dX14_isDeeper_0 : decode cX14_isDeeper 0 = .ok (.aload_n 0, 1) := by decide +kernel
theorem dX14_isDeeper_1 : decode cX14_isDeeper 1 = .ok (.getfield 187, 3) := by decide +kernel
theorem dX14_isDeeper_4 : decode cX14_isDeeper 4 = .ok (.bipush 8, 2) := by decide +kernel
theorem dX14_isDeeper_6 : decode cX14_isDeeper 6 = .ok (.if_icmp .ne 5, 3) := by decide +kernel
theorem dX14_isDeeper_9 : decode cX14_isDeeper 9 = .ok (.iconst 0, 1) := by decide +kernel
theorem dX14_isDeeper_10 : decode cX14_isDeeper 10 = .ok (.ireturn, 1) := by decide +kernel
theorem dX14_isDeeper_11 : decode cX14_isDeeper 11 = .ok (.aload_n 0, 1) := by decide +kernel
theorem dX14_isDeeper_12 : decode cX14_isDeeper 12 = .ok (.dup, 1) := by decide +kernel
theorem dX14_isDeeper_13 : decode cX14_isDeeper 13 = .ok (.getfield 187, 3) := by decide +kernel
theorem dX14_isDeeper_16 : decode cX14_isDeeper 16 = .ok (.iconst 1, 1) := by decide +kernel
theorem dX14_isDeeper_17 : decode cX14_isDeeper 17 = .ok (.iadd, 1) := by decide +kernel
theorem dX14_isDeeper_18 : decode cX14_isDeeper 18 = .ok (.putfield 187, 3) := by decide +kernel
theorem dX14_isDeeper_21 : decode cX14_isDeeper 21 = .ok (.aload_n 0, 1) := by decide +kernel
theorem dX14_isDeeper_22 : decode cX14_isDeeper 22 = .ok (.dup, 1) := by decide +kernel
theorem dX14_isDeeper_23 : decode cX14_isDeeper 23 = .ok (.getfield 118, 3) := by decide +kernel
theorem dX14_isDeeper_26 : decode cX14_isDeeper 26 = .ok (.iconst 1, 1) := by decide +kernel
theorem dX14_isDeeper_27 : decode cX14_isDeeper 27 = .ok (.iadd, 1) := by decide +kernel
theorem dX14_isDeeper_28 : decode cX14_isDeeper 28 = .ok (.putfield 118, 3) := by decide +kernel
theorem dX14_isDeeper_31 : decode cX14_isDeeper 31 = .ok (.iconst 1, 1) := by decide +kernel
theorem dX14_isDeeper_32 : decode cX14_isDeeper 32 = .ok (.ireturn, 1) := by decide +kernel
theorem dX14_isNamed_0 : decode cX14_isNamed 0 = .ok (.aload_n 0, 1) := by decide +kernel
theorem dX14_isNamed_1 : decode cX14_isNamed 1 = .ok (.aload_n 0, 1) := by decide +kernel
theorem dX14_isNamed_2 : decode cX14_isNamed 2 = .ok (.getfield 17, 3) := by decide +kernel
theorem dX14_isNamed_5 : decode cX14_isNamed 5 = .ok (.aload_n 0, 1) := by decide +kernel
theorem dX14_isNamed_6 : decode cX14_isNamed 6 = .ok (.getfield 118, 3) := by decide +kernel
theorem dX14_isNamed_9 : decode cX14_isNamed 9 = .ok (.iaload, 1) := by decide +kernel
theorem dX14_isNamed_10 : decode cX14_isNamed 10 = .ok (.invokevirtual 180, 3) := by decide +kernel
theorem dX14_isNamed_13 : decode cX14_isNamed 13 = .ok (.aload_n 0, 1) := by decide +kernel
theorem dX14_isNamed_14 : decode cX14_isNamed 14 = .ok (.dup, 1) := by decide +kernel
theorem dX14_isNamed_15 : decode cX14_isNamed 15 = .ok (.getfield 118, 3) := by decide +kernel
theorem dX14_isNamed_18 : decode cX14_isNamed 18 = .ok (.iconst 1, 1) := by decide +kernel
theorem dX14_isNamed_19 : decode cX14_isNamed 19 = .ok (.iadd, 1) := by decide +kernel
theorem dX14_isNamed_20 : decode cX14_isNamed 20 = .ok (.putfield 118, 3) := by decide +kernel
theorem dX14_isNamed_23 : decode cX14_isNamed 23 = .ok (.aload_n 0, 1) := by decide +kernel
theorem dX14_isNamed_24 : decode cX14_isNamed 24 = .ok (.getfield 39, 3) := by decide +kernel
theorem dX14_isNamed_27 : decode cX14_isNamed 27 = .ok (.getfield 190, 3) := by decide +kernel
theorem dX14_isNamed_30 : decode cX14_isNamed 30 = .ok (.aload_n 0, 1) := by decide +kernel
theorem dX14_isNamed_31 : decode cX14_isNamed 31 = .ok (.getfield 39, 3) := by decide +kernel
theorem dX14_isNamed_34 : decode cX14_isNamed 34 = .ok (.getfield 193, 3) := by decide +kernel
theorem dX14_isNamed_37 : decode cX14_isNamed 37 = .ok (.aload_n 0, 1) := by decide +kernel
theorem dX14_isNamed_38 : decode cX14_isNamed 38 = .ok (.getfield 39, 3) := by decide +kernel
theorem dX14_isNamed_41 : decode cX14_isNamed 41 = .ok (.getfield 130, 3) := by decide +kernel
theorem dX14_isNamed_44 : decode cX14_isNamed 44 = .ok (.iastore, 1) := by decide +kernel
theorem dX14_isNamed_45 : decode cX14_isNamed 45 = .ok (.aload_n 0, 1) := by decide +kernel
theorem dX14_isNamed_46 : decode cX14_isNamed 46 = .ok (.getfield 39, 3) := by decide +kernel
theorem dX14_isNamed_49 : decode cX14_isNamed 49 = .ok (.dup, 1) := by decide +kernel
theorem dX14_isNamed_50 : decode cX14_isNamed 50 = .ok (.getfield 193, 3) := by decide +kernel
theorem dX14_isNamed_53 : decode cX14_isNamed 53 = .ok (.iconst 1, 1) := by decide +kernel
theorem dX14_isNamed_54 : decode cX14_isNamed 54 = .ok (.iadd, 1) := by decide +kernel
theorem dX14_isNamed_55 : decode cX14_isNamed 55 = .ok (.putfield 193, 3) := by decide +kernel
theorem dX14_isNamed_58 : decode cX14_isNamed 58 = .ok (.aload_n 0, 1) := by decide +kernel
theorem dX14_isNamed_59 : decode cX14_isNamed 59 = .ok (.aload_n 0, 1) := by decide +kernel
theorem dX14_isNamed_60 : decode cX14_isNamed 60 = .ok (.getfield 118, 3) := by decide +kernel
theorem dX14_isNamed_63 : decode cX14_isNamed 63 = .ok (.invokevirtual 180, 3) := by decide +kernel
theorem dX14_isNamed_66 : decode cX14_isNamed 66 = .ok (.aload_n 0, 1) := by decide +kernel
theorem dX14_isNamed_67 : decode cX14_isNamed 67 = .ok (.bipush 40, 2) := by decide +kernel
theorem dX14_isNamed_69 : decode cX14_isNamed 69 = .ok (.iload_n 1, 1) := by decide +kernel
theorem dX14_isNamed_70 : decode cX14_isNamed 70 = .ok (.invokevirtual 149, 3) := by decide +kernel
theorem dX14_isNamed_73 : decode cX14_isNamed 73 = .ok (.ireturn, 1) := by decide +kernel
theorem dX14_isSingle_0 : decode cX14_isSingle 0 = .ok (.aload_n 0, 1) := by decide +kernel
theorem dX14_isSingle_1 : decode cX14_isSingle 1 = .ok (.bipush 20, 2) := by decide +kernel
theorem dX14_isSingle_3 : decode cX14_isSingle 3 = .ok (.invokevirtual 121, 3) := by decide +kernel
theorem dX14_isSingle_6 : decode cX14_isSingle 6 = .ok (.ifCond .eq 37, 3) := by decide +kernel
theorem dX14_isSingle_9 : decode cX14_isSingle 9 = .ok (.aload_n 0, 1) := by decide +kernel
theorem dX14_isSingle_10 : decode cX14_isSingle 10 = .ok (.invokevirtual 196, 3) := by decide +kernel
theorem dX14_isSingle_13 : decode cX14_isSingle 13 = .ok (.ifCond .eq 10, 3) := by decide +kernel
theorem dX14_isSingle_16 : decode cX14_isSingle 16 = .ok (.aload_n 0, 1) := by decide +kernel
theorem dX14_isSingle_17 : decode cX14_isSingle 17 = .ok (.invokevirtual 184, 3) := by decide +kernel
theorem dX14_isSingle_20 : decode cX14_isSingle 20 = .ok (.ifCond .ne 5, 3) := by decide +kernel
theorem dX14_isSingle_23 : decode cX14_isSingle 23 = .ok (.iconst 0, 1) := by decide +kernel
theorem dX14_isSingle_24 : decode cX14_isSingle 24 = .ok (.ireturn, 1) := by decide +kernel
theorem dX14_isSingle_25 : decode cX14_isSingle 25 = .ok (.aload_n 0, 1) := by decide +kernel
theorem dX14_isSingle_26 : decode cX14_isSingle 26 = .ok (.dup, 1) := by decide +kernel
theorem dX14_isSingle_27 : decode cX14_isSingle 27 = .ok (.getfield 187, 3) := by decide +kernel
theorem dX14_isSingle_30 : decode cX14_isSingle 30 = .ok (.iconst 1, 1) := by decide +kernel
theorem dX14_isSingle_31 : decode cX14_isSingle 31 = .ok (.isub, 1) := by decide +kernel
theorem dX14_isSingle_32 : decode cX14_isSingle 32 = .ok (.putfield 187, 3) := by decide +kernel
theorem dX14_isSingle_35 : decode cX14_isSingle 35 = .ok (.aload_n 0, 1) := by decide +kernel
theorem dX14_isSingle_36 : decode cX14_isSingle 36 = .ok (.bipush 20, 2) := by decide +kernel
theorem dX14_isSingle_38 : decode cX14_isSingle 38 = .ok (.invokevirtual 180, 3) := by decide +kernel
theorem dX14_isSingle_41 : decode cX14_isSingle 41 = .ok (.iconst 1, 1) := by decide +kernel
theorem dX14_isSingle_42 : decode cX14_isSingle 42 = .ok (.ireturn, 1) := by decide +kernel
theorem dX14_isSingle_43 : decode cX14_isSingle 43 = .ok (.aload_n 0, 1) := by decide +kernel
theorem dX14_isSingle_44 : decode cX14_isSingle 44 = .ok (.bipush 91, 2) := by decide +kernel
theorem dX14_isSingle_46 : decode cX14_isSingle 46 = .ok (.invokevirtual 199, 3) := by decide +kernel
theorem dX14_isSingle_49 : decode cX14_isSingle 49 = .ok (.ifCond .eq 36, 3) := by decide +kernel
theorem dX14_isSingle_52 : decode cX14_isSingle 52 = .ok (.aload_n 0, 1) := by decide +kernel
theorem dX14_isSingle_53 : decode cX14_isSingle 53 = .ok (.invokevirtual 196, 3) := by decide +kernel
theorem dX14_isSingle_56 : decode cX14_isSingle 56 = .ok (.ifCond .eq 10, 3) := by decide +kernel
theorem dX14_isSingle_59 : decode cX14_isSingle 59 = .ok (.aload_n 0, 1) := by decide +kernel
theorem dX14_isSingle_60 : decode cX14_isSingle 60 = .ok (.invokevirtual 159, 3) := by decide +kernel
theorem dX14_isSingle_63 : decode cX14_isSingle 63 = .ok (.ifCond .ne 5, 3) := by decide +kernel
theorem dX14_isSingle_66 : decode cX14_isSingle 66 = .ok (.iconst 0, 1) := by decide +kernel
theorem dX14_isSingle_67 : decode cX14_isSingle 67 = .ok (.ireturn, 1) := by decide +kernel
theorem dX14_isSingle_68 : decode cX14_isSingle 68 = .ok (.aload_n 0, 1) := by decide +kernel
theorem dX14_isSingle_69 : decode cX14_isSingle 69 = .ok (.dup, 1) := by decide +kernel
theorem dX14_isSingle_70 : decode cX14_isSingle 70 = .ok (.getfield 187, 3) := by decide +kernel
theorem dX14_isSingle_73 : decode cX14_isSingle 73 = .ok (.iconst 1, 1) := by decide +kernel
theorem dX14_isSingle_74 : decode cX14_isSingle 74 = .ok (.isub, 1) := by decide +kernel
theorem dX14_isSingle_75 : decode cX14_isSingle 75 = .ok (.putfield 187, 3) := by decide +kernel
theorem dX14_isSingle_78 : decode cX14_isSingle 78 = .ok (.aload_n 0, 1) := by decide +kernel
theorem dX14_isSingle_79 : decode cX14_isSingle 79 = .ok (.bipush 93, 2) := by decide +kernel
theorem dX14_isSingle_81 : decode cX14_isSingle 81 = .ok (.invokevirtual 145, 3) := by decide +kernel
theorem dX14_isSingle_84 : decode cX14_isSingle 84 = .ok (.ireturn, 1) := by decide +kernel
theorem dX14_isSingle_85 : decode cX14_isSingle 85 = .ok (.aload_n 0, 1) := by decide +kernel
theorem dX14_isSingle_86 : decode cX14_isSingle 86 = .ok (.bipush 19, 2) := by decide +kernel
theorem dX14_isSingle_88 : decode cX14_isSingle 88 = .ok (.invokevirtual 121, 3) := by decide +kernel
theorem dX14_isSingle_91 : decode cX14_isSingle 91 = .ok (.ifCond .eq 10, 3) := by decide +kernel
theorem dX14_isSingle_94 : decode cX14_isSingle 94 = .ok (.aload_n 0, 1) := by decide +kernel
theorem dX14_isSingle_95 : decode cX14_isSingle 95 = .ok (.bipush 14, 2) := by decide +kernel
theorem dX14_isSingle_97 : decode cX14_isSingle 97 = .ok (.invokevirtual 202, 3) := by decide +kernel
theorem dX14_isSingle_100 : decode cX14_isSingle 100 = .ok (.ireturn, 1) := by decide +kernel
theorem dX14_isSingle_101 : decode cX14_isSingle 101 = .ok (.aload_n 0, 1) := by decide +kernel
theorem dX14_isSingle_102 : decode cX14_isSingle 102 = .ok (.invokevirtual 171, 3) := by decide +kernel
theorem dX14_isSingle_105 : decode cX14_isSingle 105 = .ok (.ifCond .ne 5, 3) := by decide +kernel
theorem dX14_isSingle_108 : decode cX14_isSingle 108 = .ok (.iconst 0, 1) := by decide +kernel
theorem dX14_isSingle_109 : decode cX14_isSingle 109 = .ok (.ireturn, 1) := by decide +kernel
theorem dX14_isSingle_110 : decode cX14_isSingle 110 = .ok (.aload_n 0, 1) := by decide +kernel
theorem dX14_isSingle_111 : decode cX14_isSingle 111 = .ok (.bipush 60, 2) := by decide +kernel
theorem dX14_isSingle_113 : decode cX14_isSingle 113 = .ok (.invokevirtual 199, 3) := by decide +kernel
theorem dX14_isSingle_116 : decode cX14_isSingle 116 = .ok (.ifCond .eq 8, 3) := by decide +kernel
theorem dX14_isSingle_119 : decode cX14_isSingle 119 = .ok (.bipush 36, 2) := by decide +kernel
theorem dX14_isSingle_121 : decode cX14_isSingle 121 = .ok (.goto 62, 3) := by decide +kernel
theorem dX14_isSingle_124 : decode cX14_isSingle 124 = .ok (.aload_n 0, 1) := by decide +kernel
theorem dX14_isSingle_125 : decode cX14_isSingle 125 = .ok (.bipush 62, 2) := by decide +kernel
theorem dX14_isSingle_127 : decode cX14_isSingle 127 = .ok (.invokevirtual 199, 3) := by decide +kernel
theorem dX14_isSingle_130 : decode cX14_isSingle 130 = .ok (.ifCond .eq 8, 3) := by decide +kernel
theorem dX14_isSingle_133 : decode cX14_isSingle 133 = .ok (.bipush 37, 2) := by decide +kernel
theorem dX14_isSingle_135 : decode cX14_isSingle 135 = .ok (.goto 48, 3) := by decide +kernel
theorem dX14_isSingle_138 : decode cX14_isSingle 138 = .ok (.aload_n 0, 1) := by decide +kernel
theorem dX14_isSingle_139 : decode cX14_isSingle 139 = .ok (.bipush 61, 2) := by decide +kernel
theorem dX14_isSingle_141 : decode cX14_isSingle 141 = .ok (.invokevirtual 199, 3) := by decide +kernel
theorem dX14_isSingle_144 : decode cX14_isSingle 144 = .ok (.ifCond .eq 8, 3) := by decide +kernel
theorem dX14_isSingle_147 : decode cX14_isSingle 147 = .ok (.bipush 38, 2) := by decide +kernel
theorem dX14_isSingle_149 : decode cX14_isSingle 149 = .ok (.goto 34, 3) := by decide +kernel
theorem dX14_isSingle_152 : decode cX14_isSingle 152 = .ok (.aload_n 0, 1) := by decide +kernel
theorem dX14_isSingle_153 : decode cX14_isSingle 153 = .ok (.sipush 300, 3) := by decide +kernel
theorem dX14_isSingle_156 : decode cX14_isSingle 156 = .ok (.invokevirtual 121, 3) := by decide +kernel
theorem dX14_isSingle_159 : decode cX14_isSingle 159 = .ok (.ifCond .eq 8, 3) := by decide +kernel
theorem dX14_isSingle_162 : decode cX14_isSingle 162 = .ok (.bipush 39, 2) := by decide +kernel
theorem dX14_isSingle_164 : decode cX14_isSingle 164 = .ok (.goto 19, 3) := by decide +kernel
theorem dX14_isSingle_167 : decode cX14_isSingle 167 = .ok (.aload_n 0, 1) := by decide +kernel
theorem dX14_isSingle_168 : decode cX14_isSingle 168 = .ok (.sipush 301, 3) := by decide +kernel
theorem dX14_isSingle_171 : decode cX14_isSingle 171 = .ok (.invokevirtual 121, 3) := by decide +kernel
theorem dX14_isSingle_174 : decode cX14_isSingle 174 = .ok (.ifCond .eq 8, 3) := by decide +kernel
theorem dX14_isSingle_177 : decode cX14_isSingle 177 = .ok (.bipush 40, 2) := by decide +kernel
theorem dX14_isSingle_179 : decode cX14_isSingle 179 = .ok (.goto 4, 3) := by decide +kernel
theorem dX14_isSingle_182 : decode cX14_isSingle 182 = .ok (.iconst (-1), 1) := by decide +kernel
theorem dX14_isSingle_183 : decode cX14_isSingle 183 = .ok (.istore_n 1, 1) := by decide +kernel
theorem dX14_isSingle_184 : decode cX14_isSingle 184 = .ok (.iload_n 1, 1) := by decide +kernel
theorem dX14_isSingle_185 : decode cX14_isSingle 185 = .ok (.iconst (-1), 1) := by decide +kernel
theorem dX14_isSingle_186 : decode cX14_isSingle 186 = .ok (.if_icmp .ne 5, 3) := by decide +kernel
theorem dX14_isSingle_189 : decode cX14_isSingle 189 = .ok (.iconst 0, 1) := by decide +kernel
theorem dX14_isSingle_190 : decode cX14_isSingle 190 = .ok (.ireturn, 1) := by decide +kernel
theorem dX14_isSingle_191 : decode cX14_isSingle 191 = .ok (.aload_n 0, 1) := by decide +kernel
theorem dX14_isSingle_192 : decode cX14_isSingle 192 = .ok (.dup, 1) := by decide +kernel
theorem dX14_isSingle_193 : decode cX14_isSingle 193 = .ok (.getfield 118, 3) := by decide +kernel
theorem dX14_isSingle_196 : decode cX14_isSingle 196 = .ok (.iconst 1, 1) := by decide +kernel
theorem dX14_isSingle_197 : decode cX14_isSingle 197 = .ok (.iadd, 1) := by decide +kernel
theorem dX14_isSingle_198 : decode cX14_isSingle 198 = .ok (.putfield 118, 3) := by decide +kernel
theorem dX14_isSingle_201 : decode cX14_isSingle 201 = .ok (.aload_n 0, 1) := by decide +kernel
theorem dX14_isSingle_202 : decode cX14_isSingle 202 = .ok (.invokevirtual 171, 3) := by decide +kernel
theorem dX14_isSingle_205 : decode cX14_isSingle 205 = .ok (.ifCond .ne 5, 3) := by decide +kernel
theorem dX14_isSingle_208 : decode cX14_isSingle 208 = .ok (.iconst 0, 1) := by decide +kernel
theorem dX14_isSingle_209 : decode cX14_isSingle 209 = .ok (.ireturn, 1) := by decide +kernel
theorem dX14_isSingle_210 : decode cX14_isSingle 210 = .ok (.aload_n 0, 1) := by decide +kernel
theorem dX14_isSingle_211 : decode cX14_isSingle 211 = .ok (.iload_n 1, 1) := by decide +kernel
theorem dX14_isSingle_212 : decode cX14_isSingle 212 = .ok (.invokevirtual 180, 3) := by decide +kernel
theorem dX14_isSingle_215 : decode cX14_isSingle 215 = .ok (.iconst 1, 1) := by decide +kernel
theorem dX14_isSingle_216 : decode cX14_isSingle 216 = .ok (.ireturn, 1) := by decide +kernel
theorem dX14_isSum_0 : decode cX14_isSum 0 = .ok (.aload_n 0, 1) := by decide +kernel
theorem dX14_isSum_1 : decode cX14_isSum 1 = .ok (.invokevirtual 205, 3) := by decide +kernel
theorem dX14_isSum_4 : decode cX14_isSum 4 = .ok (.ifCond .ne 5, 3) := by decide +kernel
theorem dX14_isSum_7 : decode cX14_isSum 7 = .ok (.iconst 0, 1) := by decide +kernel
theorem dX14_isSum_8 : decode cX14_isSum 8 = .ok (.ireturn, 1) := by decide +kernel
theorem dX14_isSum_9 : decode cX14_isSum 9 = .ok (.aload_n 0, 1) := by decide +kernel
theorem dX14_isSum_10 : decode cX14_isSum 10 = .ok (.bipush 43, 2) := by decide +kernel
theorem dX14_isSum_12 : decode cX14_isSum 12 = .ok (.invokevirtual 199, 3) := by decide +kernel
theorem dX14_isSum_15 : decode cX14_isSum 15 = .ok (.ifCond .ne 12, 3) := by decide +kernel
theorem dX14_isSum_18 : decode cX14_isSum 18 = .ok (.aload_n 0, 1) := by decide +kernel
theorem dX14_isSum_19 : decode cX14_isSum 19 = .ok (.bipush 45, 2) := by decide +kernel
theorem dX14_isSum_21 : decode cX14_isSum 21 = .ok (.invokevirtual 199, 3) := by decide +kernel
theorem dX14_isSum_24 : decode cX14_isSum 24 = .ok (.ifCond .eq 47, 3) := by decide +kernel
theorem dX14_isSum_27 : decode cX14_isSum 27 = .ok (.aload_n 0, 1) := by decide +kernel
theorem dX14_isSum_28 : decode cX14_isSum 28 = .ok (.bipush 43, 2) := by decide +kernel
theorem dX14_isSum_30 : decode cX14_isSum 30 = .ok (.invokevirtual 199, 3) := by decide +kernel
theorem dX14_isSum_33 : decode cX14_isSum 33 = .ok (.ifCond .eq 8, 3) := by decide +kernel
theorem dX14_isSum_36 : decode cX14_isSum 36 = .ok (.bipush 32, 2) := by decide +kernel
theorem dX14_isSum_38 : decode cX14_isSum 38 = .ok (.goto 5, 3) := by decide +kernel
theorem dX14_isSum_41 : decode cX14_isSum 41 = .ok (.bipush 33, 2) := by decide +kernel
theorem dX14_isSum_43 : decode cX14_isSum 43 = .ok (.istore_n 1, 1) := by decide +kernel
theorem dX14_isSum_44 : decode cX14_isSum 44 = .ok (.aload_n 0, 1) := by decide +kernel
theorem dX14_isSum_45 : decode cX14_isSum 45 = .ok (.dup, 1) := by decide +kernel
theorem dX14_isSum_46 : decode cX14_isSum 46 = .ok (.getfield 118, 3) := by decide +kernel
theorem dX14_isSum_49 : decode cX14_isSum 49 = .ok (.iconst 1, 1) := by decide +kernel
theorem dX14_isSum_50 : decode cX14_isSum 50 = .ok (.iadd, 1) := by decide +kernel
theorem dX14_isSum_51 : decode cX14_isSum 51 = .ok (.putfield 118, 3) := by decide +kernel
theorem dX14_isSum_54 : decode cX14_isSum 54 = .ok (.aload_n 0, 1) := by decide +kernel
theorem dX14_isSum_55 : decode cX14_isSum 55 = .ok (.invokevirtual 205, 3) := by decide +kernel
theorem dX14_isSum_58 : decode cX14_isSum 58 = .ok (.ifCond .ne 5, 3) := by decide +kernel
theorem dX14_isSum_61 : decode cX14_isSum 61 = .ok (.iconst 0, 1) := by decide +kernel
theorem dX14_isSum_62 : decode cX14_isSum 62 = .ok (.ireturn, 1) := by decide +kernel
theorem dX14_isSum_63 : decode cX14_isSum 63 = .ok (.aload_n 0, 1) := by decide +kernel
theorem dX14_isSum_64 : decode cX14_isSum 64 = .ok (.iload_n 1, 1) := by decide +kernel
theorem dX14_isSum_65 : decode cX14_isSum 65 = .ok (.invokevirtual 180, 3) := by decide +kernel
theorem dX14_isSum_68 : decode cX14_isSum 68 = .ok (.goto (-59), 3) := by decide +kernel
theorem dX14_isSum_71 : decode cX14_isSum 71 = .ok (.iconst 1, 1) := by decide +kernel
theorem dX14_isSum_72 : decode cX14_isSum 72 = .ok (.ireturn, 1) := by decide +kernel
theorem dX14_isProduct_0 : decode cX14_isProduct 0 = .ok (.aload_n 0, 1) := by decide +kernel
theorem dX14_isProduct_1 : decode cX14_isProduct 1 = .ok (.invokevirtual 208, 3) := by decide +kernel
theorem dX14_isProduct_4 : decode cX14_isProduct 4 = .ok (.ifCond .ne 5, 3) := by decide +kernel
theorem dX14_isProduct_7 : decode cX14_isProduct 7 = .ok (.iconst 0, 1) := by decide +kernel
theorem dX14_isProduct_8 : decode cX14_isProduct 8 = .ok (.ireturn, 1) := by decide +kernel
theorem dX14_isProduct_9 : decode cX14_isProduct 9 = .ok (.aload_n 0, 1) := by decide +kernel
theorem dX14_isProduct_10 : decode cX14_isProduct 10 = .ok (.bipush 42, 2) := by decide +kernel
theorem dX14_isProduct_12 : decode cX14_isProduct 12 = .ok (.invokevirtual 199, 3) := by decide +kernel
theorem dX14_isProduct_15 : decode cX14_isProduct 15 = .ok (.ifCond .ne 12, 3) := by decide +kernel
theorem dX14_isProduct_18 : decode cX14_isProduct 18 = .ok (.aload_n 0, 1) := by decide +kernel
theorem dX14_isProduct_19 : decode cX14_isProduct 19 = .ok (.bipush 47, 2) := by decide +kernel
theorem dX14_isProduct_21 : decode cX14_isProduct 21 = .ok (.invokevirtual 199, 3) := by decide +kernel
theorem dX14_isProduct_24 : decode cX14_isProduct 24 = .ok (.ifCond .eq 47, 3) := by decide +kernel
theorem dX14_isProduct_27 : decode cX14_isProduct 27 = .ok (.aload_n 0, 1) := by decide +kernel
theorem dX14_isProduct_28 : decode cX14_isProduct 28 = .ok (.bipush 42, 2) := by decide +kernel
theorem dX14_isProduct_30 : decode cX14_isProduct 30 = .ok (.invokevirtual 199, 3) := by decide +kernel
theorem dX14_isProduct_33 : decode cX14_isProduct 33 = .ok (.ifCond .eq 8, 3) := by decide +kernel
theorem dX14_isProduct_36 : decode cX14_isProduct 36 = .ok (.bipush 34, 2) := by decide +kernel
theorem dX14_isProduct_38 : decode cX14_isProduct 38 = .ok (.goto 5, 3) := by decide +kernel
theorem dX14_isProduct_41 : decode cX14_isProduct 41 = .ok (.bipush 35, 2) := by decide +kernel
theorem dX14_isProduct_43 : decode cX14_isProduct 43 = .ok (.istore_n 1, 1) := by decide +kernel
theorem dX14_isProduct_44 : decode cX14_isProduct 44 = .ok (.aload_n 0, 1) := by decide +kernel
theorem dX14_isProduct_45 : decode cX14_isProduct 45 = .ok (.dup, 1) := by decide +kernel
theorem dX14_isProduct_46 : decode cX14_isProduct 46 = .ok (.getfield 118, 3) := by decide +kernel
theorem dX14_isProduct_49 : decode cX14_isProduct 49 = .ok (.iconst 1, 1) := by decide +kernel
theorem dX14_isProduct_50 : decode cX14_isProduct 50 = .ok (.iadd, 1) := by decide +kernel
theorem dX14_isProduct_51 : decode cX14_isProduct 51 = .ok (.putfield 118, 3) := by decide +kernel
theorem dX14_isProduct_54 : decode cX14_isProduct 54 = .ok (.aload_n 0, 1) := by decide +kernel
theorem dX14_isProduct_55 : decode cX14_isProduct 55 = .ok (.invokevirtual 208, 3) := by decide +kernel
theorem dX14_isProduct_58 : decode cX14_isProduct 58 = .ok (.ifCond .ne 5, 3) := by decide +kernel
theorem dX14_isProduct_61 : decode cX14_isProduct 61 = .ok (.iconst 0, 1) := by decide +kernel
theorem dX14_isProduct_62 : decode cX14_isProduct 62 = .ok (.ireturn, 1) := by decide +kernel
theorem dX14_isProduct_63 : decode cX14_isProduct 63 = .ok (.aload_n 0, 1) := by decide +kernel
theorem dX14_isProduct_64 : decode cX14_isProduct 64 = .ok (.iload_n 1, 1) := by decide +kernel
theorem dX14_isProduct_65 : decode cX14_isProduct 65 = .ok (.invokevirtual 180, 3) := by decide +kernel
theorem dX14_isProduct_68 : decode cX14_isProduct 68 = .ok (.goto (-59), 3) := by decide +kernel
theorem dX14_isProduct_71 : decode cX14_isProduct 71 = .ok (.iconst 1, 1) := by decide +kernel
theorem dX14_isProduct_72 : decode cX14_isProduct 72 = .ok (.ireturn, 1) := by decide +kernel
theorem dX14_isValue_0 : decode cX14_isValue 0 = .ok (.aload_n 0, 1) := by decide +kernel
theorem dX14_isValue_1 : decode cX14_isValue 1 = .ok (.bipush 41, 2) := by decide +kernel
theorem dX14_isValue_3 : decode cX14_isValue 3 = .ok (.invokevirtual 121, 3) := by decide +kernel
theorem dX14_isValue_6 : decode cX14_isValue 6 = .ok (.ifCond .eq 33, 3) := by decide +kernel
theorem dX14_isValue_9 : decode cX14_isValue 9 = .ok (.aload_n 0, 1) := by decide +kernel
theorem dX14_isValue_10 : decode cX14_isValue 10 = .ok (.bipush 30, 2) := by decide +kernel
theorem dX14_isValue_12 : decode cX14_isValue 12 = .ok (.invokevirtual 180, 3) := by decide +kernel
theorem dX14_isValue_15 : decode cX14_isValue 15 = .ok (.aload_n 0, 1) := by decide +kernel
theorem dX14_isValue_16 : decode cX14_isValue 16 = .ok (.aload_n 0, 1) := by decide +kernel
theorem dX14_isValue_17 : decode cX14_isValue 17 = .ok (.aload_n 0, 1) := by decide +kernel
theorem dX14_isValue_18 : decode cX14_isValue 18 = .ok (.getfield 118, 3) := by decide +kernel
theorem dX14_isValue_21 : decode cX14_isValue 21 = .ok (.invokevirtual 211, 3) := by decide +kernel
theorem dX14_isValue_24 : decode cX14_isValue 24 = .ok (.invokevirtual 180, 3) := by decide +kernel
theorem dX14_isValue_27 : decode cX14_isValue 27 = .ok (.aload_n 0, 1) := by decide +kernel
theorem dX14_isValue_28 : decode cX14_isValue 28 = .ok (.dup, 1) := by decide +kernel
theorem dX14_isValue_29 : decode cX14_isValue 29 = .ok (.getfield 118, 3) := by decide +kernel
theorem dX14_isValue_32 : decode cX14_isValue 32 = .ok (.iconst 1, 1) := by decide +kernel
theorem dX14_isValue_33 : decode cX14_isValue 33 = .ok (.iadd, 1) := by decide +kernel
theorem dX14_isValue_34 : decode cX14_isValue 34 = .ok (.putfield 118, 3) := by decide +kernel
theorem dX14_isValue_37 : decode cX14_isValue 37 = .ok (.iconst 1, 1) := by decide +kernel
theorem dX14_isValue_38 : decode cX14_isValue 38 = .ok (.ireturn, 1) := by decide +kernel
theorem dX14_isValue_39 : decode cX14_isValue 39 = .ok (.aload_n 0, 1) := by decide +kernel
theorem dX14_isValue_40 : decode cX14_isValue 40 = .ok (.bipush 15, 2) := by decide +kernel
theorem dX14_isValue_42 : decode cX14_isValue 42 = .ok (.invokevirtual 121, 3) := by decide +kernel
theorem dX14_isValue_45 : decode cX14_isValue 45 = .ok (.ifCond .eq 21, 3) := by decide +kernel
theorem dX14_isValue_48 : decode cX14_isValue 48 = .ok (.aload_n 0, 1) := by decide +kernel
theorem dX14_isValue_49 : decode cX14_isValue 49 = .ok (.bipush 15, 2) := by decide +kernel
theorem dX14_isValue_51 : decode cX14_isValue 51 = .ok (.invokevirtual 180, 3) := by decide +kernel
theorem dX14_isValue_54 : decode cX14_isValue 54 = .ok (.aload_n 0, 1) := by decide +kernel
theorem dX14_isValue_55 : decode cX14_isValue 55 = .ok (.dup, 1) := by decide +kernel
theorem dX14_isValue_56 : decode cX14_isValue 56 = .ok (.getfield 118, 3) := by decide +kernel
theorem dX14_isValue_59 : decode cX14_isValue 59 = .ok (.iconst 1, 1) := by decide +kernel
theorem dX14_isValue_60 : decode cX14_isValue 60 = .ok (.iadd, 1) := by decide +kernel
theorem dX14_isValue_61 : decode cX14_isValue 61 = .ok (.putfield 118, 3) := by decide +kernel
theorem dX14_isValue_64 : decode cX14_isValue 64 = .ok (.iconst 1, 1) := by decide +kernel
theorem dX14_isValue_65 : decode cX14_isValue 65 = .ok (.ireturn, 1) := by decide +kernel
theorem dX14_isValue_66 : decode cX14_isValue 66 = .ok (.aload_n 0, 1) := by decide +kernel
theorem dX14_isValue_67 : decode cX14_isValue 67 = .ok (.bipush 16, 2) := by decide +kernel
theorem dX14_isValue_69 : decode cX14_isValue 69 = .ok (.invokevirtual 121, 3) := by decide +kernel
theorem dX14_isValue_72 : decode cX14_isValue 72 = .ok (.ifCond .ne 20, 3) := by decide +kernel
theorem dX14_isValue_75 : decode cX14_isValue 75 = .ok (.aload_n 0, 1) := by decide +kernel
theorem dX14_isValue_76 : decode cX14_isValue 76 = .ok (.bipush 17, 2) := by decide +kernel
theorem dX14_isValue_78 : decode cX14_isValue 78 = .ok (.invokevirtual 121, 3) := by decide +kernel
theorem dX14_isValue_81 : decode cX14_isValue 81 = .ok (.ifCond .ne 11, 3) := by decide +kernel
theorem dX14_isValue_84 : decode cX14_isValue 84 = .ok (.aload_n 0, 1) := by decide +kernel
theorem dX14_isValue_85 : decode cX14_isValue 85 = .ok (.iconst 4, 1) := by decide +kernel
theorem dX14_isValue_86 : decode cX14_isValue 86 = .ok (.invokevirtual 121, 3) := by decide +kernel
theorem dX14_isValue_89 : decode cX14_isValue 89 = .ok (.ifCond .eq 10, 3) := by decide +kernel
theorem dX14_isValue_92 : decode cX14_isValue 92 = .ok (.aload_n 0, 1) := by decide +kernel
theorem dX14_isValue_93 : decode cX14_isValue 93 = .ok (.bipush 14, 2) := by decide +kernel
theorem dX14_isValue_95 : decode cX14_isValue 95 = .ok (.invokevirtual 202, 3) := by decide +kernel
theorem dX14_isValue_98 : decode cX14_isValue 98 = .ok (.ireturn, 1) := by decide +kernel
theorem dX14_isValue_99 : decode cX14_isValue 99 = .ok (.aload_n 0, 1) := by decide +kernel
theorem dX14_isValue_100 : decode cX14_isValue 100 = .ok (.iconst 2, 1) := by decide +kernel
theorem dX14_isValue_101 : decode cX14_isValue 101 = .ok (.invokevirtual 121, 3) := by decide +kernel
theorem dX14_isValue_104 : decode cX14_isValue 104 = .ok (.ifCond .ne 12, 3) := by decide +kernel
theorem dX14_isValue_107 : decode cX14_isValue 107 = .ok (.aload_n 0, 1) := by decide +kernel
theorem dX14_isValue_108 : decode cX14_isValue 108 = .ok (.bipush 18, 2) := by decide +kernel
theorem dX14_isValue_110 : decode cX14_isValue 110 = .ok (.invokevirtual 121, 3) := by decide +kernel
theorem dX14_isValue_113 : decode cX14_isValue 113 = .ok (.ifCond .eq 10, 3) := by decide +kernel
theorem dX14_isValue_116 : decode cX14_isValue 116 = .ok (.aload_n 0, 1) := by decide +kernel
theorem dX14_isValue_117 : decode cX14_isValue 117 = .ok (.bipush 15, 2) := by decide +kernel
theorem dX14_isValue_119 : decode cX14_isValue 119 = .ok (.invokevirtual 202, 3) := by decide +kernel
theorem dX14_isValue_122 : decode cX14_isValue 122 = .ok (.ireturn, 1) := by decide +kernel
theorem dX14_isValue_123 : decode cX14_isValue 123 = .ok (.aload_n 0, 1) := by decide +kernel
theorem dX14_isValue_124 : decode cX14_isValue 124 = .ok (.bipush 45, 2) := by decide +kernel
theorem dX14_isValue_126 : decode cX14_isValue 126 = .ok (.invokevirtual 199, 3) := by decide +kernel
theorem dX14_isValue_129 : decode cX14_isValue 129 = .ok (.ifCond .eq 37, 3) := by decide +kernel
theorem dX14_isValue_132 : decode cX14_isValue 132 = .ok (.aload_n 0, 1) := by decide +kernel
theorem dX14_isValue_133 : decode cX14_isValue 133 = .ok (.invokevirtual 196, 3) := by decide +kernel
theorem dX14_isValue_136 : decode cX14_isValue 136 = .ok (.ifCond .eq 10, 3) := by decide +kernel
theorem dX14_isValue_139 : decode cX14_isValue 139 = .ok (.aload_n 0, 1) := by decide +kernel
theorem dX14_isValue_140 : decode cX14_isValue 140 = .ok (.invokevirtual 208, 3) := by decide +kernel
theorem dX14_isValue_143 : decode cX14_isValue 143 = .ok (.ifCond .ne 5, 3) := by decide +kernel
theorem dX14_isValue_146 : decode cX14_isValue 146 = .ok (.iconst 0, 1) := by decide +kernel
theorem dX14_isValue_147 : decode cX14_isValue 147 = .ok (.ireturn, 1) := by decide +kernel
theorem dX14_isValue_148 : decode cX14_isValue 148 = .ok (.aload_n 0, 1) := by decide +kernel
theorem dX14_isValue_149 : decode cX14_isValue 149 = .ok (.dup, 1) := by decide +kernel
theorem dX14_isValue_150 : decode cX14_isValue 150 = .ok (.getfield 187, 3) := by decide +kernel
theorem dX14_isValue_153 : decode cX14_isValue 153 = .ok (.iconst 1, 1) := by decide +kernel
theorem dX14_isValue_154 : decode cX14_isValue 154 = .ok (.isub, 1) := by decide +kernel
theorem dX14_isValue_155 : decode cX14_isValue 155 = .ok (.putfield 187, 3) := by decide +kernel
theorem dX14_isValue_158 : decode cX14_isValue 158 = .ok (.aload_n 0, 1) := by decide +kernel
theorem dX14_isValue_159 : decode cX14_isValue 159 = .ok (.bipush 31, 2) := by decide +kernel
theorem dX14_isValue_161 : decode cX14_isValue 161 = .ok (.invokevirtual 180, 3) := by decide +kernel
theorem dX14_isValue_164 : decode cX14_isValue 164 = .ok (.iconst 1, 1) := by decide +kernel
theorem dX14_isValue_165 : decode cX14_isValue 165 = .ok (.ireturn, 1) := by decide +kernel
theorem dX14_isValue_166 : decode cX14_isValue 166 = .ok (.aload_n 0, 1) := by decide +kernel
theorem dX14_isValue_167 : decode cX14_isValue 167 = .ok (.getfield 17, 3) := by decide +kernel
theorem dX14_isValue_170 : decode cX14_isValue 170 = .ok (.aload_n 0, 1) := by decide +kernel
theorem dX14_isValue_171 : decode cX14_isValue 171 = .ok (.getfield 118, 3) := by decide +kernel
theorem dX14_isValue_174 : decode cX14_isValue 174 = .ok (.iaload, 1) := by decide +kernel
theorem dX14_isValue_175 : decode cX14_isValue 175 = .ok (.istore_n 1, 1) := by decide +kernel
theorem dX14_isValue_176 : decode cX14_isValue 176 = .ok (.aload_n 0, 1) := by decide +kernel
theorem dX14_isValue_177 : decode cX14_isValue 177 = .ok (.bipush 23, 2) := by decide +kernel
theorem dX14_isValue_179 : decode cX14_isValue 179 = .ok (.invokevirtual 124, 3) := by decide +kernel
theorem dX14_isValue_182 : decode cX14_isValue 182 = .ok (.ifCond .ne 12, 3) := by decide +kernel
theorem dX14_isValue_185 : decode cX14_isValue 185 = .ok (.aload_n 0, 1) := by decide +kernel
theorem dX14_isValue_186 : decode cX14_isValue 186 = .ok (.bipush 24, 2) := by decide +kernel
theorem dX14_isValue_188 : decode cX14_isValue 188 = .ok (.invokevirtual 124, 3) := by decide +kernel
theorem dX14_isValue_191 : decode cX14_isValue 191 = .ok (.ifCond .eq 7, 3) := by decide +kernel
theorem dX14_isValue_194 : decode cX14_isValue 194 = .ok (.iconst 1, 1) := by decide +kernel
theorem dX14_isValue_195 : decode cX14_isValue 195 = .ok (.goto 4, 3) := by decide +kernel
theorem dX14_isValue_198 : decode cX14_isValue 198 = .ok (.iconst 0, 1) := by decide +kernel
theorem dX14_isValue_199 : decode cX14_isValue 199 = .ok (.istore_n 2, 1) := by decide +kernel
theorem dX14_isValue_200 : decode cX14_isValue 200 = .ok (.aload_n 0, 1) := by decide +kernel
theorem dX14_isValue_201 : decode cX14_isValue 201 = .ok (.bipush 40, 2) := by decide +kernel
theorem dX14_isValue_203 : decode cX14_isValue 203 = .ok (.invokevirtual 199, 3) := by decide +kernel
theorem dX14_isValue_206 : decode cX14_isValue 206 = .ok (.ifCond .eq 37, 3) := by decide +kernel
theorem dX14_isValue_209 : decode cX14_isValue 209 = .ok (.aload_n 0, 1) := by decide +kernel
theorem dX14_isValue_210 : decode cX14_isValue 210 = .ok (.invokevirtual 196, 3) := by decide +kernel
theorem dX14_isValue_213 : decode cX14_isValue 213 = .ok (.ifCond .eq 30, 3) := by decide +kernel
theorem dX14_isValue_216 : decode cX14_isValue 216 = .ok (.aload_n 0, 1) := by decide +kernel
theorem dX14_isValue_217 : decode cX14_isValue 217 = .ok (.invokevirtual 171, 3) := by decide +kernel
theorem dX14_isValue_220 : decode cX14_isValue 220 = .ok (.ifCond .eq 23, 3) := by decide +kernel
theorem dX14_isValue_223 : decode cX14_isValue 223 = .ok (.iload_n 2, 1) := by decide +kernel
theorem dX14_isValue_224 : decode cX14_isValue 224 = .ok (.ifCond .eq 21, 3) := by decide +kernel
theorem dX14_isValue_227 : decode cX14_isValue 227 = .ok (.aload_n 0, 1) := by decide +kernel
theorem dX14_isValue_228 : decode cX14_isValue 228 = .ok (.bipush 44, 2) := by decide +kernel
theorem dX14_isValue_230 : decode cX14_isValue 230 = .ok (.invokevirtual 145, 3) := by decide +kernel
theorem dX14_isValue_233 : decode cX14_isValue 233 = .ok (.ifCond .eq 10, 3) := by decide +kernel
theorem dX14_isValue_236 : decode cX14_isValue 236 = .ok (.aload_n 0, 1) := by decide +kernel
theorem dX14_isValue_237 : decode cX14_isValue 237 = .ok (.invokevirtual 171, 3) := by decide +kernel
theorem dX14_isValue_240 : decode cX14_isValue 240 = .ok (.ifCond .ne 5, 3) := by decide +kernel
theorem dX14_isValue_243 : decode cX14_isValue 243 = .ok (.iconst 0, 1) := by decide +kernel
theorem dX14_isValue_244 : decode cX14_isValue 244 = .ok (.ireturn, 1) := by decide +kernel
theorem dX14_isValue_245 : decode cX14_isValue 245 = .ok (.aload_n 0, 1) := by decide +kernel
theorem dX14_isValue_246 : decode cX14_isValue 246 = .ok (.dup, 1) := by decide +kernel
theorem dX14_isValue_247 : decode cX14_isValue 247 = .ok (.getfield 187, 3) := by decide +kernel
theorem dX14_isValue_250 : decode cX14_isValue 250 = .ok (.iconst 1, 1) := by decide +kernel
theorem dX14_isValue_251 : decode cX14_isValue 251 = .ok (.isub, 1) := by decide +kernel
theorem dX14_isValue_252 : decode cX14_isValue 252 = .ok (.putfield 187, 3) := by decide +kernel
theorem dX14_isValue_255 : decode cX14_isValue 255 = .ok (.iload_n 2, 1) := by decide +kernel
theorem dX14_isValue_256 : decode cX14_isValue 256 = .ok (.ifCond .eq 8, 3) := by decide +kernel
theorem dX14_isValue_259 : decode cX14_isValue 259 = .ok (.aload_n 0, 1) := by decide +kernel
theorem dX14_isValue_260 : decode cX14_isValue 260 = .ok (.iload_n 1, 1) := by decide +kernel
theorem dX14_isValue_261 : decode cX14_isValue 261 = .ok (.invokevirtual 180, 3) := by decide +kernel
theorem dX14_isValue_264 : decode cX14_isValue 264 = .ok (.aload_n 0, 1) := by decide +kernel
theorem dX14_isValue_265 : decode cX14_isValue 265 = .ok (.bipush 41, 2) := by decide +kernel
theorem dX14_isValue_267 : decode cX14_isValue 267 = .ok (.invokevirtual 145, 3) := by decide +kernel
theorem dX14_isValue_270 : decode cX14_isValue 270 = .ok (.ireturn, 1) := by decide +kernel
theorem dX14_numberAt_0 : decode cX14_numberAt 0 = .ok (.iconst 0, 1) := by decide +kernel
theorem dX14_numberAt_1 : decode cX14_numberAt 1 = .ok (.istore_n 2, 1) := by decide +kernel
theorem dX14_numberAt_2 : decode cX14_numberAt 2 = .ok (.iconst 0, 1) := by decide +kernel
theorem dX14_numberAt_3 : decode cX14_numberAt 3 = .ok (.istore_n 3, 1) := by decide +kernel
theorem dX14_numberAt_4 : decode cX14_numberAt 4 = .ok (.iload_n 3, 1) := by decide +kernel
theorem dX14_numberAt_5 : decode cX14_numberAt 5 = .ok (.aload_n 0, 1) := by decide +kernel
theorem dX14_numberAt_6 : decode cX14_numberAt 6 = .ok (.getfield 23, 3) := by decide +kernel
theorem dX14_numberAt_9 : decode cX14_numberAt 9 = .ok (.iload_n 1, 1) := by decide +kernel
theorem dX14_numberAt_10 : decode cX14_numberAt 10 = .ok (.iaload, 1) := by decide +kernel
theorem dX14_numberAt_11 : decode cX14_numberAt 11 = .ok (.if_icmp .ge 31, 3) := by decide +kernel
theorem dX14_numberAt_14 : decode cX14_numberAt 14 = .ok (.bipush 10, 2) := by decide +kernel
theorem dX14_numberAt_16 : decode cX14_numberAt 16 = .ok (.iload_n 2, 1) := by decide +kernel
theorem dX14_numberAt_17 : decode cX14_numberAt 17 = .ok (.imul, 1) := by decide +kernel
theorem dX14_numberAt_18 : decode cX14_numberAt 18 = .ok (.aload_n 0, 1) := by decide +kernel
theorem dX14_numberAt_19 : decode cX14_numberAt 19 = .ok (.getfield 9, 3) := by decide +kernel
theorem dX14_numberAt_22 : decode cX14_numberAt 22 = .ok (.aload_n 0, 1) := by decide +kernel
theorem dX14_numberAt_23 : decode cX14_numberAt 23 = .ok (.getfield 20, 3) := by decide +kernel
theorem dX14_numberAt_26 : decode cX14_numberAt 26 = .ok (.iload_n 1, 1) := by decide +kernel
theorem dX14_numberAt_27 : decode cX14_numberAt 27 = .ok (.iaload, 1) := by decide +kernel
theorem dX14_numberAt_28 : decode cX14_numberAt 28 = .ok (.iload_n 3, 1) := by decide +kernel
theorem dX14_numberAt_29 : decode cX14_numberAt 29 = .ok (.iadd, 1) := by decide +kernel
theorem dX14_numberAt_30 : decode cX14_numberAt 30 = .ok (.iaload, 1) := by decide +kernel
theorem dX14_numberAt_31 : decode cX14_numberAt 31 = .ok (.iadd, 1) := by decide +kernel
theorem dX14_numberAt_32 : decode cX14_numberAt 32 = .ok (.bipush 48, 2) := by decide +kernel
theorem dX14_numberAt_34 : decode cX14_numberAt 34 = .ok (.isub, 1) := by decide +kernel
theorem dX14_numberAt_35 : decode cX14_numberAt 35 = .ok (.istore_n 2, 1) := by decide +kernel
theorem dX14_numberAt_36 : decode cX14_numberAt 36 = .ok (.iinc 3 1, 3) := by decide +kernel
theorem dX14_numberAt_39 : decode cX14_numberAt 39 = .ok (.goto (-35), 3) := by decide +kernel
theorem dX14_numberAt_42 : decode cX14_numberAt 42 = .ok (.iload_n 2, 1) := by decide +kernel
theorem dX14_numberAt_43 : decode cX14_numberAt 43 = .ok (.ireturn, 1) := by decide +kernel
theorem dX14_isSame_0 : decode cX14_isSame 0 = .ok (.aload_n 0, 1) := by decide +kernel
theorem dX14_isSame_1 : decode cX14_isSame 1 = .ok (.getfield 23, 3) := by decide +kernel
theorem dX14_isSame_4 : decode cX14_isSame 4 = .ok (.iload_n 1, 1) := by decide +kernel
theorem dX14_isSame_5 : decode cX14_isSame 5 = .ok (.iaload, 1) := by decide +kernel
theorem dX14_isSame_6 : decode cX14_isSame 6 = .ok (.aload_n 0, 1) := by decide +kernel
theorem dX14_isSame_7 : decode cX14_isSame 7 = .ok (.getfield 23, 3) := by decide +kernel
theorem dX14_isSame_10 : decode cX14_isSame 10 = .ok (.iload_n 2, 1) := by decide +kernel
theorem dX14_isSame_11 : decode cX14_isSame 11 = .ok (.iaload, 1) := by decide +kernel
theorem dX14_isSame_12 : decode cX14_isSame 12 = .ok (.if_icmp .eq 5, 3) := by decide +kernel
theorem dX14_isSame_15 : decode cX14_isSame 15 = .ok (.iconst 0, 1) := by decide +kernel
theorem dX14_isSame_16 : decode cX14_isSame 16 = .ok (.ireturn, 1) := by decide +kernel
theorem dX14_isSame_17 : decode cX14_isSame 17 = .ok (.iconst 0, 1) := by decide +kernel
theorem dX14_isSame_18 : decode cX14_isSame 18 = .ok (.istore_n 3, 1) := by decide +kernel
theorem dX14_isSame_19 : decode cX14_isSame 19 = .ok (.iload_n 3, 1) := by decide +kernel
theorem dX14_isSame_20 : decode cX14_isSame 20 = .ok (.aload_n 0, 1) := by decide +kernel
theorem dX14_isSame_21 : decode cX14_isSame 21 = .ok (.getfield 23, 3) := by decide +kernel
theorem dX14_isSame_24 : decode cX14_isSame 24 = .ok (.iload_n 1, 1) := by decide +kernel
theorem dX14_isSame_25 : decode cX14_isSame 25 = .ok (.iaload, 1) := by decide +kernel
theorem dX14_isSame_26 : decode cX14_isSame 26 = .ok (.if_icmp .ge 40, 3) := by decide +kernel
theorem dX14_isSame_29 : decode cX14_isSame 29 = .ok (.aload_n 0, 1) := by decide +kernel
theorem dX14_isSame_30 : decode cX14_isSame 30 = .ok (.getfield 9, 3) := by decide +kernel
theorem dX14_isSame_33 : decode cX14_isSame 33 = .ok (.aload_n 0, 1) := by decide +kernel
theorem dX14_isSame_34 : decode cX14_isSame 34 = .ok (.getfield 20, 3) := by decide +kernel
theorem dX14_isSame_37 : decode cX14_isSame 37 = .ok (.iload_n 1, 1) := by decide +kernel
theorem dX14_isSame_38 : decode cX14_isSame 38 = .ok (.iaload, 1) := by decide +kernel
theorem dX14_isSame_39 : decode cX14_isSame 39 = .ok (.iload_n 3, 1) := by decide +kernel
theorem dX14_isSame_40 : decode cX14_isSame 40 = .ok (.iadd, 1) := by decide +kernel
theorem dX14_isSame_41 : decode cX14_isSame 41 = .ok (.iaload, 1) := by decide +kernel
theorem dX14_isSame_42 : decode cX14_isSame 42 = .ok (.aload_n 0, 1) := by decide +kernel
theorem dX14_isSame_43 : decode cX14_isSame 43 = .ok (.getfield 9, 3) := by decide +kernel
theorem dX14_isSame_46 : decode cX14_isSame 46 = .ok (.aload_n 0, 1) := by decide +kernel
theorem dX14_isSame_47 : decode cX14_isSame 47 = .ok (.getfield 20, 3) := by decide +kernel
theorem dX14_isSame_50 : decode cX14_isSame 50 = .ok (.iload_n 2, 1) := by decide +kernel
theorem dX14_isSame_51 : decode cX14_isSame 51 = .ok (.iaload, 1) := by decide +kernel
theorem dX14_isSame_52 : decode cX14_isSame 52 = .ok (.iload_n 3, 1) := by decide +kernel
theorem dX14_isSame_53 : decode cX14_isSame 53 = .ok (.iadd, 1) := by decide +kernel
theorem dX14_isSame_54 : decode cX14_isSame 54 = .ok (.iaload, 1) := by decide +kernel
theorem dX14_isSame_55 : decode cX14_isSame 55 = .ok (.if_icmp .eq 5, 3) := by decide +kernel
theorem dX14_isSame_58 : decode cX14_isSame 58 = .ok (.iconst 0, 1) := by decide +kernel
theorem dX14_isSame_59 : decode cX14_isSame 59 = .ok (.ireturn, 1) := by decide +kernel
theorem dX14_isSame_60 : decode cX14_isSame 60 = .ok (.iinc 3 1, 3) := by decide +kernel
theorem dX14_isSame_63 : decode cX14_isSame 63 = .ok (.goto (-44), 3) := by decide +kernel
theorem dX14_isSame_66 : decode cX14_isSame 66 = .ok (.iconst 1, 1) := by decide +kernel
theorem dX14_isSame_67 : decode cX14_isSame 67 = .ok (.ireturn, 1) := by decide +kernel
theorem dX14_told_0 : decode cX14_told 0 = .ok (.iconst 0, 1) := by decide +kernel
theorem dX14_told_1 : decode cX14_told 1 = .ok (.istore_n 3, 1) := by decide +kernel
theorem dX14_told_2 : decode cX14_told 2 = .ok (.iconst 0, 1) := by decide +kernel
theorem dX14_told_3 : decode cX14_told 3 = .ok (.istore 4, 2) := by decide +kernel
theorem dX14_told_5 : decode cX14_told 5 = .ok (.iload 4, 2) := by decide +kernel
theorem dX14_told_7 : decode cX14_told 7 = .ok (.iload_n 1, 1) := by decide +kernel
theorem dX14_told_8 : decode cX14_told 8 = .ok (.if_icmp .ge 38, 3) := by decide +kernel
theorem dX14_told_11 : decode cX14_told 11 = .ok (.aload_n 0, 1) := by decide +kernel
theorem dX14_told_12 : decode cX14_told 12 = .ok (.getfield 26, 3) := by decide +kernel
theorem dX14_told_15 : decode cX14_told 15 = .ok (.iload 4, 2) := by decide +kernel
theorem dX14_told_17 : decode cX14_told 17 = .ok (.iaload, 1) := by decide +kernel
theorem dX14_told_18 : decode cX14_told 18 = .ok (.iload_n 2, 1) := by decide +kernel
theorem dX14_told_19 : decode cX14_told 19 = .ok (.if_icmp .eq 6, 3) := by decide +kernel
theorem dX14_told_22 : decode cX14_told 22 = .ok (.goto 18, 3) := by decide +kernel
theorem dX14_told_25 : decode cX14_told 25 = .ok (.aload_n 0, 1) := by decide +kernel
theorem dX14_told_26 : decode cX14_told 26 = .ok (.iload 4, 2) := by decide +kernel
theorem dX14_told_28 : decode cX14_told 28 = .ok (.iload_n 1, 1) := by decide +kernel
theorem dX14_told_29 : decode cX14_told 29 = .ok (.invokevirtual 214, 3) := by decide +kernel
theorem dX14_told_32 : decode cX14_told 32 = .ok (.ifCond .eq 5, 3) := by decide +kernel
theorem dX14_told_35 : decode cX14_told 35 = .ok (.iload_n 3, 1) := by decide +kernel
theorem dX14_told_36 : decode cX14_told 36 = .ok (.ireturn, 1) := by decide +kernel
theorem dX14_told_37 : decode cX14_told 37 = .ok (.iinc 3 1, 3) := by decide +kernel
theorem dX14_told_40 : decode cX14_told 40 = .ok (.iinc 4 1, 3) := by decide +kernel
theorem dX14_told_43 : decode cX14_told 43 = .ok (.goto (-38), 3) := by decide +kernel
theorem dX14_told_46 : decode cX14_told 46 = .ok (.iconst (-1), 1) := by decide +kernel
theorem dX14_told_47 : decode cX14_told 47 = .ok (.ireturn, 1) := by decide +kernel
theorem dX14_look_0 : decode cX14_look 0 = .ok (.aload_n 0, 1) := by decide +kernel
theorem dX14_look_1 : decode cX14_look 1 = .ok (.getfield 29, 3) := by decide +kernel
theorem dX14_look_4 : decode cX14_look 4 = .ok (.iload_n 1, 1) := by decide +kernel
theorem dX14_look_5 : decode cX14_look 5 = .ok (.aload_n 0, 1) := by decide +kernel
theorem dX14_look_6 : decode cX14_look 6 = .ok (.iload_n 1, 1) := by decide +kernel
theorem dX14_look_7 : decode cX14_look 7 = .ok (.iload_n 2, 1) := by decide +kernel
theorem dX14_look_8 : decode cX14_look 8 = .ok (.invokevirtual 217, 3) := by decide +kernel
theorem dX14_look_11 : decode cX14_look 11 = .ok (.iastore, 1) := by decide +kernel
theorem dX14_look_12 : decode cX14_look 12 = .ok (.aload_n 0, 1) := by decide +kernel
theorem dX14_look_13 : decode cX14_look 13 = .ok (.getfield 29, 3) := by decide +kernel
theorem dX14_look_16 : decode cX14_look 16 = .ok (.iload_n 1, 1) := by decide +kernel
theorem dX14_look_17 : decode cX14_look 17 = .ok (.iaload, 1) := by decide +kernel
theorem dX14_look_18 : decode cX14_look 18 = .ok (.iconst (-1), 1) := by decide +kernel
theorem dX14_look_19 : decode cX14_look 19 = .ok (.if_icmp .ne 7, 3) := by decide +kernel
theorem dX14_look_22 : decode cX14_look 22 = .ok (.iconst 3, 1) := by decide +kernel
theorem dX14_look_23 : decode cX14_look 23 = .ok (.goto 4, 3) := by decide +kernel
theorem dX14_look_26 : decode cX14_look 26 = .ok (.iconst 0, 1) := by decide +kernel
theorem dX14_look_27 : decode cX14_look 27 = .ok (.ireturn, 1) := by decide +kernel
theorem dX14_inRange_0 : decode cX14_inRange 0 = .ok (.aload_n 0, 1) := by decide +kernel
theorem dX14_inRange_1 : decode cX14_inRange 1 = .ok (.iload_n 1, 1) := by decide +kernel
theorem dX14_inRange_2 : decode cX14_inRange 2 = .ok (.invokevirtual 211, 3) := by decide +kernel
theorem dX14_inRange_5 : decode cX14_inRange 5 = .ok (.iload_n 2, 1) := by decide +kernel
theorem dX14_inRange_6 : decode cX14_inRange 6 = .ok (.iload_n 3, 1) := by decide +kernel
theorem dX14_inRange_7 : decode cX14_inRange 7 = .ok (.invokestatic 63, 3) := by decide +kernel
theorem dX14_inRange_10 : decode cX14_inRange 10 = .ok (.ifCond .eq 7, 3) := by decide +kernel
theorem dX14_inRange_13 : decode cX14_inRange 13 = .ok (.iconst 0, 1) := by decide +kernel
theorem dX14_inRange_14 : decode cX14_inRange 14 = .ok (.goto 4, 3) := by decide +kernel
theorem dX14_inRange_17 : decode cX14_inRange 17 = .ok (.iconst 5, 1) := by decide +kernel
theorem dX14_inRange_18 : decode cX14_inRange 18 = .ok (.ireturn, 1) := by decide +kernel
theorem dX14_errorOf_0 : decode cX14_errorOf 0 = .ok (.aload_n 0, 1) := by decide +kernel
theorem dX14_errorOf_1 : decode cX14_errorOf 1 = .ok (.getfield 39, 3) := by decide +kernel
theorem dX14_errorOf_4 : decode cX14_errorOf 4 = .ok (.astore_n 2, 1) := by decide +kernel
theorem dX14_errorOf_5 : decode cX14_errorOf 5 = .ok (.aload_n 2, 1) := by decide +kernel
theorem dX14_errorOf_6 : decode cX14_errorOf 6 = .ok (.getfield 60, 3) := by decide +kernel
theorem dX14_errorOf_9 : decode cX14_errorOf 9 = .ok (.iconst 1, 1) := by decide +kernel
theorem dX14_errorOf_10 : decode cX14_errorOf 10 = .ok (.isub, 1) := by decide +kernel
theorem dX14_errorOf_11 : decode cX14_errorOf 11 = .ok (.istore_n 3, 1) := by decide +kernel
theorem dX14_errorOf_12 : decode cX14_errorOf 12 = .ok (.aload_n 2, 1) := by decide +kernel
theorem dX14_errorOf_13 : decode cX14_errorOf 13 = .ok (.getfield 67, 3) := by decide +kernel
theorem dX14_errorOf_16 : decode cX14_errorOf 16 = .ok (.iconst 1, 1) := by decide +kernel
theorem dX14_errorOf_17 : decode cX14_errorOf 17 = .ok (.isub, 1) := by decide +kernel
theorem dX14_errorOf_18 : decode cX14_errorOf 18 = .ok (.istore 4, 2) := by decide +kernel
theorem dX14_errorOf_20 : decode cX14_errorOf 20 = .ok (.aload_n 0, 1) := by decide +kernel
theorem dX14_errorOf_21 : decode cX14_errorOf 21 = .ok (.getfield 26, 3) := by decide +kernel
theorem dX14_errorOf_24 : decode cX14_errorOf 24 = .ok (.iload_n 1, 1) := by decide +kernel
theorem dX14_errorOf_25 : decode cX14_errorOf 25 = .ok (.iaload, 1) := by decide +kernel
theorem dX14_errorOf_26 : decode cX14_errorOf 26 = .ok (.tableswitch 473 1 15 #[74, 114, 149, 194, 217, 237, 284, 304, 325, 346, 374, 430, 402, 459, 466], 74) := by decide +kernel
theorem dX14_errorOf_100 : decode cX14_errorOf 100 = .ok (.aload_n 0, 1) := by decide +kernel
theorem dX14_errorOf_101 : decode cX14_errorOf 101 = .ok (.iload_n 1, 1) := by decide +kernel
theorem dX14_errorOf_102 : decode cX14_errorOf 102 = .ok (.iconst 1, 1) := by decide +kernel
theorem dX14_errorOf_103 : decode cX14_errorOf 103 = .ok (.invokevirtual 217, 3) := by decide +kernel
theorem dX14_errorOf_106 : decode cX14_errorOf 106 = .ok (.iconst (-1), 1) := by decide +kernel
theorem dX14_errorOf_107 : decode cX14_errorOf 107 = .ok (.if_icmp .eq 5, 3) := by decide +kernel
theorem dX14_errorOf_110 : decode cX14_errorOf 110 = .ok (.iconst 2, 1) := by decide +kernel
theorem dX14_errorOf_111 : decode cX14_errorOf 111 = .ok (.ireturn, 1) := by decide +kernel
theorem dX14_errorOf_112 : decode cX14_errorOf 112 = .ok (.aload_n 2, 1) := by decide +kernel
theorem dX14_errorOf_113 : decode cX14_errorOf 113 = .ok (.getfield 60, 3) := by decide +kernel
theorem dX14_errorOf_116 : decode cX14_errorOf 116 = .ok (.bipush 8, 2) := by decide +kernel
theorem dX14_errorOf_118 : decode cX14_errorOf 118 = .ok (.if_icmp .ne 5, 3) := by decide +kernel
theorem dX14_errorOf_121 : decode cX14_errorOf 121 = .ok (.iconst 4, 1) := by decide +kernel
theorem dX14_errorOf_122 : decode cX14_errorOf 122 = .ok (.ireturn, 1) := by decide +kernel
theorem dX14_errorOf_123 : decode cX14_errorOf 123 = .ok (.aload_n 2, 1) := by decide +kernel
theorem dX14_errorOf_124 : decode cX14_errorOf 124 = .ok (.dup, 1) := by decide +kernel
theorem dX14_errorOf_125 : decode cX14_errorOf 125 = .ok (.getfield 60, 3) := by decide +kernel
theorem dX14_errorOf_128 : decode cX14_errorOf 128 = .ok (.iconst 1, 1) := by decide +kernel
theorem dX14_errorOf_129 : decode cX14_errorOf 129 = .ok (.iadd, 1) := by decide +kernel
theorem dX14_errorOf_130 : decode cX14_errorOf 130 = .ok (.putfield 60, 3) := by decide +kernel
theorem dX14_errorOf_133 : decode cX14_errorOf 133 = .ok (.aload_n 2, 1) := by decide +kernel
theorem dX14_errorOf_134 : decode cX14_errorOf 134 = .ok (.iconst 0, 1) := by decide +kernel
theorem dX14_errorOf_135 : decode cX14_errorOf 135 = .ok (.putfield 219, 3) := by decide +kernel
theorem dX14_errorOf_138 : decode cX14_errorOf 138 = .ok (.iconst 0, 1) := by decide +kernel
theorem dX14_errorOf_139 : decode cX14_errorOf 139 = .ok (.ireturn, 1) := by decide +kernel
theorem dX14_errorOf_140 : decode cX14_errorOf 140 = .ok (.aload_n 0, 1) := by decide +kernel
theorem dX14_errorOf_141 : decode cX14_errorOf 141 = .ok (.iload_n 1, 1) := by decide +kernel
theorem dX14_errorOf_142 : decode cX14_errorOf 142 = .ok (.iconst 2, 1) := by decide +kernel
theorem dX14_errorOf_143 : decode cX14_errorOf 143 = .ok (.invokevirtual 217, 3) := by decide +kernel
theorem dX14_errorOf_146 : decode cX14_errorOf 146 = .ok (.iconst (-1), 1) := by decide +kernel
theorem dX14_errorOf_147 : decode cX14_errorOf 147 = .ok (.if_icmp .eq 5, 3) := by decide +kernel
theorem dX14_errorOf_150 : decode cX14_errorOf 150 = .ok (.iconst 2, 1) := by decide +kernel
theorem dX14_errorOf_151 : decode cX14_errorOf 151 = .ok (.ireturn, 1) := by decide +kernel
theorem dX14_errorOf_152 : decode cX14_errorOf 152 = .ok (.aload_n 2, 1) := by decide +kernel
theorem dX14_errorOf_153 : decode cX14_errorOf 153 = .ok (.getfield 67, 3) := by decide +kernel
theorem dX14_errorOf_156 : decode cX14_errorOf 156 = .ok (.bipush 8, 2) := by decide +kernel
theorem dX14_errorOf_158 : decode cX14_errorOf 158 = .ok (.if_icmp .ne 5, 3) := by decide +kernel
theorem dX14_errorOf_161 : decode cX14_errorOf 161 = .ok (.iconst 4, 1) := by decide +kernel
theorem dX14_errorOf_162 : decode cX14_errorOf 162 = .ok (.ireturn, 1) := by decide +kernel
theorem dX14_errorOf_163 : decode cX14_errorOf 163 = .ok (.aload_n 2, 1) := by decide +kernel
theorem dX14_errorOf_164 : decode cX14_errorOf 164 = .ok (.dup, 1) := by decide +kernel
theorem dX14_errorOf_165 : decode cX14_errorOf 165 = .ok (.getfield 67, 3) := by decide +kernel
theorem dX14_errorOf_168 : decode cX14_errorOf 168 = .ok (.iconst 1, 1) := by decide +kernel
theorem dX14_errorOf_169 : decode cX14_errorOf 169 = .ok (.iadd, 1) := by decide +kernel
theorem dX14_errorOf_170 : decode cX14_errorOf 170 = .ok (.putfield 67, 3) := by decide +kernel
theorem dX14_errorOf_173 : decode cX14_errorOf 173 = .ok (.iconst 0, 1) := by decide +kernel
theorem dX14_errorOf_174 : decode cX14_errorOf 174 = .ok (.ireturn, 1) := by decide +kernel
theorem dX14_errorOf_175 : decode cX14_errorOf 175 = .ok (.aload_n 0, 1) := by decide +kernel
theorem dX14_errorOf_176 : decode cX14_errorOf 176 = .ok (.iload_n 1, 1) := by decide +kernel
theorem dX14_errorOf_177 : decode cX14_errorOf 177 = .ok (.iconst 3, 1) := by decide +kernel
theorem dX14_errorOf_178 : decode cX14_errorOf 178 = .ok (.invokevirtual 217, 3) := by decide +kernel
theorem dX14_errorOf_181 : decode cX14_errorOf 181 = .ok (.iconst (-1), 1) := by decide +kernel
theorem dX14_errorOf_182 : decode cX14_errorOf 182 = .ok (.if_icmp .eq 5, 3) := by decide +kernel
theorem dX14_errorOf_185 : decode cX14_errorOf 185 = .ok (.iconst 2, 1) := by decide +kernel
theorem dX14_errorOf_186 : decode cX14_errorOf 186 = .ok (.ireturn, 1) := by decide +kernel
theorem dX14_errorOf_187 : decode cX14_errorOf 187 = .ok (.aload_n 2, 1) := by decide +kernel
theorem dX14_errorOf_188 : decode cX14_errorOf 188 = .ok (.getfield 222, 3) := by decide +kernel
theorem dX14_errorOf_191 : decode cX14_errorOf 191 = .ok (.bipush 6, 2) := by decide +kernel
theorem dX14_errorOf_193 : decode cX14_errorOf 193 = .ok (.if_icmp .ne 5, 3) := by decide +kernel
theorem dX14_errorOf_196 : decode cX14_errorOf 196 = .ok (.iconst 4, 1) := by decide +kernel
theorem dX14_errorOf_197 : decode cX14_errorOf 197 = .ok (.ireturn, 1) := by decide +kernel
theorem dX14_errorOf_198 : decode cX14_errorOf 198 = .ok (.aload_n 2, 1) := by decide +kernel
theorem dX14_errorOf_199 : decode cX14_errorOf 199 = .ok (.getfield 225, 3) := by decide +kernel
theorem dX14_errorOf_202 : decode cX14_errorOf 202 = .ok (.aload_n 2, 1) := by decide +kernel
theorem dX14_errorOf_203 : decode cX14_errorOf 203 = .ok (.getfield 222, 3) := by decide +kernel
theorem dX14_errorOf_206 : decode cX14_errorOf 206 = .ok (.iconst (-1), 1) := by decide +kernel
theorem dX14_errorOf_207 : decode cX14_errorOf 207 = .ok (.iastore, 1) := by decide +kernel
theorem dX14_errorOf_208 : decode cX14_errorOf 208 = .ok (.aload_n 2, 1) := by decide +kernel
theorem dX14_errorOf_209 : decode cX14_errorOf 209 = .ok (.dup, 1) := by decide +kernel
theorem dX14_errorOf_210 : decode cX14_errorOf 210 = .ok (.getfield 222, 3) := by decide +kernel
theorem dX14_errorOf_213 : decode cX14_errorOf 213 = .ok (.iconst 1, 1) := by decide +kernel
theorem dX14_errorOf_214 : decode cX14_errorOf 214 = .ok (.iadd, 1) := by decide +kernel
theorem dX14_errorOf_215 : decode cX14_errorOf 215 = .ok (.putfield 222, 3) := by decide +kernel
theorem dX14_errorOf_218 : decode cX14_errorOf 218 = .ok (.iconst 0, 1) := by decide +kernel
theorem dX14_errorOf_219 : decode cX14_errorOf 219 = .ok (.ireturn, 1) := by decide +kernel
theorem dX14_errorOf_220 : decode cX14_errorOf 220 = .ok (.aload_n 2, 1) := by decide +kernel
theorem dX14_errorOf_221 : decode cX14_errorOf 221 = .ok (.getfield 228, 3) := by decide +kernel
theorem dX14_errorOf_224 : decode cX14_errorOf 224 = .ok (.bipush 24, 2) := by decide +kernel
theorem dX14_errorOf_226 : decode cX14_errorOf 226 = .ok (.if_icmp .ne 5, 3) := by decide +kernel
theorem dX14_errorOf_229 : decode cX14_errorOf 229 = .ok (.iconst 4, 1) := by decide +kernel
theorem dX14_errorOf_230 : decode cX14_errorOf 230 = .ok (.ireturn, 1) := by decide +kernel
theorem dX14_errorOf_231 : decode cX14_errorOf 231 = .ok (.aload_n 2, 1) := by decide +kernel
theorem dX14_errorOf_232 : decode cX14_errorOf 232 = .ok (.dup, 1) := by decide +kernel
theorem dX14_errorOf_233 : decode cX14_errorOf 233 = .ok (.getfield 228, 3) := by decide +kernel
theorem dX14_errorOf_236 : decode cX14_errorOf 236 = .ok (.iconst 1, 1) := by decide +kernel
theorem dX14_errorOf_237 : decode cX14_errorOf 237 = .ok (.iadd, 1) := by decide +kernel
theorem dX14_errorOf_238 : decode cX14_errorOf 238 = .ok (.putfield 228, 3) := by decide +kernel
theorem dX14_errorOf_241 : decode cX14_errorOf 241 = .ok (.iconst 0, 1) := by decide +kernel
theorem dX14_errorOf_242 : decode cX14_errorOf 242 = .ok (.ireturn, 1) := by decide +kernel
theorem dX14_errorOf_243 : decode cX14_errorOf 243 = .ok (.aload_n 2, 1) := by decide +kernel
theorem dX14_errorOf_244 : decode cX14_errorOf 244 = .ok (.getfield 231, 3) := by decide +kernel
theorem dX14_errorOf_247 : decode cX14_errorOf 247 = .ok (.iload_n 3, 1) := by decide +kernel
theorem dX14_errorOf_248 : decode cX14_errorOf 248 = .ok (.aload_n 0, 1) := by decide +kernel
theorem dX14_errorOf_249 : decode cX14_errorOf 249 = .ok (.iload_n 1, 1) := by decide +kernel
theorem dX14_errorOf_250 : decode cX14_errorOf 250 = .ok (.invokevirtual 211, 3) := by decide +kernel
theorem dX14_errorOf_253 : decode cX14_errorOf 253 = .ok (.iastore, 1) := by decide +kernel
theorem dX14_errorOf_254 : decode cX14_errorOf 254 = .ok (.aload_n 0, 1) := by decide +kernel
theorem dX14_errorOf_255 : decode cX14_errorOf 255 = .ok (.iload_n 1, 1) := by decide +kernel
theorem dX14_errorOf_256 : decode cX14_errorOf 256 = .ok (.iconst 1, 1) := by decide +kernel
theorem dX14_errorOf_257 : decode cX14_errorOf 257 = .ok (.bipush 8, 2) := by decide +kernel
theorem dX14_errorOf_259 : decode cX14_errorOf 259 = .ok (.invokevirtual 234, 3) := by decide +kernel
theorem dX14_errorOf_262 : decode cX14_errorOf 262 = .ok (.ireturn, 1) := by decide +kernel
theorem dX14_errorOf_263 : decode cX14_errorOf 263 = .ok (.aload_n 2, 1) := by decide +kernel
theorem dX14_errorOf_264 : decode cX14_errorOf 264 = .ok (.getfield 219, 3) := by decide +kernel
theorem dX14_errorOf_267 : decode cX14_errorOf 267 = .ok (.iconst 5, 1) := by decide +kernel
theorem dX14_errorOf_268 : decode cX14_errorOf 268 = .ok (.if_icmp .ne 5, 3) := by decide +kernel
theorem dX14_errorOf_271 : decode cX14_errorOf 271 = .ok (.iconst 4, 1) := by decide +kernel
theorem dX14_errorOf_272 : decode cX14_errorOf 272 = .ok (.ireturn, 1) := by decide +kernel
theorem dX14_errorOf_273 : decode cX14_errorOf 273 = .ok (.aload_n 2, 1) := by decide +kernel
theorem dX14_errorOf_274 : decode cX14_errorOf 274 = .ok (.getfield 238, 3) := by decide +kernel
theorem dX14_errorOf_277 : decode cX14_errorOf 277 = .ok (.iconst 5, 1) := by decide +kernel
theorem dX14_errorOf_278 : decode cX14_errorOf 278 = .ok (.iload_n 3, 1) := by decide +kernel
theorem dX14_errorOf_279 : decode cX14_errorOf 279 = .ok (.imul, 1) := by decide +kernel
theorem dX14_errorOf_280 : decode cX14_errorOf 280 = .ok (.aload_n 2, 1) := by decide +kernel
theorem dX14_errorOf_281 : decode cX14_errorOf 281 = .ok (.getfield 219, 3) := by decide +kernel
theorem dX14_errorOf_284 : decode cX14_errorOf 284 = .ok (.iadd, 1) := by decide +kernel
theorem dX14_errorOf_285 : decode cX14_errorOf 285 = .ok (.aload_n 0, 1) := by decide +kernel
theorem dX14_errorOf_286 : decode cX14_errorOf 286 = .ok (.iload_n 1, 1) := by decide +kernel
theorem dX14_errorOf_287 : decode cX14_errorOf 287 = .ok (.invokevirtual 211, 3) := by decide +kernel
theorem dX14_errorOf_290 : decode cX14_errorOf 290 = .ok (.iastore, 1) := by decide +kernel
theorem dX14_errorOf_291 : decode cX14_errorOf 291 = .ok (.aload_n 2, 1) := by decide +kernel
theorem dX14_errorOf_292 : decode cX14_errorOf 292 = .ok (.dup, 1) := by decide +kernel
theorem dX14_errorOf_293 : decode cX14_errorOf 293 = .ok (.getfield 219, 3) := by decide +kernel
theorem dX14_errorOf_296 : decode cX14_errorOf 296 = .ok (.iconst 1, 1) := by decide +kernel
theorem dX14_errorOf_297 : decode cX14_errorOf 297 = .ok (.iadd, 1) := by decide +kernel
theorem dX14_errorOf_298 : decode cX14_errorOf 298 = .ok (.putfield 219, 3) := by decide +kernel
theorem dX14_errorOf_301 : decode cX14_errorOf 301 = .ok (.aload_n 0, 1) := by decide +kernel
theorem dX14_errorOf_302 : decode cX14_errorOf 302 = .ok (.iload_n 1, 1) := by decide +kernel
theorem dX14_errorOf_303 : decode cX14_errorOf 303 = .ok (.iconst 0, 1) := by decide +kernel
theorem dX14_errorOf_304 : decode cX14_errorOf 304 = .ok (.bipush 99, 2) := by decide +kernel
theorem dX14_errorOf_306 : decode cX14_errorOf 306 = .ok (.invokevirtual 234, 3) := by decide +kernel
theorem dX14_errorOf_309 : decode cX14_errorOf 309 = .ok (.ireturn, 1) := by decide +kernel
theorem dX14_errorOf_310 : decode cX14_errorOf 310 = .ok (.aload_n 2, 1) := by decide +kernel
theorem dX14_errorOf_311 : decode cX14_errorOf 311 = .ok (.getfield 241, 3) := by decide +kernel
theorem dX14_errorOf_314 : decode cX14_errorOf 314 = .ok (.iload 4, 2) := by decide +kernel
theorem dX14_errorOf_316 : decode cX14_errorOf 316 = .ok (.aload_n 0, 1) := by decide +kernel
theorem dX14_errorOf_317 : decode cX14_errorOf 317 = .ok (.iload_n 1, 1) := by decide +kernel
theorem dX14_errorOf_318 : decode cX14_errorOf 318 = .ok (.invokevirtual 211, 3) := by decide +kernel
theorem dX14_errorOf_321 : decode cX14_errorOf 321 = .ok (.iastore, 1) := by decide +kernel
theorem dX14_errorOf_322 : decode cX14_errorOf 322 = .ok (.aload_n 0, 1) := by decide +kernel
theorem dX14_errorOf_323 : decode cX14_errorOf 323 = .ok (.iload_n 1, 1) := by decide +kernel
theorem dX14_errorOf_324 : decode cX14_errorOf 324 = .ok (.iconst 1, 1) := by decide +kernel
theorem dX14_errorOf_325 : decode cX14_errorOf 325 = .ok (.iconst 5, 1) := by decide +kernel
theorem dX14_errorOf_326 : decode cX14_errorOf 326 = .ok (.invokevirtual 234, 3) := by decide +kernel
theorem dX14_errorOf_329 : decode cX14_errorOf 329 = .ok (.ireturn, 1) := by decide +kernel
theorem dX14_errorOf_330 : decode cX14_errorOf 330 = .ok (.aload_n 2, 1) := by decide +kernel
theorem dX14_errorOf_331 : decode cX14_errorOf 331 = .ok (.getfield 244, 3) := by decide +kernel
theorem dX14_errorOf_334 : decode cX14_errorOf 334 = .ok (.iload 4, 2) := by decide +kernel
theorem dX14_errorOf_336 : decode cX14_errorOf 336 = .ok (.aload_n 0, 1) := by decide +kernel
theorem dX14_errorOf_337 : decode cX14_errorOf 337 = .ok (.iload_n 1, 1) := by decide +kernel
theorem dX14_errorOf_338 : decode cX14_errorOf 338 = .ok (.invokevirtual 211, 3) := by decide +kernel
theorem dX14_errorOf_341 : decode cX14_errorOf 341 = .ok (.iastore, 1) := by decide +kernel
theorem dX14_errorOf_342 : decode cX14_errorOf 342 = .ok (.aload_n 0, 1) := by decide +kernel
theorem dX14_errorOf_343 : decode cX14_errorOf 343 = .ok (.iload_n 1, 1) := by decide +kernel
theorem dX14_errorOf_344 : decode cX14_errorOf 344 = .ok (.iconst 1, 1) := by decide +kernel
theorem dX14_errorOf_345 : decode cX14_errorOf 345 = .ok (.bipush 99, 2) := by decide +kernel
theorem dX14_errorOf_347 : decode cX14_errorOf 347 = .ok (.invokevirtual 234, 3) := by decide +kernel
theorem dX14_errorOf_350 : decode cX14_errorOf 350 = .ok (.ireturn, 1) := by decide +kernel
theorem dX14_errorOf_351 : decode cX14_errorOf 351 = .ok (.aload_n 2, 1) := by decide +kernel
theorem dX14_errorOf_352 : decode cX14_errorOf 352 = .ok (.getfield 247, 3) := by decide +kernel
theorem dX14_errorOf_355 : decode cX14_errorOf 355 = .ok (.iload 4, 2) := by decide +kernel
theorem dX14_errorOf_357 : decode cX14_errorOf 357 = .ok (.aload_n 0, 1) := by decide +kernel
theorem dX14_errorOf_358 : decode cX14_errorOf 358 = .ok (.iload_n 1, 1) := by decide +kernel
theorem dX14_errorOf_359 : decode cX14_errorOf 359 = .ok (.invokevirtual 211, 3) := by decide +kernel
theorem dX14_errorOf_362 : decode cX14_errorOf 362 = .ok (.iastore, 1) := by decide +kernel
theorem dX14_errorOf_363 : decode cX14_errorOf 363 = .ok (.aload_n 0, 1) := by decide +kernel
theorem dX14_errorOf_364 : decode cX14_errorOf 364 = .ok (.iload_n 1, 1) := by decide +kernel
theorem dX14_errorOf_365 : decode cX14_errorOf 365 = .ok (.iconst 1, 1) := by decide +kernel
theorem dX14_errorOf_366 : decode cX14_errorOf 366 = .ok (.bipush 40, 2) := by decide +kernel
theorem dX14_errorOf_368 : decode cX14_errorOf 368 = .ok (.invokevirtual 234, 3) := by decide +kernel
theorem dX14_errorOf_371 : decode cX14_errorOf 371 = .ok (.ireturn, 1) := by decide +kernel
theorem dX14_errorOf_372 : decode cX14_errorOf 372 = .ok (.aload_n 0, 1) := by decide +kernel
theorem dX14_errorOf_373 : decode cX14_errorOf 373 = .ok (.iload_n 1, 1) := by decide +kernel
theorem dX14_errorOf_374 : decode cX14_errorOf 374 = .ok (.iconst 2, 1) := by decide +kernel
theorem dX14_errorOf_375 : decode cX14_errorOf 375 = .ok (.invokevirtual 250, 3) := by decide +kernel
theorem dX14_errorOf_378 : decode cX14_errorOf 378 = .ok (.istore 5, 2) := by decide +kernel
theorem dX14_errorOf_380 : decode cX14_errorOf 380 = .ok (.aload_n 2, 1) := by decide +kernel
theorem dX14_errorOf_381 : decode cX14_errorOf 381 = .ok (.getfield 253, 3) := by decide +kernel
theorem dX14_errorOf_384 : decode cX14_errorOf 384 = .ok (.aload_n 2, 1) := by decide +kernel
theorem dX14_errorOf_385 : decode cX14_errorOf 385 = .ok (.getfield 228, 3) := by decide +kernel
theorem dX14_errorOf_388 : decode cX14_errorOf 388 = .ok (.iconst 1, 1) := by decide +kernel
theorem dX14_errorOf_389 : decode cX14_errorOf 389 = .ok (.isub, 1) := by decide +kernel
theorem dX14_errorOf_390 : decode cX14_errorOf 390 = .ok (.aload_n 0, 1) := by decide +kernel
theorem dX14_errorOf_391 : decode cX14_errorOf 391 = .ok (.getfield 29, 3) := by decide +kernel
theorem dX14_errorOf_394 : decode cX14_errorOf 394 = .ok (.iload_n 1, 1) := by decide +kernel
theorem dX14_errorOf_395 : decode cX14_errorOf 395 = .ok (.iaload, 1) := by decide +kernel
theorem dX14_errorOf_396 : decode cX14_errorOf 396 = .ok (.iastore, 1) := by decide +kernel
theorem dX14_errorOf_397 : decode cX14_errorOf 397 = .ok (.iload 5, 2) := by decide +kernel
theorem dX14_errorOf_399 : decode cX14_errorOf 399 = .ok (.ireturn, 1) := by decide +kernel
theorem dX14_errorOf_400 : decode cX14_errorOf 400 = .ok (.aload_n 0, 1) := by decide +kernel
theorem dX14_errorOf_401 : decode cX14_errorOf 401 = .ok (.iload_n 1, 1) := by decide +kernel
theorem dX14_errorOf_402 : decode cX14_errorOf 402 = .ok (.iconst 1, 1) := by decide +kernel
theorem dX14_errorOf_403 : decode cX14_errorOf 403 = .ok (.invokevirtual 250, 3) := by decide +kernel
theorem dX14_errorOf_406 : decode cX14_errorOf 406 = .ok (.istore 5, 2) := by decide +kernel
theorem dX14_errorOf_408 : decode cX14_errorOf 408 = .ok (.aload_n 2, 1) := by decide +kernel
theorem dX14_errorOf_409 : decode cX14_errorOf 409 = .ok (.getfield 256, 3) := by decide +kernel
theorem dX14_errorOf_412 : decode cX14_errorOf 412 = .ok (.aload_n 2, 1) := by decide +kernel
theorem dX14_errorOf_413 : decode cX14_errorOf 413 = .ok (.getfield 228, 3) := by decide +kernel
theorem dX14_errorOf_416 : decode cX14_errorOf 416 = .ok (.iconst 1, 1) := by decide +kernel
theorem dX14_errorOf_417 : decode cX14_errorOf 417 = .ok (.isub, 1) := by decide +kernel
theorem dX14_errorOf_418 : decode cX14_errorOf 418 = .ok (.aload_n 0, 1) := by decide +kernel
theorem dX14_errorOf_419 : decode cX14_errorOf 419 = .ok (.getfield 29, 3) := by decide +kernel
theorem dX14_errorOf_422 : decode cX14_errorOf 422 = .ok (.iload_n 1, 1) := by decide +kernel
theorem dX14_errorOf_423 : decode cX14_errorOf 423 = .ok (.iaload, 1) := by decide +kernel
theorem dX14_errorOf_424 : decode cX14_errorOf 424 = .ok (.iastore, 1) := by decide +kernel
theorem dX14_errorOf_425 : decode cX14_errorOf 425 = .ok (.iload 5, 2) := by decide +kernel
theorem dX14_errorOf_427 : decode cX14_errorOf 427 = .ok (.ireturn, 1) := by decide +kernel
theorem dX14_errorOf_428 : decode cX14_errorOf 428 = .ok (.aload_n 0, 1) := by decide +kernel
theorem dX14_errorOf_429 : decode cX14_errorOf 429 = .ok (.iload_n 1, 1) := by decide +kernel
theorem dX14_errorOf_430 : decode cX14_errorOf 430 = .ok (.iconst 1, 1) := by decide +kernel
theorem dX14_errorOf_431 : decode cX14_errorOf 431 = .ok (.invokevirtual 250, 3) := by decide +kernel
theorem dX14_errorOf_434 : decode cX14_errorOf 434 = .ok (.istore 5, 2) := by decide +kernel
theorem dX14_errorOf_436 : decode cX14_errorOf 436 = .ok (.aload_n 2, 1) := by decide +kernel
theorem dX14_errorOf_437 : decode cX14_errorOf 437 = .ok (.getfield 225, 3) := by decide +kernel
theorem dX14_errorOf_440 : decode cX14_errorOf 440 = .ok (.aload_n 2, 1) := by decide +kernel
theorem dX14_errorOf_441 : decode cX14_errorOf 441 = .ok (.getfield 222, 3) := by decide +kernel
theorem dX14_errorOf_444 : decode cX14_errorOf 444 = .ok (.iconst 1, 1) := by decide +kernel
theorem dX14_errorOf_445 : decode cX14_errorOf 445 = .ok (.isub, 1) := by decide +kernel
theorem dX14_errorOf_446 : decode cX14_errorOf 446 = .ok (.aload_n 0, 1) := by decide +kernel
theorem dX14_errorOf_447 : decode cX14_errorOf 447 = .ok (.getfield 29, 3) := by decide +kernel
theorem dX14_errorOf_450 : decode cX14_errorOf 450 = .ok (.iload_n 1, 1) := by decide +kernel
theorem dX14_errorOf_451 : decode cX14_errorOf 451 = .ok (.iaload, 1) := by decide +kernel
theorem dX14_errorOf_452 : decode cX14_errorOf 452 = .ok (.iastore, 1) := by decide +kernel
theorem dX14_errorOf_453 : decode cX14_errorOf 453 = .ok (.iload 5, 2) := by decide +kernel
theorem dX14_errorOf_455 : decode cX14_errorOf 455 = .ok (.ireturn, 1) := by decide +kernel
theorem dX14_errorOf_456 : decode cX14_errorOf 456 = .ok (.aload_n 0, 1) := by decide +kernel
theorem dX14_errorOf_457 : decode cX14_errorOf 457 = .ok (.iload_n 1, 1) := by decide +kernel
theorem dX14_errorOf_458 : decode cX14_errorOf 458 = .ok (.iconst 2, 1) := by decide +kernel
theorem dX14_errorOf_459 : decode cX14_errorOf 459 = .ok (.invokevirtual 250, 3) := by decide +kernel
theorem dX14_errorOf_462 : decode cX14_errorOf 462 = .ok (.istore 5, 2) := by decide +kernel
theorem dX14_errorOf_464 : decode cX14_errorOf 464 = .ok (.iload 5, 2) := by decide +kernel
theorem dX14_errorOf_466 : decode cX14_errorOf 466 = .ok (.ifCond .ne 16, 3) := by decide +kernel
theorem dX14_errorOf_469 : decode cX14_errorOf 469 = .ok (.aload_n 0, 1) := by decide +kernel
theorem dX14_errorOf_470 : decode cX14_errorOf 470 = .ok (.aload_n 0, 1) := by decide +kernel
theorem dX14_errorOf_471 : decode cX14_errorOf 471 = .ok (.getfield 29, 3) := by decide +kernel
theorem dX14_errorOf_474 : decode cX14_errorOf 474 = .ok (.iload_n 1, 1) := by decide +kernel
theorem dX14_errorOf_475 : decode cX14_errorOf 475 = .ok (.iaload, 1) := by decide +kernel
theorem dX14_errorOf_476 : decode cX14_errorOf 476 = .ok (.invokevirtual 259, 3) := by decide +kernel
theorem dX14_errorOf_479 : decode cX14_errorOf 479 = .ok (.goto 5, 3) := by decide +kernel
theorem dX14_errorOf_482 : decode cX14_errorOf 482 = .ok (.iload 5, 2) := by decide +kernel
theorem dX14_errorOf_484 : decode cX14_errorOf 484 = .ok (.ireturn, 1) := by decide +kernel
theorem dX14_errorOf_485 : decode cX14_errorOf 485 = .ok (.aload_n 0, 1) := by decide +kernel
theorem dX14_errorOf_486 : decode cX14_errorOf 486 = .ok (.iload_n 1, 1) := by decide +kernel
theorem dX14_errorOf_487 : decode cX14_errorOf 487 = .ok (.iconst 2, 1) := by decide +kernel
theorem dX14_errorOf_488 : decode cX14_errorOf 488 = .ok (.invokevirtual 250, 3) := by decide +kernel
theorem dX14_errorOf_491 : decode cX14_errorOf 491 = .ok (.ireturn, 1) := by decide +kernel
theorem dX14_errorOf_492 : decode cX14_errorOf 492 = .ok (.aload_n 0, 1) := by decide +kernel
theorem dX14_errorOf_493 : decode cX14_errorOf 493 = .ok (.iload_n 1, 1) := by decide +kernel
theorem dX14_errorOf_494 : decode cX14_errorOf 494 = .ok (.iconst 1, 1) := by decide +kernel
theorem dX14_errorOf_495 : decode cX14_errorOf 495 = .ok (.invokevirtual 250, 3) := by decide +kernel
theorem dX14_errorOf_498 : decode cX14_errorOf 498 = .ok (.ireturn, 1) := by decide +kernel
theorem dX14_errorOf_499 : decode cX14_errorOf 499 = .ok (.iconst 0, 1) := by decide +kernel
theorem dX14_errorOf_500 : decode cX14_errorOf 500 = .ok (.ireturn, 1) := by decide +kernel
theorem dX14_member_0 : decode cX14_member 0 = .ok (.aload_n 0, 1) := by decide +kernel
theorem dX14_member_1 : decode cX14_member 1 = .ok (.getfield 39, 3) := by decide +kernel
theorem dX14_member_4 : decode cX14_member 4 = .ok (.astore_n 2, 1) := by decide +kernel
theorem dX14_member_5 : decode cX14_member 5 = .ok (.aload_n 2, 1) := by decide +kernel
theorem dX14_member_6 : decode cX14_member 6 = .ok (.getfield 222, 3) := by decide +kernel
theorem dX14_member_9 : decode cX14_member 9 = .ok (.iconst 1, 1) := by decide +kernel
theorem dX14_member_10 : decode cX14_member 10 = .ok (.isub, 1) := by decide +kernel
theorem dX14_member_11 : decode cX14_member 11 = .ok (.istore_n 3, 1) := by decide +kernel
theorem dX14_member_12 : decode cX14_member 12 = .ok (.iconst 0, 1) := by decide +kernel
theorem dX14_member_13 : decode cX14_member 13 = .ok (.istore 4, 2) := by decide +kernel
theorem dX14_member_15 : decode cX14_member 15 = .ok (.iload 4, 2) := by decide +kernel
theorem dX14_member_17 : decode cX14_member 17 = .ok (.aload_n 2, 1) := by decide +kernel
theorem dX14_member_18 : decode cX14_member 18 = .ok (.getfield 262, 3) := by decide +kernel
theorem dX14_member_21 : decode cX14_member 21 = .ok (.iload_n 3, 1) := by decide +kernel
theorem dX14_member_22 : decode cX14_member 22 = .ok (.iaload, 1) := by decide +kernel
theorem dX14_member_23 : decode cX14_member 23 = .ok (.if_icmp .ge 28, 3) := by decide +kernel
theorem dX14_member_26 : decode cX14_member 26 = .ok (.aload_n 2, 1) := by decide +kernel
theorem dX14_member_27 : decode cX14_member 27 = .ok (.getfield 265, 3) := by decide +kernel
theorem dX14_member_30 : decode cX14_member 30 = .ok (.bipush 8, 2) := by decide +kernel
theorem dX14_member_32 : decode cX14_member 32 = .ok (.iload_n 3, 1) := by decide +kernel
theorem dX14_member_33 : decode cX14_member 33 = .ok (.imul, 1) := by decide +kernel
theorem dX14_member_34 : decode cX14_member 34 = .ok (.iload 4, 2) := by decide +kernel
theorem dX14_member_36 : decode cX14_member 36 = .ok (.iadd, 1) := by decide +kernel
theorem dX14_member_37 : decode cX14_member 37 = .ok (.iaload, 1) := by decide +kernel
theorem dX14_member_38 : decode cX14_member 38 = .ok (.iload_n 1, 1) := by decide +kernel
theorem dX14_member_39 : decode cX14_member 39 = .ok (.if_icmp .ne 6, 3) := by decide +kernel
theorem dX14_member_42 : decode cX14_member 42 = .ok (.bipush 6, 2) := by decide +kernel
theorem dX14_member_44 : decode cX14_member 44 = .ok (.ireturn, 1) := by decide +kernel
theorem dX14_member_45 : decode cX14_member 45 = .ok (.iinc 4 1, 3) := by decide +kernel
theorem dX14_member_48 : decode cX14_member 48 = .ok (.goto (-33), 3) := by decide +kernel
theorem dX14_member_51 : decode cX14_member 51 = .ok (.aload_n 2, 1) := by decide +kernel
theorem dX14_member_52 : decode cX14_member 52 = .ok (.getfield 265, 3) := by decide +kernel
theorem dX14_member_55 : decode cX14_member 55 = .ok (.bipush 8, 2) := by decide +kernel
theorem dX14_member_57 : decode cX14_member 57 = .ok (.iload_n 3, 1) := by decide +kernel
theorem dX14_member_58 : decode cX14_member 58 = .ok (.imul, 1) := by decide +kernel
theorem dX14_member_59 : decode cX14_member 59 = .ok (.aload_n 2, 1) := by decide +kernel
theorem dX14_member_60 : decode cX14_member 60 = .ok (.getfield 262, 3) := by decide +kernel
theorem dX14_member_63 : decode cX14_member 63 = .ok (.iload_n 3, 1) := by decide +kernel
theorem dX14_member_64 : decode cX14_member 64 = .ok (.iaload, 1) := by decide +kernel
theorem dX14_member_65 : decode cX14_member 65 = .ok (.iadd, 1) := by decide +kernel
theorem dX14_member_66 : decode cX14_member 66 = .ok (.iload_n 1, 1) := by decide +kernel
theorem dX14_member_67 : decode cX14_member 67 = .ok (.iastore, 1) := by decide +kernel
theorem dX14_member_68 : decode cX14_member 68 = .ok (.aload_n 2, 1) := by decide +kernel
theorem dX14_member_69 : decode cX14_member 69 = .ok (.getfield 262, 3) := by decide +kernel
theorem dX14_member_72 : decode cX14_member 72 = .ok (.iload_n 3, 1) := by decide +kernel
theorem dX14_member_73 : decode cX14_member 73 = .ok (.dup2, 1) := by decide +kernel
theorem dX14_member_74 : decode cX14_member 74 = .ok (.iaload, 1) := by decide +kernel
theorem dX14_member_75 : decode cX14_member 75 = .ok (.iconst 1, 1) := by decide +kernel
theorem dX14_member_76 : decode cX14_member 76 = .ok (.iadd, 1) := by decide +kernel
theorem dX14_member_77 : decode cX14_member 77 = .ok (.iastore, 1) := by decide +kernel
theorem dX14_member_78 : decode cX14_member 78 = .ok (.iconst 0, 1) := by decide +kernel
theorem dX14_member_79 : decode cX14_member 79 = .ok (.ireturn, 1) := by decide +kernel
theorem dX14_read_0 : decode cX14_read 0 = .ok (.aload_n 0, 1) := by decide +kernel
theorem dX14_read_1 : decode cX14_read 1 = .ok (.new 32, 3) := by decide +kernel
theorem dX14_read_4 : decode cX14_read 4 = .ok (.dup, 1) := by decide +kernel
theorem dX14_read_5 : decode cX14_read 5 = .ok (.invokespecial 34, 3) := by decide +kernel
theorem dX14_read_8 : decode cX14_read 8 = .ok (.putfield 39, 3) := by decide +kernel
theorem dX14_read_11 : decode cX14_read 11 = .ok (.aload_n 0, 1) := by decide +kernel
theorem dX14_read_12 : decode cX14_read 12 = .ok (.invokevirtual 267, 3) := by decide +kernel
theorem dX14_read_15 : decode cX14_read 15 = .ok (.aload_n 0, 1) := by decide +kernel
theorem dX14_read_16 : decode cX14_read 16 = .ok (.iconst 0, 1) := by decide +kernel
theorem dX14_read_17 : decode cX14_read 17 = .ok (.putfield 118, 3) := by decide +kernel
theorem dX14_read_20 : decode cX14_read 20 = .ok (.aload_n 0, 1) := by decide +kernel
theorem dX14_read_21 : decode cX14_read 21 = .ok (.iconst 0, 1) := by decide +kernel
theorem dX14_read_22 : decode cX14_read 22 = .ok (.putfield 187, 3) := by decide +kernel
theorem dX14_read_25 : decode cX14_read 25 = .ok (.aload_n 0, 1) := by decide +kernel
theorem dX14_read_26 : decode cX14_read 26 = .ok (.invokevirtual 270, 3) := by decide +kernel
theorem dX14_read_29 : decode cX14_read 29 = .ok (.ifCond .ne 18, 3) := by decide +kernel
theorem dX14_read_32 : decode cX14_read 32 = .ok (.aload_n 0, 1) := by decide +kernel
theorem dX14_read_33 : decode cX14_read 33 = .ok (.aload_n 0, 1) := by decide +kernel
theorem dX14_read_34 : decode cX14_read 34 = .ok (.getfield 20, 3) := by decide +kernel
theorem dX14_read_37 : decode cX14_read 37 = .ok (.aload_n 0, 1) := by decide +kernel
theorem dX14_read_38 : decode cX14_read 38 = .ok (.getfield 118, 3) := by decide +kernel
theorem dX14_read_41 : decode cX14_read 41 = .ok (.iaload, 1) := by decide +kernel
theorem dX14_read_42 : decode cX14_read 42 = .ok (.putfield 13, 3) := by decide +kernel
theorem dX14_read_45 : decode cX14_read 45 = .ok (.iconst 1, 1) := by decide +kernel
theorem dX14_read_46 : decode cX14_read 46 = .ok (.ireturn, 1) := by decide +kernel
theorem dX14_read_47 : decode cX14_read 47 = .ok (.aload_n 0, 1) := by decide +kernel
theorem dX14_read_48 : decode cX14_read 48 = .ok (.getfield 118, 3) := by decide +kernel
theorem dX14_read_51 : decode cX14_read 51 = .ok (.istore_n 1, 1) := by decide +kernel
theorem dX14_read_52 : decode cX14_read 52 = .ok (.aload_n 0, 1) := by decide +kernel
theorem dX14_read_53 : decode cX14_read 53 = .ok (.iconst 0, 1) := by decide +kernel
theorem dX14_read_54 : decode cX14_read 54 = .ok (.putfield 118, 3) := by decide +kernel
theorem dX14_read_57 : decode cX14_read 57 = .ok (.aload_n 0, 1) := by decide +kernel
theorem dX14_read_58 : decode cX14_read 58 = .ok (.getfield 118, 3) := by decide +kernel
theorem dX14_read_61 : decode cX14_read 61 = .ok (.iload_n 1, 1) := by decide +kernel
theorem dX14_read_62 : decode cX14_read 62 = .ok (.if_icmp .ge 47, 3) := by decide +kernel
theorem dX14_read_65 : decode cX14_read 65 = .ok (.aload_n 0, 1) := by decide +kernel
theorem dX14_read_66 : decode cX14_read 66 = .ok (.aload_n 0, 1) := by decide +kernel
theorem dX14_read_67 : decode cX14_read 67 = .ok (.getfield 118, 3) := by decide +kernel
theorem dX14_read_70 : decode cX14_read 70 = .ok (.invokevirtual 273, 3) := by decide +kernel
theorem dX14_read_73 : decode cX14_read 73 = .ok (.istore_n 2, 1) := by decide +kernel
theorem dX14_read_74 : decode cX14_read 74 = .ok (.iload_n 2, 1) := by decide +kernel
theorem dX14_read_75 : decode cX14_read 75 = .ok (.ifCond .ne 6, 3) := by decide +kernel
theorem dX14_read_78 : decode cX14_read 78 = .ok (.goto 18, 3) := by decide +kernel
theorem dX14_read_81 : decode cX14_read 81 = .ok (.aload_n 0, 1) := by decide +kernel
theorem dX14_read_82 : decode cX14_read 82 = .ok (.aload_n 0, 1) := by decide +kernel
theorem dX14_read_83 : decode cX14_read 83 = .ok (.getfield 20, 3) := by decide +kernel
theorem dX14_read_86 : decode cX14_read 86 = .ok (.aload_n 0, 1) := by decide +kernel
theorem dX14_read_87 : decode cX14_read 87 = .ok (.getfield 118, 3) := by decide +kernel
theorem dX14_read_90 : decode cX14_read 90 = .ok (.iaload, 1) := by decide +kernel
theorem dX14_read_91 : decode cX14_read 91 = .ok (.putfield 13, 3) := by decide +kernel
theorem dX14_read_94 : decode cX14_read 94 = .ok (.iload_n 2, 1) := by decide +kernel
theorem dX14_read_95 : decode cX14_read 95 = .ok (.ireturn, 1) := by decide +kernel
theorem dX14_read_96 : decode cX14_read 96 = .ok (.aload_n 0, 1) := by decide +kernel
theorem dX14_read_97 : decode cX14_read 97 = .ok (.dup, 1) := by decide +kernel
theorem dX14_read_98 : decode cX14_read 98 = .ok (.getfield 118, 3) := by decide +kernel
theorem dX14_read_101 : decode cX14_read 101 = .ok (.iconst 1, 1) := by decide +kernel
theorem dX14_read_102 : decode cX14_read 102 = .ok (.iadd, 1) := by decide +kernel
theorem dX14_read_103 : decode cX14_read 103 = .ok (.putfield 118, 3) := by decide +kernel
theorem dX14_read_106 : decode cX14_read 106 = .ok (.goto (-49), 3) := by decide +kernel
theorem dX14_read_109 : decode cX14_read 109 = .ok (.iconst 0, 1) := by decide +kernel
theorem dX14_read_110 : decode cX14_read 110 = .ok (.istore_n 2, 1) := by decide +kernel
theorem dX14_read_111 : decode cX14_read 111 = .ok (.iload_n 2, 1) := by decide +kernel
theorem dX14_read_112 : decode cX14_read 112 = .ok (.aload_n 0, 1) := by decide +kernel
theorem dX14_read_113 : decode cX14_read 113 = .ok (.getfield 39, 3) := by decide +kernel
theorem dX14_read_116 : decode cX14_read 116 = .ok (.getfield 193, 3) := by decide +kernel
theorem dX14_read_119 : decode cX14_read 119 = .ok (.if_icmp .ge 48, 3) := by decide +kernel
theorem dX14_read_122 : decode cX14_read 122 = .ok (.aload_n 0, 1) := by decide +kernel
theorem dX14_read_123 : decode cX14_read 123 = .ok (.getfield 39, 3) := by decide +kernel
theorem dX14_read_126 : decode cX14_read 126 = .ok (.getfield 127, 3) := by decide +kernel
theorem dX14_read_129 : decode cX14_read 129 = .ok (.aload_n 0, 1) := by decide +kernel
theorem dX14_read_130 : decode cX14_read 130 = .ok (.getfield 39, 3) := by decide +kernel
theorem dX14_read_133 : decode cX14_read 133 = .ok (.getfield 190, 3) := by decide +kernel
theorem dX14_read_136 : decode cX14_read 136 = .ok (.iload_n 2, 1) := by decide +kernel
theorem dX14_read_137 : decode cX14_read 137 = .ok (.iaload, 1) := by decide +kernel
theorem dX14_read_138 : decode cX14_read 138 = .ok (.aload_n 0, 1) := by decide +kernel
theorem dX14_read_139 : decode cX14_read 139 = .ok (.getfield 29, 3) := by decide +kernel
theorem dX14_read_142 : decode cX14_read 142 = .ok (.aload_n 0, 1) := by decide +kernel
theorem dX14_read_143 : decode cX14_read 143 = .ok (.getfield 39, 3) := by decide +kernel
theorem dX14_read_146 : decode cX14_read 146 = .ok (.getfield 127, 3) := by decide +kernel
theorem dX14_read_149 : decode cX14_read 149 = .ok (.aload_n 0, 1) := by decide +kernel
theorem dX14_read_150 : decode cX14_read 150 = .ok (.getfield 39, 3) := by decide +kernel
theorem dX14_read_153 : decode cX14_read 153 = .ok (.getfield 190, 3) := by decide +kernel
theorem dX14_read_156 : decode cX14_read 156 = .ok (.iload_n 2, 1) := by decide +kernel
theorem dX14_read_157 : decode cX14_read 157 = .ok (.iaload, 1) := by decide +kernel
theorem dX14_read_158 : decode cX14_read 158 = .ok (.iaload, 1) := by decide +kernel
theorem dX14_read_159 : decode cX14_read 159 = .ok (.iaload, 1) := by decide +kernel
theorem dX14_read_160 : decode cX14_read 160 = .ok (.iastore, 1) := by decide +kernel
theorem dX14_read_161 : decode cX14_read 161 = .ok (.iinc 2 1, 3) := by decide +kernel
theorem dX14_read_164 : decode cX14_read 164 = .ok (.goto (-53), 3) := by decide +kernel
theorem dX14_read_167 : decode cX14_read 167 = .ok (.iconst 0, 1) := by decide +kernel
theorem dX14_read_168 : decode cX14_read 168 = .ok (.ireturn, 1) := by decide +kernel
theorem dX14_feed_0 : decode cX14_feed 0 = .ok (.aload_n 0, 1) := by decide +kernel
theorem dX14_feed_1 : decode cX14_feed 1 = .ok (.iconst 0, 1) := by decide +kernel
theorem dX14_feed_2 : decode cX14_feed 2 = .ok (.putfield 57, 3) := by decide +kernel
theorem dX14_feed_5 : decode cX14_feed 5 = .ok (.aload_n 0, 1) := by decide +kernel
theorem dX14_feed_6 : decode cX14_feed 6 = .ok (.getfield 79, 3) := by decide +kernel
theorem dX14_feed_9 : decode cX14_feed 9 = .ok (.sipush 1980, 3) := by decide +kernel
theorem dX14_feed_12 : decode cX14_feed 12 = .ok (.if_icmp .le 9, 3) := by decide +kernel
theorem dX14_feed_15 : decode cX14_feed 15 = .ok (.aload_n 0, 1) := by decide +kernel
theorem dX14_feed_16 : decode cX14_feed 16 = .ok (.iconst 1, 1) := by decide +kernel
theorem dX14_feed_17 : decode cX14_feed 17 = .ok (.invokevirtual 276, 3) := by decide +kernel
theorem dX14_feed_20 : decode cX14_feed 20 = .ok (.ireturn, 1) := by decide +kernel
theorem dX14_feed_21 : decode cX14_feed 21 = .ok (.iconst 5, 1) := by decide +kernel
theorem dX14_feed_22 : decode cX14_feed 22 = .ok (.newarray .int, 2) := by decide +kernel
theorem dX14_feed_24 : decode cX14_feed 24 = .ok (.dup, 1) := by decide +kernel
theorem dX14_feed_25 : decode cX14_feed 25 = .ok (.iconst 0, 1) := by decide +kernel
theorem dX14_feed_26 : decode cX14_feed 26 = .ok (.iload_n 1, 1) := by decide +kernel
theorem dX14_feed_27 : decode cX14_feed 27 = .ok (.iastore, 1) := by decide +kernel
theorem dX14_feed_28 : decode cX14_feed 28 = .ok (.dup, 1) := by decide +kernel
theorem dX14_feed_29 : decode cX14_feed 29 = .ok (.iconst 1, 1) := by decide +kernel
theorem dX14_feed_30 : decode cX14_feed 30 = .ok (.iload_n 2, 1) := by decide +kernel
theorem dX14_feed_31 : decode cX14_feed 31 = .ok (.iastore, 1) := by decide +kernel
theorem dX14_feed_32 : decode cX14_feed 32 = .ok (.dup, 1) := by decide +kernel
theorem dX14_feed_33 : decode cX14_feed 33 = .ok (.iconst 2, 1) := by decide +kernel
theorem dX14_feed_34 : decode cX14_feed 34 = .ok (.iload_n 3, 1) := by decide +kernel
theorem dX14_feed_35 : decode cX14_feed 35 = .ok (.iastore, 1) := by decide +kernel
theorem dX14_feed_36 : decode cX14_feed 36 = .ok (.dup, 1) := by decide +kernel
theorem dX14_feed_37 : decode cX14_feed 37 = .ok (.iconst 3, 1) := by decide +kernel
theorem dX14_feed_38 : decode cX14_feed 38 = .ok (.iload 4, 2) := by decide +kernel
theorem dX14_feed_40 : decode cX14_feed 40 = .ok (.iastore, 1) := by decide +kernel
theorem dX14_feed_41 : decode cX14_feed 41 = .ok (.dup, 1) := by decide +kernel
theorem dX14_feed_42 : decode cX14_feed 42 = .ok (.iconst 4, 1) := by decide +kernel
theorem dX14_feed_43 : decode cX14_feed 43 = .ok (.iload 5, 2) := by decide +kernel
theorem dX14_feed_45 : decode cX14_feed 45 = .ok (.iastore, 1) := by decide +kernel
theorem dX14_feed_46 : decode cX14_feed 46 = .ok (.astore 6, 2) := by decide +kernel
theorem dX14_feed_48 : decode cX14_feed 48 = .ok (.iconst 0, 1) := by decide +kernel
theorem dX14_feed_49 : decode cX14_feed 49 = .ok (.istore 7, 2) := by decide +kernel
theorem dX14_feed_51 : decode cX14_feed 51 = .ok (.iload 7, 2) := by decide +kernel
theorem dX14_feed_53 : decode cX14_feed 53 = .ok (.bipush 20, 2) := by decide +kernel
theorem dX14_feed_55 : decode cX14_feed 55 = .ok (.if_icmp .ge 43, 3) := by decide +kernel
theorem dX14_feed_58 : decode cX14_feed 58 = .ok (.aload_n 0, 1) := by decide +kernel
theorem dX14_feed_59 : decode cX14_feed 59 = .ok (.getfield 9, 3) := by decide +kernel
theorem dX14_feed_62 : decode cX14_feed 62 = .ok (.aload_n 0, 1) := by decide +kernel
theorem dX14_feed_63 : decode cX14_feed 63 = .ok (.getfield 79, 3) := by decide +kernel
theorem dX14_feed_66 : decode cX14_feed 66 = .ok (.iload 7, 2) := by decide +kernel
theorem dX14_feed_68 : decode cX14_feed 68 = .ok (.iadd, 1) := by decide +kernel
theorem dX14_feed_69 : decode cX14_feed 69 = .ok (.aload 6, 2) := by decide +kernel
theorem dX14_feed_71 : decode cX14_feed 71 = .ok (.iload 7, 2) := by decide +kernel
theorem dX14_feed_73 : decode cX14_feed 73 = .ok (.iconst 4, 1) := by decide +kernel
theorem dX14_feed_74 : decode cX14_feed 74 = .ok (.idiv, 1) := by decide +kernel
theorem dX14_feed_75 : decode cX14_feed 75 = .ok (.iaload, 1) := by decide +kernel
theorem dX14_feed_76 : decode cX14_feed 76 = .ok (.bipush 24, 2) := by decide +kernel
theorem dX14_feed_78 : decode cX14_feed 78 = .ok (.bipush 8, 2) := by decide +kernel
theorem dX14_feed_80 : decode cX14_feed 80 = .ok (.iload 7, 2) := by decide +kernel
theorem dX14_feed_82 : decode cX14_feed 82 = .ok (.iconst 4, 1) := by decide +kernel
theorem dX14_feed_83 : decode cX14_feed 83 = .ok (.irem, 1) := by decide +kernel
theorem dX14_feed_84 : decode cX14_feed 84 = .ok (.imul, 1) := by decide +kernel
theorem dX14_feed_85 : decode cX14_feed 85 = .ok (.isub, 1) := by decide +kernel
theorem dX14_feed_86 : decode cX14_feed 86 = .ok (.ishr, 1) := by decide +kernel
theorem dX14_feed_87 : decode cX14_feed 87 = .ok (.sipush 255, 3) := by decide +kernel
theorem dX14_feed_90 : decode cX14_feed 90 = .ok (.iand, 1) := by decide +kernel
theorem dX14_feed_91 : decode cX14_feed 91 = .ok (.iastore, 1) := by decide +kernel
theorem dX14_feed_92 : decode cX14_feed 92 = .ok (.iinc 7 1, 3) := by decide +kernel
theorem dX14_feed_95 : decode cX14_feed 95 = .ok (.goto (-44), 3) := by decide +kernel
theorem dX14_feed_98 : decode cX14_feed 98 = .ok (.aload_n 0, 1) := by decide +kernel
theorem dX14_feed_99 : decode cX14_feed 99 = .ok (.dup, 1) := by decide +kernel
theorem dX14_feed_100 : decode cX14_feed 100 = .ok (.getfield 79, 3) := by decide +kernel
theorem dX14_feed_103 : decode cX14_feed 103 = .ok (.bipush 20, 2) := by decide +kernel
theorem dX14_feed_105 : decode cX14_feed 105 = .ok (.iadd, 1) := by decide +kernel
theorem dX14_feed_106 : decode cX14_feed 106 = .ok (.putfield 79, 3) := by decide +kernel
theorem dX14_feed_109 : decode cX14_feed 109 = .ok (.aload_n 0, 1) := by decide +kernel
theorem dX14_feed_110 : decode cX14_feed 110 = .ok (.getfield 79, 3) := by decide +kernel
theorem dX14_feed_113 : decode cX14_feed 113 = .ok (.ireturn, 1) := by decide +kernel
theorem dX14_trim_0 : decode cX14_trim 0 = .ok (.aload_n 0, 1) := by decide +kernel
theorem dX14_trim_1 : decode cX14_trim 1 = .ok (.iconst 0, 1) := by decide +kernel
theorem dX14_trim_2 : decode cX14_trim 2 = .ok (.putfield 57, 3) := by decide +kernel
theorem dX14_trim_5 : decode cX14_trim 5 = .ok (.iload_n 1, 1) := by decide +kernel
theorem dX14_trim_6 : decode cX14_trim 6 = .ok (.iconst 0, 1) := by decide +kernel
theorem dX14_trim_7 : decode cX14_trim 7 = .ok (.aload_n 0, 1) := by decide +kernel
theorem dX14_trim_8 : decode cX14_trim 8 = .ok (.getfield 79, 3) := by decide +kernel
theorem dX14_trim_11 : decode cX14_trim 11 = .ok (.invokestatic 63, 3) := by decide +kernel
theorem dX14_trim_14 : decode cX14_trim 14 = .ok (.ifCond .ne 9, 3) := by decide +kernel
theorem dX14_trim_17 : decode cX14_trim 17 = .ok (.aload_n 0, 1) := by decide +kernel
theorem dX14_trim_18 : decode cX14_trim 18 = .ok (.iconst 1, 1) := by decide +kernel
theorem dX14_trim_19 : decode cX14_trim 19 = .ok (.invokevirtual 276, 3) := by decide +kernel
theorem dX14_trim_22 : decode cX14_trim 22 = .ok (.ireturn, 1) := by decide +kernel
theorem dX14_trim_23 : decode cX14_trim 23 = .ok (.aload_n 0, 1) := by decide +kernel
theorem dX14_trim_24 : decode cX14_trim 24 = .ok (.iload_n 1, 1) := by decide +kernel
theorem dX14_trim_25 : decode cX14_trim 25 = .ok (.putfield 79, 3) := by decide +kernel
theorem dX14_trim_28 : decode cX14_trim 28 = .ok (.iload_n 1, 1) := by decide +kernel
theorem dX14_trim_29 : decode cX14_trim 29 = .ok (.ireturn, 1) := by decide +kernel
theorem dX14_teach_0 : decode cX14_teach 0 = .ok (.aload_n 0, 1) := by decide +kernel
theorem dX14_teach_1 : decode cX14_teach 1 = .ok (.iconst 0, 1) := by decide +kernel
theorem dX14_teach_2 : decode cX14_teach 2 = .ok (.putfield 57, 3) := by decide +kernel
theorem dX14_teach_5 : decode cX14_teach 5 = .ok (.aload_n 0, 1) := by decide +kernel
theorem dX14_teach_6 : decode cX14_teach 6 = .ok (.iconst (-1), 1) := by decide +kernel
theorem dX14_teach_7 : decode cX14_teach 7 = .ok (.putfield 13, 3) := by decide +kernel
theorem dX14_teach_10 : decode cX14_teach 10 = .ok (.aload_n 0, 1) := by decide +kernel
theorem dX14_teach_11 : decode cX14_teach 11 = .ok (.invokevirtual 279, 3) := by decide +kernel
theorem dX14_teach_14 : decode cX14_teach 14 = .ok (.istore_n 1, 1) := by decide +kernel
theorem dX14_teach_15 : decode cX14_teach 15 = .ok (.aload_n 0, 1) := by decide +kernel
theorem dX14_teach_16 : decode cX14_teach 16 = .ok (.iconst 0, 1) := by decide +kernel
theorem dX14_teach_17 : decode cX14_teach 17 = .ok (.putfield 79, 3) := by decide +kernel
theorem dX14_teach_20 : decode cX14_teach 20 = .ok (.iload_n 1, 1) := by decide +kernel
theorem dX14_teach_21 : decode cX14_teach 21 = .ok (.ifCond .le 5, 3) := by decide +kernel
theorem dX14_teach_24 : decode cX14_teach 24 = .ok (.iload_n 1, 1) := by decide +kernel
theorem dX14_teach_25 : decode cX14_teach 25 = .ok (.ireturn, 1) := by decide +kernel
theorem dX14_teach_26 : decode cX14_teach 26 = .ok (.aload_n 0, 1) := by decide +kernel
theorem dX14_teach_27 : decode cX14_teach 27 = .ok (.aload_n 0, 1) := by decide +kernel
theorem dX14_teach_28 : decode cX14_teach 28 = .ok (.getfield 39, 3) := by decide +kernel
theorem dX14_teach_31 : decode cX14_teach 31 = .ok (.putfield 35, 3) := by decide +kernel
theorem dX14_teach_34 : decode cX14_teach 34 = .ok (.aload_n 0, 1) := by decide +kernel
theorem dX14_teach_35 : decode cX14_teach 35 = .ok (.getfield 47, 3) := by decide +kernel
theorem dX14_teach_38 : decode cX14_teach 38 = .ok (.invokevirtual 54, 3) := by decide +kernel
theorem dX14_teach_41 : decode cX14_teach 41 = .ok (.iconst 0, 1) := by decide +kernel
theorem dX14_teach_42 : decode cX14_teach 42 = .ok (.ireturn, 1) := by decide +kernel
theorem dX14_errorAt_0 : decode cX14_errorAt 0 = .ok (.aload_n 0, 1) := by decide +kernel
theorem dX14_errorAt_1 : decode cX14_errorAt 1 = .ok (.iconst 0, 1) := by decide +kernel
theorem dX14_errorAt_2 : decode cX14_errorAt 2 = .ok (.putfield 57, 3) := by decide +kernel
theorem dX14_errorAt_5 : decode cX14_errorAt 5 = .ok (.aload_n 0, 1) := by decide +kernel
theorem dX14_errorAt_6 : decode cX14_errorAt 6 = .ok (.getfield 13, 3) := by decide +kernel
theorem dX14_errorAt_9 : decode cX14_errorAt 9 = .ok (.ireturn, 1) := by decide +kernel
theorem dX14_counted_0 : decode cX14_counted 0 = .ok (.iconst 0, 1) := by decide +kernel
theorem dX14_counted_1 : decode cX14_counted 1 = .ok (.istore_n 2, 1) := by decide +kernel
theorem dX14_counted_2 : decode cX14_counted 2 = .ok (.iconst 0, 1) := by decide +kernel
theorem dX14_counted_3 : decode cX14_counted 3 = .ok (.istore_n 3, 1) := by decide +kernel
theorem dX14_counted_4 : decode cX14_counted 4 = .ok (.iload_n 3, 1) := by decide +kernel
theorem dX14_counted_5 : decode cX14_counted 5 = .ok (.aload_n 0, 1) := by decide +kernel
theorem dX14_counted_6 : decode cX14_counted 6 = .ok (.getfield 35, 3) := by decide +kernel
theorem dX14_counted_9 : decode cX14_counted 9 = .ok (.getfield 67, 3) := by decide +kernel
theorem dX14_counted_12 : decode cX14_counted 12 = .ok (.if_icmp .ge 38, 3) := by decide +kernel
theorem dX14_counted_15 : decode cX14_counted 15 = .ok (.iload_n 2, 1) := by decide +kernel
theorem dX14_counted_16 : decode cX14_counted 16 = .ok (.aload_n 0, 1) := by decide +kernel
theorem dX14_counted_17 : decode cX14_counted 17 = .ok (.getfield 47, 3) := by decide +kernel
theorem dX14_counted_20 : decode cX14_counted 20 = .ok (.getfield 282, 3) := by decide +kernel
theorem dX14_counted_23 : decode cX14_counted 23 = .ok (.iload_n 3, 1) := by decide +kernel
theorem dX14_counted_24 : decode cX14_counted 24 = .ok (.iaload, 1) := by decide +kernel
theorem dX14_counted_25 : decode cX14_counted 25 = .ok (.aload_n 0, 1) := by decide +kernel
theorem dX14_counted_26 : decode cX14_counted 26 = .ok (.getfield 35, 3) := by decide +kernel
theorem dX14_counted_29 : decode cX14_counted 29 = .ok (.getfield 241, 3) := by decide +kernel
theorem dX14_counted_32 : decode cX14_counted 32 = .ok (.iload_n 3, 1) := by decide +kernel
theorem dX14_counted_33 : decode cX14_counted 33 = .ok (.iaload, 1) := by decide +kernel
theorem dX14_counted_34 : decode cX14_counted 34 = .ok (.if_icmp .le 7, 3) := by decide +kernel
theorem dX14_counted_37 : decode cX14_counted 37 = .ok (.iconst 1, 1) := by decide +kernel
theorem dX14_counted_38 : decode cX14_counted 38 = .ok (.goto 4, 3) := by decide +kernel
theorem dX14_counted_41 : decode cX14_counted 41 = .ok (.iconst 0, 1) := by decide +kernel
theorem dX14_counted_42 : decode cX14_counted 42 = .ok (.iadd, 1) := by decide +kernel
theorem dX14_counted_43 : decode cX14_counted 43 = .ok (.istore_n 2, 1) := by decide +kernel
theorem dX14_counted_44 : decode cX14_counted 44 = .ok (.iinc 3 1, 3) := by decide +kernel
theorem dX14_counted_47 : decode cX14_counted 47 = .ok (.goto (-43), 3) := by decide +kernel
theorem dX14_counted_50 : decode cX14_counted 50 = .ok (.bipush 10, 2) := by decide +kernel
theorem dX14_counted_52 : decode cX14_counted 52 = .ok (.newarray .int, 2) := by decide +kernel
theorem dX14_counted_54 : decode cX14_counted 54 = .ok (.dup, 1) := by decide +kernel
theorem dX14_counted_55 : decode cX14_counted 55 = .ok (.iconst 0, 1) := by decide +kernel
theorem dX14_counted_56 : decode cX14_counted 56 = .ok (.aload_n 0, 1) := by decide +kernel
theorem dX14_counted_57 : decode cX14_counted 57 = .ok (.getfield 47, 3) := by decide +kernel
theorem dX14_counted_60 : decode cX14_counted 60 = .ok (.getfield 283, 3) := by decide +kernel
theorem dX14_counted_63 : decode cX14_counted 63 = .ok (.iastore, 1) := by decide +kernel
theorem dX14_counted_64 : decode cX14_counted 64 = .ok (.dup, 1) := by decide +kernel
theorem dX14_counted_65 : decode cX14_counted 65 = .ok (.iconst 1, 1) := by decide +kernel
theorem dX14_counted_66 : decode cX14_counted 66 = .ok (.aload_n 0, 1) := by decide +kernel
theorem dX14_counted_67 : decode cX14_counted 67 = .ok (.getfield 35, 3) := by decide +kernel
theorem dX14_counted_70 : decode cX14_counted 70 = .ok (.getfield 60, 3) := by decide +kernel
theorem dX14_counted_73 : decode cX14_counted 73 = .ok (.iastore, 1) := by decide +kernel
theorem dX14_counted_74 : decode cX14_counted 74 = .ok (.dup, 1) := by decide +kernel
theorem dX14_counted_75 : decode cX14_counted 75 = .ok (.iconst 2, 1) := by decide +kernel
theorem dX14_counted_76 : decode cX14_counted 76 = .ok (.aload_n 0, 1) := by decide +kernel
theorem dX14_counted_77 : decode cX14_counted 77 = .ok (.getfield 35, 3) := by decide +kernel
theorem dX14_counted_80 : decode cX14_counted 80 = .ok (.getfield 67, 3) := by decide +kernel
theorem dX14_counted_83 : decode cX14_counted 83 = .ok (.iastore, 1) := by decide +kernel
theorem dX14_counted_84 : decode cX14_counted 84 = .ok (.dup, 1) := by decide +kernel
theorem dX14_counted_85 : decode cX14_counted 85 = .ok (.iconst 3, 1) := by decide +kernel
theorem dX14_counted_86 : decode cX14_counted 86 = .ok (.aload_n 0, 1) := by decide +kernel
theorem dX14_counted_87 : decode cX14_counted 87 = .ok (.getfield 35, 3) := by decide +kernel
theorem dX14_counted_90 : decode cX14_counted 90 = .ok (.getfield 228, 3) := by decide +kernel
theorem dX14_counted_93 : decode cX14_counted 93 = .ok (.iastore, 1) := by decide +kernel
theorem dX14_counted_94 : decode cX14_counted 94 = .ok (.dup, 1) := by decide +kernel
theorem dX14_counted_95 : decode cX14_counted 95 = .ok (.iconst 4, 1) := by decide +kernel
theorem dX14_counted_96 : decode cX14_counted 96 = .ok (.aload_n 0, 1) := by decide +kernel
theorem dX14_counted_97 : decode cX14_counted 97 = .ok (.getfield 35, 3) := by decide +kernel
theorem dX14_counted_100 : decode cX14_counted 100 = .ok (.getfield 222, 3) := by decide +kernel
theorem dX14_counted_103 : decode cX14_counted 103 = .ok (.iastore, 1) := by decide +kernel
theorem dX14_counted_104 : decode cX14_counted 104 = .ok (.dup, 1) := by decide +kernel
theorem dX14_counted_105 : decode cX14_counted 105 = .ok (.iconst 5, 1) := by decide +kernel
theorem dX14_counted_106 : decode cX14_counted 106 = .ok (.aload_n 0, 1) := by decide +kernel
theorem dX14_counted_107 : decode cX14_counted 107 = .ok (.getfield 47, 3) := by decide +kernel
theorem dX14_counted_110 : decode cX14_counted 110 = .ok (.aload_n 0, 1) := by decide +kernel
theorem dX14_counted_111 : decode cX14_counted 111 = .ok (.getfield 47, 3) := by decide +kernel
theorem dX14_counted_114 : decode cX14_counted 114 = .ok (.getfield 286, 3) := by decide +kernel
theorem dX14_counted_117 : decode cX14_counted 117 = .ok (.invokevirtual 287, 3) := by decide +kernel
theorem dX14_counted_120 : decode cX14_counted 120 = .ok (.iastore, 1) := by decide +kernel
theorem dX14_counted_121 : decode cX14_counted 121 = .ok (.dup, 1) := by decide +kernel
theorem dX14_counted_122 : decode cX14_counted 122 = .ok (.bipush 6, 2) := by decide +kernel
theorem dX14_counted_124 : decode cX14_counted 124 = .ok (.aload_n 0, 1) := by decide +kernel
theorem dX14_counted_125 : decode cX14_counted 125 = .ok (.getfield 47, 3) := by decide +kernel
theorem dX14_counted_128 : decode cX14_counted 128 = .ok (.aload_n 0, 1) := by decide +kernel
theorem dX14_counted_129 : decode cX14_counted 129 = .ok (.getfield 47, 3) := by decide +kernel
theorem dX14_counted_132 : decode cX14_counted 132 = .ok (.getfield 290, 3) := by decide +kernel
theorem dX14_counted_135 : decode cX14_counted 135 = .ok (.invokevirtual 287, 3) := by decide +kernel
theorem dX14_counted_138 : decode cX14_counted 138 = .ok (.iastore, 1) := by decide +kernel
theorem dX14_counted_139 : decode cX14_counted 139 = .ok (.dup, 1) := by decide +kernel
theorem dX14_counted_140 : decode cX14_counted 140 = .ok (.bipush 7, 2) := by decide +kernel
theorem dX14_counted_142 : decode cX14_counted 142 = .ok (.iload_n 2, 1) := by decide +kernel
theorem dX14_counted_143 : decode cX14_counted 143 = .ok (.iastore, 1) := by decide +kernel
theorem dX14_counted_144 : decode cX14_counted 144 = .ok (.dup, 1) := by decide +kernel
theorem dX14_counted_145 : decode cX14_counted 145 = .ok (.bipush 8, 2) := by decide +kernel
theorem dX14_counted_147 : decode cX14_counted 147 = .ok (.aload_n 0, 1) := by decide +kernel
theorem dX14_counted_148 : decode cX14_counted 148 = .ok (.getfield 47, 3) := by decide +kernel
theorem dX14_counted_151 : decode cX14_counted 151 = .ok (.aload_n 0, 1) := by decide +kernel
theorem dX14_counted_152 : decode cX14_counted 152 = .ok (.getfield 47, 3) := by decide +kernel
theorem dX14_counted_155 : decode cX14_counted 155 = .ok (.getfield 293, 3) := by decide +kernel
theorem dX14_counted_158 : decode cX14_counted 158 = .ok (.invokevirtual 287, 3) := by decide +kernel
theorem dX14_counted_161 : decode cX14_counted 161 = .ok (.iastore, 1) := by decide +kernel
theorem dX14_counted_162 : decode cX14_counted 162 = .ok (.dup, 1) := by decide +kernel
theorem dX14_counted_163 : decode cX14_counted 163 = .ok (.bipush 9, 2) := by decide +kernel
theorem dX14_counted_165 : decode cX14_counted 165 = .ok (.aload_n 0, 1) := by decide +kernel
theorem dX14_counted_166 : decode cX14_counted 166 = .ok (.getfield 79, 3) := by decide +kernel
theorem dX14_counted_169 : decode cX14_counted 169 = .ok (.iastore, 1) := by decide +kernel
theorem dX14_counted_170 : decode cX14_counted 170 = .ok (.astore_n 3, 1) := by decide +kernel
theorem dX14_counted_171 : decode cX14_counted 171 = .ok (.aload_n 3, 1) := by decide +kernel
theorem dX14_counted_172 : decode cX14_counted 172 = .ok (.iload_n 1, 1) := by decide +kernel
theorem dX14_counted_173 : decode cX14_counted 173 = .ok (.iaload, 1) := by decide +kernel
theorem dX14_counted_174 : decode cX14_counted 174 = .ok (.ireturn, 1) := by decide +kernel
theorem dX14_count_0 : decode cX14_count 0 = .ok (.aload_n 0, 1) := by decide +kernel
theorem dX14_count_1 : decode cX14_count 1 = .ok (.iconst 0, 1) := by decide +kernel
theorem dX14_count_2 : decode cX14_count 2 = .ok (.putfield 57, 3) := by decide +kernel
theorem dX14_count_5 : decode cX14_count 5 = .ok (.iload_n 1, 1) := by decide +kernel
theorem dX14_count_6 : decode cX14_count 6 = .ok (.iconst 0, 1) := by decide +kernel
theorem dX14_count_7 : decode cX14_count 7 = .ok (.bipush 9, 2) := by decide +kernel
theorem dX14_count_9 : decode cX14_count 9 = .ok (.invokestatic 63, 3) := by decide +kernel
theorem dX14_count_12 : decode cX14_count 12 = .ok (.ifCond .eq 11, 3) := by decide +kernel
theorem dX14_count_15 : decode cX14_count 15 = .ok (.aload_n 0, 1) := by decide +kernel
theorem dX14_count_16 : decode cX14_count 16 = .ok (.iload_n 1, 1) := by decide +kernel
theorem dX14_count_17 : decode cX14_count 17 = .ok (.invokevirtual 296, 3) := by decide +kernel
theorem dX14_count_20 : decode cX14_count 20 = .ok (.goto 8, 3) := by decide +kernel
theorem dX14_count_23 : decode cX14_count 23 = .ok (.aload_n 0, 1) := by decide +kernel
theorem dX14_count_24 : decode cX14_count 24 = .ok (.iconst 1, 1) := by decide +kernel
theorem dX14_count_25 : decode cX14_count 25 = .ok (.invokevirtual 276, 3) := by decide +kernel
theorem dX14_count_28 : decode cX14_count 28 = .ok (.ireturn, 1) := by decide +kernel
theorem dX14_takenAt_0 : decode cX14_takenAt 0 = .ok (.iconst 0, 1) := by decide +kernel
theorem dX14_takenAt_1 : decode cX14_takenAt 1 = .ok (.istore_n 2, 1) := by decide +kernel
theorem dX14_takenAt_2 : decode cX14_takenAt 2 = .ok (.iconst 0, 1) := by decide +kernel
theorem dX14_takenAt_3 : decode cX14_takenAt 3 = .ok (.istore_n 3, 1) := by decide +kernel
theorem dX14_takenAt_4 : decode cX14_takenAt 4 = .ok (.iload_n 3, 1) := by decide +kernel
theorem dX14_takenAt_5 : decode cX14_takenAt 5 = .ok (.aload_n 0, 1) := by decide +kernel
theorem dX14_takenAt_6 : decode cX14_takenAt 6 = .ok (.getfield 35, 3) := by decide +kernel
theorem dX14_takenAt_9 : decode cX14_takenAt 9 = .ok (.getfield 67, 3) := by decide +kernel
theorem dX14_takenAt_12 : decode cX14_takenAt 12 = .ok (.if_icmp .ge 26, 3) := by decide +kernel
theorem dX14_takenAt_15 : decode cX14_takenAt 15 = .ok (.iload_n 2, 1) := by decide +kernel
theorem dX14_takenAt_16 : decode cX14_takenAt 16 = .ok (.aload_n 0, 1) := by decide +kernel
theorem dX14_takenAt_17 : decode cX14_takenAt 17 = .ok (.getfield 47, 3) := by decide +kernel
theorem dX14_takenAt_20 : decode cX14_takenAt 20 = .ok (.getfield 299, 3) := by decide +kernel
theorem dX14_takenAt_23 : decode cX14_takenAt 23 = .ok (.bipush 8, 2) := by decide +kernel
theorem dX14_takenAt_25 : decode cX14_takenAt 25 = .ok (.iload_n 1, 1) := by decide +kernel
theorem dX14_takenAt_26 : decode cX14_takenAt 26 = .ok (.imul, 1) := by decide +kernel
theorem dX14_takenAt_27 : decode cX14_takenAt 27 = .ok (.iload_n 3, 1) := by decide +kernel
theorem dX14_takenAt_28 : decode cX14_takenAt 28 = .ok (.iadd, 1) := by decide +kernel
theorem dX14_takenAt_29 : decode cX14_takenAt 29 = .ok (.iaload, 1) := by decide +kernel
theorem dX14_takenAt_30 : decode cX14_takenAt 30 = .ok (.iadd, 1) := by decide +kernel
theorem dX14_takenAt_31 : decode cX14_takenAt 31 = .ok (.istore_n 2, 1) := by decide +kernel
theorem dX14_takenAt_32 : decode cX14_takenAt 32 = .ok (.iinc 3 1, 3) := by decide +kernel
theorem dX14_takenAt_35 : decode cX14_takenAt 35 = .ok (.goto (-31), 3) := by decide +kernel
theorem dX14_takenAt_38 : decode cX14_takenAt 38 = .ok (.iload_n 2, 1) := by decide +kernel
theorem dX14_takenAt_39 : decode cX14_takenAt 39 = .ok (.ireturn, 1) := by decide +kernel
theorem dX14_takenBy_0 : decode cX14_takenBy 0 = .ok (.iconst 0, 1) := by decide +kernel
theorem dX14_takenBy_1 : decode cX14_takenBy 1 = .ok (.istore_n 2, 1) := by decide +kernel
theorem dX14_takenBy_2 : decode cX14_takenBy 2 = .ok (.iconst 0, 1) := by decide +kernel
theorem dX14_takenBy_3 : decode cX14_takenBy 3 = .ok (.istore_n 3, 1) := by decide +kernel
theorem dX14_takenBy_4 : decode cX14_takenBy 4 = .ok (.iload_n 3, 1) := by decide +kernel
theorem dX14_takenBy_5 : decode cX14_takenBy 5 = .ok (.aload_n 0, 1) := by decide +kernel
theorem dX14_takenBy_6 : decode cX14_takenBy 6 = .ok (.getfield 35, 3) := by decide +kernel
theorem dX14_takenBy_9 : decode cX14_takenBy 9 = .ok (.getfield 60, 3) := by decide +kernel
theorem dX14_takenBy_12 : decode cX14_takenBy 12 = .ok (.if_icmp .ge 26, 3) := by decide +kernel
theorem dX14_takenBy_15 : decode cX14_takenBy 15 = .ok (.iload_n 2, 1) := by decide +kernel
theorem dX14_takenBy_16 : decode cX14_takenBy 16 = .ok (.aload_n 0, 1) := by decide +kernel
theorem dX14_takenBy_17 : decode cX14_takenBy 17 = .ok (.getfield 47, 3) := by decide +kernel
theorem dX14_takenBy_20 : decode cX14_takenBy 20 = .ok (.getfield 299, 3) := by decide +kernel
theorem dX14_takenBy_23 : decode cX14_takenBy 23 = .ok (.bipush 8, 2) := by decide +kernel
theorem dX14_takenBy_25 : decode cX14_takenBy 25 = .ok (.iload_n 3, 1) := by decide +kernel
theorem dX14_takenBy_26 : decode cX14_takenBy 26 = .ok (.imul, 1) := by decide +kernel
theorem dX14_takenBy_27 : decode cX14_takenBy 27 = .ok (.iload_n 1, 1) := by decide +kernel
theorem dX14_takenBy_28 : decode cX14_takenBy 28 = .ok (.iadd, 1) := by decide +kernel
theorem dX14_takenBy_29 : decode cX14_takenBy 29 = .ok (.iaload, 1) := by decide +kernel
theorem dX14_takenBy_30 : decode cX14_takenBy 30 = .ok (.iadd, 1) := by decide +kernel
theorem dX14_takenBy_31 : decode cX14_takenBy 31 = .ok (.istore_n 2, 1) := by decide +kernel
theorem dX14_takenBy_32 : decode cX14_takenBy 32 = .ok (.iinc 3 1, 3) := by decide +kernel
theorem dX14_takenBy_35 : decode cX14_takenBy 35 = .ok (.goto (-31), 3) := by decide +kernel
theorem dX14_takenBy_38 : decode cX14_takenBy 38 = .ok (.iload_n 2, 1) := by decide +kernel
theorem dX14_takenBy_39 : decode cX14_takenBy 39 = .ok (.ireturn, 1) := by decide +kernel
theorem dX14_groundTold_0 : decode cX14_groundTold 0 = .ok (.iload_n 2, 1) := by decide +kernel
theorem dX14_groundTold_1 : decode cX14_groundTold 1 = .ok (.ifCond .ne 12, 3) := by decide +kernel
theorem dX14_groundTold_4 : decode cX14_groundTold 4 = .ok (.aload_n 0, 1) := by decide +kernel
theorem dX14_groundTold_5 : decode cX14_groundTold 5 = .ok (.getfield 47, 3) := by decide +kernel
theorem dX14_groundTold_8 : decode cX14_groundTold 8 = .ok (.iload_n 1, 1) := by decide +kernel
theorem dX14_groundTold_9 : decode cX14_groundTold 9 = .ok (.invokevirtual 302, 3) := by decide +kernel
theorem dX14_groundTold_12 : decode cX14_groundTold 12 = .ok (.ireturn, 1) := by decide +kernel
theorem dX14_groundTold_13 : decode cX14_groundTold 13 = .ok (.iload_n 2, 1) := by decide +kernel
theorem dX14_groundTold_14 : decode cX14_groundTold 14 = .ok (.iconst 5, 1) := by decide +kernel
theorem dX14_groundTold_15 : decode cX14_groundTold 15 = .ok (.if_icmp .gt 19, 3) := by decide +kernel
theorem dX14_groundTold_18 : decode cX14_groundTold 18 = .ok (.aload_n 0, 1) := by decide +kernel
theorem dX14_groundTold_19 : decode cX14_groundTold 19 = .ok (.getfield 47, 3) := by decide +kernel
theorem dX14_groundTold_22 : decode cX14_groundTold 22 = .ok (.getfield 286, 3) := by decide +kernel
theorem dX14_groundTold_25 : decode cX14_groundTold 25 = .ok (.iconst 5, 1) := by decide +kernel
theorem dX14_groundTold_26 : decode cX14_groundTold 26 = .ok (.iload_n 1, 1) := by decide +kernel
theorem dX14_groundTold_27 : decode cX14_groundTold 27 = .ok (.imul, 1) := by decide +kernel
theorem dX14_groundTold_28 : decode cX14_groundTold 28 = .ok (.iload_n 2, 1) := by decide +kernel
theorem dX14_groundTold_29 : decode cX14_groundTold 29 = .ok (.iadd, 1) := by decide +kernel
theorem dX14_groundTold_30 : decode cX14_groundTold 30 = .ok (.iconst 1, 1) := by decide +kernel
theorem dX14_groundTold_31 : decode cX14_groundTold 31 = .ok (.isub, 1) := by decide +kernel
theorem dX14_groundTold_32 : decode cX14_groundTold 32 = .ok (.iaload, 1) := by decide +kernel
theorem dX14_groundTold_33 : decode cX14_groundTold 33 = .ok (.ireturn, 1) := by decide +kernel
theorem dX14_groundTold_34 : decode cX14_groundTold 34 = .ok (.iload_n 2, 1) := by decide +kernel
theorem dX14_groundTold_35 : decode cX14_groundTold 35 = .ok (.bipush 6, 2) := by decide +kernel
theorem dX14_groundTold_37 : decode cX14_groundTold 37 = .ok (.if_icmp .ne 15, 3) := by decide +kernel
theorem dX14_groundTold_40 : decode cX14_groundTold 40 = .ok (.aload_n 0, 1) := by decide +kernel
theorem dX14_groundTold_41 : decode cX14_groundTold 41 = .ok (.getfield 35, 3) := by decide +kernel
theorem dX14_groundTold_44 : decode cX14_groundTold 44 = .ok (.getfield 231, 3) := by decide +kernel
theorem dX14_groundTold_47 : decode cX14_groundTold 47 = .ok (.iload_n 1, 1) := by decide +kernel
theorem dX14_groundTold_48 : decode cX14_groundTold 48 = .ok (.iaload, 1) := by decide +kernel
theorem dX14_groundTold_49 : decode cX14_groundTold 49 = .ok (.goto 26, 3) := by decide +kernel
theorem dX14_groundTold_52 : decode cX14_groundTold 52 = .ok (.iload_n 2, 1) := by decide +kernel
theorem dX14_groundTold_53 : decode cX14_groundTold 53 = .ok (.bipush 7, 2) := by decide +kernel
theorem dX14_groundTold_55 : decode cX14_groundTold 55 = .ok (.if_icmp .ne 15, 3) := by decide +kernel
theorem dX14_groundTold_58 : decode cX14_groundTold 58 = .ok (.aload_n 0, 1) := by decide +kernel
theorem dX14_groundTold_59 : decode cX14_groundTold 59 = .ok (.getfield 47, 3) := by decide +kernel
theorem dX14_groundTold_62 : decode cX14_groundTold 62 = .ok (.getfield 305, 3) := by decide +kernel
theorem dX14_groundTold_65 : decode cX14_groundTold 65 = .ok (.iload_n 1, 1) := by decide +kernel
theorem dX14_groundTold_66 : decode cX14_groundTold 66 = .ok (.iaload, 1) := by decide +kernel
theorem dX14_groundTold_67 : decode cX14_groundTold 67 = .ok (.goto 8, 3) := by decide +kernel
theorem dX14_groundTold_70 : decode cX14_groundTold 70 = .ok (.aload_n 0, 1) := by decide +kernel
theorem dX14_groundTold_71 : decode cX14_groundTold 71 = .ok (.iload_n 1, 1) := by decide +kernel
theorem dX14_groundTold_72 : decode cX14_groundTold 72 = .ok (.invokevirtual 308, 3) := by decide +kernel
theorem dX14_groundTold_75 : decode cX14_groundTold 75 = .ok (.ireturn, 1) := by decide +kernel
theorem dX14_ground_0 : decode cX14_ground 0 = .ok (.aload_n 0, 1) := by decide +kernel
theorem dX14_ground_1 : decode cX14_ground 1 = .ok (.iconst 0, 1) := by decide +kernel
theorem dX14_ground_2 : decode cX14_ground 2 = .ok (.putfield 57, 3) := by decide +kernel
theorem dX14_ground_5 : decode cX14_ground 5 = .ok (.aload_n 0, 1) := by decide +kernel
theorem dX14_ground_6 : decode cX14_ground 6 = .ok (.iload_n 1, 1) := by decide +kernel
theorem dX14_ground_7 : decode cX14_ground 7 = .ok (.invokevirtual 311, 3) := by decide +kernel
theorem dX14_ground_10 : decode cX14_ground 10 = .ok (.ifCond .eq 22, 3) := by decide +kernel
theorem dX14_ground_13 : decode cX14_ground 13 = .ok (.iload_n 2, 1) := by decide +kernel
theorem dX14_ground_14 : decode cX14_ground 14 = .ok (.iconst 0, 1) := by decide +kernel
theorem dX14_ground_15 : decode cX14_ground 15 = .ok (.bipush 8, 2) := by decide +kernel
theorem dX14_ground_17 : decode cX14_ground 17 = .ok (.invokestatic 63, 3) := by decide +kernel
theorem dX14_ground_20 : decode cX14_ground 20 = .ok (.ifCond .eq 12, 3) := by decide +kernel
theorem dX14_ground_23 : decode cX14_ground 23 = .ok (.aload_n 0, 1) := by decide +kernel
theorem dX14_ground_24 : decode cX14_ground 24 = .ok (.iload_n 1, 1) := by decide +kernel
theorem dX14_ground_25 : decode cX14_ground 25 = .ok (.iload_n 2, 1) := by decide +kernel
theorem dX14_ground_26 : decode cX14_ground 26 = .ok (.invokevirtual 314, 3) := by decide +kernel
theorem dX14_ground_29 : decode cX14_ground 29 = .ok (.goto 8, 3) := by decide +kernel
theorem dX14_ground_32 : decode cX14_ground 32 = .ok (.aload_n 0, 1) := by decide +kernel
theorem dX14_ground_33 : decode cX14_ground 33 = .ok (.iconst 1, 1) := by decide +kernel
theorem dX14_ground_34 : decode cX14_ground 34 = .ok (.invokevirtual 276, 3) := by decide +kernel
theorem dX14_ground_37 : decode cX14_ground 37 = .ok (.ireturn, 1) := by decide +kernel
theorem dX14_fisherTold_0 : decode cX14_fisherTold 0 = .ok (.bipush 10, 2) := by decide +kernel
theorem dX14_fisherTold_2 : decode cX14_fisherTold 2 = .ok (.newarray .int, 2) := by decide +kernel
theorem dX14_fisherTold_4 : decode cX14_fisherTold 4 = .ok (.dup, 1) := by decide +kernel
theorem dX14_fisherTold_5 : decode cX14_fisherTold 5 = .ok (.iconst 0, 1) := by decide +kernel
theorem dX14_fisherTold_6 : decode cX14_fisherTold 6 = .ok (.aload_n 0, 1) := by decide +kernel
theorem dX14_fisherTold_7 : decode cX14_fisherTold 7 = .ok (.getfield 47, 3) := by decide +kernel
theorem dX14_fisherTold_10 : decode cX14_fisherTold 10 = .ok (.getfield 282, 3) := by decide +kernel
theorem dX14_fisherTold_13 : decode cX14_fisherTold 13 = .ok (.iload_n 1, 1) := by decide +kernel
theorem dX14_fisherTold_14 : decode cX14_fisherTold 14 = .ok (.iaload, 1) := by decide +kernel
theorem dX14_fisherTold_15 : decode cX14_fisherTold 15 = .ok (.iastore, 1) := by decide +kernel
theorem dX14_fisherTold_16 : decode cX14_fisherTold 16 = .ok (.dup, 1) := by decide +kernel
theorem dX14_fisherTold_17 : decode cX14_fisherTold 17 = .ok (.iconst 1, 1) := by decide +kernel
theorem dX14_fisherTold_18 : decode cX14_fisherTold 18 = .ok (.aload_n 0, 1) := by decide +kernel
theorem dX14_fisherTold_19 : decode cX14_fisherTold 19 = .ok (.getfield 35, 3) := by decide +kernel
theorem dX14_fisherTold_22 : decode cX14_fisherTold 22 = .ok (.getfield 241, 3) := by decide +kernel
theorem dX14_fisherTold_25 : decode cX14_fisherTold 25 = .ok (.iload_n 1, 1) := by decide +kernel
theorem dX14_fisherTold_26 : decode cX14_fisherTold 26 = .ok (.iaload, 1) := by decide +kernel
theorem dX14_fisherTold_27 : decode cX14_fisherTold 27 = .ok (.iastore, 1) := by decide +kernel
theorem dX14_fisherTold_28 : decode cX14_fisherTold 28 = .ok (.dup, 1) := by decide +kernel
theorem dX14_fisherTold_29 : decode cX14_fisherTold 29 = .ok (.iconst 2, 1) := by decide +kernel
theorem dX14_fisherTold_30 : decode cX14_fisherTold 30 = .ok (.aload_n 0, 1) := by decide +kernel
theorem dX14_fisherTold_31 : decode cX14_fisherTold 31 = .ok (.getfield 35, 3) := by decide +kernel
theorem dX14_fisherTold_34 : decode cX14_fisherTold 34 = .ok (.getfield 244, 3) := by decide +kernel
theorem dX14_fisherTold_37 : decode cX14_fisherTold 37 = .ok (.iload_n 1, 1) := by decide +kernel
theorem dX14_fisherTold_38 : decode cX14_fisherTold 38 = .ok (.iaload, 1) := by decide +kernel
theorem dX14_fisherTold_39 : decode cX14_fisherTold 39 = .ok (.iastore, 1) := by decide +kernel
theorem dX14_fisherTold_40 : decode cX14_fisherTold 40 = .ok (.dup, 1) := by decide +kernel
theorem dX14_fisherTold_41 : decode cX14_fisherTold 41 = .ok (.iconst 3, 1) := by decide +kernel
theorem dX14_fisherTold_42 : decode cX14_fisherTold 42 = .ok (.aload_n 0, 1) := by decide +kernel
theorem dX14_fisherTold_43 : decode cX14_fisherTold 43 = .ok (.getfield 35, 3) := by decide +kernel
theorem dX14_fisherTold_46 : decode cX14_fisherTold 46 = .ok (.getfield 247, 3) := by decide +kernel
theorem dX14_fisherTold_49 : decode cX14_fisherTold 49 = .ok (.iload_n 1, 1) := by decide +kernel
theorem dX14_fisherTold_50 : decode cX14_fisherTold 50 = .ok (.iaload, 1) := by decide +kernel
theorem dX14_fisherTold_51 : decode cX14_fisherTold 51 = .ok (.iastore, 1) := by decide +kernel
theorem dX14_fisherTold_52 : decode cX14_fisherTold 52 = .ok (.dup, 1) := by decide +kernel
theorem dX14_fisherTold_53 : decode cX14_fisherTold 53 = .ok (.iconst 4, 1) := by decide +kernel
theorem dX14_fisherTold_54 : decode cX14_fisherTold 54 = .ok (.aload_n 0, 1) := by decide +kernel
theorem dX14_fisherTold_55 : decode cX14_fisherTold 55 = .ok (.getfield 47, 3) := by decide +kernel
theorem dX14_fisherTold_58 : decode cX14_fisherTold 58 = .ok (.getfield 290, 3) := by decide +kernel
theorem dX14_fisherTold_61 : decode cX14_fisherTold 61 = .ok (.iload_n 1, 1) := by decide +kernel
theorem dX14_fisherTold_62 : decode cX14_fisherTold 62 = .ok (.iaload, 1) := by decide +kernel
theorem dX14_fisherTold_63 : decode cX14_fisherTold 63 = .ok (.iastore, 1) := by decide +kernel
theorem dX14_fisherTold_64 : decode cX14_fisherTold 64 = .ok (.dup, 1) := by decide +kernel
theorem dX14_fisherTold_65 : decode cX14_fisherTold 65 = .ok (.iconst 5, 1) := by decide +kernel
theorem dX14_fisherTold_66 : decode cX14_fisherTold 66 = .ok (.aload_n 0, 1) := by decide +kernel
theorem dX14_fisherTold_67 : decode cX14_fisherTold 67 = .ok (.getfield 47, 3) := by decide +kernel
theorem dX14_fisherTold_70 : decode cX14_fisherTold 70 = .ok (.getfield 317, 3) := by decide +kernel
theorem dX14_fisherTold_73 : decode cX14_fisherTold 73 = .ok (.iload_n 1, 1) := by decide +kernel
theorem dX14_fisherTold_74 : decode cX14_fisherTold 74 = .ok (.iaload, 1) := by decide +kernel
theorem dX14_fisherTold_75 : decode cX14_fisherTold 75 = .ok (.iastore, 1) := by decide +kernel
theorem dX14_fisherTold_76 : decode cX14_fisherTold 76 = .ok (.dup, 1) := by decide +kernel
theorem dX14_fisherTold_77 : decode cX14_fisherTold 77 = .ok (.bipush 6, 2) := by decide +kernel
theorem dX14_fisherTold_79 : decode cX14_fisherTold 79 = .ok (.aload_n 0, 1) := by decide +kernel
theorem dX14_fisherTold_80 : decode cX14_fisherTold 80 = .ok (.getfield 47, 3) := by decide +kernel
theorem dX14_fisherTold_83 : decode cX14_fisherTold 83 = .ok (.getfield 320, 3) := by decide +kernel
theorem dX14_fisherTold_86 : decode cX14_fisherTold 86 = .ok (.iload_n 1, 1) := by decide +kernel
theorem dX14_fisherTold_87 : decode cX14_fisherTold 87 = .ok (.iaload, 1) := by decide +kernel
theorem dX14_fisherTold_88 : decode cX14_fisherTold 88 = .ok (.iastore, 1) := by decide +kernel
theorem dX14_fisherTold_89 : decode cX14_fisherTold 89 = .ok (.dup, 1) := by decide +kernel
theorem dX14_fisherTold_90 : decode cX14_fisherTold 90 = .ok (.bipush 7, 2) := by decide +kernel
theorem dX14_fisherTold_92 : decode cX14_fisherTold 92 = .ok (.aload_n 0, 1) := by decide +kernel
theorem dX14_fisherTold_93 : decode cX14_fisherTold 93 = .ok (.getfield 47, 3) := by decide +kernel
theorem dX14_fisherTold_96 : decode cX14_fisherTold 96 = .ok (.getfield 323, 3) := by decide +kernel
theorem dX14_fisherTold_99 : decode cX14_fisherTold 99 = .ok (.iload_n 1, 1) := by decide +kernel
theorem dX14_fisherTold_100 : decode cX14_fisherTold 100 = .ok (.iaload, 1) := by decide +kernel
theorem dX14_fisherTold_101 : decode cX14_fisherTold 101 = .ok (.iastore, 1) := by decide +kernel
theorem dX14_fisherTold_102 : decode cX14_fisherTold 102 = .ok (.dup, 1) := by decide +kernel
theorem dX14_fisherTold_103 : decode cX14_fisherTold 103 = .ok (.bipush 8, 2) := by decide +kernel
theorem dX14_fisherTold_105 : decode cX14_fisherTold 105 = .ok (.aload_n 0, 1) := by decide +kernel
theorem dX14_fisherTold_106 : decode cX14_fisherTold 106 = .ok (.getfield 47, 3) := by decide +kernel
theorem dX14_fisherTold_109 : decode cX14_fisherTold 109 = .ok (.getfield 293, 3) := by decide +kernel
theorem dX14_fisherTold_112 : decode cX14_fisherTold 112 = .ok (.iload_n 1, 1) := by decide +kernel
theorem dX14_fisherTold_113 : decode cX14_fisherTold 113 = .ok (.iaload, 1) := by decide +kernel
theorem dX14_fisherTold_114 : decode cX14_fisherTold 114 = .ok (.iastore, 1) := by decide +kernel
theorem dX14_fisherTold_115 : decode cX14_fisherTold 115 = .ok (.dup, 1) := by decide +kernel
theorem dX14_fisherTold_116 : decode cX14_fisherTold 116 = .ok (.bipush 9, 2) := by decide +kernel
theorem dX14_fisherTold_118 : decode cX14_fisherTold 118 = .ok (.aload_n 0, 1) := by decide +kernel
theorem dX14_fisherTold_119 : decode cX14_fisherTold 119 = .ok (.iload_n 1, 1) := by decide +kernel
theorem dX14_fisherTold_120 : decode cX14_fisherTold 120 = .ok (.invokevirtual 326, 3) := by decide +kernel
theorem dX14_fisherTold_123 : decode cX14_fisherTold 123 = .ok (.iastore, 1) := by decide +kernel
theorem dX14_fisherTold_124 : decode cX14_fisherTold 124 = .ok (.astore_n 3, 1) := by decide +kernel
theorem dX14_fisherTold_125 : decode cX14_fisherTold 125 = .ok (.aload_n 3, 1) := by decide +kernel
theorem dX14_fisherTold_126 : decode cX14_fisherTold 126 = .ok (.iload_n 2, 1) := by decide +kernel
theorem dX14_fisherTold_127 : decode cX14_fisherTold 127 = .ok (.iaload, 1) := by decide +kernel
theorem dX14_fisherTold_128 : decode cX14_fisherTold 128 = .ok (.ireturn, 1) := by decide +kernel
theorem dX14_fisher_0 : decode cX14_fisher 0 = .ok (.aload_n 0, 1) := by decide +kernel
theorem dX14_fisher_1 : decode cX14_fisher 1 = .ok (.iconst 0, 1) := by decide +kernel
theorem dX14_fisher_2 : decode cX14_fisher 2 = .ok (.putfield 57, 3) := by decide +kernel
theorem dX14_fisher_5 : decode cX14_fisher 5 = .ok (.aload_n 0, 1) := by decide +kernel
theorem dX14_fisher_6 : decode cX14_fisher 6 = .ok (.iload_n 1, 1) := by decide +kernel
theorem dX14_fisher_7 : decode cX14_fisher 7 = .ok (.invokevirtual 329, 3) := by decide +kernel
theorem dX14_fisher_10 : decode cX14_fisher 10 = .ok (.ifCond .eq 22, 3) := by decide +kernel
theorem dX14_fisher_13 : decode cX14_fisher 13 = .ok (.iload_n 2, 1) := by decide +kernel
theorem dX14_fisher_14 : decode cX14_fisher 14 = .ok (.iconst 0, 1) := by decide +kernel
theorem dX14_fisher_15 : decode cX14_fisher 15 = .ok (.bipush 9, 2) := by decide +kernel
theorem dX14_fisher_17 : decode cX14_fisher 17 = .ok (.invokestatic 63, 3) := by decide +kernel
theorem dX14_fisher_20 : decode cX14_fisher 20 = .ok (.ifCond .eq 12, 3) := by decide +kernel
theorem dX14_fisher_23 : decode cX14_fisher 23 = .ok (.aload_n 0, 1) := by decide +kernel
theorem dX14_fisher_24 : decode cX14_fisher 24 = .ok (.iload_n 1, 1) := by decide +kernel
theorem dX14_fisher_25 : decode cX14_fisher 25 = .ok (.iload_n 2, 1) := by decide +kernel
theorem dX14_fisher_26 : decode cX14_fisher 26 = .ok (.invokevirtual 332, 3) := by decide +kernel
theorem dX14_fisher_29 : decode cX14_fisher 29 = .ok (.goto 8, 3) := by decide +kernel
theorem dX14_fisher_32 : decode cX14_fisher 32 = .ok (.aload_n 0, 1) := by decide +kernel
theorem dX14_fisher_33 : decode cX14_fisher 33 = .ok (.iconst 1, 1) := by decide +kernel
theorem dX14_fisher_34 : decode cX14_fisher 34 = .ok (.invokevirtual 276, 3) := by decide +kernel
theorem dX14_fisher_37 : decode cX14_fisher 37 = .ok (.ireturn, 1) := by decide +kernel
theorem dX14_pactTold_0 : decode cX14_pactTold 0 = .ok (.bipush 7, 2) := by decide +kernel
theorem dX14_pactTold_2 : decode cX14_pactTold 2 = .ok (.newarray .int, 2) := by decide +kernel
theorem dX14_pactTold_4 : decode cX14_pactTold 4 = .ok (.dup, 1) := by decide +kernel
theorem dX14_pactTold_5 : decode cX14_pactTold 5 = .ok (.iconst 0, 1) := by decide +kernel
theorem dX14_pactTold_6 : decode cX14_pactTold 6 = .ok (.aload_n 0, 1) := by decide +kernel
theorem dX14_pactTold_7 : decode cX14_pactTold 7 = .ok (.getfield 35, 3) := by decide +kernel
theorem dX14_pactTold_10 : decode cX14_pactTold 10 = .ok (.getfield 225, 3) := by decide +kernel
theorem dX14_pactTold_13 : decode cX14_pactTold 13 = .ok (.iload_n 1, 1) := by decide +kernel
theorem dX14_pactTold_14 : decode cX14_pactTold 14 = .ok (.iaload, 1) := by decide +kernel
theorem dX14_pactTold_15 : decode cX14_pactTold 15 = .ok (.iconst (-1), 1) := by decide +kernel
theorem dX14_pactTold_16 : decode cX14_pactTold 16 = .ok (.if_icmp .ne 7, 3) := by decide +kernel
theorem dX14_pactTold_19 : decode cX14_pactTold 19 = .ok (.iconst 0, 1) := by decide +kernel
theorem dX14_pactTold_20 : decode cX14_pactTold 20 = .ok (.goto 4, 3) := by decide +kernel
theorem dX14_pactTold_23 : decode cX14_pactTold 23 = .ok (.iconst 1, 1) := by decide +kernel
theorem dX14_pactTold_24 : decode cX14_pactTold 24 = .ok (.iastore, 1) := by decide +kernel
theorem dX14_pactTold_25 : decode cX14_pactTold 25 = .ok (.dup, 1) := by decide +kernel
theorem dX14_pactTold_26 : decode cX14_pactTold 26 = .ok (.iconst 1, 1) := by decide +kernel
theorem dX14_pactTold_27 : decode cX14_pactTold 27 = .ok (.aload_n 0, 1) := by decide +kernel
theorem dX14_pactTold_28 : decode cX14_pactTold 28 = .ok (.getfield 35, 3) := by decide +kernel
theorem dX14_pactTold_31 : decode cX14_pactTold 31 = .ok (.getfield 225, 3) := by decide +kernel
theorem dX14_pactTold_34 : decode cX14_pactTold 34 = .ok (.iload_n 1, 1) := by decide +kernel
theorem dX14_pactTold_35 : decode cX14_pactTold 35 = .ok (.iaload, 1) := by decide +kernel
theorem dX14_pactTold_36 : decode cX14_pactTold 36 = .ok (.iastore, 1) := by decide +kernel
theorem dX14_pactTold_37 : decode cX14_pactTold 37 = .ok (.dup, 1) := by decide +kernel
theorem dX14_pactTold_38 : decode cX14_pactTold 38 = .ok (.iconst 2, 1) := by decide +kernel
theorem dX14_pactTold_39 : decode cX14_pactTold 39 = .ok (.aload_n 0, 1) := by decide +kernel
theorem dX14_pactTold_40 : decode cX14_pactTold 40 = .ok (.getfield 35, 3) := by decide +kernel
theorem dX14_pactTold_43 : decode cX14_pactTold 43 = .ok (.getfield 262, 3) := by decide +kernel
theorem dX14_pactTold_46 : decode cX14_pactTold 46 = .ok (.iload_n 1, 1) := by decide +kernel
theorem dX14_pactTold_47 : decode cX14_pactTold 47 = .ok (.iaload, 1) := by decide +kernel
theorem dX14_pactTold_48 : decode cX14_pactTold 48 = .ok (.iastore, 1) := by decide +kernel
theorem dX14_pactTold_49 : decode cX14_pactTold 49 = .ok (.dup, 1) := by decide +kernel
theorem dX14_pactTold_50 : decode cX14_pactTold 50 = .ok (.iconst 3, 1) := by decide +kernel
theorem dX14_pactTold_51 : decode cX14_pactTold 51 = .ok (.aload_n 0, 1) := by decide +kernel
theorem dX14_pactTold_52 : decode cX14_pactTold 52 = .ok (.getfield 35, 3) := by decide +kernel
theorem dX14_pactTold_55 : decode cX14_pactTold 55 = .ok (.getfield 265, 3) := by decide +kernel
theorem dX14_pactTold_58 : decode cX14_pactTold 58 = .ok (.bipush 8, 2) := by decide +kernel
theorem dX14_pactTold_60 : decode cX14_pactTold 60 = .ok (.iload_n 1, 1) := by decide +kernel
theorem dX14_pactTold_61 : decode cX14_pactTold 61 = .ok (.imul, 1) := by decide +kernel
theorem dX14_pactTold_62 : decode cX14_pactTold 62 = .ok (.iaload, 1) := by decide +kernel
theorem dX14_pactTold_63 : decode cX14_pactTold 63 = .ok (.iastore, 1) := by decide +kernel
theorem dX14_pactTold_64 : decode cX14_pactTold 64 = .ok (.dup, 1) := by decide +kernel
theorem dX14_pactTold_65 : decode cX14_pactTold 65 = .ok (.iconst 4, 1) := by decide +kernel
theorem dX14_pactTold_66 : decode cX14_pactTold 66 = .ok (.aload_n 0, 1) := by decide +kernel
theorem dX14_pactTold_67 : decode cX14_pactTold 67 = .ok (.getfield 47, 3) := by decide +kernel
theorem dX14_pactTold_70 : decode cX14_pactTold 70 = .ok (.getfield 335, 3) := by decide +kernel
theorem dX14_pactTold_73 : decode cX14_pactTold 73 = .ok (.iload_n 1, 1) := by decide +kernel
theorem dX14_pactTold_74 : decode cX14_pactTold 74 = .ok (.iaload, 1) := by decide +kernel
theorem dX14_pactTold_75 : decode cX14_pactTold 75 = .ok (.iastore, 1) := by decide +kernel
theorem dX14_pactTold_76 : decode cX14_pactTold 76 = .ok (.dup, 1) := by decide +kernel
theorem dX14_pactTold_77 : decode cX14_pactTold 77 = .ok (.iconst 5, 1) := by decide +kernel
theorem dX14_pactTold_78 : decode cX14_pactTold 78 = .ok (.aload_n 0, 1) := by decide +kernel
theorem dX14_pactTold_79 : decode cX14_pactTold 79 = .ok (.getfield 47, 3) := by decide +kernel
theorem dX14_pactTold_82 : decode cX14_pactTold 82 = .ok (.getfield 338, 3) := by decide +kernel
theorem dX14_pactTold_85 : decode cX14_pactTold 85 = .ok (.iload_n 1, 1) := by decide +kernel
theorem dX14_pactTold_86 : decode cX14_pactTold 86 = .ok (.iaload, 1) := by decide +kernel
theorem dX14_pactTold_87 : decode cX14_pactTold 87 = .ok (.iastore, 1) := by decide +kernel
theorem dX14_pactTold_88 : decode cX14_pactTold 88 = .ok (.dup, 1) := by decide +kernel
theorem dX14_pactTold_89 : decode cX14_pactTold 89 = .ok (.bipush 6, 2) := by decide +kernel
theorem dX14_pactTold_91 : decode cX14_pactTold 91 = .ok (.aload_n 0, 1) := by decide +kernel
theorem dX14_pactTold_92 : decode cX14_pactTold 92 = .ok (.getfield 47, 3) := by decide +kernel
theorem dX14_pactTold_95 : decode cX14_pactTold 95 = .ok (.getfield 341, 3) := by decide +kernel
theorem dX14_pactTold_98 : decode cX14_pactTold 98 = .ok (.iload_n 1, 1) := by decide +kernel
theorem dX14_pactTold_99 : decode cX14_pactTold 99 = .ok (.iaload, 1) := by decide +kernel
theorem dX14_pactTold_100 : decode cX14_pactTold 100 = .ok (.iastore, 1) := by decide +kernel
theorem dX14_pactTold_101 : decode cX14_pactTold 101 = .ok (.astore_n 3, 1) := by decide +kernel
theorem dX14_pactTold_102 : decode cX14_pactTold 102 = .ok (.aload_n 3, 1) := by decide +kernel
theorem dX14_pactTold_103 : decode cX14_pactTold 103 = .ok (.iload_n 2, 1) := by decide +kernel
theorem dX14_pactTold_104 : decode cX14_pactTold 104 = .ok (.iaload, 1) := by decide +kernel
theorem dX14_pactTold_105 : decode cX14_pactTold 105 = .ok (.ireturn, 1) := by decide +kernel
theorem dX14_pact_0 : decode cX14_pact 0 = .ok (.aload_n 0, 1) := by decide +kernel
theorem dX14_pact_1 : decode cX14_pact 1 = .ok (.iconst 0, 1) := by decide +kernel
theorem dX14_pact_2 : decode cX14_pact 2 = .ok (.putfield 57, 3) := by decide +kernel
theorem dX14_pact_5 : decode cX14_pact 5 = .ok (.iload_n 1, 1) := by decide +kernel
theorem dX14_pact_6 : decode cX14_pact 6 = .ok (.iconst 0, 1) := by decide +kernel
theorem dX14_pact_7 : decode cX14_pact 7 = .ok (.aload_n 0, 1) := by decide +kernel
theorem dX14_pact_8 : decode cX14_pact 8 = .ok (.getfield 35, 3) := by decide +kernel
theorem dX14_pact_11 : decode cX14_pact 11 = .ok (.getfield 222, 3) := by decide +kernel
theorem dX14_pact_14 : decode cX14_pact 14 = .ok (.iconst 1, 1) := by decide +kernel
theorem dX14_pact_15 : decode cX14_pact 15 = .ok (.isub, 1) := by decide +kernel
theorem dX14_pact_16 : decode cX14_pact 16 = .ok (.invokestatic 63, 3) := by decide +kernel
theorem dX14_pact_19 : decode cX14_pact 19 = .ok (.ifCond .eq 22, 3) := by decide +kernel
theorem dX14_pact_22 : decode cX14_pact 22 = .ok (.iload_n 2, 1) := by decide +kernel
theorem dX14_pact_23 : decode cX14_pact 23 = .ok (.iconst 0, 1) := by decide +kernel
theorem dX14_pact_24 : decode cX14_pact 24 = .ok (.bipush 6, 2) := by decide +kernel
theorem dX14_pact_26 : decode cX14_pact 26 = .ok (.invokestatic 63, 3) := by decide +kernel
theorem dX14_pact_29 : decode cX14_pact 29 = .ok (.ifCond .eq 12, 3) := by decide +kernel
theorem dX14_pact_32 : decode cX14_pact 32 = .ok (.aload_n 0, 1) := by decide +kernel
theorem dX14_pact_33 : decode cX14_pact 33 = .ok (.iload_n 1, 1) := by decide +kernel
theorem dX14_pact_34 : decode cX14_pact 34 = .ok (.iload_n 2, 1) := by decide +kernel
theorem dX14_pact_35 : decode cX14_pact 35 = .ok (.invokevirtual 344, 3) := by decide +kernel
theorem dX14_pact_38 : decode cX14_pact 38 = .ok (.goto 8, 3) := by decide +kernel
theorem dX14_pact_41 : decode cX14_pact 41 = .ok (.aload_n 0, 1) := by decide +kernel
theorem dX14_pact_42 : decode cX14_pact 42 = .ok (.iconst 1, 1) := by decide +kernel
theorem dX14_pact_43 : decode cX14_pact 43 = .ok (.invokevirtual 276, 3) := by decide +kernel
theorem dX14_pact_46 : decode cX14_pact 46 = .ok (.ireturn, 1) := by decide +kernel
theorem dX14_cheat_0 : decode cX14_cheat 0 = .ok (.aload_n 0, 1) := by decide +kernel
theorem dX14_cheat_1 : decode cX14_cheat 1 = .ok (.iconst 0, 1) := by decide +kernel
theorem dX14_cheat_2 : decode cX14_cheat 2 = .ok (.putfield 57, 3) := by decide +kernel
theorem dX14_cheat_5 : decode cX14_cheat 5 = .ok (.aload_n 0, 1) := by decide +kernel
theorem dX14_cheat_6 : decode cX14_cheat 6 = .ok (.iload_n 1, 1) := by decide +kernel
theorem dX14_cheat_7 : decode cX14_cheat 7 = .ok (.invokevirtual 329, 3) := by decide +kernel
theorem dX14_cheat_10 : decode cX14_cheat 10 = .ok (.ifCond .ne 9, 3) := by decide +kernel
theorem dX14_cheat_13 : decode cX14_cheat 13 = .ok (.aload_n 0, 1) := by decide +kernel
theorem dX14_cheat_14 : decode cX14_cheat 14 = .ok (.iconst 1, 1) := by decide +kernel
theorem dX14_cheat_15 : decode cX14_cheat 15 = .ok (.invokevirtual 276, 3) := by decide +kernel
theorem dX14_cheat_18 : decode cX14_cheat 18 = .ok (.ireturn, 1) := by decide +kernel
theorem dX14_cheat_19 : decode cX14_cheat 19 = .ok (.aload_n 0, 1) := by decide +kernel
theorem dX14_cheat_20 : decode cX14_cheat 20 = .ok (.getfield 47, 3) := by decide +kernel
theorem dX14_cheat_23 : decode cX14_cheat 23 = .ok (.getfield 293, 3) := by decide +kernel
theorem dX14_cheat_26 : decode cX14_cheat 26 = .ok (.iload_n 1, 1) := by decide +kernel
theorem dX14_cheat_27 : decode cX14_cheat 27 = .ok (.iload_n 2, 1) := by decide +kernel
theorem dX14_cheat_28 : decode cX14_cheat 28 = .ok (.ifCond .eq 7, 3) := by decide +kernel
theorem dX14_cheat_31 : decode cX14_cheat 31 = .ok (.iconst 1, 1) := by decide +kernel
theorem dX14_cheat_32 : decode cX14_cheat 32 = .ok (.goto 4, 3) := by decide +kernel
theorem dX14_cheat_35 : decode cX14_cheat 35 = .ok (.iconst 0, 1) := by decide +kernel
theorem dX14_cheat_36 : decode cX14_cheat 36 = .ok (.iastore, 1) := by decide +kernel
theorem dX14_cheat_37 : decode cX14_cheat 37 = .ok (.aload_n 0, 1) := by decide +kernel
theorem dX14_cheat_38 : decode cX14_cheat 38 = .ok (.getfield 47, 3) := by decide +kernel
theorem dX14_cheat_41 : decode cX14_cheat 41 = .ok (.aload_n 0, 1) := by decide +kernel
theorem dX14_cheat_42 : decode cX14_cheat 42 = .ok (.getfield 47, 3) := by decide +kernel
theorem dX14_cheat_45 : decode cX14_cheat 45 = .ok (.getfield 293, 3) := by decide +kernel
theorem dX14_cheat_48 : decode cX14_cheat 48 = .ok (.invokevirtual 287, 3) := by decide +kernel
theorem dX14_cheat_51 : decode cX14_cheat 51 = .ok (.ireturn, 1) := by decide +kernel
theorem dX14_mend_0 : decode cX14_mend 0 = .ok (.aload_n 0, 1) := by decide +kernel
theorem dX14_mend_1 : decode cX14_mend 1 = .ok (.iconst 0, 1) := by decide +kernel
theorem dX14_mend_2 : decode cX14_mend 2 = .ok (.putfield 57, 3) := by decide +kernel
theorem dX14_mend_5 : decode cX14_mend 5 = .ok (.aload_n 0, 1) := by decide +kernel
theorem dX14_mend_6 : decode cX14_mend 6 = .ok (.iload_n 1, 1) := by decide +kernel
theorem dX14_mend_7 : decode cX14_mend 7 = .ok (.invokevirtual 329, 3) := by decide +kernel
theorem dX14_mend_10 : decode cX14_mend 10 = .ok (.ifCond .ne 9, 3) := by decide +kernel
theorem dX14_mend_13 : decode cX14_mend 13 = .ok (.aload_n 0, 1) := by decide +kernel
theorem dX14_mend_14 : decode cX14_mend 14 = .ok (.iconst 1, 1) := by decide +kernel
theorem dX14_mend_15 : decode cX14_mend 15 = .ok (.invokevirtual 276, 3) := by decide +kernel
theorem dX14_mend_18 : decode cX14_mend 18 = .ok (.ireturn, 1) := by decide +kernel
theorem dX14_mend_19 : decode cX14_mend 19 = .ok (.aload_n 0, 1) := by decide +kernel
theorem dX14_mend_20 : decode cX14_mend 20 = .ok (.getfield 47, 3) := by decide +kernel
theorem dX14_mend_23 : decode cX14_mend 23 = .ok (.getfield 282, 3) := by decide +kernel
theorem dX14_mend_26 : decode cX14_mend 26 = .ok (.iload_n 1, 1) := by decide +kernel
theorem dX14_mend_27 : decode cX14_mend 27 = .ok (.iaload, 1) := by decide +kernel
theorem dX14_mend_28 : decode cX14_mend 28 = .ok (.aload_n 0, 1) := by decide +kernel
theorem dX14_mend_29 : decode cX14_mend 29 = .ok (.getfield 35, 3) := by decide +kernel
theorem dX14_mend_32 : decode cX14_mend 32 = .ok (.getfield 241, 3) := by decide +kernel
theorem dX14_mend_35 : decode cX14_mend 35 = .ok (.iload_n 1, 1) := by decide +kernel
theorem dX14_mend_36 : decode cX14_mend 36 = .ok (.iaload, 1) := by decide +kernel
theorem dX14_mend_37 : decode cX14_mend 37 = .ok (.if_icmp .eq 16, 3) := by decide +kernel
theorem dX14_mend_40 : decode cX14_mend 40 = .ok (.aload_n 0, 1) := by decide +kernel
theorem dX14_mend_41 : decode cX14_mend 41 = .ok (.getfield 47, 3) := by decide +kernel
theorem dX14_mend_44 : decode cX14_mend 44 = .ok (.getfield 290, 3) := by decide +kernel
theorem dX14_mend_47 : decode cX14_mend 47 = .ok (.iload_n 1, 1) := by decide +kernel
theorem dX14_mend_48 : decode cX14_mend 48 = .ok (.iaload, 1) := by decide +kernel
theorem dX14_mend_49 : decode cX14_mend 49 = .ok (.iconst 3, 1) := by decide +kernel
theorem dX14_mend_50 : decode cX14_mend 50 = .ok (.if_icmp .ge 9, 3) := by decide +kernel
theorem dX14_mend_53 : decode cX14_mend 53 = .ok (.aload_n 0, 1) := by decide +kernel
theorem dX14_mend_54 : decode cX14_mend 54 = .ok (.iconst 2, 1) := by decide +kernel
theorem dX14_mend_55 : decode cX14_mend 55 = .ok (.invokevirtual 276, 3) := by decide +kernel
theorem dX14_mend_58 : decode cX14_mend 58 = .ok (.ireturn, 1) := by decide +kernel
theorem dX14_mend_59 : decode cX14_mend 59 = .ok (.aload_n 0, 1) := by decide +kernel
theorem dX14_mend_60 : decode cX14_mend 60 = .ok (.getfield 47, 3) := by decide +kernel
theorem dX14_mend_63 : decode cX14_mend 63 = .ok (.getfield 282, 3) := by decide +kernel
theorem dX14_mend_66 : decode cX14_mend 66 = .ok (.iload_n 1, 1) := by decide +kernel
theorem dX14_mend_67 : decode cX14_mend 67 = .ok (.aload_n 0, 1) := by decide +kernel
theorem dX14_mend_68 : decode cX14_mend 68 = .ok (.getfield 35, 3) := by decide +kernel
theorem dX14_mend_71 : decode cX14_mend 71 = .ok (.getfield 241, 3) := by decide +kernel
theorem dX14_mend_74 : decode cX14_mend 74 = .ok (.iload_n 1, 1) := by decide +kernel
theorem dX14_mend_75 : decode cX14_mend 75 = .ok (.iaload, 1) := by decide +kernel
theorem dX14_mend_76 : decode cX14_mend 76 = .ok (.iastore, 1) := by decide +kernel
theorem dX14_mend_77 : decode cX14_mend 77 = .ok (.aload_n 0, 1) := by decide +kernel
theorem dX14_mend_78 : decode cX14_mend 78 = .ok (.getfield 47, 3) := by decide +kernel
theorem dX14_mend_81 : decode cX14_mend 81 = .ok (.getfield 290, 3) := by decide +kernel
theorem dX14_mend_84 : decode cX14_mend 84 = .ok (.iload_n 1, 1) := by decide +kernel
theorem dX14_mend_85 : decode cX14_mend 85 = .ok (.dup2, 1) := by decide +kernel
theorem dX14_mend_86 : decode cX14_mend 86 = .ok (.iaload, 1) := by decide +kernel
theorem dX14_mend_87 : decode cX14_mend 87 = .ok (.iconst 3, 1) := by decide +kernel
theorem dX14_mend_88 : decode cX14_mend 88 = .ok (.isub, 1) := by decide +kernel
theorem dX14_mend_89 : decode cX14_mend 89 = .ok (.iastore, 1) := by decide +kernel
theorem dX14_mend_90 : decode cX14_mend 90 = .ok (.aload_n 0, 1) := by decide +kernel
theorem dX14_mend_91 : decode cX14_mend 91 = .ok (.getfield 47, 3) := by decide +kernel
theorem dX14_mend_94 : decode cX14_mend 94 = .ok (.getfield 290, 3) := by decide +kernel
theorem dX14_mend_97 : decode cX14_mend 97 = .ok (.iload_n 1, 1) := by decide +kernel
theorem dX14_mend_98 : decode cX14_mend 98 = .ok (.iaload, 1) := by decide +kernel
theorem dX14_mend_99 : decode cX14_mend 99 = .ok (.ireturn, 1) := by decide +kernel
theorem dX14_lotOf_0 : decode cX14_lotOf 0 = .ok (.aload_n 0, 1) := by decide +kernel
theorem dX14_lotOf_1 : decode cX14_lotOf 1 = .ok (.getfield 51, 3) := by decide +kernel
theorem dX14_lotOf_4 : decode cX14_lotOf 4 = .ok (.aload_n 0, 1) := by decide +kernel
theorem dX14_lotOf_5 : decode cX14_lotOf 5 = .ok (.getfield 47, 3) := by decide +kernel
theorem dX14_lotOf_8 : decode cX14_lotOf 8 = .ok (.getfield 347, 3) := by decide +kernel
theorem dX14_lotOf_11 : decode cX14_lotOf 11 = .ok (.putfield 347, 3) := by decide +kernel
theorem dX14_lotOf_14 : decode cX14_lotOf 14 = .ok (.aload_n 0, 1) := by decide +kernel
theorem dX14_lotOf_15 : decode cX14_lotOf 15 = .ok (.getfield 51, 3) := by decide +kernel
theorem dX14_lotOf_18 : decode cX14_lotOf 18 = .ok (.invokevirtual 350, 3) := by decide +kernel
theorem dX14_lotOf_21 : decode cX14_lotOf 21 = .ok (.aload_n 0, 1) := by decide +kernel
theorem dX14_lotOf_22 : decode cX14_lotOf 22 = .ok (.getfield 51, 3) := by decide +kernel
theorem dX14_lotOf_25 : decode cX14_lotOf 25 = .ok (.getfield 353, 3) := by decide +kernel
theorem dX14_lotOf_28 : decode cX14_lotOf 28 = .ok (.iload_n 1, 1) := by decide +kernel
theorem dX14_lotOf_29 : decode cX14_lotOf 29 = .ok (.iaload, 1) := by decide +kernel
theorem dX14_lotOf_30 : decode cX14_lotOf 30 = .ok (.ireturn, 1) := by decide +kernel
theorem dX14_lot_0 : decode cX14_lot 0 = .ok (.aload_n 0, 1) := by decide +kernel
theorem dX14_lot_1 : decode cX14_lot 1 = .ok (.iconst 0, 1) := by decide +kernel
theorem dX14_lot_2 : decode cX14_lot 2 = .ok (.putfield 57, 3) := by decide +kernel
theorem dX14_lot_5 : decode cX14_lot 5 = .ok (.aload_n 0, 1) := by decide +kernel
theorem dX14_lot_6 : decode cX14_lot 6 = .ok (.iload_n 1, 1) := by decide +kernel
theorem dX14_lot_7 : decode cX14_lot 7 = .ok (.invokevirtual 329, 3) := by decide +kernel
theorem dX14_lot_10 : decode cX14_lot 10 = .ok (.ifCond .eq 11, 3) := by decide +kernel
theorem dX14_lot_13 : decode cX14_lot 13 = .ok (.aload_n 0, 1) := by decide +kernel
theorem dX14_lot_14 : decode cX14_lot 14 = .ok (.iload_n 1, 1) := by decide +kernel
theorem dX14_lot_15 : decode cX14_lot 15 = .ok (.invokevirtual 356, 3) := by decide +kernel
theorem dX14_lot_18 : decode cX14_lot 18 = .ok (.goto 8, 3) := by decide +kernel
theorem dX14_lot_21 : decode cX14_lot 21 = .ok (.aload_n 0, 1) := by decide +kernel
theorem dX14_lot_22 : decode cX14_lot 22 = .ok (.iconst 1, 1) := by decide +kernel
theorem dX14_lot_23 : decode cX14_lot 23 = .ok (.invokevirtual 276, 3) := by decide +kernel
theorem dX14_lot_26 : decode cX14_lot 26 = .ok (.ireturn, 1) := by decide +kernel
theorem dX14_took_0 : decode cX14_took 0 = .ok (.aload_n 0, 1) := by decide +kernel
theorem dX14_took_1 : decode cX14_took 1 = .ok (.iconst 0, 1) := by decide +kernel
theorem dX14_took_2 : decode cX14_took 2 = .ok (.putfield 57, 3) := by decide +kernel
theorem dX14_took_5 : decode cX14_took 5 = .ok (.aload_n 0, 1) := by decide +kernel
theorem dX14_took_6 : decode cX14_took 6 = .ok (.iload_n 1, 1) := by decide +kernel
theorem dX14_took_7 : decode cX14_took 7 = .ok (.invokevirtual 311, 3) := by decide +kernel
theorem dX14_took_10 : decode cX14_took 10 = .ok (.ifCond .eq 28, 3) := by decide +kernel
theorem dX14_took_13 : decode cX14_took 13 = .ok (.aload_n 0, 1) := by decide +kernel
theorem dX14_took_14 : decode cX14_took 14 = .ok (.iload_n 2, 1) := by decide +kernel
theorem dX14_took_15 : decode cX14_took 15 = .ok (.invokevirtual 329, 3) := by decide +kernel
theorem dX14_took_18 : decode cX14_took 18 = .ok (.ifCond .eq 20, 3) := by decide +kernel
theorem dX14_took_21 : decode cX14_took 21 = .ok (.aload_n 0, 1) := by decide +kernel
theorem dX14_took_22 : decode cX14_took 22 = .ok (.getfield 47, 3) := by decide +kernel
theorem dX14_took_25 : decode cX14_took 25 = .ok (.getfield 299, 3) := by decide +kernel
theorem dX14_took_28 : decode cX14_took 28 = .ok (.bipush 8, 2) := by decide +kernel
theorem dX14_took_30 : decode cX14_took 30 = .ok (.iload_n 1, 1) := by decide +kernel
theorem dX14_took_31 : decode cX14_took 31 = .ok (.imul, 1) := by decide +kernel
theorem dX14_took_32 : decode cX14_took 32 = .ok (.iload_n 2, 1) := by decide +kernel
theorem dX14_took_33 : decode cX14_took 33 = .ok (.iadd, 1) := by decide +kernel
theorem dX14_took_34 : decode cX14_took 34 = .ok (.iaload, 1) := by decide +kernel
theorem dX14_took_35 : decode cX14_took 35 = .ok (.goto 8, 3) := by decide +kernel
theorem dX14_took_38 : decode cX14_took 38 = .ok (.aload_n 0, 1) := by decide +kernel
theorem dX14_took_39 : decode cX14_took 39 = .ok (.iconst 1, 1) := by decide +kernel
theorem dX14_took_40 : decode cX14_took 40 = .ok (.invokevirtual 276, 3) := by decide +kernel
theorem dX14_took_43 : decode cX14_took 43 = .ok (.ireturn, 1) := by decide +kernel
theorem dX14_blame_0 : decode cX14_blame 0 = .ok (.aload_n 0, 1) := by decide +kernel
theorem dX14_blame_1 : decode cX14_blame 1 = .ok (.iconst 0, 1) := by decide +kernel
theorem dX14_blame_2 : decode cX14_blame 2 = .ok (.putfield 57, 3) := by decide +kernel
theorem dX14_blame_5 : decode cX14_blame 5 = .ok (.aload_n 0, 1) := by decide +kernel
theorem dX14_blame_6 : decode cX14_blame 6 = .ok (.iload_n 1, 1) := by decide +kernel
theorem dX14_blame_7 : decode cX14_blame 7 = .ok (.invokevirtual 311, 3) := by decide +kernel
theorem dX14_blame_10 : decode cX14_blame 10 = .ok (.ifCond .ne 9, 3) := by decide +kernel
theorem dX14_blame_13 : decode cX14_blame 13 = .ok (.aload_n 0, 1) := by decide +kernel
theorem dX14_blame_14 : decode cX14_blame 14 = .ok (.iconst 1, 1) := by decide +kernel
theorem dX14_blame_15 : decode cX14_blame 15 = .ok (.invokevirtual 276, 3) := by decide +kernel
theorem dX14_blame_18 : decode cX14_blame 18 = .ok (.ireturn, 1) := by decide +kernel
theorem dX14_blame_19 : decode cX14_blame 19 = .ok (.iconst (-1), 1) := by decide +kernel
theorem dX14_blame_20 : decode cX14_blame 20 = .ok (.istore_n 2, 1) := by decide +kernel
theorem dX14_blame_21 : decode cX14_blame 21 = .ok (.iconst 0, 1) := by decide +kernel
theorem dX14_blame_22 : decode cX14_blame 22 = .ok (.istore_n 3, 1) := by decide +kernel
theorem dX14_blame_23 : decode cX14_blame 23 = .ok (.iload_n 3, 1) := by decide +kernel
theorem dX14_blame_24 : decode cX14_blame 24 = .ok (.aload_n 0, 1) := by decide +kernel
theorem dX14_blame_25 : decode cX14_blame 25 = .ok (.getfield 35, 3) := by decide +kernel
theorem dX14_blame_28 : decode cX14_blame 28 = .ok (.getfield 67, 3) := by decide +kernel
theorem dX14_blame_31 : decode cX14_blame 31 = .ok (.if_icmp .ge 51, 3) := by decide +kernel
theorem dX14_blame_34 : decode cX14_blame 34 = .ok (.aload_n 0, 1) := by decide +kernel
theorem dX14_blame_35 : decode cX14_blame 35 = .ok (.getfield 47, 3) := by decide +kernel
theorem dX14_blame_38 : decode cX14_blame 38 = .ok (.getfield 299, 3) := by decide +kernel
theorem dX14_blame_41 : decode cX14_blame 41 = .ok (.bipush 8, 2) := by decide +kernel
theorem dX14_blame_43 : decode cX14_blame 43 = .ok (.iload_n 1, 1) := by decide +kernel
theorem dX14_blame_44 : decode cX14_blame 44 = .ok (.imul, 1) := by decide +kernel
theorem dX14_blame_45 : decode cX14_blame 45 = .ok (.iload_n 3, 1) := by decide +kernel
theorem dX14_blame_46 : decode cX14_blame 46 = .ok (.iadd, 1) := by decide +kernel
theorem dX14_blame_47 : decode cX14_blame 47 = .ok (.iaload, 1) := by decide +kernel
theorem dX14_blame_48 : decode cX14_blame 48 = .ok (.iload_n 2, 1) := by decide +kernel
theorem dX14_blame_49 : decode cX14_blame 49 = .ok (.iconst (-1), 1) := by decide +kernel
theorem dX14_blame_50 : decode cX14_blame 50 = .ok (.if_icmp .ne 7, 3) := by decide +kernel
theorem dX14_blame_53 : decode cX14_blame 53 = .ok (.iconst 0, 1) := by decide +kernel
theorem dX14_blame_54 : decode cX14_blame 54 = .ok (.goto 17, 3) := by decide +kernel
theorem dX14_blame_57 : decode cX14_blame 57 = .ok (.aload_n 0, 1) := by decide +kernel
theorem dX14_blame_58 : decode cX14_blame 58 = .ok (.getfield 47, 3) := by decide +kernel
theorem dX14_blame_61 : decode cX14_blame 61 = .ok (.getfield 299, 3) := by decide +kernel
theorem dX14_blame_64 : decode cX14_blame 64 = .ok (.bipush 8, 2) := by decide +kernel
theorem dX14_blame_66 : decode cX14_blame 66 = .ok (.iload_n 1, 1) := by decide +kernel
theorem dX14_blame_67 : decode cX14_blame 67 = .ok (.imul, 1) := by decide +kernel
theorem dX14_blame_68 : decode cX14_blame 68 = .ok (.iload_n 2, 1) := by decide +kernel
theorem dX14_blame_69 : decode cX14_blame 69 = .ok (.iadd, 1) := by decide +kernel
theorem dX14_blame_70 : decode cX14_blame 70 = .ok (.iaload, 1) := by decide +kernel
theorem dX14_blame_71 : decode cX14_blame 71 = .ok (.if_icmp .le 5, 3) := by decide +kernel
theorem dX14_blame_74 : decode cX14_blame 74 = .ok (.iload_n 3, 1) := by decide +kernel
theorem dX14_blame_75 : decode cX14_blame 75 = .ok (.istore_n 2, 1) := by decide +kernel
theorem dX14_blame_76 : decode cX14_blame 76 = .ok (.iinc 3 1, 3) := by decide +kernel
theorem dX14_blame_79 : decode cX14_blame 79 = .ok (.goto (-56), 3) := by decide +kernel
theorem dX14_blame_82 : decode cX14_blame 82 = .ok (.iload_n 2, 1) := by decide +kernel
theorem dX14_blame_83 : decode cX14_blame 83 = .ok (.ireturn, 1) := by decide +kernel
theorem dX14_gap_0 : decode cX14_gap 0 = .ok (.aload_n 0, 1) := by decide +kernel
theorem dX14_gap_1 : decode cX14_gap 1 = .ok (.iconst 0, 1) := by decide +kernel
theorem dX14_gap_2 : decode cX14_gap 2 = .ok (.putfield 57, 3) := by decide +kernel
theorem dX14_gap_5 : decode cX14_gap 5 = .ok (.aload_n 0, 1) := by decide +kernel
theorem dX14_gap_6 : decode cX14_gap 6 = .ok (.getfield 47, 3) := by decide +kernel
theorem dX14_gap_9 : decode cX14_gap 9 = .ok (.invokevirtual 359, 3) := by decide +kernel
theorem dX14_gap_12 : decode cX14_gap 12 = .ok (.ireturn, 1) := by decide +kernel
theorem dX14_pass_0 : decode cX14_pass 0 = .ok (.aload_n 0, 1) := by decide +kernel
theorem dX14_pass_1 : decode cX14_pass 1 = .ok (.iconst 0, 1) := by decide +kernel
theorem dX14_pass_2 : decode cX14_pass 2 = .ok (.putfield 57, 3) := by decide +kernel
theorem dX14_pass_5 : decode cX14_pass 5 = .ok (.iload_n 1, 1) := by decide +kernel
theorem dX14_pass_6 : decode cX14_pass 6 = .ok (.iconst 1, 1) := by decide +kernel
theorem dX14_pass_7 : decode cX14_pass 7 = .ok (.bipush 60, 2) := by decide +kernel
theorem dX14_pass_9 : decode cX14_pass 9 = .ok (.invokestatic 63, 3) := by decide +kernel
theorem dX14_pass_12 : decode cX14_pass 12 = .ok (.ifCond .ne 9, 3) := by decide +kernel
theorem dX14_pass_15 : decode cX14_pass 15 = .ok (.aload_n 0, 1) := by decide +kernel
theorem dX14_pass_16 : decode cX14_pass 16 = .ok (.iconst 1, 1) := by decide +kernel
theorem dX14_pass_17 : decode cX14_pass 17 = .ok (.invokevirtual 276, 3) := by decide +kernel
theorem dX14_pass_20 : decode cX14_pass 20 = .ok (.ireturn, 1) := by decide +kernel
theorem dX14_pass_21 : decode cX14_pass 21 = .ok (.aload_n 0, 1) := by decide +kernel
theorem dX14_pass_22 : decode cX14_pass 22 = .ok (.getfield 47, 3) := by decide +kernel
theorem dX14_pass_25 : decode cX14_pass 25 = .ok (.aload_n 0, 1) := by decide +kernel
theorem dX14_pass_26 : decode cX14_pass 26 = .ok (.getfield 47, 3) := by decide +kernel
theorem dX14_pass_29 : decode cX14_pass 29 = .ok (.getfield 290, 3) := by decide +kernel
theorem dX14_pass_32 : decode cX14_pass 32 = .ok (.invokevirtual 287, 3) := by decide +kernel
theorem dX14_pass_35 : decode cX14_pass 35 = .ok (.istore_n 2, 1) := by decide +kernel
theorem dX14_pass_36 : decode cX14_pass 36 = .ok (.iconst 0, 1) := by decide +kernel
theorem dX14_pass_37 : decode cX14_pass 37 = .ok (.istore_n 3, 1) := by decide +kernel
theorem dX14_pass_38 : decode cX14_pass 38 = .ok (.iload_n 3, 1) := by decide +kernel
theorem dX14_pass_39 : decode cX14_pass 39 = .ok (.iload_n 1, 1) := by decide +kernel
theorem dX14_pass_40 : decode cX14_pass 40 = .ok (.if_icmp .ge 16, 3) := by decide +kernel
theorem dX14_pass_43 : decode cX14_pass 43 = .ok (.aload_n 0, 1) := by decide +kernel
theorem dX14_pass_44 : decode cX14_pass 44 = .ok (.getfield 47, 3) := by decide +kernel
theorem dX14_pass_47 : decode cX14_pass 47 = .ok (.invokevirtual 362, 3) := by decide +kernel
theorem dX14_pass_50 : decode cX14_pass 50 = .ok (.iinc 3 1, 3) := by decide +kernel
theorem dX14_pass_53 : decode cX14_pass 53 = .ok (.goto (-15), 3) := by decide +kernel
theorem dX14_pass_56 : decode cX14_pass 56 = .ok (.aload_n 0, 1) := by decide +kernel
theorem dX14_pass_57 : decode cX14_pass 57 = .ok (.getfield 47, 3) := by decide +kernel
theorem dX14_pass_60 : decode cX14_pass 60 = .ok (.aload_n 0, 1) := by decide +kernel
theorem dX14_pass_61 : decode cX14_pass 61 = .ok (.getfield 47, 3) := by decide +kernel
theorem dX14_pass_64 : decode cX14_pass 64 = .ok (.getfield 290, 3) := by decide +kernel
theorem dX14_pass_67 : decode cX14_pass 67 = .ok (.invokevirtual 287, 3) := by decide +kernel
theorem dX14_pass_70 : decode cX14_pass 70 = .ok (.iload_n 2, 1) := by decide +kernel
theorem dX14_pass_71 : decode cX14_pass 71 = .ok (.isub, 1) := by decide +kernel
theorem dX14_pass_72 : decode cX14_pass 72 = .ok (.ireturn, 1) := by decide +kernel
theorem dX14_foresee_0 : decode cX14_foresee 0 = .ok (.aload_n 0, 1) := by decide +kernel
theorem dX14_foresee_1 : decode cX14_foresee 1 = .ok (.iconst 0, 1) := by decide +kernel
theorem dX14_foresee_2 : decode cX14_foresee 2 = .ok (.putfield 57, 3) := by decide +kernel
theorem dX14_foresee_5 : decode cX14_foresee 5 = .ok (.iload_n 1, 1) := by decide +kernel
theorem dX14_foresee_6 : decode cX14_foresee 6 = .ok (.iconst 1, 1) := by decide +kernel
theorem dX14_foresee_7 : decode cX14_foresee 7 = .ok (.bipush 60, 2) := by decide +kernel
theorem dX14_foresee_9 : decode cX14_foresee 9 = .ok (.invokestatic 63, 3) := by decide +kernel
theorem dX14_foresee_12 : decode cX14_foresee 12 = .ok (.ifCond .ne 9, 3) := by decide +kernel
theorem dX14_foresee_15 : decode cX14_foresee 15 = .ok (.aload_n 0, 1) := by decide +kernel
theorem dX14_foresee_16 : decode cX14_foresee 16 = .ok (.iconst 1, 1) := by decide +kernel
theorem dX14_foresee_17 : decode cX14_foresee 17 = .ok (.invokevirtual 276, 3) := by decide +kernel
theorem dX14_foresee_20 : decode cX14_foresee 20 = .ok (.ireturn, 1) := by decide +kernel
theorem dX14_foresee_21 : decode cX14_foresee 21 = .ok (.iload_n 2, 1) := by decide +kernel
theorem dX14_foresee_22 : decode cX14_foresee 22 = .ok (.iconst 0, 1) := by decide +kernel
theorem dX14_foresee_23 : decode cX14_foresee 23 = .ok (.iconst 2, 1) := by decide +kernel
theorem dX14_foresee_24 : decode cX14_foresee 24 = .ok (.invokestatic 63, 3) := by decide +kernel
theorem dX14_foresee_27 : decode cX14_foresee 27 = .ok (.ifCond .ne 9, 3) := by decide +kernel
theorem dX14_foresee_30 : decode cX14_foresee 30 = .ok (.aload_n 0, 1) := by decide +kernel
theorem dX14_foresee_31 : decode cX14_foresee 31 = .ok (.iconst 2, 1) := by decide +kernel
theorem dX14_foresee_32 : decode cX14_foresee 32 = .ok (.invokevirtual 276, 3) := by decide +kernel
theorem dX14_foresee_35 : decode cX14_foresee 35 = .ok (.ireturn, 1) := by decide +kernel
theorem dX14_foresee_36 : decode cX14_foresee 36 = .ok (.aload_n 0, 1) := by decide +kernel
theorem dX14_foresee_37 : decode cX14_foresee 37 = .ok (.getfield 51, 3) := by decide +kernel
theorem dX14_foresee_40 : decode cX14_foresee 40 = .ok (.aload_n 0, 1) := by decide +kernel
theorem dX14_foresee_41 : decode cX14_foresee 41 = .ok (.getfield 47, 3) := by decide +kernel
theorem dX14_foresee_44 : decode cX14_foresee 44 = .ok (.invokevirtual 365, 3) := by decide +kernel
theorem dX14_foresee_47 : decode cX14_foresee 47 = .ok (.iconst 0, 1) := by decide +kernel
theorem dX14_foresee_48 : decode cX14_foresee 48 = .ok (.istore_n 3, 1) := by decide +kernel
theorem dX14_foresee_49 : decode cX14_foresee 49 = .ok (.iload_n 3, 1) := by decide +kernel
theorem dX14_foresee_50 : decode cX14_foresee 50 = .ok (.iload_n 1, 1) := by decide +kernel
theorem dX14_foresee_51 : decode cX14_foresee 51 = .ok (.if_icmp .ge 16, 3) := by decide +kernel
theorem dX14_foresee_54 : decode cX14_foresee 54 = .ok (.aload_n 0, 1) := by decide +kernel
theorem dX14_foresee_55 : decode cX14_foresee 55 = .ok (.getfield 51, 3) := by decide +kernel
theorem dX14_foresee_58 : decode cX14_foresee 58 = .ok (.invokevirtual 362, 3) := by decide +kernel
theorem dX14_foresee_61 : decode cX14_foresee 61 = .ok (.iinc 3 1, 3) := by decide +kernel
theorem dX14_foresee_64 : decode cX14_foresee 64 = .ok (.goto (-15), 3) := by decide +kernel
theorem dX14_foresee_67 : decode cX14_foresee 67 = .ok (.iload_n 2, 1) := by decide +kernel
theorem dX14_foresee_68 : decode cX14_foresee 68 = .ok (.ifCond .ne 20, 3) := by decide +kernel
theorem dX14_foresee_71 : decode cX14_foresee 71 = .ok (.aload_n 0, 1) := by decide +kernel
theorem dX14_foresee_72 : decode cX14_foresee 72 = .ok (.getfield 51, 3) := by decide +kernel
theorem dX14_foresee_75 : decode cX14_foresee 75 = .ok (.aload_n 0, 1) := by decide +kernel
theorem dX14_foresee_76 : decode cX14_foresee 76 = .ok (.getfield 51, 3) := by decide +kernel
theorem dX14_foresee_79 : decode cX14_foresee 79 = .ok (.getfield 290, 3) := by decide +kernel
theorem dX14_foresee_82 : decode cX14_foresee 82 = .ok (.invokevirtual 287, 3) := by decide +kernel
theorem dX14_foresee_85 : decode cX14_foresee 85 = .ok (.goto 32, 3) := by decide +kernel
theorem dX14_foresee_88 : decode cX14_foresee 88 = .ok (.iload_n 2, 1) := by decide +kernel
theorem dX14_foresee_89 : decode cX14_foresee 89 = .ok (.iconst 1, 1) := by decide +kernel
theorem dX14_foresee_90 : decode cX14_foresee 90 = .ok (.if_icmp .ne 20, 3) := by decide +kernel
theorem dX14_foresee_93 : decode cX14_foresee 93 = .ok (.aload_n 0, 1) := by decide +kernel
theorem dX14_foresee_94 : decode cX14_foresee 94 = .ok (.getfield 51, 3) := by decide +kernel
theorem dX14_foresee_97 : decode cX14_foresee 97 = .ok (.aload_n 0, 1) := by decide +kernel
theorem dX14_foresee_98 : decode cX14_foresee 98 = .ok (.getfield 51, 3) := by decide +kernel
theorem dX14_foresee_101 : decode cX14_foresee 101 = .ok (.getfield 286, 3) := by decide +kernel
theorem dX14_foresee_104 : decode cX14_foresee 104 = .ok (.invokevirtual 287, 3) := by decide +kernel
theorem dX14_foresee_107 : decode cX14_foresee 107 = .ok (.goto 10, 3) := by decide +kernel
theorem dX14_foresee_110 : decode cX14_foresee 110 = .ok (.aload_n 0, 1) := by decide +kernel
theorem dX14_foresee_111 : decode cX14_foresee 111 = .ok (.getfield 51, 3) := by decide +kernel
theorem dX14_foresee_114 : decode cX14_foresee 114 = .ok (.invokevirtual 359, 3) := by decide +kernel
theorem dX14_foresee_117 : decode cX14_foresee 117 = .ok (.ireturn, 1) := by decide +kernel
theorem dX14_storeAs_0 : decode cX14_storeAs 0 = .ok (.aload_n 0, 1) := by decide +kernel
theorem dX14_storeAs_1 : decode cX14_storeAs 1 = .ok (.getfield 51, 3) := by decide +kernel
theorem dX14_storeAs_4 : decode cX14_storeAs 4 = .ok (.aload_n 0, 1) := by decide +kernel
theorem dX14_storeAs_5 : decode cX14_storeAs 5 = .ok (.getfield 47, 3) := by decide +kernel
theorem dX14_storeAs_8 : decode cX14_storeAs 8 = .ok (.invokevirtual 365, 3) := by decide +kernel
theorem dX14_storeAs_11 : decode cX14_storeAs 11 = .ok (.aload_n 0, 1) := by decide +kernel
theorem dX14_storeAs_12 : decode cX14_storeAs 12 = .ok (.getfield 51, 3) := by decide +kernel
theorem dX14_storeAs_15 : decode cX14_storeAs 15 = .ok (.getfield 293, 3) := by decide +kernel
theorem dX14_storeAs_18 : decode cX14_storeAs 18 = .ok (.iload_n 1, 1) := by decide +kernel
theorem dX14_storeAs_19 : decode cX14_storeAs 19 = .ok (.iload_n 3, 1) := by decide +kernel
theorem dX14_storeAs_20 : decode cX14_storeAs 20 = .ok (.iastore, 1) := by decide +kernel
theorem dX14_storeAs_21 : decode cX14_storeAs 21 = .ok (.aload_n 0, 1) := by decide +kernel
theorem dX14_storeAs_22 : decode cX14_storeAs 22 = .ok (.getfield 51, 3) := by decide +kernel
theorem dX14_storeAs_25 : decode cX14_storeAs 25 = .ok (.getfield 282, 3) := by decide +kernel
theorem dX14_storeAs_28 : decode cX14_storeAs 28 = .ok (.iload_n 1, 1) := by decide +kernel
theorem dX14_storeAs_29 : decode cX14_storeAs 29 = .ok (.iload 4, 2) := by decide +kernel
theorem dX14_storeAs_31 : decode cX14_storeAs 31 = .ok (.iastore, 1) := by decide +kernel
theorem dX14_storeAs_32 : decode cX14_storeAs 32 = .ok (.iconst 0, 1) := by decide +kernel
theorem dX14_storeAs_33 : decode cX14_storeAs 33 = .ok (.istore 5, 2) := by decide +kernel
theorem dX14_storeAs_35 : decode cX14_storeAs 35 = .ok (.iload 5, 2) := by decide +kernel
theorem dX14_storeAs_37 : decode cX14_storeAs 37 = .ok (.iload_n 2, 1) := by decide +kernel
theorem dX14_storeAs_38 : decode cX14_storeAs 38 = .ok (.if_icmp .ge 16, 3) := by decide +kernel
theorem dX14_storeAs_41 : decode cX14_storeAs 41 = .ok (.aload_n 0, 1) := by decide +kernel
theorem dX14_storeAs_42 : decode cX14_storeAs 42 = .ok (.getfield 51, 3) := by decide +kernel
theorem dX14_storeAs_45 : decode cX14_storeAs 45 = .ok (.invokevirtual 362, 3) := by decide +kernel
theorem dX14_storeAs_48 : decode cX14_storeAs 48 = .ok (.iinc 5 1, 3) := by decide +kernel
theorem dX14_storeAs_51 : decode cX14_storeAs 51 = .ok (.goto (-16), 3) := by decide +kernel
theorem dX14_storeAs_54 : decode cX14_storeAs 54 = .ok (.aload_n 0, 1) := by decide +kernel
theorem dX14_storeAs_55 : decode cX14_storeAs 55 = .ok (.getfield 51, 3) := by decide +kernel
theorem dX14_storeAs_58 : decode cX14_storeAs 58 = .ok (.getfield 290, 3) := by decide +kernel
theorem dX14_storeAs_61 : decode cX14_storeAs 61 = .ok (.iload_n 1, 1) := by decide +kernel
theorem dX14_storeAs_62 : decode cX14_storeAs 62 = .ok (.iaload, 1) := by decide +kernel
theorem dX14_storeAs_63 : decode cX14_storeAs 63 = .ok (.ireturn, 1) := by decide +kernel
theorem dX14_pays_0 : decode cX14_pays 0 = .ok (.aload_n 0, 1) := by decide +kernel
theorem dX14_pays_1 : decode cX14_pays 1 = .ok (.iconst 0, 1) := by decide +kernel
theorem dX14_pays_2 : decode cX14_pays 2 = .ok (.putfield 57, 3) := by decide +kernel
theorem dX14_pays_5 : decode cX14_pays 5 = .ok (.aload_n 0, 1) := by decide +kernel
theorem dX14_pays_6 : decode cX14_pays 6 = .ok (.iload_n 1, 1) := by decide +kernel
theorem dX14_pays_7 : decode cX14_pays 7 = .ok (.invokevirtual 329, 3) := by decide +kernel
theorem dX14_pays_10 : decode cX14_pays 10 = .ok (.ifCond .ne 9, 3) := by decide +kernel
theorem dX14_pays_13 : decode cX14_pays 13 = .ok (.aload_n 0, 1) := by decide +kernel
theorem dX14_pays_14 : decode cX14_pays 14 = .ok (.iconst 1, 1) := by decide +kernel
theorem dX14_pays_15 : decode cX14_pays 15 = .ok (.invokevirtual 276, 3) := by decide +kernel
theorem dX14_pays_18 : decode cX14_pays 18 = .ok (.ireturn, 1) := by decide +kernel
theorem dX14_pays_19 : decode cX14_pays 19 = .ok (.iload_n 2, 1) := by decide +kernel
theorem dX14_pays_20 : decode cX14_pays 20 = .ok (.iconst 1, 1) := by decide +kernel
theorem dX14_pays_21 : decode cX14_pays 21 = .ok (.bipush 60, 2) := by decide +kernel
theorem dX14_pays_23 : decode cX14_pays 23 = .ok (.invokestatic 63, 3) := by decide +kernel
theorem dX14_pays_26 : decode cX14_pays 26 = .ok (.ifCond .ne 9, 3) := by decide +kernel
theorem dX14_pays_29 : decode cX14_pays 29 = .ok (.aload_n 0, 1) := by decide +kernel
theorem dX14_pays_30 : decode cX14_pays 30 = .ok (.iconst 2, 1) := by decide +kernel
theorem dX14_pays_31 : decode cX14_pays 31 = .ok (.invokevirtual 276, 3) := by decide +kernel
theorem dX14_pays_34 : decode cX14_pays 34 = .ok (.ireturn, 1) := by decide +kernel
theorem dX14_pays_35 : decode cX14_pays 35 = .ok (.aload_n 0, 1) := by decide +kernel
theorem dX14_pays_36 : decode cX14_pays 36 = .ok (.iload_n 1, 1) := by decide +kernel
theorem dX14_pays_37 : decode cX14_pays 37 = .ok (.iload_n 2, 1) := by decide +kernel
theorem dX14_pays_38 : decode cX14_pays 38 = .ok (.iconst 1, 1) := by decide +kernel
theorem dX14_pays_39 : decode cX14_pays 39 = .ok (.aload_n 0, 1) := by decide +kernel
theorem dX14_pays_40 : decode cX14_pays 40 = .ok (.getfield 47, 3) := by decide +kernel
theorem dX14_pays_43 : decode cX14_pays 43 = .ok (.getfield 282, 3) := by decide +kernel
theorem dX14_pays_46 : decode cX14_pays 46 = .ok (.iload_n 1, 1) := by decide +kernel
theorem dX14_pays_47 : decode cX14_pays 47 = .ok (.iaload, 1) := by decide +kernel
theorem dX14_pays_48 : decode cX14_pays 48 = .ok (.invokevirtual 369, 3) := by decide +kernel
theorem dX14_pays_51 : decode cX14_pays 51 = .ok (.aload_n 0, 1) := by decide +kernel
theorem dX14_pays_52 : decode cX14_pays 52 = .ok (.iload_n 1, 1) := by decide +kernel
theorem dX14_pays_53 : decode cX14_pays 53 = .ok (.iload_n 2, 1) := by decide +kernel
theorem dX14_pays_54 : decode cX14_pays 54 = .ok (.iconst 0, 1) := by decide +kernel
theorem dX14_pays_55 : decode cX14_pays 55 = .ok (.aload_n 0, 1) := by decide +kernel
theorem dX14_pays_56 : decode cX14_pays 56 = .ok (.getfield 47, 3) := by decide +kernel
theorem dX14_pays_59 : decode cX14_pays 59 = .ok (.getfield 282, 3) := by decide +kernel
theorem dX14_pays_62 : decode cX14_pays 62 = .ok (.iload_n 1, 1) := by decide +kernel
theorem dX14_pays_63 : decode cX14_pays 63 = .ok (.iaload, 1) := by decide +kernel
theorem dX14_pays_64 : decode cX14_pays 64 = .ok (.invokevirtual 369, 3) := by decide +kernel
theorem dX14_pays_67 : decode cX14_pays 67 = .ok (.isub, 1) := by decide +kernel
theorem dX14_pays_68 : decode cX14_pays 68 = .ok (.ireturn, 1) := by decide +kernel
theorem dX14_empty_0 : decode cX14_empty 0 = .ok (.aload_n 0, 1) := by decide +kernel
theorem dX14_empty_1 : decode cX14_empty 1 = .ok (.iconst 0, 1) := by decide +kernel
theorem dX14_empty_2 : decode cX14_empty 2 = .ok (.putfield 57, 3) := by decide +kernel
theorem dX14_empty_5 : decode cX14_empty 5 = .ok (.aload_n 0, 1) := by decide +kernel
theorem dX14_empty_6 : decode cX14_empty 6 = .ok (.iload_n 1, 1) := by decide +kernel
theorem dX14_empty_7 : decode cX14_empty 7 = .ok (.invokevirtual 311, 3) := by decide +kernel
theorem dX14_empty_10 : decode cX14_empty 10 = .ok (.ifCond .ne 9, 3) := by decide +kernel
theorem dX14_empty_13 : decode cX14_empty 13 = .ok (.aload_n 0, 1) := by decide +kernel
theorem dX14_empty_14 : decode cX14_empty 14 = .ok (.iconst 1, 1) := by decide +kernel
theorem dX14_empty_15 : decode cX14_empty 15 = .ok (.invokevirtual 276, 3) := by decide +kernel
theorem dX14_empty_18 : decode cX14_empty 18 = .ok (.ireturn, 1) := by decide +kernel
theorem dX14_empty_19 : decode cX14_empty 19 = .ok (.aload_n 0, 1) := by decide +kernel
theorem dX14_empty_20 : decode cX14_empty 20 = .ok (.getfield 51, 3) := by decide +kernel
theorem dX14_empty_23 : decode cX14_empty 23 = .ok (.aload_n 0, 1) := by decide +kernel
theorem dX14_empty_24 : decode cX14_empty 24 = .ok (.getfield 47, 3) := by decide +kernel
theorem dX14_empty_27 : decode cX14_empty 27 = .ok (.invokevirtual 365, 3) := by decide +kernel
theorem dX14_empty_30 : decode cX14_empty 30 = .ok (.iconst 0, 1) := by decide +kernel
theorem dX14_empty_31 : decode cX14_empty 31 = .ok (.istore_n 2, 1) := by decide +kernel
theorem dX14_empty_32 : decode cX14_empty 32 = .ok (.iload_n 2, 1) := by decide +kernel
theorem dX14_empty_33 : decode cX14_empty 33 = .ok (.bipush 100, 2) := by decide +kernel
theorem dX14_empty_35 : decode cX14_empty 35 = .ok (.if_icmp .gt 29, 3) := by decide +kernel
theorem dX14_empty_38 : decode cX14_empty 38 = .ok (.aload_n 0, 1) := by decide +kernel
theorem dX14_empty_39 : decode cX14_empty 39 = .ok (.getfield 51, 3) := by decide +kernel
theorem dX14_empty_42 : decode cX14_empty 42 = .ok (.iload_n 1, 1) := by decide +kernel
theorem dX14_empty_43 : decode cX14_empty 43 = .ok (.invokevirtual 302, 3) := by decide +kernel
theorem dX14_empty_46 : decode cX14_empty 46 = .ok (.ifCond .ne 5, 3) := by decide +kernel
theorem dX14_empty_49 : decode cX14_empty 49 = .ok (.iload_n 2, 1) := by decide +kernel
theorem dX14_empty_50 : decode cX14_empty 50 = .ok (.ireturn, 1) := by decide +kernel
theorem dX14_empty_51 : decode cX14_empty 51 = .ok (.aload_n 0, 1) := by decide +kernel
theorem dX14_empty_52 : decode cX14_empty 52 = .ok (.getfield 51, 3) := by decide +kernel
theorem dX14_empty_55 : decode cX14_empty 55 = .ok (.invokevirtual 362, 3) := by decide +kernel
theorem dX14_empty_58 : decode cX14_empty 58 = .ok (.iinc 2 1, 3) := by decide +kernel
theorem dX14_empty_61 : decode cX14_empty 61 = .ok (.goto (-29), 3) := by decide +kernel
theorem dX14_empty_64 : decode cX14_empty 64 = .ok (.iconst (-1), 1) := by decide +kernel
theorem dX14_empty_65 : decode cX14_empty 65 = .ok (.ireturn, 1) := by decide +kernel
theorem dX14_advise_0 : decode cX14_advise 0 = .ok (.aload_n 0, 1) := by decide +kernel
theorem dX14_advise_1 : decode cX14_advise 1 = .ok (.iconst 0, 1) := by decide +kernel
theorem dX14_advise_2 : decode cX14_advise 2 = .ok (.putfield 57, 3) := by decide +kernel
theorem dX14_advise_5 : decode cX14_advise 5 = .ok (.aload_n 0, 1) := by decide +kernel
theorem dX14_advise_6 : decode cX14_advise 6 = .ok (.iload_n 1, 1) := by decide +kernel
theorem dX14_advise_7 : decode cX14_advise 7 = .ok (.invokevirtual 329, 3) := by decide +kernel
theorem dX14_advise_10 : decode cX14_advise 10 = .ok (.ifCond .ne 9, 3) := by decide +kernel
theorem dX14_advise_13 : decode cX14_advise 13 = .ok (.aload_n 0, 1) := by decide +kernel
theorem dX14_advise_14 : decode cX14_advise 14 = .ok (.iconst 1, 1) := by decide +kernel
theorem dX14_advise_15 : decode cX14_advise 15 = .ok (.invokevirtual 276, 3) := by decide +kernel
theorem dX14_advise_18 : decode cX14_advise 18 = .ok (.ireturn, 1) := by decide +kernel
theorem dX14_advise_19 : decode cX14_advise 19 = .ok (.iload_n 2, 1) := by decide +kernel
theorem dX14_advise_20 : decode cX14_advise 20 = .ok (.iconst 1, 1) := by decide +kernel
theorem dX14_advise_21 : decode cX14_advise 21 = .ok (.bipush 40, 2) := by decide +kernel
theorem dX14_advise_23 : decode cX14_advise 23 = .ok (.invokestatic 63, 3) := by decide +kernel
theorem dX14_advise_26 : decode cX14_advise 26 = .ok (.ifCond .ne 9, 3) := by decide +kernel
theorem dX14_advise_29 : decode cX14_advise 29 = .ok (.aload_n 0, 1) := by decide +kernel
theorem dX14_advise_30 : decode cX14_advise 30 = .ok (.iconst 2, 1) := by decide +kernel
theorem dX14_advise_31 : decode cX14_advise 31 = .ok (.invokevirtual 276, 3) := by decide +kernel
theorem dX14_advise_34 : decode cX14_advise 34 = .ok (.ireturn, 1) := by decide +kernel
theorem dX14_advise_35 : decode cX14_advise 35 = .ok (.iconst 0, 1) := by decide +kernel
theorem dX14_advise_36 : decode cX14_advise 36 = .ok (.istore_n 3, 1) := by decide +kernel
theorem dX14_advise_37 : decode cX14_advise 37 = .ok (.iconst 0, 1) := by decide +kernel
theorem dX14_advise_38 : decode cX14_advise 38 = .ok (.istore 4, 2) := by decide +kernel
theorem dX14_advise_40 : decode cX14_advise 40 = .ok (.iconst 1, 1) := by decide +kernel
theorem dX14_advise_41 : decode cX14_advise 41 = .ok (.istore 5, 2) := by decide +kernel
theorem dX14_advise_43 : decode cX14_advise 43 = .ok (.iload 5, 2) := by decide +kernel
theorem dX14_advise_45 : decode cX14_advise 45 = .ok (.iconst 5, 1) := by decide +kernel
theorem dX14_advise_46 : decode cX14_advise 46 = .ok (.if_icmp .gt 49, 3) := by decide +kernel
theorem dX14_advise_49 : decode cX14_advise 49 = .ok (.aload_n 0, 1) := by decide +kernel
theorem dX14_advise_50 : decode cX14_advise 50 = .ok (.iload_n 1, 1) := by decide +kernel
theorem dX14_advise_51 : decode cX14_advise 51 = .ok (.iload_n 2, 1) := by decide +kernel
theorem dX14_advise_52 : decode cX14_advise 52 = .ok (.aload_n 0, 1) := by decide +kernel
theorem dX14_advise_53 : decode cX14_advise 53 = .ok (.getfield 47, 3) := by decide +kernel
theorem dX14_advise_56 : decode cX14_advise 56 = .ok (.getfield 293, 3) := by decide +kernel
theorem dX14_advise_59 : decode cX14_advise 59 = .ok (.iload_n 1, 1) := by decide +kernel
theorem dX14_advise_60 : decode cX14_advise 60 = .ok (.iaload, 1) := by decide +kernel
theorem dX14_advise_61 : decode cX14_advise 61 = .ok (.iload 5, 2) := by decide +kernel
theorem dX14_advise_63 : decode cX14_advise 63 = .ok (.invokevirtual 369, 3) := by decide +kernel
theorem dX14_advise_66 : decode cX14_advise 66 = .ok (.istore 6, 2) := by decide +kernel
theorem dX14_advise_68 : decode cX14_advise 68 = .ok (.iload_n 3, 1) := by decide +kernel
theorem dX14_advise_69 : decode cX14_advise 69 = .ok (.ifCond .le 13, 3) := by decide +kernel
theorem dX14_advise_72 : decode cX14_advise 72 = .ok (.iload 6, 2) := by decide +kernel
theorem dX14_advise_74 : decode cX14_advise 74 = .ok (.iload 4, 2) := by decide +kernel
theorem dX14_advise_76 : decode cX14_advise 76 = .ok (.if_icmp .gt 6, 3) := by decide +kernel
theorem dX14_advise_79 : decode cX14_advise 79 = .ok (.goto 10, 3) := by decide +kernel
theorem dX14_advise_82 : decode cX14_advise 82 = .ok (.iload 5, 2) := by decide +kernel
theorem dX14_advise_84 : decode cX14_advise 84 = .ok (.istore_n 3, 1) := by decide +kernel
theorem dX14_advise_85 : decode cX14_advise 85 = .ok (.iload 6, 2) := by decide +kernel
theorem dX14_advise_87 : decode cX14_advise 87 = .ok (.istore 4, 2) := by decide +kernel
theorem dX14_advise_89 : decode cX14_advise 89 = .ok (.iinc 5 1, 3) := by decide +kernel
theorem dX14_advise_92 : decode cX14_advise 92 = .ok (.goto (-49), 3) := by decide +kernel
theorem dX14_advise_95 : decode cX14_advise 95 = .ok (.iload_n 3, 1) := by decide +kernel
theorem dX14_advise_96 : decode cX14_advise 96 = .ok (.ireturn, 1) := by decide +kernel
theorem dX14_mean_0 : decode cX14_mean 0 = .ok (.aload_n 0, 1) := by decide +kernel
theorem dX14_mean_1 : decode cX14_mean 1 = .ok (.iconst 0, 1) := by decide +kernel
theorem dX14_mean_2 : decode cX14_mean 2 = .ok (.putfield 57, 3) := by decide +kernel
theorem dX14_mean_5 : decode cX14_mean 5 = .ok (.aload_n 0, 1) := by decide +kernel
theorem dX14_mean_6 : decode cX14_mean 6 = .ok (.getfield 35, 3) := by decide +kernel
theorem dX14_mean_9 : decode cX14_mean 9 = .ok (.getfield 67, 3) := by decide +kernel
theorem dX14_mean_12 : decode cX14_mean 12 = .ok (.ifCond .ne 7, 3) := by decide +kernel
theorem dX14_mean_15 : decode cX14_mean 15 = .ok (.dconst 0, 1) := by decide +kernel
theorem dX14_mean_16 : decode cX14_mean 16 = .ok (.goto 27, 3) := by decide +kernel
theorem dX14_mean_19 : decode cX14_mean 19 = .ok (.aload_n 0, 1) := by decide +kernel
theorem dX14_mean_20 : decode cX14_mean 20 = .ok (.getfield 47, 3) := by decide +kernel
theorem dX14_mean_23 : decode cX14_mean 23 = .ok (.aload_n 0, 1) := by decide +kernel
theorem dX14_mean_24 : decode cX14_mean 24 = .ok (.getfield 47, 3) := by decide +kernel
theorem dX14_mean_27 : decode cX14_mean 27 = .ok (.getfield 290, 3) := by decide +kernel
theorem dX14_mean_30 : decode cX14_mean 30 = .ok (.invokevirtual 287, 3) := by decide +kernel
theorem dX14_mean_33 : decode cX14_mean 33 = .ok (.i2d, 1) := by decide +kernel
theorem dX14_mean_34 : decode cX14_mean 34 = .ok (.aload_n 0, 1) := by decide +kernel
theorem dX14_mean_35 : decode cX14_mean 35 = .ok (.getfield 35, 3) := by decide +kernel
theorem dX14_mean_38 : decode cX14_mean 38 = .ok (.getfield 67, 3) := by decide +kernel
theorem dX14_mean_41 : decode cX14_mean 41 = .ok (.i2d, 1) := by decide +kernel
theorem dX14_mean_42 : decode cX14_mean 42 = .ok (.ddiv, 1) := by decide +kernel
theorem dX14_mean_43 : decode cX14_mean 43 = .ok (.dreturn, 1) := by decide +kernel
theorem dX14_digest_0 : decode cX14_digest 0 = .ok (.aload_n 0, 1) := by decide +kernel
theorem dX14_digest_1 : decode cX14_digest 1 = .ok (.iconst 0, 1) := by decide +kernel
theorem dX14_digest_2 : decode cX14_digest 2 = .ok (.putfield 57, 3) := by decide +kernel
theorem dX14_digest_5 : decode cX14_digest 5 = .ok (.ldc2_w 373, 3) := by decide +kernel
theorem dX14_digest_8 : decode cX14_digest 8 = .ok (.lstore_n 1, 1) := by decide +kernel
theorem dX14_digest_9 : decode cX14_digest 9 = .ok (.iconst 0, 1) := by decide +kernel
theorem dX14_digest_10 : decode cX14_digest 10 = .ok (.istore_n 3, 1) := by decide +kernel
theorem dX14_digest_11 : decode cX14_digest 11 = .ok (.iload_n 3, 1) := by decide +kernel
theorem dX14_digest_12 : decode cX14_digest 12 = .ok (.bipush 9, 2) := by decide +kernel
theorem dX14_digest_14 : decode cX14_digest 14 = .ok (.if_icmp .gt 22, 3) := by decide +kernel
theorem dX14_digest_17 : decode cX14_digest 17 = .ok (.lload_n 1, 1) := by decide +kernel
theorem dX14_digest_18 : decode cX14_digest 18 = .ok (.ldc2_w 375, 3) := by decide +kernel
theorem dX14_digest_21 : decode cX14_digest 21 = .ok (.lmul, 1) := by decide +kernel
theorem dX14_digest_22 : decode cX14_digest 22 = .ok (.aload_n 0, 1) := by decide +kernel
theorem dX14_digest_23 : decode cX14_digest 23 = .ok (.iload_n 3, 1) := by decide +kernel
theorem dX14_digest_24 : decode cX14_digest 24 = .ok (.invokevirtual 296, 3) := by decide +kernel
theorem dX14_digest_27 : decode cX14_digest 27 = .ok (.i2l, 1) := by decide +kernel
theorem dX14_digest_28 : decode cX14_digest 28 = .ok (.ladd, 1) := by decide +kernel
theorem dX14_digest_29 : decode cX14_digest 29 = .ok (.lstore_n 1, 1) := by decide +kernel
theorem dX14_digest_30 : decode cX14_digest 30 = .ok (.iinc 3 1, 3) := by decide +kernel
theorem dX14_digest_33 : decode cX14_digest 33 = .ok (.goto (-22), 3) := by decide +kernel
theorem dX14_digest_36 : decode cX14_digest 36 = .ok (.iconst 0, 1) := by decide +kernel
theorem dX14_digest_37 : decode cX14_digest 37 = .ok (.istore_n 3, 1) := by decide +kernel
theorem dX14_digest_38 : decode cX14_digest 38 = .ok (.iload_n 3, 1) := by decide +kernel
theorem dX14_digest_39 : decode cX14_digest 39 = .ok (.aload_n 0, 1) := by decide +kernel
theorem dX14_digest_40 : decode cX14_digest 40 = .ok (.getfield 35, 3) := by decide +kernel
theorem dX14_digest_43 : decode cX14_digest 43 = .ok (.getfield 60, 3) := by decide +kernel
theorem dX14_digest_46 : decode cX14_digest 46 = .ok (.if_icmp .ge 84, 3) := by decide +kernel
theorem dX14_digest_49 : decode cX14_digest 49 = .ok (.iconst 0, 1) := by decide +kernel
theorem dX14_digest_50 : decode cX14_digest 50 = .ok (.istore 4, 2) := by decide +kernel
theorem dX14_digest_52 : decode cX14_digest 52 = .ok (.iload 4, 2) := by decide +kernel
theorem dX14_digest_54 : decode cX14_digest 54 = .ok (.bipush 8, 2) := by decide +kernel
theorem dX14_digest_56 : decode cX14_digest 56 = .ok (.if_icmp .gt 24, 3) := by decide +kernel
theorem dX14_digest_59 : decode cX14_digest 59 = .ok (.lload_n 1, 1) := by decide +kernel
theorem dX14_digest_60 : decode cX14_digest 60 = .ok (.ldc2_w 375, 3) := by decide +kernel
theorem dX14_digest_63 : decode cX14_digest 63 = .ok (.lmul, 1) := by decide +kernel
theorem dX14_digest_64 : decode cX14_digest 64 = .ok (.aload_n 0, 1) := by decide +kernel
theorem dX14_digest_65 : decode cX14_digest 65 = .ok (.iload_n 3, 1) := by decide +kernel
theorem dX14_digest_66 : decode cX14_digest 66 = .ok (.iload 4, 2) := by decide +kernel
theorem dX14_digest_68 : decode cX14_digest 68 = .ok (.invokevirtual 314, 3) := by decide +kernel
theorem dX14_digest_71 : decode cX14_digest 71 = .ok (.i2l, 1) := by decide +kernel
theorem dX14_digest_72 : decode cX14_digest 72 = .ok (.ladd, 1) := by decide +kernel
theorem dX14_digest_73 : decode cX14_digest 73 = .ok (.lstore_n 1, 1) := by decide +kernel
theorem dX14_digest_74 : decode cX14_digest 74 = .ok (.iinc 4 1, 3) := by decide +kernel
theorem dX14_digest_77 : decode cX14_digest 77 = .ok (.goto (-25), 3) := by decide +kernel
theorem dX14_digest_80 : decode cX14_digest 80 = .ok (.iconst 0, 1) := by decide +kernel
theorem dX14_digest_81 : decode cX14_digest 81 = .ok (.istore 4, 2) := by decide +kernel
theorem dX14_digest_83 : decode cX14_digest 83 = .ok (.iload 4, 2) := by decide +kernel
theorem dX14_digest_85 : decode cX14_digest 85 = .ok (.aload_n 0, 1) := by decide +kernel
theorem dX14_digest_86 : decode cX14_digest 86 = .ok (.getfield 35, 3) := by decide +kernel
theorem dX14_digest_89 : decode cX14_digest 89 = .ok (.getfield 67, 3) := by decide +kernel
theorem dX14_digest_92 : decode cX14_digest 92 = .ok (.if_icmp .ge 32, 3) := by decide +kernel
theorem dX14_digest_95 : decode cX14_digest 95 = .ok (.lload_n 1, 1) := by decide +kernel
theorem dX14_digest_96 : decode cX14_digest 96 = .ok (.ldc2_w 375, 3) := by decide +kernel
theorem dX14_digest_99 : decode cX14_digest 99 = .ok (.lmul, 1) := by decide +kernel
theorem dX14_digest_100 : decode cX14_digest 100 = .ok (.aload_n 0, 1) := by decide +kernel
theorem dX14_digest_101 : decode cX14_digest 101 = .ok (.getfield 47, 3) := by decide +kernel
theorem dX14_digest_104 : decode cX14_digest 104 = .ok (.getfield 299, 3) := by decide +kernel
theorem dX14_digest_107 : decode cX14_digest 107 = .ok (.bipush 8, 2) := by decide +kernel
theorem dX14_digest_109 : decode cX14_digest 109 = .ok (.iload_n 3, 1) := by decide +kernel
theorem dX14_digest_110 : decode cX14_digest 110 = .ok (.imul, 1) := by decide +kernel
theorem dX14_digest_111 : decode cX14_digest 111 = .ok (.iload 4, 2) := by decide +kernel
theorem dX14_digest_113 : decode cX14_digest 113 = .ok (.iadd, 1) := by decide +kernel
theorem dX14_digest_114 : decode cX14_digest 114 = .ok (.iaload, 1) := by decide +kernel
theorem dX14_digest_115 : decode cX14_digest 115 = .ok (.i2l, 1) := by decide +kernel
theorem dX14_digest_116 : decode cX14_digest 116 = .ok (.ladd, 1) := by decide +kernel
theorem dX14_digest_117 : decode cX14_digest 117 = .ok (.lstore_n 1, 1) := by decide +kernel
theorem dX14_digest_118 : decode cX14_digest 118 = .ok (.iinc 4 1, 3) := by decide +kernel
theorem dX14_digest_121 : decode cX14_digest 121 = .ok (.goto (-38), 3) := by decide +kernel
theorem dX14_digest_124 : decode cX14_digest 124 = .ok (.iinc 3 1, 3) := by decide +kernel
theorem dX14_digest_127 : decode cX14_digest 127 = .ok (.goto (-89), 3) := by decide +kernel
theorem dX14_digest_130 : decode cX14_digest 130 = .ok (.iconst 0, 1) := by decide +kernel
theorem dX14_digest_131 : decode cX14_digest 131 = .ok (.istore_n 3, 1) := by decide +kernel
theorem dX14_digest_132 : decode cX14_digest 132 = .ok (.iload_n 3, 1) := by decide +kernel
theorem dX14_digest_133 : decode cX14_digest 133 = .ok (.aload_n 0, 1) := by decide +kernel
theorem dX14_digest_134 : decode cX14_digest 134 = .ok (.getfield 35, 3) := by decide +kernel
theorem dX14_digest_137 : decode cX14_digest 137 = .ok (.getfield 67, 3) := by decide +kernel
theorem dX14_digest_140 : decode cX14_digest 140 = .ok (.if_icmp .ge 40, 3) := by decide +kernel
theorem dX14_digest_143 : decode cX14_digest 143 = .ok (.iconst 0, 1) := by decide +kernel
theorem dX14_digest_144 : decode cX14_digest 144 = .ok (.istore 4, 2) := by decide +kernel
theorem dX14_digest_146 : decode cX14_digest 146 = .ok (.iload 4, 2) := by decide +kernel
theorem dX14_digest_148 : decode cX14_digest 148 = .ok (.bipush 9, 2) := by decide +kernel
theorem dX14_digest_150 : decode cX14_digest 150 = .ok (.if_icmp .gt 24, 3) := by decide +kernel
theorem dX14_digest_153 : decode cX14_digest 153 = .ok (.lload_n 1, 1) := by decide +kernel
theorem dX14_digest_154 : decode cX14_digest 154 = .ok (.ldc2_w 375, 3) := by decide +kernel
theorem dX14_digest_157 : decode cX14_digest 157 = .ok (.lmul, 1) := by decide +kernel
theorem dX14_digest_158 : decode cX14_digest 158 = .ok (.aload_n 0, 1) := by decide +kernel
theorem dX14_digest_159 : decode cX14_digest 159 = .ok (.iload_n 3, 1) := by decide +kernel
theorem dX14_digest_160 : decode cX14_digest 160 = .ok (.iload 4, 2) := by decide +kernel
theorem dX14_digest_162 : decode cX14_digest 162 = .ok (.invokevirtual 332, 3) := by decide +kernel
theorem dX14_digest_165 : decode cX14_digest 165 = .ok (.i2l, 1) := by decide +kernel
theorem dX14_digest_166 : decode cX14_digest 166 = .ok (.ladd, 1) := by decide +kernel
theorem dX14_digest_167 : decode cX14_digest 167 = .ok (.lstore_n 1, 1) := by decide +kernel
theorem dX14_digest_168 : decode cX14_digest 168 = .ok (.iinc 4 1, 3) := by decide +kernel
theorem dX14_digest_171 : decode cX14_digest 171 = .ok (.goto (-25), 3) := by decide +kernel
theorem dX14_digest_174 : decode cX14_digest 174 = .ok (.iinc 3 1, 3) := by decide +kernel
theorem dX14_digest_177 : decode cX14_digest 177 = .ok (.goto (-45), 3) := by decide +kernel
theorem dX14_digest_180 : decode cX14_digest 180 = .ok (.iconst 0, 1) := by decide +kernel
theorem dX14_digest_181 : decode cX14_digest 181 = .ok (.istore_n 3, 1) := by decide +kernel
theorem dX14_digest_182 : decode cX14_digest 182 = .ok (.iload_n 3, 1) := by decide +kernel
theorem dX14_digest_183 : decode cX14_digest 183 = .ok (.aload_n 0, 1) := by decide +kernel
theorem dX14_digest_184 : decode cX14_digest 184 = .ok (.getfield 35, 3) := by decide +kernel
theorem dX14_digest_187 : decode cX14_digest 187 = .ok (.getfield 222, 3) := by decide +kernel
theorem dX14_digest_190 : decode cX14_digest 190 = .ok (.if_icmp .ge 40, 3) := by decide +kernel
theorem dX14_digest_193 : decode cX14_digest 193 = .ok (.iconst 0, 1) := by decide +kernel
theorem dX14_digest_194 : decode cX14_digest 194 = .ok (.istore 4, 2) := by decide +kernel
theorem dX14_digest_196 : decode cX14_digest 196 = .ok (.iload 4, 2) := by decide +kernel
theorem dX14_digest_198 : decode cX14_digest 198 = .ok (.bipush 6, 2) := by decide +kernel
theorem dX14_digest_200 : decode cX14_digest 200 = .ok (.if_icmp .gt 24, 3) := by decide +kernel
theorem dX14_digest_203 : decode cX14_digest 203 = .ok (.lload_n 1, 1) := by decide +kernel
theorem dX14_digest_204 : decode cX14_digest 204 = .ok (.ldc2_w 375, 3) := by decide +kernel
theorem dX14_digest_207 : decode cX14_digest 207 = .ok (.lmul, 1) := by decide +kernel
theorem dX14_digest_208 : decode cX14_digest 208 = .ok (.aload_n 0, 1) := by decide +kernel
theorem dX14_digest_209 : decode cX14_digest 209 = .ok (.iload_n 3, 1) := by decide +kernel
theorem dX14_digest_210 : decode cX14_digest 210 = .ok (.iload 4, 2) := by decide +kernel
theorem dX14_digest_212 : decode cX14_digest 212 = .ok (.invokevirtual 344, 3) := by decide +kernel
theorem dX14_digest_215 : decode cX14_digest 215 = .ok (.i2l, 1) := by decide +kernel
theorem dX14_digest_216 : decode cX14_digest 216 = .ok (.ladd, 1) := by decide +kernel
theorem dX14_digest_217 : decode cX14_digest 217 = .ok (.lstore_n 1, 1) := by decide +kernel
theorem dX14_digest_218 : decode cX14_digest 218 = .ok (.iinc 4 1, 3) := by decide +kernel
theorem dX14_digest_221 : decode cX14_digest 221 = .ok (.goto (-25), 3) := by decide +kernel
theorem dX14_digest_224 : decode cX14_digest 224 = .ok (.iinc 3 1, 3) := by decide +kernel
theorem dX14_digest_227 : decode cX14_digest 227 = .ok (.goto (-45), 3) := by decide +kernel
theorem dX14_digest_230 : decode cX14_digest 230 = .ok (.iconst 0, 1) := by decide +kernel
theorem dX14_digest_231 : decode cX14_digest 231 = .ok (.istore_n 3, 1) := by decide +kernel
theorem dX14_digest_232 : decode cX14_digest 232 = .ok (.iload_n 3, 1) := by decide +kernel
theorem dX14_digest_233 : decode cX14_digest 233 = .ok (.aload_n 0, 1) := by decide +kernel
theorem dX14_digest_234 : decode cX14_digest 234 = .ok (.getfield 35, 3) := by decide +kernel
theorem dX14_digest_237 : decode cX14_digest 237 = .ok (.getfield 67, 3) := by decide +kernel
theorem dX14_digest_240 : decode cX14_digest 240 = .ok (.if_icmp .ge 22, 3) := by decide +kernel
theorem dX14_digest_243 : decode cX14_digest 243 = .ok (.lload_n 1, 1) := by decide +kernel
theorem dX14_digest_244 : decode cX14_digest 244 = .ok (.ldc2_w 375, 3) := by decide +kernel
theorem dX14_digest_247 : decode cX14_digest 247 = .ok (.lmul, 1) := by decide +kernel
theorem dX14_digest_248 : decode cX14_digest 248 = .ok (.aload_n 0, 1) := by decide +kernel
theorem dX14_digest_249 : decode cX14_digest 249 = .ok (.iload_n 3, 1) := by decide +kernel
theorem dX14_digest_250 : decode cX14_digest 250 = .ok (.invokevirtual 356, 3) := by decide +kernel
theorem dX14_digest_253 : decode cX14_digest 253 = .ok (.i2l, 1) := by decide +kernel
theorem dX14_digest_254 : decode cX14_digest 254 = .ok (.ladd, 1) := by decide +kernel
theorem dX14_digest_255 : decode cX14_digest 255 = .ok (.lstore_n 1, 1) := by decide +kernel
theorem dX14_digest_256 : decode cX14_digest 256 = .ok (.iinc 3 1, 3) := by decide +kernel
theorem dX14_digest_259 : decode cX14_digest 259 = .ok (.goto (-27), 3) := by decide +kernel
theorem dX14_digest_262 : decode cX14_digest 262 = .ok (.lload_n 1, 1) := by decide +kernel
theorem dX14_digest_263 : decode cX14_digest 263 = .ok (.lreturn, 1) := by decide +kernel
