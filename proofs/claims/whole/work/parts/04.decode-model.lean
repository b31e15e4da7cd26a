theorem dX9_init_0 : decode cX9_init 0 = .ok (.aload_n 0, 1) := by decide +kernel
theorem dX9_init_1 : decode cX9_init 1 = .ok (.invokespecial 1, 3) := by decide +kernel
theorem dX9_init_4 : decode cX9_init 4 = .ok (.aload_n 0, 1) := by decide +kernel
theorem dX9_init_5 : decode cX9_init 5 = .ok (.bipush 74, 2) := by decide +kernel
theorem dX9_init_7 : decode cX9_init 7 = .ok (.newarray .int, 2) := by decide +kernel
theorem dX9_init_9 : decode cX9_init 9 = .ok (.putfield 7, 3) := by decide +kernel
theorem dX9_init_12 : decode cX9_init 12 = .ok (.aload_n 0, 1) := by decide +kernel
theorem dX9_init_13 : decode cX9_init 13 = .ok (.bipush 74, 2) := by decide +kernel
theorem dX9_init_15 : decode cX9_init 15 = .ok (.newarray .int, 2) := by decide +kernel
theorem dX9_init_17 : decode cX9_init 17 = .ok (.putfield 13, 3) := by decide +kernel
theorem dX9_init_20 : decode cX9_init 20 = .ok (.aload_n 0, 1) := by decide +kernel
theorem dX9_init_21 : decode cX9_init 21 = .ok (.bipush 74, 2) := by decide +kernel
theorem dX9_init_23 : decode cX9_init 23 = .ok (.newarray .int, 2) := by decide +kernel
theorem dX9_init_25 : decode cX9_init 25 = .ok (.putfield 16, 3) := by decide +kernel
theorem dX9_init_28 : decode cX9_init 28 = .ok (.aload_n 0, 1) := by decide +kernel
theorem dX9_init_29 : decode cX9_init 29 = .ok (.sipush 2220, 3) := by decide +kernel
theorem dX9_init_32 : decode cX9_init 32 = .ok (.newarray .int, 2) := by decide +kernel
theorem dX9_init_34 : decode cX9_init 34 = .ok (.putfield 19, 3) := by decide +kernel
theorem dX9_init_37 : decode cX9_init 37 = .ok (.aload_n 0, 1) := by decide +kernel
theorem dX9_init_38 : decode cX9_init 38 = .ok (.sipush 148, 3) := by decide +kernel
theorem dX9_init_41 : decode cX9_init 41 = .ok (.newarray .int, 2) := by decide +kernel
theorem dX9_init_43 : decode cX9_init 43 = .ok (.putfield 22, 3) := by decide +kernel
theorem dX9_init_46 : decode cX9_init 46 = .ok (.aload_n 0, 1) := by decide +kernel
theorem dX9_init_47 : decode cX9_init 47 = .ok (.iconst 2, 1) := by decide +kernel
theorem dX9_init_48 : decode cX9_init 48 = .ok (.newarray .boolean, 2) := by decide +kernel
theorem dX9_init_50 : decode cX9_init 50 = .ok (.putfield 25, 3) := by decide +kernel
theorem dX9_init_53 : decode cX9_init 53 = .ok (.aload_n 0, 1) := by decide +kernel
theorem dX9_init_54 : decode cX9_init 54 = .ok (.sipush 250, 3) := by decide +kernel
theorem dX9_init_57 : decode cX9_init 57 = .ok (.newarray .int, 2) := by decide +kernel
theorem dX9_init_59 : decode cX9_init 59 = .ok (.putfield 29, 3) := by decide +kernel
theorem dX9_init_62 : decode cX9_init 62 = .ok (.aload_n 0, 1) := by decide +kernel
theorem dX9_init_63 : decode cX9_init 63 = .ok (.bipush 8, 2) := by decide +kernel
theorem dX9_init_65 : decode cX9_init 65 = .ok (.newarray .int, 2) := by decide +kernel
theorem dX9_init_67 : decode cX9_init 67 = .ok (.putfield 32, 3) := by decide +kernel
theorem dX9_init_70 : decode cX9_init 70 = .ok (.aload_n 0, 1) := by decide +kernel
theorem dX9_init_71 : decode cX9_init 71 = .ok (.iconst 3, 1) := by decide +kernel
theorem dX9_init_72 : decode cX9_init 72 = .ok (.newarray .int, 2) := by decide +kernel
theorem dX9_init_74 : decode cX9_init 74 = .ok (.putfield 35, 3) := by decide +kernel
theorem dX9_init_77 : decode cX9_init 77 = .ok (.aload_n 0, 1) := by decide +kernel
theorem dX9_init_78 : decode cX9_init 78 = .ok (.bipush 20, 2) := by decide +kernel
theorem dX9_init_80 : decode cX9_init 80 = .ok (.newarray .int, 2) := by decide +kernel
theorem dX9_init_82 : decode cX9_init 82 = .ok (.putfield 38, 3) := by decide +kernel
theorem dX9_init_85 : decode cX9_init 85 = .ok (.aload_n 0, 1) := by decide +kernel
theorem dX9_init_86 : decode cX9_init 86 = .ok (.iconst 4, 1) := by decide +kernel
theorem dX9_init_87 : decode cX9_init 87 = .ok (.newarray .int, 2) := by decide +kernel
theorem dX9_init_89 : decode cX9_init 89 = .ok (.putfield 41, 3) := by decide +kernel
theorem dX9_init_92 : decode cX9_init 92 = .ok (.aload_n 0, 1) := by decide +kernel
theorem dX9_init_93 : decode cX9_init 93 = .ok (.bipush 31, 2) := by decide +kernel
theorem dX9_init_95 : decode cX9_init 95 = .ok (.newarray .long, 2) := by decide +kernel
theorem dX9_init_97 : decode cX9_init 97 = .ok (.putfield 44, 3) := by decide +kernel
theorem dX9_init_100 : decode cX9_init 100 = .ok (.aload_n 0, 1) := by decide +kernel
theorem dX9_init_101 : decode cX9_init 101 = .ok (.bipush 31, 2) := by decide +kernel
theorem dX9_init_103 : decode cX9_init 103 = .ok (.newarray .long, 2) := by decide +kernel
theorem dX9_init_105 : decode cX9_init 105 = .ok (.putfield 48, 3) := by decide +kernel
theorem dX9_init_108 : decode cX9_init 108 = .ok (.aload_n 0, 1) := by decide +kernel
theorem dX9_init_109 : decode cX9_init 109 = .ok (.getfield 7, 3) := by decide +kernel
theorem dX9_init_112 : decode cX9_init 112 = .ok (.bipush 6, 2) := by decide +kernel
theorem dX9_init_114 : decode cX9_init 114 = .ok (.iconst (-1), 1) := by decide +kernel
theorem dX9_init_115 : decode cX9_init 115 = .ok (.iastore, 1) := by decide +kernel
theorem dX9_init_116 : decode cX9_init 116 = .ok (.aload_n 0, 1) := by decide +kernel
theorem dX9_init_117 : decode cX9_init 117 = .ok (.iconst (-1), 1) := by decide +kernel
theorem dX9_init_118 : decode cX9_init 118 = .ok (.putfield 51, 3) := by decide +kernel
theorem dX9_init_121 : decode cX9_init 121 = .ok (.return_, 1) := by decide +kernel
theorem dX9_in_0 : decode cX9_in 0 = .ok (.iload_n 0, 1) := by decide +kernel
theorem dX9_in_1 : decode cX9_in 1 = .ok (.iload_n 1, 1) := by decide +kernel
theorem dX9_in_2 : decode cX9_in 2 = .ok (.if_icmp .lt 12, 3) := by decide +kernel
theorem dX9_in_5 : decode cX9_in 5 = .ok (.iload_n 0, 1) := by decide +kernel
theorem dX9_in_6 : decode cX9_in 6 = .ok (.iload_n 2, 1) := by decide +kernel
theorem dX9_in_7 : decode cX9_in 7 = .ok (.if_icmp .gt 7, 3) := by decide +kernel
theorem dX9_in_10 : decode cX9_in 10 = .ok (.iconst 1, 1) := by decide +kernel
theorem dX9_in_11 : decode cX9_in 11 = .ok (.goto 4, 3) := by decide +kernel
theorem dX9_in_14 : decode cX9_in 14 = .ok (.iconst 0, 1) := by decide +kernel
theorem dX9_in_15 : decode cX9_in 15 = .ok (.ireturn, 1) := by decide +kernel
theorem dX9_has_0 : decode cX9_has 0 = .ok (.iload_n 0, 1) := by decide +kernel
theorem dX9_has_1 : decode cX9_has 1 = .ok (.iload_n 1, 1) := by decide +kernel
theorem dX9_has_2 : decode cX9_has 2 = .ok (.ishr, 1) := by decide +kernel
theorem dX9_has_3 : decode cX9_has 3 = .ok (.iconst 1, 1) := by decide +kernel
theorem dX9_has_4 : decode cX9_has 4 = .ok (.iand, 1) := by decide +kernel
theorem dX9_has_5 : decode cX9_has 5 = .ok (.iconst 1, 1) := by decide +kernel
theorem dX9_has_6 : decode cX9_has 6 = .ok (.if_icmp .ne 7, 3) := by decide +kernel
theorem dX9_has_9 : decode cX9_has 9 = .ok (.iconst 1, 1) := by decide +kernel
theorem dX9_has_10 : decode cX9_has 10 = .ok (.goto 4, 3) := by decide +kernel
theorem dX9_has_13 : decode cX9_has 13 = .ok (.iconst 0, 1) := by decide +kernel
theorem dX9_has_14 : decode cX9_has 14 = .ok (.ireturn, 1) := by decide +kernel
theorem dX9_ones_0 : decode cX9_ones 0 = .ok (.iconst 0, 1) := by decide +kernel
theorem dX9_ones_1 : decode cX9_ones 1 = .ok (.istore_n 1, 1) := by decide +kernel
theorem dX9_ones_2 : decode cX9_ones 2 = .ok (.iconst 0, 1) := by decide +kernel
theorem dX9_ones_3 : decode cX9_ones 3 = .ok (.istore_n 2, 1) := by decide +kernel
theorem dX9_ones_4 : decode cX9_ones 4 = .ok (.iload_n 2, 1) := by decide +kernel
theorem dX9_ones_5 : decode cX9_ones 5 = .ok (.bipush 8, 2) := by decide +kernel
theorem dX9_ones_7 : decode cX9_ones 7 = .ok (.if_icmp .ge 17, 3) := by decide +kernel
theorem dX9_ones_10 : decode cX9_ones 10 = .ok (.iload_n 1, 1) := by decide +kernel
theorem dX9_ones_11 : decode cX9_ones 11 = .ok (.iload_n 0, 1) := by decide +kernel
theorem dX9_ones_12 : decode cX9_ones 12 = .ok (.iload_n 2, 1) := by decide +kernel
theorem dX9_ones_13 : decode cX9_ones 13 = .ok (.ishr, 1) := by decide +kernel
theorem dX9_ones_14 : decode cX9_ones 14 = .ok (.iconst 1, 1) := by decide +kernel
theorem dX9_ones_15 : decode cX9_ones 15 = .ok (.iand, 1) := by decide +kernel
theorem dX9_ones_16 : decode cX9_ones 16 = .ok (.iadd, 1) := by decide +kernel
theorem dX9_ones_17 : decode cX9_ones 17 = .ok (.istore_n 1, 1) := by decide +kernel
theorem dX9_ones_18 : decode cX9_ones 18 = .ok (.iinc 2 1, 3) := by decide +kernel
theorem dX9_ones_21 : decode cX9_ones 21 = .ok (.goto (-17), 3) := by decide +kernel
theorem dX9_ones_24 : decode cX9_ones 24 = .ok (.iload_n 1, 1) := by decide +kernel
theorem dX9_ones_25 : decode cX9_ones 25 = .ok (.ireturn, 1) := by decide +kernel
theorem dX9_least_0 : decode cX9_least 0 = .ok (.iload_n 0, 1) := by decide +kernel
theorem dX9_least_1 : decode cX9_least 1 = .ok (.iload_n 1, 1) := by decide +kernel
theorem dX9_least_2 : decode cX9_least 2 = .ok (.if_icmp .ge 7, 3) := by decide +kernel
theorem dX9_least_5 : decode cX9_least 5 = .ok (.iload_n 0, 1) := by decide +kernel
theorem dX9_least_6 : decode cX9_least 6 = .ok (.goto 4, 3) := by decide +kernel
theorem dX9_least_9 : decode cX9_least 9 = .ok (.iload_n 1, 1) := by decide +kernel
theorem dX9_least_10 : decode cX9_least 10 = .ok (.ireturn, 1) := by decide +kernel
theorem dX9_copies_0 : decode cX9_copies 0 = .ok (.iconst 0, 1) := by decide +kernel
theorem dX9_copies_1 : decode cX9_copies 1 = .ok (.istore 4, 2) := by decide +kernel
theorem dX9_copies_3 : decode cX9_copies 3 = .ok (.iload 4, 2) := by decide +kernel
theorem dX9_copies_5 : decode cX9_copies 5 = .ok (.bipush 74, 2) := by decide +kernel
theorem dX9_copies_7 : decode cX9_copies 7 = .ok (.if_icmp .ge 21, 3) := by decide +kernel
theorem dX9_copies_10 : decode cX9_copies 10 = .ok (.aload_n 2, 1) := by decide +kernel
theorem dX9_copies_11 : decode cX9_copies 11 = .ok (.iload_n 3, 1) := by decide +kernel
theorem dX9_copies_12 : decode cX9_copies 12 = .ok (.iload 4, 2) := by decide +kernel
theorem dX9_copies_14 : decode cX9_copies 14 = .ok (.iadd, 1) := by decide +kernel
theorem dX9_copies_15 : decode cX9_copies 15 = .ok (.aload_n 0, 1) := by decide +kernel
theorem dX9_copies_16 : decode cX9_copies 16 = .ok (.iload_n 1, 1) := by decide +kernel
theorem dX9_copies_17 : decode cX9_copies 17 = .ok (.iload 4, 2) := by decide +kernel
theorem dX9_copies_19 : decode cX9_copies 19 = .ok (.iadd, 1) := by decide +kernel
theorem dX9_copies_20 : decode cX9_copies 20 = .ok (.iaload, 1) := by decide +kernel
theorem dX9_copies_21 : decode cX9_copies 21 = .ok (.iastore, 1) := by decide +kernel
theorem dX9_copies_22 : decode cX9_copies 22 = .ok (.iinc 4 1, 3) := by decide +kernel
theorem dX9_copies_25 : decode cX9_copies 25 = .ok (.goto (-22), 3) := by decide +kernel
theorem dX9_copies_28 : decode cX9_copies 28 = .ok (.return_, 1) := by decide +kernel
theorem dX9_lifeAt_0 : decode cX9_lifeAt 0 = .ok (.bipush 8, 2) := by decide +kernel
theorem dX9_lifeAt_2 : decode cX9_lifeAt 2 = .ok (.bipush 6, 2) := by decide +kernel
theorem dX9_lifeAt_4 : decode cX9_lifeAt 4 = .ok (.iload_n 0, 1) := by decide +kernel
theorem dX9_lifeAt_5 : decode cX9_lifeAt 5 = .ok (.imul, 1) := by decide +kernel
theorem dX9_lifeAt_6 : decode cX9_lifeAt 6 = .ok (.iadd, 1) := by decide +kernel
theorem dX9_lifeAt_7 : decode cX9_lifeAt 7 = .ok (.ireturn, 1) := by decide +kernel
theorem dX9_policyAt_0 : decode cX9_policyAt 0 = .ok (.bipush 32, 2) := by decide +kernel
theorem dX9_policyAt_2 : decode cX9_policyAt 2 = .ok (.bipush 7, 2) := by decide +kernel
theorem dX9_policyAt_4 : decode cX9_policyAt 4 = .ok (.iload_n 0, 1) := by decide +kernel
theorem dX9_policyAt_5 : decode cX9_policyAt 5 = .ok (.imul, 1) := by decide +kernel
theorem dX9_policyAt_6 : decode cX9_policyAt 6 = .ok (.iadd, 1) := by decide +kernel
theorem dX9_policyAt_7 : decode cX9_policyAt 7 = .ok (.ireturn, 1) := by decide +kernel
theorem dX9_isLife_0 : decode cX9_isLife 0 = .ok (.iload_n 1, 1) := by decide +kernel
theorem dX9_isLife_1 : decode cX9_isLife 1 = .ok (.iconst 0, 1) := by decide +kernel
theorem dX9_isLife_2 : decode cX9_isLife 2 = .ok (.aload_n 0, 1) := by decide +kernel
theorem dX9_isLife_3 : decode cX9_isLife 3 = .ok (.getfield 7, 3) := by decide +kernel
theorem dX9_isLife_6 : decode cX9_isLife 6 = .ok (.iconst 0, 1) := by decide +kernel
theorem dX9_isLife_7 : decode cX9_isLife 7 = .ok (.iaload, 1) := by decide +kernel
theorem dX9_isLife_8 : decode cX9_isLife 8 = .ok (.iconst 1, 1) := by decide +kernel
theorem dX9_isLife_9 : decode cX9_isLife 9 = .ok (.isub, 1) := by decide +kernel
theorem dX9_isLife_10 : decode cX9_isLife 10 = .ok (.invokestatic 55, 3) := by decide +kernel
theorem dX9_isLife_13 : decode cX9_isLife 13 = .ok (.ireturn, 1) := by decide +kernel
theorem dX9_isPolicy_0 : decode cX9_isPolicy 0 = .ok (.iload_n 1, 1) := by decide +kernel
theorem dX9_isPolicy_1 : decode cX9_isPolicy 1 = .ok (.iconst 0, 1) := by decide +kernel
theorem dX9_isPolicy_2 : decode cX9_isPolicy 2 = .ok (.aload_n 0, 1) := by decide +kernel
theorem dX9_isPolicy_3 : decode cX9_isPolicy 3 = .ok (.getfield 7, 3) := by decide +kernel
theorem dX9_isPolicy_6 : decode cX9_isPolicy 6 = .ok (.iconst 1, 1) := by decide +kernel
theorem dX9_isPolicy_7 : decode cX9_isPolicy 7 = .ok (.iaload, 1) := by decide +kernel
theorem dX9_isPolicy_8 : decode cX9_isPolicy 8 = .ok (.iconst 1, 1) := by decide +kernel
theorem dX9_isPolicy_9 : decode cX9_isPolicy 9 = .ok (.isub, 1) := by decide +kernel
theorem dX9_isPolicy_10 : decode cX9_isPolicy 10 = .ok (.invokestatic 55, 3) := by decide +kernel
theorem dX9_isPolicy_13 : decode cX9_isPolicy 13 = .ok (.ireturn, 1) := by decide +kernel
theorem dX9_feed_0 : decode cX9_feed 0 = .ok (.iload_n 1, 1) := by decide +kernel
theorem dX9_feed_1 : decode cX9_feed 1 = .ok (.iconst 0, 1) := by decide +kernel
theorem dX9_feed_2 : decode cX9_feed 2 = .ok (.sipush 255, 3) := by decide +kernel
theorem dX9_feed_5 : decode cX9_feed 5 = .ok (.invokestatic 55, 3) := by decide +kernel
theorem dX9_feed_8 : decode cX9_feed 8 = .ok (.ifCond .ne 6, 3) := by decide +kernel
theorem dX9_feed_11 : decode cX9_feed 11 = .ok (.ldc 59, 2) := by decide +kernel
theorem dX9_feed_13 : decode cX9_feed 13 = .ok (.ireturn, 1) := by decide +kernel
theorem dX9_feed_14 : decode cX9_feed 14 = .ok (.aload_n 0, 1) := by decide +kernel
theorem dX9_feed_15 : decode cX9_feed 15 = .ok (.getfield 60, 3) := by decide +kernel
theorem dX9_feed_18 : decode cX9_feed 18 = .ok (.sipush 250, 3) := by decide +kernel
theorem dX9_feed_21 : decode cX9_feed 21 = .ok (.if_icmp .ne 6, 3) := by decide +kernel
theorem dX9_feed_24 : decode cX9_feed 24 = .ok (.ldc 63, 2) := by decide +kernel
theorem dX9_feed_26 : decode cX9_feed 26 = .ok (.ireturn, 1) := by decide +kernel
theorem dX9_feed_27 : decode cX9_feed 27 = .ok (.aload_n 0, 1) := by decide +kernel
theorem dX9_feed_28 : decode cX9_feed 28 = .ok (.getfield 29, 3) := by decide +kernel
theorem dX9_feed_31 : decode cX9_feed 31 = .ok (.aload_n 0, 1) := by decide +kernel
theorem dX9_feed_32 : decode cX9_feed 32 = .ok (.getfield 60, 3) := by decide +kernel
theorem dX9_feed_35 : decode cX9_feed 35 = .ok (.iload_n 1, 1) := by decide +kernel
theorem dX9_feed_36 : decode cX9_feed 36 = .ok (.iastore, 1) := by decide +kernel
theorem dX9_feed_37 : decode cX9_feed 37 = .ok (.aload_n 0, 1) := by decide +kernel
theorem dX9_feed_38 : decode cX9_feed 38 = .ok (.dup, 1) := by decide +kernel
theorem dX9_feed_39 : decode cX9_feed 39 = .ok (.getfield 60, 3) := by decide +kernel
theorem dX9_feed_42 : decode cX9_feed 42 = .ok (.iconst 1, 1) := by decide +kernel
theorem dX9_feed_43 : decode cX9_feed 43 = .ok (.iadd, 1) := by decide +kernel
theorem dX9_feed_44 : decode cX9_feed 44 = .ok (.putfield 60, 3) := by decide +kernel
theorem dX9_feed_47 : decode cX9_feed 47 = .ok (.aload_n 0, 1) := by decide +kernel
theorem dX9_feed_48 : decode cX9_feed 48 = .ok (.getfield 60, 3) := by decide +kernel
theorem dX9_feed_51 : decode cX9_feed 51 = .ok (.ireturn, 1) := by decide +kernel
theorem dX9_look_0 : decode cX9_look 0 = .ok (.aload_n 0, 1) := by decide +kernel
theorem dX9_look_1 : decode cX9_look 1 = .ok (.getfield 64, 3) := by decide +kernel
theorem dX9_look_4 : decode cX9_look 4 = .ok (.aload_n 0, 1) := by decide +kernel
theorem dX9_look_5 : decode cX9_look 5 = .ok (.getfield 60, 3) := by decide +kernel
theorem dX9_look_8 : decode cX9_look 8 = .ok (.if_icmp .ge 30, 3) := by decide +kernel
theorem dX9_look_11 : decode cX9_look 11 = .ok (.aload_n 0, 1) := by decide +kernel
theorem dX9_look_12 : decode cX9_look 12 = .ok (.getfield 29, 3) := by decide +kernel
theorem dX9_look_15 : decode cX9_look 15 = .ok (.aload_n 0, 1) := by decide +kernel
theorem dX9_look_16 : decode cX9_look 16 = .ok (.getfield 64, 3) := by decide +kernel
theorem dX9_look_19 : decode cX9_look 19 = .ok (.iaload, 1) := by decide +kernel
theorem dX9_look_20 : decode cX9_look 20 = .ok (.bipush 32, 2) := by decide +kernel
theorem dX9_look_22 : decode cX9_look 22 = .ok (.if_icmp .ne 16, 3) := by decide +kernel
theorem dX9_look_25 : decode cX9_look 25 = .ok (.aload_n 0, 1) := by decide +kernel
theorem dX9_look_26 : decode cX9_look 26 = .ok (.dup, 1) := by decide +kernel
theorem dX9_look_27 : decode cX9_look 27 = .ok (.getfield 64, 3) := by decide +kernel
theorem dX9_look_30 : decode cX9_look 30 = .ok (.iconst 1, 1) := by decide +kernel
theorem dX9_look_31 : decode cX9_look 31 = .ok (.iadd, 1) := by decide +kernel
theorem dX9_look_32 : decode cX9_look 32 = .ok (.putfield 64, 3) := by decide +kernel
theorem dX9_look_35 : decode cX9_look 35 = .ok (.goto (-35), 3) := by decide +kernel
theorem dX9_look_38 : decode cX9_look 38 = .ok (.aload_n 0, 1) := by decide +kernel
theorem dX9_look_39 : decode cX9_look 39 = .ok (.getfield 64, 3) := by decide +kernel
theorem dX9_look_42 : decode cX9_look 42 = .ok (.aload_n 0, 1) := by decide +kernel
theorem dX9_look_43 : decode cX9_look 43 = .ok (.getfield 60, 3) := by decide +kernel
theorem dX9_look_46 : decode cX9_look 46 = .ok (.if_icmp .ge 15, 3) := by decide +kernel
theorem dX9_look_49 : decode cX9_look 49 = .ok (.aload_n 0, 1) := by decide +kernel
theorem dX9_look_50 : decode cX9_look 50 = .ok (.getfield 29, 3) := by decide +kernel
theorem dX9_look_53 : decode cX9_look 53 = .ok (.aload_n 0, 1) := by decide +kernel
theorem dX9_look_54 : decode cX9_look 54 = .ok (.getfield 64, 3) := by decide +kernel
theorem dX9_look_57 : decode cX9_look 57 = .ok (.iaload, 1) := by decide +kernel
theorem dX9_look_58 : decode cX9_look 58 = .ok (.goto 4, 3) := by decide +kernel
theorem dX9_look_61 : decode cX9_look 61 = .ok (.iconst (-1), 1) := by decide +kernel
theorem dX9_look_62 : decode cX9_look 62 = .ok (.ireturn, 1) := by decide +kernel
theorem dX9_isWell_0 : decode cX9_isWell 0 = .ok (.aload_n 0, 1) := by decide +kernel
theorem dX9_isWell_1 : decode cX9_isWell 1 = .ok (.getfield 67, 3) := by decide +kernel
theorem dX9_isWell_4 : decode cX9_isWell 4 = .ok (.ifCond .ne 7, 3) := by decide +kernel
theorem dX9_isWell_7 : decode cX9_isWell 7 = .ok (.iconst 1, 1) := by decide +kernel
theorem dX9_isWell_8 : decode cX9_isWell 8 = .ok (.goto 4, 3) := by decide +kernel
theorem dX9_isWell_11 : decode cX9_isWell 11 = .ok (.iconst 0, 1) := by decide +kernel
theorem dX9_isWell_12 : decode cX9_isWell 12 = .ok (.ireturn, 1) := by decide +kernel
theorem dX9_faults_0 : decode cX9_faults 0 = .ok (.aload_n 0, 1) := by decide +kernel
theorem dX9_faults_1 : decode cX9_faults 1 = .ok (.invokevirtual 70, 3) := by decide +kernel
theorem dX9_faults_4 : decode cX9_faults 4 = .ok (.ifCond .eq 16, 3) := by decide +kernel
theorem dX9_faults_7 : decode cX9_faults 7 = .ok (.aload_n 0, 1) := by decide +kernel
theorem dX9_faults_8 : decode cX9_faults 8 = .ok (.iload_n 2, 1) := by decide +kernel
theorem dX9_faults_9 : decode cX9_faults 9 = .ok (.putfield 67, 3) := by decide +kernel
theorem dX9_faults_12 : decode cX9_faults 12 = .ok (.aload_n 0, 1) := by decide +kernel
theorem dX9_faults_13 : decode cX9_faults 13 = .ok (.getfield 13, 3) := by decide +kernel
theorem dX9_faults_16 : decode cX9_faults 16 = .ok (.bipush 7, 2) := by decide +kernel
theorem dX9_faults_18 : decode cX9_faults 18 = .ok (.iload_n 1, 1) := by decide +kernel
theorem dX9_faults_19 : decode cX9_faults 19 = .ok (.iastore, 1) := by decide +kernel
theorem dX9_faults_20 : decode cX9_faults 20 = .ok (.return_, 1) := by decide +kernel
theorem dX9_number_0 : decode cX9_number 0 = .ok (.aload_n 0, 1) := by decide +kernel
theorem dX9_number_1 : decode cX9_number 1 = .ok (.invokevirtual 70, 3) := by decide +kernel
theorem dX9_number_4 : decode cX9_number 4 = .ok (.ifCond .ne 5, 3) := by decide +kernel
theorem dX9_number_7 : decode cX9_number 7 = .ok (.iconst 0, 1) := by decide +kernel
theorem dX9_number_8 : decode cX9_number 8 = .ok (.ireturn, 1) := by decide +kernel
theorem dX9_number_9 : decode cX9_number 9 = .ok (.aload_n 0, 1) := by decide +kernel
theorem dX9_number_10 : decode cX9_number 10 = .ok (.invokevirtual 74, 3) := by decide +kernel
theorem dX9_number_13 : decode cX9_number 13 = .ok (.bipush 48, 2) := by decide +kernel
theorem dX9_number_15 : decode cX9_number 15 = .ok (.bipush 57, 2) := by decide +kernel
theorem dX9_number_17 : decode cX9_number 17 = .ok (.invokestatic 55, 3) := by decide +kernel
theorem dX9_number_20 : decode cX9_number 20 = .ok (.ifCond .ne 14, 3) := by decide +kernel
theorem dX9_number_23 : decode cX9_number 23 = .ok (.aload_n 0, 1) := by decide +kernel
theorem dX9_number_24 : decode cX9_number 24 = .ok (.aload_n 0, 1) := by decide +kernel
theorem dX9_number_25 : decode cX9_number 25 = .ok (.getfield 64, 3) := by decide +kernel
theorem dX9_number_28 : decode cX9_number 28 = .ok (.iconst 1, 1) := by decide +kernel
theorem dX9_number_29 : decode cX9_number 29 = .ok (.invokevirtual 78, 3) := by decide +kernel
theorem dX9_number_32 : decode cX9_number 32 = .ok (.iconst 0, 1) := by decide +kernel
theorem dX9_number_33 : decode cX9_number 33 = .ok (.ireturn, 1) := by decide +kernel
theorem dX9_number_34 : decode cX9_number 34 = .ok (.aload_n 0, 1) := by decide +kernel
theorem dX9_number_35 : decode cX9_number 35 = .ok (.getfield 64, 3) := by decide +kernel
theorem dX9_number_38 : decode cX9_number 38 = .ok (.istore_n 3, 1) := by decide +kernel
theorem dX9_number_39 : decode cX9_number 39 = .ok (.iconst 0, 1) := by decide +kernel
theorem dX9_number_40 : decode cX9_number 40 = .ok (.istore 4, 2) := by decide +kernel
theorem dX9_number_42 : decode cX9_number 42 = .ok (.aload_n 0, 1) := by decide +kernel
theorem dX9_number_43 : decode cX9_number 43 = .ok (.getfield 64, 3) := by decide +kernel
theorem dX9_number_46 : decode cX9_number 46 = .ok (.aload_n 0, 1) := by decide +kernel
theorem dX9_number_47 : decode cX9_number 47 = .ok (.getfield 60, 3) := by decide +kernel
theorem dX9_number_50 : decode cX9_number 50 = .ok (.if_icmp .ge 70, 3) := by decide +kernel
theorem dX9_number_53 : decode cX9_number 53 = .ok (.aload_n 0, 1) := by decide +kernel
theorem dX9_number_54 : decode cX9_number 54 = .ok (.getfield 29, 3) := by decide +kernel
theorem dX9_number_57 : decode cX9_number 57 = .ok (.aload_n 0, 1) := by decide +kernel
theorem dX9_number_58 : decode cX9_number 58 = .ok (.getfield 64, 3) := by decide +kernel
theorem dX9_number_61 : decode cX9_number 61 = .ok (.iaload, 1) := by decide +kernel
theorem dX9_number_62 : decode cX9_number 62 = .ok (.bipush 48, 2) := by decide +kernel
theorem dX9_number_64 : decode cX9_number 64 = .ok (.bipush 57, 2) := by decide +kernel
theorem dX9_number_66 : decode cX9_number 66 = .ok (.invokestatic 55, 3) := by decide +kernel
theorem dX9_number_69 : decode cX9_number 69 = .ok (.ifCond .eq 51, 3) := by decide +kernel
theorem dX9_number_72 : decode cX9_number 72 = .ok (.aload_n 0, 1) := by decide +kernel
theorem dX9_number_73 : decode cX9_number 73 = .ok (.getfield 64, 3) := by decide +kernel
theorem dX9_number_76 : decode cX9_number 76 = .ok (.iload_n 3, 1) := by decide +kernel
theorem dX9_number_77 : decode cX9_number 77 = .ok (.isub, 1) := by decide +kernel
theorem dX9_number_78 : decode cX9_number 78 = .ok (.iconst 3, 1) := by decide +kernel
theorem dX9_number_79 : decode cX9_number 79 = .ok (.if_icmp .ge 24, 3) := by decide +kernel
theorem dX9_number_82 : decode cX9_number 82 = .ok (.bipush 10, 2) := by decide +kernel
theorem dX9_number_84 : decode cX9_number 84 = .ok (.iload 4, 2) := by decide +kernel
theorem dX9_number_86 : decode cX9_number 86 = .ok (.imul, 1) := by decide +kernel
theorem dX9_number_87 : decode cX9_number 87 = .ok (.aload_n 0, 1) := by decide +kernel
theorem dX9_number_88 : decode cX9_number 88 = .ok (.getfield 29, 3) := by decide +kernel
theorem dX9_number_91 : decode cX9_number 91 = .ok (.aload_n 0, 1) := by decide +kernel
theorem dX9_number_92 : decode cX9_number 92 = .ok (.getfield 64, 3) := by decide +kernel
theorem dX9_number_95 : decode cX9_number 95 = .ok (.iaload, 1) := by decide +kernel
theorem dX9_number_96 : decode cX9_number 96 = .ok (.iadd, 1) := by decide +kernel
theorem dX9_number_97 : decode cX9_number 97 = .ok (.bipush 48, 2) := by decide +kernel
theorem dX9_number_99 : decode cX9_number 99 = .ok (.isub, 1) := by decide +kernel
theorem dX9_number_100 : decode cX9_number 100 = .ok (.goto 5, 3) := by decide +kernel
theorem dX9_number_103 : decode cX9_number 103 = .ok (.iload 4, 2) := by decide +kernel
theorem dX9_number_105 : decode cX9_number 105 = .ok (.istore 4, 2) := by decide +kernel
theorem dX9_number_107 : decode cX9_number 107 = .ok (.aload_n 0, 1) := by decide +kernel
theorem dX9_number_108 : decode cX9_number 108 = .ok (.dup, 1) := by decide +kernel
theorem dX9_number_109 : decode cX9_number 109 = .ok (.getfield 64, 3) := by decide +kernel
theorem dX9_number_112 : decode cX9_number 112 = .ok (.iconst 1, 1) := by decide +kernel
theorem dX9_number_113 : decode cX9_number 113 = .ok (.iadd, 1) := by decide +kernel
theorem dX9_number_114 : decode cX9_number 114 = .ok (.putfield 64, 3) := by decide +kernel
theorem dX9_number_117 : decode cX9_number 117 = .ok (.goto (-75), 3) := by decide +kernel
theorem dX9_number_120 : decode cX9_number 120 = .ok (.aload_n 0, 1) := by decide +kernel
theorem dX9_number_121 : decode cX9_number 121 = .ok (.getfield 64, 3) := by decide +kernel
theorem dX9_number_124 : decode cX9_number 124 = .ok (.iload_n 3, 1) := by decide +kernel
theorem dX9_number_125 : decode cX9_number 125 = .ok (.isub, 1) := by decide +kernel
theorem dX9_number_126 : decode cX9_number 126 = .ok (.iconst 3, 1) := by decide +kernel
theorem dX9_number_127 : decode cX9_number 127 = .ok (.if_icmp .gt 13, 3) := by decide +kernel
theorem dX9_number_130 : decode cX9_number 130 = .ok (.iload 4, 2) := by decide +kernel
theorem dX9_number_132 : decode cX9_number 132 = .ok (.iload_n 1, 1) := by decide +kernel
theorem dX9_number_133 : decode cX9_number 133 = .ok (.iload_n 2, 1) := by decide +kernel
theorem dX9_number_134 : decode cX9_number 134 = .ok (.invokestatic 55, 3) := by decide +kernel
theorem dX9_number_137 : decode cX9_number 137 = .ok (.ifCond .ne 11, 3) := by decide +kernel
theorem dX9_number_140 : decode cX9_number 140 = .ok (.aload_n 0, 1) := by decide +kernel
theorem dX9_number_141 : decode cX9_number 141 = .ok (.iload_n 3, 1) := by decide +kernel
theorem dX9_number_142 : decode cX9_number 142 = .ok (.iconst 2, 1) := by decide +kernel
theorem dX9_number_143 : decode cX9_number 143 = .ok (.invokevirtual 78, 3) := by decide +kernel
theorem dX9_number_146 : decode cX9_number 146 = .ok (.iconst 0, 1) := by decide +kernel
theorem dX9_number_147 : decode cX9_number 147 = .ok (.ireturn, 1) := by decide +kernel
theorem dX9_number_148 : decode cX9_number 148 = .ok (.iload 4, 2) := by decide +kernel
theorem dX9_number_150 : decode cX9_number 150 = .ok (.ireturn, 1) := by decide +kernel
theorem dX9_stops_0 : decode cX9_stops 0 = .ok (.aload_n 0, 1) := by decide +kernel
theorem dX9_stops_1 : decode cX9_stops 1 = .ok (.invokevirtual 70, 3) := by decide +kernel
theorem dX9_stops_4 : decode cX9_stops 4 = .ok (.ifCond .eq 21, 3) := by decide +kernel
theorem dX9_stops_7 : decode cX9_stops 7 = .ok (.aload_n 0, 1) := by decide +kernel
theorem dX9_stops_8 : decode cX9_stops 8 = .ok (.invokevirtual 74, 3) := by decide +kernel
theorem dX9_stops_11 : decode cX9_stops 11 = .ok (.bipush 59, 2) := by decide +kernel
theorem dX9_stops_13 : decode cX9_stops 13 = .ok (.if_icmp .eq 12, 3) := by decide +kernel
theorem dX9_stops_16 : decode cX9_stops 16 = .ok (.aload_n 0, 1) := by decide +kernel
theorem dX9_stops_17 : decode cX9_stops 17 = .ok (.aload_n 0, 1) := by decide +kernel
theorem dX9_stops_18 : decode cX9_stops 18 = .ok (.getfield 64, 3) := by decide +kernel
theorem dX9_stops_21 : decode cX9_stops 21 = .ok (.iconst 1, 1) := by decide +kernel
theorem dX9_stops_22 : decode cX9_stops 22 = .ok (.invokevirtual 78, 3) := by decide +kernel
theorem dX9_stops_25 : decode cX9_stops 25 = .ok (.aload_n 0, 1) := by decide +kernel
theorem dX9_stops_26 : decode cX9_stops 26 = .ok (.dup, 1) := by decide +kernel
theorem dX9_stops_27 : decode cX9_stops 27 = .ok (.getfield 64, 3) := by decide +kernel
theorem dX9_stops_30 : decode cX9_stops 30 = .ok (.aload_n 0, 1) := by decide +kernel
theorem dX9_stops_31 : decode cX9_stops 31 = .ok (.invokevirtual 70, 3) := by decide +kernel
theorem dX9_stops_34 : decode cX9_stops 34 = .ok (.ifCond .eq 7, 3) := by decide +kernel
theorem dX9_stops_37 : decode cX9_stops 37 = .ok (.iconst 1, 1) := by decide +kernel
theorem dX9_stops_38 : decode cX9_stops 38 = .ok (.goto 4, 3) := by decide +kernel
theorem dX9_stops_41 : decode cX9_stops 41 = .ok (.iconst 0, 1) := by decide +kernel
theorem dX9_stops_42 : decode cX9_stops 42 = .ok (.iadd, 1) := by decide +kernel
theorem dX9_stops_43 : decode cX9_stops 43 = .ok (.putfield 64, 3) := by decide +kernel
theorem dX9_stops_46 : decode cX9_stops 46 = .ok (.return_, 1) := by decide +kernel
theorem dX9_readsLife_0 : decode cX9_readsLife 0 = .ok (.aload_n 0, 1) := by decide +kernel
theorem dX9_readsLife_1 : decode cX9_readsLife 1 = .ok (.getfield 13, 3) := by decide +kernel
theorem dX9_readsLife_4 : decode cX9_readsLife 4 = .ok (.iconst 0, 1) := by decide +kernel
theorem dX9_readsLife_5 : decode cX9_readsLife 5 = .ok (.iaload, 1) := by decide +kernel
theorem dX9_readsLife_6 : decode cX9_readsLife 6 = .ok (.invokestatic 82, 3) := by decide +kernel
theorem dX9_readsLife_9 : decode cX9_readsLife 9 = .ok (.istore_n 1, 1) := by decide +kernel
theorem dX9_readsLife_10 : decode cX9_readsLife 10 = .ok (.iconst 0, 1) := by decide +kernel
theorem dX9_readsLife_11 : decode cX9_readsLife 11 = .ok (.istore_n 2, 1) := by decide +kernel
theorem dX9_readsLife_12 : decode cX9_readsLife 12 = .ok (.iload_n 2, 1) := by decide +kernel
theorem dX9_readsLife_13 : decode cX9_readsLife 13 = .ok (.iconst 4, 1) := by decide +kernel
theorem dX9_readsLife_14 : decode cX9_readsLife 14 = .ok (.if_icmp .ge 25, 3) := by decide +kernel
theorem dX9_readsLife_17 : decode cX9_readsLife 17 = .ok (.aload_n 0, 1) := by decide +kernel
theorem dX9_readsLife_18 : decode cX9_readsLife 18 = .ok (.getfield 13, 3) := by decide +kernel
theorem dX9_readsLife_21 : decode cX9_readsLife 21 = .ok (.iload_n 1, 1) := by decide +kernel
theorem dX9_readsLife_22 : decode cX9_readsLife 22 = .ok (.iload_n 2, 1) := by decide +kernel
theorem dX9_readsLife_23 : decode cX9_readsLife 23 = .ok (.iadd, 1) := by decide +kernel
theorem dX9_readsLife_24 : decode cX9_readsLife 24 = .ok (.aload_n 0, 1) := by decide +kernel
theorem dX9_readsLife_25 : decode cX9_readsLife 25 = .ok (.iconst 0, 1) := by decide +kernel
theorem dX9_readsLife_26 : decode cX9_readsLife 26 = .ok (.sipush 200, 3) := by decide +kernel
theorem dX9_readsLife_29 : decode cX9_readsLife 29 = .ok (.invokevirtual 86, 3) := by decide +kernel
theorem dX9_readsLife_32 : decode cX9_readsLife 32 = .ok (.iastore, 1) := by decide +kernel
theorem dX9_readsLife_33 : decode cX9_readsLife 33 = .ok (.iinc 2 1, 3) := by decide +kernel
theorem dX9_readsLife_36 : decode cX9_readsLife 36 = .ok (.goto (-24), 3) := by decide +kernel
theorem dX9_readsLife_39 : decode cX9_readsLife 39 = .ok (.aload_n 0, 1) := by decide +kernel
theorem dX9_readsLife_40 : decode cX9_readsLife 40 = .ok (.getfield 13, 3) := by decide +kernel
theorem dX9_readsLife_43 : decode cX9_readsLife 43 = .ok (.iload_n 1, 1) := by decide +kernel
theorem dX9_readsLife_44 : decode cX9_readsLife 44 = .ok (.iconst 4, 1) := by decide +kernel
theorem dX9_readsLife_45 : decode cX9_readsLife 45 = .ok (.iadd, 1) := by decide +kernel
theorem dX9_readsLife_46 : decode cX9_readsLife 46 = .ok (.aload_n 0, 1) := by decide +kernel
theorem dX9_readsLife_47 : decode cX9_readsLife 47 = .ok (.iconst 0, 1) := by decide +kernel
theorem dX9_readsLife_48 : decode cX9_readsLife 48 = .ok (.iconst 2, 1) := by decide +kernel
theorem dX9_readsLife_49 : decode cX9_readsLife 49 = .ok (.invokevirtual 86, 3) := by decide +kernel
theorem dX9_readsLife_52 : decode cX9_readsLife 52 = .ok (.iastore, 1) := by decide +kernel
theorem dX9_readsLife_53 : decode cX9_readsLife 53 = .ok (.aload_n 0, 1) := by decide +kernel
theorem dX9_readsLife_54 : decode cX9_readsLife 54 = .ok (.getfield 13, 3) := by decide +kernel
theorem dX9_readsLife_57 : decode cX9_readsLife 57 = .ok (.iload_n 1, 1) := by decide +kernel
theorem dX9_readsLife_58 : decode cX9_readsLife 58 = .ok (.iconst 5, 1) := by decide +kernel
theorem dX9_readsLife_59 : decode cX9_readsLife 59 = .ok (.iadd, 1) := by decide +kernel
theorem dX9_readsLife_60 : decode cX9_readsLife 60 = .ok (.iconst 0, 1) := by decide +kernel
theorem dX9_readsLife_61 : decode cX9_readsLife 61 = .ok (.iastore, 1) := by decide +kernel
theorem dX9_readsLife_62 : decode cX9_readsLife 62 = .ok (.aload_n 0, 1) := by decide +kernel
theorem dX9_readsLife_63 : decode cX9_readsLife 63 = .ok (.getfield 13, 3) := by decide +kernel
theorem dX9_readsLife_66 : decode cX9_readsLife 66 = .ok (.iconst 0, 1) := by decide +kernel
theorem dX9_readsLife_67 : decode cX9_readsLife 67 = .ok (.dup2, 1) := by decide +kernel
theorem dX9_readsLife_68 : decode cX9_readsLife 68 = .ok (.iaload, 1) := by decide +kernel
theorem dX9_readsLife_69 : decode cX9_readsLife 69 = .ok (.iconst 1, 1) := by decide +kernel
theorem dX9_readsLife_70 : decode cX9_readsLife 70 = .ok (.iadd, 1) := by decide +kernel
theorem dX9_readsLife_71 : decode cX9_readsLife 71 = .ok (.iastore, 1) := by decide +kernel
theorem dX9_readsLife_72 : decode cX9_readsLife 72 = .ok (.return_, 1) := by decide +kernel
theorem dX9_readsPolicy_0 : decode cX9_readsPolicy 0 = .ok (.aload_n 0, 1) := by decide +kernel
theorem dX9_readsPolicy_1 : decode cX9_readsPolicy 1 = .ok (.getfield 13, 3) := by decide +kernel
theorem dX9_readsPolicy_4 : decode cX9_readsPolicy 4 = .ok (.iconst 1, 1) := by decide +kernel
theorem dX9_readsPolicy_5 : decode cX9_readsPolicy 5 = .ok (.iaload, 1) := by decide +kernel
theorem dX9_readsPolicy_6 : decode cX9_readsPolicy 6 = .ok (.invokestatic 90, 3) := by decide +kernel
theorem dX9_readsPolicy_9 : decode cX9_readsPolicy 9 = .ok (.istore_n 1, 1) := by decide +kernel
theorem dX9_readsPolicy_10 : decode cX9_readsPolicy 10 = .ok (.aload_n 0, 1) := by decide +kernel
theorem dX9_readsPolicy_11 : decode cX9_readsPolicy 11 = .ok (.getfield 13, 3) := by decide +kernel
theorem dX9_readsPolicy_14 : decode cX9_readsPolicy 14 = .ok (.iload_n 1, 1) := by decide +kernel
theorem dX9_readsPolicy_15 : decode cX9_readsPolicy 15 = .ok (.iconst 0, 1) := by decide +kernel
theorem dX9_readsPolicy_16 : decode cX9_readsPolicy 16 = .ok (.iadd, 1) := by decide +kernel
theorem dX9_readsPolicy_17 : decode cX9_readsPolicy 17 = .ok (.aload_n 0, 1) := by decide +kernel
theorem dX9_readsPolicy_18 : decode cX9_readsPolicy 18 = .ok (.iconst 0, 1) := by decide +kernel
theorem dX9_readsPolicy_19 : decode cX9_readsPolicy 19 = .ok (.aload_n 0, 1) := by decide +kernel
theorem dX9_readsPolicy_20 : decode cX9_readsPolicy 20 = .ok (.getfield 13, 3) := by decide +kernel
theorem dX9_readsPolicy_23 : decode cX9_readsPolicy 23 = .ok (.iconst 0, 1) := by decide +kernel
theorem dX9_readsPolicy_24 : decode cX9_readsPolicy 24 = .ok (.iaload, 1) := by decide +kernel
theorem dX9_readsPolicy_25 : decode cX9_readsPolicy 25 = .ok (.iconst 1, 1) := by decide +kernel
theorem dX9_readsPolicy_26 : decode cX9_readsPolicy 26 = .ok (.isub, 1) := by decide +kernel
theorem dX9_readsPolicy_27 : decode cX9_readsPolicy 27 = .ok (.invokevirtual 86, 3) := by decide +kernel
theorem dX9_readsPolicy_30 : decode cX9_readsPolicy 30 = .ok (.iastore, 1) := by decide +kernel
theorem dX9_readsPolicy_31 : decode cX9_readsPolicy 31 = .ok (.aload_n 0, 1) := by decide +kernel
theorem dX9_readsPolicy_32 : decode cX9_readsPolicy 32 = .ok (.getfield 13, 3) := by decide +kernel
theorem dX9_readsPolicy_35 : decode cX9_readsPolicy 35 = .ok (.iload_n 1, 1) := by decide +kernel
theorem dX9_readsPolicy_36 : decode cX9_readsPolicy 36 = .ok (.iconst 1, 1) := by decide +kernel
theorem dX9_readsPolicy_37 : decode cX9_readsPolicy 37 = .ok (.iadd, 1) := by decide +kernel
theorem dX9_readsPolicy_38 : decode cX9_readsPolicy 38 = .ok (.aload_n 0, 1) := by decide +kernel
theorem dX9_readsPolicy_39 : decode cX9_readsPolicy 39 = .ok (.iconst 1, 1) := by decide +kernel
theorem dX9_readsPolicy_40 : decode cX9_readsPolicy 40 = .ok (.bipush 15, 2) := by decide +kernel
theorem dX9_readsPolicy_42 : decode cX9_readsPolicy 42 = .ok (.invokevirtual 86, 3) := by decide +kernel
theorem dX9_readsPolicy_45 : decode cX9_readsPolicy 45 = .ok (.iastore, 1) := by decide +kernel
theorem dX9_readsPolicy_46 : decode cX9_readsPolicy 46 = .ok (.aload_n 0, 1) := by decide +kernel
theorem dX9_readsPolicy_47 : decode cX9_readsPolicy 47 = .ok (.getfield 13, 3) := by decide +kernel
theorem dX9_readsPolicy_50 : decode cX9_readsPolicy 50 = .ok (.iload_n 1, 1) := by decide +kernel
theorem dX9_readsPolicy_51 : decode cX9_readsPolicy 51 = .ok (.iconst 2, 1) := by decide +kernel
theorem dX9_readsPolicy_52 : decode cX9_readsPolicy 52 = .ok (.iadd, 1) := by decide +kernel
theorem dX9_readsPolicy_53 : decode cX9_readsPolicy 53 = .ok (.aload_n 0, 1) := by decide +kernel
theorem dX9_readsPolicy_54 : decode cX9_readsPolicy 54 = .ok (.iconst 1, 1) := by decide +kernel
theorem dX9_readsPolicy_55 : decode cX9_readsPolicy 55 = .ok (.bipush 30, 2) := by decide +kernel
theorem dX9_readsPolicy_57 : decode cX9_readsPolicy 57 = .ok (.invokevirtual 86, 3) := by decide +kernel
theorem dX9_readsPolicy_60 : decode cX9_readsPolicy 60 = .ok (.iastore, 1) := by decide +kernel
theorem dX9_readsPolicy_61 : decode cX9_readsPolicy 61 = .ok (.aload_n 0, 1) := by decide +kernel
theorem dX9_readsPolicy_62 : decode cX9_readsPolicy 62 = .ok (.getfield 13, 3) := by decide +kernel
theorem dX9_readsPolicy_65 : decode cX9_readsPolicy 65 = .ok (.iload_n 1, 1) := by decide +kernel
theorem dX9_readsPolicy_66 : decode cX9_readsPolicy 66 = .ok (.iconst 3, 1) := by decide +kernel
theorem dX9_readsPolicy_67 : decode cX9_readsPolicy 67 = .ok (.iadd, 1) := by decide +kernel
theorem dX9_readsPolicy_68 : decode cX9_readsPolicy 68 = .ok (.aload_n 0, 1) := by decide +kernel
theorem dX9_readsPolicy_69 : decode cX9_readsPolicy 69 = .ok (.iconst 0, 1) := by decide +kernel
theorem dX9_readsPolicy_70 : decode cX9_readsPolicy 70 = .ok (.sipush 999, 3) := by decide +kernel
theorem dX9_readsPolicy_73 : decode cX9_readsPolicy 73 = .ok (.invokevirtual 86, 3) := by decide +kernel
theorem dX9_readsPolicy_76 : decode cX9_readsPolicy 76 = .ok (.iastore, 1) := by decide +kernel
theorem dX9_readsPolicy_77 : decode cX9_readsPolicy 77 = .ok (.aload_n 0, 1) := by decide +kernel
theorem dX9_readsPolicy_78 : decode cX9_readsPolicy 78 = .ok (.getfield 13, 3) := by decide +kernel
theorem dX9_readsPolicy_81 : decode cX9_readsPolicy 81 = .ok (.iload_n 1, 1) := by decide +kernel
theorem dX9_readsPolicy_82 : decode cX9_readsPolicy 82 = .ok (.iconst 4, 1) := by decide +kernel
theorem dX9_readsPolicy_83 : decode cX9_readsPolicy 83 = .ok (.iadd, 1) := by decide +kernel
theorem dX9_readsPolicy_84 : decode cX9_readsPolicy 84 = .ok (.aload_n 0, 1) := by decide +kernel
theorem dX9_readsPolicy_85 : decode cX9_readsPolicy 85 = .ok (.iconst 0, 1) := by decide +kernel
theorem dX9_readsPolicy_86 : decode cX9_readsPolicy 86 = .ok (.sipush 999, 3) := by decide +kernel
theorem dX9_readsPolicy_89 : decode cX9_readsPolicy 89 = .ok (.invokevirtual 86, 3) := by decide +kernel
theorem dX9_readsPolicy_92 : decode cX9_readsPolicy 92 = .ok (.iastore, 1) := by decide +kernel
theorem dX9_readsPolicy_93 : decode cX9_readsPolicy 93 = .ok (.aload_n 0, 1) := by decide +kernel
theorem dX9_readsPolicy_94 : decode cX9_readsPolicy 94 = .ok (.getfield 13, 3) := by decide +kernel
theorem dX9_readsPolicy_97 : decode cX9_readsPolicy 97 = .ok (.iload_n 1, 1) := by decide +kernel
theorem dX9_readsPolicy_98 : decode cX9_readsPolicy 98 = .ok (.iconst 5, 1) := by decide +kernel
theorem dX9_readsPolicy_99 : decode cX9_readsPolicy 99 = .ok (.iadd, 1) := by decide +kernel
theorem dX9_readsPolicy_100 : decode cX9_readsPolicy 100 = .ok (.iconst 0, 1) := by decide +kernel
theorem dX9_readsPolicy_101 : decode cX9_readsPolicy 101 = .ok (.iastore, 1) := by decide +kernel
theorem dX9_readsPolicy_102 : decode cX9_readsPolicy 102 = .ok (.aload_n 0, 1) := by decide +kernel
theorem dX9_readsPolicy_103 : decode cX9_readsPolicy 103 = .ok (.getfield 13, 3) := by decide +kernel
theorem dX9_readsPolicy_106 : decode cX9_readsPolicy 106 = .ok (.iload_n 1, 1) := by decide +kernel
theorem dX9_readsPolicy_107 : decode cX9_readsPolicy 107 = .ok (.bipush 6, 2) := by decide +kernel
theorem dX9_readsPolicy_109 : decode cX9_readsPolicy 109 = .ok (.iadd, 1) := by decide +kernel
theorem dX9_readsPolicy_110 : decode cX9_readsPolicy 110 = .ok (.iconst 0, 1) := by decide +kernel
theorem dX9_readsPolicy_111 : decode cX9_readsPolicy 111 = .ok (.iastore, 1) := by decide +kernel
theorem dX9_readsPolicy_112 : decode cX9_readsPolicy 112 = .ok (.aload_n 0, 1) := by decide +kernel
theorem dX9_readsPolicy_113 : decode cX9_readsPolicy 113 = .ok (.getfield 13, 3) := by decide +kernel
theorem dX9_readsPolicy_116 : decode cX9_readsPolicy 116 = .ok (.iconst 1, 1) := by decide +kernel
theorem dX9_readsPolicy_117 : decode cX9_readsPolicy 117 = .ok (.dup2, 1) := by decide +kernel
theorem dX9_readsPolicy_118 : decode cX9_readsPolicy 118 = .ok (.iaload, 1) := by decide +kernel
theorem dX9_readsPolicy_119 : decode cX9_readsPolicy 119 = .ok (.iconst 1, 1) := by decide +kernel
theorem dX9_readsPolicy_120 : decode cX9_readsPolicy 120 = .ok (.iadd, 1) := by decide +kernel
theorem dX9_readsPolicy_121 : decode cX9_readsPolicy 121 = .ok (.iastore, 1) := by decide +kernel
theorem dX9_readsPolicy_122 : decode cX9_readsPolicy 122 = .ok (.return_, 1) := by decide +kernel
theorem dX9_readsClause_0 : decode cX9_readsClause 0 = .ok (.aload_n 0, 1) := by decide +kernel
theorem dX9_readsClause_1 : decode cX9_readsClause 1 = .ok (.invokevirtual 74, 3) := by decide +kernel
theorem dX9_readsClause_4 : decode cX9_readsClause 4 = .ok (.istore_n 2, 1) := by decide +kernel
theorem dX9_readsClause_5 : decode cX9_readsClause 5 = .ok (.iload_n 2, 1) := by decide +kernel
theorem dX9_readsClause_6 : decode cX9_readsClause 6 = .ok (.bipush 111, 2) := by decide +kernel
theorem dX9_readsClause_8 : decode cX9_readsClause 8 = .ok (.if_icmp .eq 19, 3) := by decide +kernel
theorem dX9_readsClause_11 : decode cX9_readsClause 11 = .ok (.iload_n 1, 1) := by decide +kernel
theorem dX9_readsClause_12 : decode cX9_readsClause 12 = .ok (.ifCond .eq 19, 3) := by decide +kernel
theorem dX9_readsClause_15 : decode cX9_readsClause 15 = .ok (.iload_n 2, 1) := by decide +kernel
theorem dX9_readsClause_16 : decode cX9_readsClause 16 = .ok (.bipush 108, 2) := by decide +kernel
theorem dX9_readsClause_18 : decode cX9_readsClause 18 = .ok (.if_icmp .eq 9, 3) := by decide +kernel
theorem dX9_readsClause_21 : decode cX9_readsClause 21 = .ok (.iload_n 2, 1) := by decide +kernel
theorem dX9_readsClause_22 : decode cX9_readsClause 22 = .ok (.bipush 112, 2) := by decide +kernel
theorem dX9_readsClause_24 : decode cX9_readsClause 24 = .ok (.if_icmp .ne 7, 3) := by decide +kernel
theorem dX9_readsClause_27 : decode cX9_readsClause 27 = .ok (.iconst 1, 1) := by decide +kernel
theorem dX9_readsClause_28 : decode cX9_readsClause 28 = .ok (.goto 4, 3) := by decide +kernel
theorem dX9_readsClause_31 : decode cX9_readsClause 31 = .ok (.iconst 0, 1) := by decide +kernel
theorem dX9_readsClause_32 : decode cX9_readsClause 32 = .ok (.istore_n 3, 1) := by decide +kernel
theorem dX9_readsClause_33 : decode cX9_readsClause 33 = .ok (.iload_n 2, 1) := by decide +kernel
theorem dX9_readsClause_34 : decode cX9_readsClause 34 = .ok (.bipush 111, 2) := by decide +kernel
theorem dX9_readsClause_36 : decode cX9_readsClause 36 = .ok (.if_icmp .ne 7, 3) := by decide +kernel
theorem dX9_readsClause_39 : decode cX9_readsClause 39 = .ok (.iload_n 1, 1) := by decide +kernel
theorem dX9_readsClause_40 : decode cX9_readsClause 40 = .ok (.goto 43, 3) := by decide +kernel
theorem dX9_readsClause_43 : decode cX9_readsClause 43 = .ok (.iload_n 2, 1) := by decide +kernel
theorem dX9_readsClause_44 : decode cX9_readsClause 44 = .ok (.bipush 108, 2) := by decide +kernel
theorem dX9_readsClause_46 : decode cX9_readsClause 46 = .ok (.if_icmp .ne 21, 3) := by decide +kernel
theorem dX9_readsClause_49 : decode cX9_readsClause 49 = .ok (.aload_n 0, 1) := by decide +kernel
theorem dX9_readsClause_50 : decode cX9_readsClause 50 = .ok (.getfield 13, 3) := by decide +kernel
theorem dX9_readsClause_53 : decode cX9_readsClause 53 = .ok (.iconst 0, 1) := by decide +kernel
theorem dX9_readsClause_54 : decode cX9_readsClause 54 = .ok (.iaload, 1) := by decide +kernel
theorem dX9_readsClause_55 : decode cX9_readsClause 55 = .ok (.iconst 4, 1) := by decide +kernel
theorem dX9_readsClause_56 : decode cX9_readsClause 56 = .ok (.if_icmp .ne 7, 3) := by decide +kernel
theorem dX9_readsClause_59 : decode cX9_readsClause 59 = .ok (.iconst 1, 1) := by decide +kernel
theorem dX9_readsClause_60 : decode cX9_readsClause 60 = .ok (.goto 23, 3) := by decide +kernel
theorem dX9_readsClause_63 : decode cX9_readsClause 63 = .ok (.iconst 0, 1) := by decide +kernel
theorem dX9_readsClause_64 : decode cX9_readsClause 64 = .ok (.goto 19, 3) := by decide +kernel
theorem dX9_readsClause_67 : decode cX9_readsClause 67 = .ok (.aload_n 0, 1) := by decide +kernel
theorem dX9_readsClause_68 : decode cX9_readsClause 68 = .ok (.getfield 13, 3) := by decide +kernel
theorem dX9_readsClause_71 : decode cX9_readsClause 71 = .ok (.iconst 1, 1) := by decide +kernel
theorem dX9_readsClause_72 : decode cX9_readsClause 72 = .ok (.iaload, 1) := by decide +kernel
theorem dX9_readsClause_73 : decode cX9_readsClause 73 = .ok (.bipush 6, 2) := by decide +kernel
theorem dX9_readsClause_75 : decode cX9_readsClause 75 = .ok (.if_icmp .ne 7, 3) := by decide +kernel
theorem dX9_readsClause_78 : decode cX9_readsClause 78 = .ok (.iconst 1, 1) := by decide +kernel
theorem dX9_readsClause_79 : decode cX9_readsClause 79 = .ok (.goto 4, 3) := by decide +kernel
theorem dX9_readsClause_82 : decode cX9_readsClause 82 = .ok (.iconst 0, 1) := by decide +kernel
theorem dX9_readsClause_83 : decode cX9_readsClause 83 = .ok (.istore 4, 2) := by decide +kernel
theorem dX9_readsClause_85 : decode cX9_readsClause 85 = .ok (.iload_n 3, 1) := by decide +kernel
theorem dX9_readsClause_86 : decode cX9_readsClause 86 = .ok (.ifCond .eq 8, 3) := by decide +kernel
theorem dX9_readsClause_89 : decode cX9_readsClause 89 = .ok (.iload 4, 2) := by decide +kernel
theorem dX9_readsClause_91 : decode cX9_readsClause 91 = .ok (.ifCond .eq 21, 3) := by decide +kernel
theorem dX9_readsClause_94 : decode cX9_readsClause 94 = .ok (.aload_n 0, 1) := by decide +kernel
theorem dX9_readsClause_95 : decode cX9_readsClause 95 = .ok (.aload_n 0, 1) := by decide +kernel
theorem dX9_readsClause_96 : decode cX9_readsClause 96 = .ok (.getfield 64, 3) := by decide +kernel
theorem dX9_readsClause_99 : decode cX9_readsClause 99 = .ok (.iload_n 3, 1) := by decide +kernel
theorem dX9_readsClause_100 : decode cX9_readsClause 100 = .ok (.ifCond .eq 7, 3) := by decide +kernel
theorem dX9_readsClause_103 : decode cX9_readsClause 103 = .ok (.iconst 3, 1) := by decide +kernel
theorem dX9_readsClause_104 : decode cX9_readsClause 104 = .ok (.goto 4, 3) := by decide +kernel
theorem dX9_readsClause_107 : decode cX9_readsClause 107 = .ok (.iconst 1, 1) := by decide +kernel
theorem dX9_readsClause_108 : decode cX9_readsClause 108 = .ok (.invokevirtual 78, 3) := by decide +kernel
theorem dX9_readsClause_111 : decode cX9_readsClause 111 = .ok (.return_, 1) := by decide +kernel
theorem dX9_readsClause_112 : decode cX9_readsClause 112 = .ok (.aload_n 0, 1) := by decide +kernel
theorem dX9_readsClause_113 : decode cX9_readsClause 113 = .ok (.dup, 1) := by decide +kernel
theorem dX9_readsClause_114 : decode cX9_readsClause 114 = .ok (.getfield 64, 3) := by decide +kernel
theorem dX9_readsClause_117 : decode cX9_readsClause 117 = .ok (.iconst 1, 1) := by decide +kernel
theorem dX9_readsClause_118 : decode cX9_readsClause 118 = .ok (.iadd, 1) := by decide +kernel
theorem dX9_readsClause_119 : decode cX9_readsClause 119 = .ok (.putfield 64, 3) := by decide +kernel
theorem dX9_readsClause_122 : decode cX9_readsClause 122 = .ok (.iload_n 2, 1) := by decide +kernel
theorem dX9_readsClause_123 : decode cX9_readsClause 123 = .ok (.bipush 111, 2) := by decide +kernel
theorem dX9_readsClause_125 : decode cX9_readsClause 125 = .ok (.if_icmp .ne 20, 3) := by decide +kernel
theorem dX9_readsClause_128 : decode cX9_readsClause 128 = .ok (.aload_n 0, 1) := by decide +kernel
theorem dX9_readsClause_129 : decode cX9_readsClause 129 = .ok (.getfield 13, 3) := by decide +kernel
theorem dX9_readsClause_132 : decode cX9_readsClause 132 = .ok (.iconst 3, 1) := by decide +kernel
theorem dX9_readsClause_133 : decode cX9_readsClause 133 = .ok (.aload_n 0, 1) := by decide +kernel
theorem dX9_readsClause_134 : decode cX9_readsClause 134 = .ok (.iconst 0, 1) := by decide +kernel
theorem dX9_readsClause_135 : decode cX9_readsClause 135 = .ok (.sipush 999, 3) := by decide +kernel
theorem dX9_readsClause_138 : decode cX9_readsClause 138 = .ok (.invokevirtual 86, 3) := by decide +kernel
theorem dX9_readsClause_141 : decode cX9_readsClause 141 = .ok (.iastore, 1) := by decide +kernel
theorem dX9_readsClause_142 : decode cX9_readsClause 142 = .ok (.goto 20, 3) := by decide +kernel
theorem dX9_readsClause_145 : decode cX9_readsClause 145 = .ok (.iload_n 2, 1) := by decide +kernel
theorem dX9_readsClause_146 : decode cX9_readsClause 146 = .ok (.bipush 108, 2) := by decide +kernel
theorem dX9_readsClause_148 : decode cX9_readsClause 148 = .ok (.if_icmp .ne 10, 3) := by decide +kernel
theorem dX9_readsClause_151 : decode cX9_readsClause 151 = .ok (.aload_n 0, 1) := by decide +kernel
theorem dX9_readsClause_152 : decode cX9_readsClause 152 = .ok (.invokevirtual 93, 3) := by decide +kernel
theorem dX9_readsClause_155 : decode cX9_readsClause 155 = .ok (.goto 7, 3) := by decide +kernel
theorem dX9_readsClause_158 : decode cX9_readsClause 158 = .ok (.aload_n 0, 1) := by decide +kernel
theorem dX9_readsClause_159 : decode cX9_readsClause 159 = .ok (.invokevirtual 96, 3) := by decide +kernel
theorem dX9_readsClause_162 : decode cX9_readsClause 162 = .ok (.aload_n 0, 1) := by decide +kernel
theorem dX9_readsClause_163 : decode cX9_readsClause 163 = .ok (.invokevirtual 99, 3) := by decide +kernel
theorem dX9_readsClause_166 : decode cX9_readsClause 166 = .ok (.return_, 1) := by decide +kernel
theorem dX9_office_0 : decode cX9_office 0 = .ok (.iconst 0, 1) := by decide +kernel
theorem dX9_office_1 : decode cX9_office 1 = .ok (.istore_n 1, 1) := by decide +kernel
theorem dX9_office_2 : decode cX9_office 2 = .ok (.iload_n 1, 1) := by decide +kernel
theorem dX9_office_3 : decode cX9_office 3 = .ok (.bipush 74, 2) := by decide +kernel
theorem dX9_office_5 : decode cX9_office 5 = .ok (.if_icmp .ge 16, 3) := by decide +kernel
theorem dX9_office_8 : decode cX9_office 8 = .ok (.aload_n 0, 1) := by decide +kernel
theorem dX9_office_9 : decode cX9_office 9 = .ok (.getfield 13, 3) := by decide +kernel
theorem dX9_office_12 : decode cX9_office 12 = .ok (.iload_n 1, 1) := by decide +kernel
theorem dX9_office_13 : decode cX9_office 13 = .ok (.iconst 0, 1) := by decide +kernel
theorem dX9_office_14 : decode cX9_office 14 = .ok (.iastore, 1) := by decide +kernel
theorem dX9_office_15 : decode cX9_office 15 = .ok (.iinc 1 1, 3) := by decide +kernel
theorem dX9_office_18 : decode cX9_office 18 = .ok (.goto (-16), 3) := by decide +kernel
theorem dX9_office_21 : decode cX9_office 21 = .ok (.aload_n 0, 1) := by decide +kernel
theorem dX9_office_22 : decode cX9_office 22 = .ok (.iconst 0, 1) := by decide +kernel
theorem dX9_office_23 : decode cX9_office 23 = .ok (.putfield 64, 3) := by decide +kernel
theorem dX9_office_26 : decode cX9_office 26 = .ok (.aload_n 0, 1) := by decide +kernel
theorem dX9_office_27 : decode cX9_office 27 = .ok (.iconst 0, 1) := by decide +kernel
theorem dX9_office_28 : decode cX9_office 28 = .ok (.putfield 67, 3) := by decide +kernel
theorem dX9_office_31 : decode cX9_office 31 = .ok (.iconst 0, 1) := by decide +kernel
theorem dX9_office_32 : decode cX9_office 32 = .ok (.istore_n 1, 1) := by decide +kernel
theorem dX9_office_33 : decode cX9_office 33 = .ok (.aload_n 0, 1) := by decide +kernel
theorem dX9_office_34 : decode cX9_office 34 = .ok (.invokevirtual 70, 3) := by decide +kernel
theorem dX9_office_37 : decode cX9_office 37 = .ok (.ifCond .eq 20, 3) := by decide +kernel
theorem dX9_office_40 : decode cX9_office 40 = .ok (.aload_n 0, 1) := by decide +kernel
theorem dX9_office_41 : decode cX9_office 41 = .ok (.invokevirtual 74, 3) := by decide +kernel
theorem dX9_office_44 : decode cX9_office 44 = .ok (.ifCond .lt 13, 3) := by decide +kernel
theorem dX9_office_47 : decode cX9_office 47 = .ok (.aload_n 0, 1) := by decide +kernel
theorem dX9_office_48 : decode cX9_office 48 = .ok (.iload_n 1, 1) := by decide +kernel
theorem dX9_office_49 : decode cX9_office 49 = .ok (.invokevirtual 102, 3) := by decide +kernel
theorem dX9_office_52 : decode cX9_office 52 = .ok (.iconst 1, 1) := by decide +kernel
theorem dX9_office_53 : decode cX9_office 53 = .ok (.istore_n 1, 1) := by decide +kernel
theorem dX9_office_54 : decode cX9_office 54 = .ok (.goto (-21), 3) := by decide +kernel
theorem dX9_office_57 : decode cX9_office 57 = .ok (.aload_n 0, 1) := by decide +kernel
theorem dX9_office_58 : decode cX9_office 58 = .ok (.iconst 0, 1) := by decide +kernel
theorem dX9_office_59 : decode cX9_office 59 = .ok (.putfield 60, 3) := by decide +kernel
theorem dX9_office_62 : decode cX9_office 62 = .ok (.aload_n 0, 1) := by decide +kernel
theorem dX9_office_63 : decode cX9_office 63 = .ok (.invokevirtual 70, 3) := by decide +kernel
theorem dX9_office_66 : decode cX9_office 66 = .ok (.ifCond .ne 22, 3) := by decide +kernel
theorem dX9_office_69 : decode cX9_office 69 = .ok (.aload_n 0, 1) := by decide +kernel
theorem dX9_office_70 : decode cX9_office 70 = .ok (.aload_n 0, 1) := by decide +kernel
theorem dX9_office_71 : decode cX9_office 71 = .ok (.getfield 13, 3) := by decide +kernel
theorem dX9_office_74 : decode cX9_office 74 = .ok (.bipush 7, 2) := by decide +kernel
theorem dX9_office_76 : decode cX9_office 76 = .ok (.iaload, 1) := by decide +kernel
theorem dX9_office_77 : decode cX9_office 77 = .ok (.putfield 51, 3) := by decide +kernel
theorem dX9_office_80 : decode cX9_office 80 = .ok (.bipush (-10), 2) := by decide +kernel
theorem dX9_office_82 : decode cX9_office 82 = .ok (.aload_n 0, 1) := by decide +kernel
theorem dX9_office_83 : decode cX9_office 83 = .ok (.getfield 67, 3) := by decide +kernel
theorem dX9_office_86 : decode cX9_office 86 = .ok (.isub, 1) := by decide +kernel
theorem dX9_office_87 : decode cX9_office 87 = .ok (.ireturn, 1) := by decide +kernel
theorem dX9_office_88 : decode cX9_office 88 = .ok (.aload_n 0, 1) := by decide +kernel
theorem dX9_office_89 : decode cX9_office 89 = .ok (.iconst (-1), 1) := by decide +kernel
theorem dX9_office_90 : decode cX9_office 90 = .ok (.putfield 51, 3) := by decide +kernel
theorem dX9_office_93 : decode cX9_office 93 = .ok (.aload_n 0, 1) := by decide +kernel
theorem dX9_office_94 : decode cX9_office 94 = .ok (.getfield 13, 3) := by decide +kernel
theorem dX9_office_97 : decode cX9_office 97 = .ok (.bipush 6, 2) := by decide +kernel
theorem dX9_office_99 : decode cX9_office 99 = .ok (.iconst (-1), 1) := by decide +kernel
theorem dX9_office_100 : decode cX9_office 100 = .ok (.iastore, 1) := by decide +kernel
theorem dX9_office_101 : decode cX9_office 101 = .ok (.aload_n 0, 1) := by decide +kernel
theorem dX9_office_102 : decode cX9_office 102 = .ok (.getfield 13, 3) := by decide +kernel
theorem dX9_office_105 : decode cX9_office 105 = .ok (.bipush 7, 2) := by decide +kernel
theorem dX9_office_107 : decode cX9_office 107 = .ok (.aload_n 0, 1) := by decide +kernel
theorem dX9_office_108 : decode cX9_office 108 = .ok (.getfield 7, 3) := by decide +kernel
theorem dX9_office_111 : decode cX9_office 111 = .ok (.bipush 7, 2) := by decide +kernel
theorem dX9_office_113 : decode cX9_office 113 = .ok (.iaload, 1) := by decide +kernel
theorem dX9_office_114 : decode cX9_office 114 = .ok (.iastore, 1) := by decide +kernel
theorem dX9_office_115 : decode cX9_office 115 = .ok (.aload_n 0, 1) := by decide +kernel
theorem dX9_office_116 : decode cX9_office 116 = .ok (.getfield 13, 3) := by decide +kernel
theorem dX9_office_119 : decode cX9_office 119 = .ok (.iconst 0, 1) := by decide +kernel
theorem dX9_office_120 : decode cX9_office 120 = .ok (.aload_n 0, 1) := by decide +kernel
theorem dX9_office_121 : decode cX9_office 121 = .ok (.getfield 7, 3) := by decide +kernel
theorem dX9_office_124 : decode cX9_office 124 = .ok (.iconst 0, 1) := by decide +kernel
theorem dX9_office_125 : decode cX9_office 125 = .ok (.invokestatic 106, 3) := by decide +kernel
theorem dX9_office_128 : decode cX9_office 128 = .ok (.aload_n 0, 1) := by decide +kernel
theorem dX9_office_129 : decode cX9_office 129 = .ok (.iconst 0, 1) := by decide +kernel
theorem dX9_office_130 : decode cX9_office 130 = .ok (.putfield 110, 3) := by decide +kernel
theorem dX9_office_133 : decode cX9_office 133 = .ok (.aload_n 0, 1) := by decide +kernel
theorem dX9_office_134 : decode cX9_office 134 = .ok (.getfield 25, 3) := by decide +kernel
theorem dX9_office_137 : decode cX9_office 137 = .ok (.iconst 0, 1) := by decide +kernel
theorem dX9_office_138 : decode cX9_office 138 = .ok (.iconst 0, 1) := by decide +kernel
theorem dX9_office_139 : decode cX9_office 139 = .ok (.bastore, 1) := by decide +kernel
theorem dX9_office_140 : decode cX9_office 140 = .ok (.aload_n 0, 1) := by decide +kernel
theorem dX9_office_141 : decode cX9_office 141 = .ok (.getfield 25, 3) := by decide +kernel
theorem dX9_office_144 : decode cX9_office 144 = .ok (.iconst 1, 1) := by decide +kernel
theorem dX9_office_145 : decode cX9_office 145 = .ok (.iconst 0, 1) := by decide +kernel
theorem dX9_office_146 : decode cX9_office 146 = .ok (.bastore, 1) := by decide +kernel
theorem dX9_office_147 : decode cX9_office 147 = .ok (.aload_n 0, 1) := by decide +kernel
theorem dX9_office_148 : decode cX9_office 148 = .ok (.invokevirtual 113, 3) := by decide +kernel
theorem dX9_office_151 : decode cX9_office 151 = .ok (.pop, 1) := by decide +kernel
theorem dX9_office_152 : decode cX9_office 152 = .ok (.aload_n 0, 1) := by decide +kernel
theorem dX9_office_153 : decode cX9_office 153 = .ok (.getfield 7, 3) := by decide +kernel
theorem dX9_office_156 : decode cX9_office 156 = .ok (.iconst 1, 1) := by decide +kernel
theorem dX9_office_157 : decode cX9_office 157 = .ok (.iaload, 1) := by decide +kernel
theorem dX9_office_158 : decode cX9_office 158 = .ok (.ireturn, 1) := by decide +kernel
theorem dX9_fault_0 : decode cX9_fault 0 = .ok (.aload_n 0, 1) := by decide +kernel
theorem dX9_fault_1 : decode cX9_fault 1 = .ok (.getfield 51, 3) := by decide +kernel
theorem dX9_fault_4 : decode cX9_fault 4 = .ok (.ireturn, 1) := by decide +kernel
theorem dX9_lapsed_0 : decode cX9_lapsed 0 = .ok (.iconst 0, 1) := by decide +kernel
theorem dX9_lapsed_1 : decode cX9_lapsed 1 = .ok (.istore_n 1, 1) := by decide +kernel
theorem dX9_lapsed_2 : decode cX9_lapsed 2 = .ok (.iconst 0, 1) := by decide +kernel
theorem dX9_lapsed_3 : decode cX9_lapsed 3 = .ok (.istore_n 2, 1) := by decide +kernel
theorem dX9_lapsed_4 : decode cX9_lapsed 4 = .ok (.iload_n 2, 1) := by decide +kernel
theorem dX9_lapsed_5 : decode cX9_lapsed 5 = .ok (.aload_n 0, 1) := by decide +kernel
theorem dX9_lapsed_6 : decode cX9_lapsed 6 = .ok (.getfield 7, 3) := by decide +kernel
theorem dX9_lapsed_9 : decode cX9_lapsed 9 = .ok (.iconst 1, 1) := by decide +kernel
theorem dX9_lapsed_10 : decode cX9_lapsed 10 = .ok (.iaload, 1) := by decide +kernel
theorem dX9_lapsed_11 : decode cX9_lapsed 11 = .ok (.if_icmp .ge 26, 3) := by decide +kernel
theorem dX9_lapsed_14 : decode cX9_lapsed 14 = .ok (.iload_n 1, 1) := by decide +kernel
theorem dX9_lapsed_15 : decode cX9_lapsed 15 = .ok (.aload_n 0, 1) := by decide +kernel
theorem dX9_lapsed_16 : decode cX9_lapsed 16 = .ok (.getfield 7, 3) := by decide +kernel
theorem dX9_lapsed_19 : decode cX9_lapsed 19 = .ok (.iload_n 2, 1) := by decide +kernel
theorem dX9_lapsed_20 : decode cX9_lapsed 20 = .ok (.invokestatic 90, 3) := by decide +kernel
theorem dX9_lapsed_23 : decode cX9_lapsed 23 = .ok (.bipush 6, 2) := by decide +kernel
theorem dX9_lapsed_25 : decode cX9_lapsed 25 = .ok (.iadd, 1) := by decide +kernel
theorem dX9_lapsed_26 : decode cX9_lapsed 26 = .ok (.iaload, 1) := by decide +kernel
theorem dX9_lapsed_27 : decode cX9_lapsed 27 = .ok (.iload_n 2, 1) := by decide +kernel
theorem dX9_lapsed_28 : decode cX9_lapsed 28 = .ok (.ishl, 1) := by decide +kernel
theorem dX9_lapsed_29 : decode cX9_lapsed 29 = .ok (.ior, 1) := by decide +kernel
theorem dX9_lapsed_30 : decode cX9_lapsed 30 = .ok (.istore_n 1, 1) := by decide +kernel
theorem dX9_lapsed_31 : decode cX9_lapsed 31 = .ok (.iinc 2 1, 3) := by decide +kernel
theorem dX9_lapsed_34 : decode cX9_lapsed 34 = .ok (.goto (-30), 3) := by decide +kernel
theorem dX9_lapsed_37 : decode cX9_lapsed 37 = .ok (.iload_n 1, 1) := by decide +kernel
theorem dX9_lapsed_38 : decode cX9_lapsed 38 = .ok (.ireturn, 1) := by decide +kernel
theorem dX9_told_0 : decode cX9_told 0 = .ok (.iload_n 1, 1) := by decide +kernel
theorem dX9_told_1 : decode cX9_told 1 = .ok (.tableswitch 140 0 12 #[67, 67, 74, 79, 86, 93, 100, 107, 115, 120, 125, 130, 135], 67) := by decide +kernel
theorem dX9_told_68 : decode cX9_told 68 = .ok (.aload_n 0, 1) := by decide +kernel
theorem dX9_told_69 : decode cX9_told 69 = .ok (.getfield 7, 3) := by decide +kernel
theorem dX9_told_72 : decode cX9_told 72 = .ok (.iload_n 1, 1) := by decide +kernel
theorem dX9_told_73 : decode cX9_told 73 = .ok (.iaload, 1) := by decide +kernel
theorem dX9_told_74 : decode cX9_told 74 = .ok (.ireturn, 1) := by decide +kernel
theorem dX9_told_75 : decode cX9_told 75 = .ok (.aload_n 0, 1) := by decide +kernel
theorem dX9_told_76 : decode cX9_told 76 = .ok (.getfield 60, 3) := by decide +kernel
theorem dX9_told_79 : decode cX9_told 79 = .ok (.ireturn, 1) := by decide +kernel
theorem dX9_told_80 : decode cX9_told 80 = .ok (.aload_n 0, 1) := by decide +kernel
theorem dX9_told_81 : decode cX9_told 81 = .ok (.getfield 7, 3) := by decide +kernel
theorem dX9_told_84 : decode cX9_told 84 = .ok (.iconst 2, 1) := by decide +kernel
theorem dX9_told_85 : decode cX9_told 85 = .ok (.iaload, 1) := by decide +kernel
theorem dX9_told_86 : decode cX9_told 86 = .ok (.ireturn, 1) := by decide +kernel
theorem dX9_told_87 : decode cX9_told 87 = .ok (.aload_n 0, 1) := by decide +kernel
theorem dX9_told_88 : decode cX9_told 88 = .ok (.getfield 7, 3) := by decide +kernel
theorem dX9_told_91 : decode cX9_told 91 = .ok (.iconst 3, 1) := by decide +kernel
theorem dX9_told_92 : decode cX9_told 92 = .ok (.iaload, 1) := by decide +kernel
theorem dX9_told_93 : decode cX9_told 93 = .ok (.ireturn, 1) := by decide +kernel
theorem dX9_told_94 : decode cX9_told 94 = .ok (.aload_n 0, 1) := by decide +kernel
theorem dX9_told_95 : decode cX9_told 95 = .ok (.getfield 7, 3) := by decide +kernel
theorem dX9_told_98 : decode cX9_told 98 = .ok (.iconst 4, 1) := by decide +kernel
theorem dX9_told_99 : decode cX9_told 99 = .ok (.iaload, 1) := by decide +kernel
theorem dX9_told_100 : decode cX9_told 100 = .ok (.ireturn, 1) := by decide +kernel
theorem dX9_told_101 : decode cX9_told 101 = .ok (.aload_n 0, 1) := by decide +kernel
theorem dX9_told_102 : decode cX9_told 102 = .ok (.getfield 7, 3) := by decide +kernel
theorem dX9_told_105 : decode cX9_told 105 = .ok (.iconst 5, 1) := by decide +kernel
theorem dX9_told_106 : decode cX9_told 106 = .ok (.iaload, 1) := by decide +kernel
theorem dX9_told_107 : decode cX9_told 107 = .ok (.ireturn, 1) := by decide +kernel
theorem dX9_told_108 : decode cX9_told 108 = .ok (.aload_n 0, 1) := by decide +kernel
theorem dX9_told_109 : decode cX9_told 109 = .ok (.getfield 7, 3) := by decide +kernel
theorem dX9_told_112 : decode cX9_told 112 = .ok (.bipush 6, 2) := by decide +kernel
theorem dX9_told_114 : decode cX9_told 114 = .ok (.iaload, 1) := by decide +kernel
theorem dX9_told_115 : decode cX9_told 115 = .ok (.ireturn, 1) := by decide +kernel
theorem dX9_told_116 : decode cX9_told 116 = .ok (.aload_n 0, 1) := by decide +kernel
theorem dX9_told_117 : decode cX9_told 117 = .ok (.invokevirtual 116, 3) := by decide +kernel
theorem dX9_told_120 : decode cX9_told 120 = .ok (.ireturn, 1) := by decide +kernel
theorem dX9_told_121 : decode cX9_told 121 = .ok (.aload_n 0, 1) := by decide +kernel
theorem dX9_told_122 : decode cX9_told 122 = .ok (.getfield 119, 3) := by decide +kernel
theorem dX9_told_125 : decode cX9_told 125 = .ok (.ireturn, 1) := by decide +kernel
theorem dX9_told_126 : decode cX9_told 126 = .ok (.aload_n 0, 1) := by decide +kernel
theorem dX9_told_127 : decode cX9_told 127 = .ok (.getfield 122, 3) := by decide +kernel
theorem dX9_told_130 : decode cX9_told 130 = .ok (.ireturn, 1) := by decide +kernel
theorem dX9_told_131 : decode cX9_told 131 = .ok (.aload_n 0, 1) := by decide +kernel
theorem dX9_told_132 : decode cX9_told 132 = .ok (.getfield 125, 3) := by decide +kernel
theorem dX9_told_135 : decode cX9_told 135 = .ok (.ireturn, 1) := by decide +kernel
theorem dX9_told_136 : decode cX9_told 136 = .ok (.aload_n 0, 1) := by decide +kernel
theorem dX9_told_137 : decode cX9_told 137 = .ok (.getfield 110, 3) := by decide +kernel
theorem dX9_told_140 : decode cX9_told 140 = .ok (.ireturn, 1) := by decide +kernel
theorem dX9_told_141 : decode cX9_told 141 = .ok (.ldc 59, 2) := by decide +kernel
theorem dX9_told_143 : decode cX9_told 143 = .ok (.ireturn, 1) := by decide +kernel
theorem dX9_oddsBy_0 : decode cX9_oddsBy 0 = .ok (.sipush 1000, 3) := by decide +kernel
theorem dX9_oddsBy_3 : decode cX9_oddsBy 3 = .ok (.aload_n 0, 1) := by decide +kernel
theorem dX9_oddsBy_4 : decode cX9_oddsBy 4 = .ok (.getfield 7, 3) := by decide +kernel
theorem dX9_oddsBy_7 : decode cX9_oddsBy 7 = .ok (.iload_n 1, 1) := by decide +kernel
theorem dX9_oddsBy_8 : decode cX9_oddsBy 8 = .ok (.invokestatic 82, 3) := by decide +kernel
theorem dX9_oddsBy_11 : decode cX9_oddsBy 11 = .ok (.iload_n 2, 1) := by decide +kernel
theorem dX9_oddsBy_12 : decode cX9_oddsBy 12 = .ok (.iadd, 1) := by decide +kernel
theorem dX9_oddsBy_13 : decode cX9_oddsBy 13 = .ok (.iaload, 1) := by decide +kernel
theorem dX9_oddsBy_14 : decode cX9_oddsBy 14 = .ok (.iconst 1, 1) := by decide +kernel
theorem dX9_oddsBy_15 : decode cX9_oddsBy 15 = .ok (.iload_n 3, 1) := by decide +kernel
theorem dX9_oddsBy_16 : decode cX9_oddsBy 16 = .ok (.ishl, 1) := by decide +kernel
theorem dX9_oddsBy_17 : decode cX9_oddsBy 17 = .ok (.imul, 1) := by decide +kernel
theorem dX9_oddsBy_18 : decode cX9_oddsBy 18 = .ok (.invokestatic 128, 3) := by decide +kernel
theorem dX9_oddsBy_21 : decode cX9_oddsBy 21 = .ok (.ireturn, 1) := by decide +kernel
theorem dX9_odds_0 : decode cX9_odds 0 = .ok (.aload_n 0, 1) := by decide +kernel
theorem dX9_odds_1 : decode cX9_odds 1 = .ok (.iload_n 1, 1) := by decide +kernel
theorem dX9_odds_2 : decode cX9_odds 2 = .ok (.iload_n 2, 1) := by decide +kernel
theorem dX9_odds_3 : decode cX9_odds 3 = .ok (.aload_n 0, 1) := by decide +kernel
theorem dX9_odds_4 : decode cX9_odds 4 = .ok (.getfield 7, 3) := by decide +kernel
theorem dX9_odds_7 : decode cX9_odds 7 = .ok (.iload_n 1, 1) := by decide +kernel
theorem dX9_odds_8 : decode cX9_odds 8 = .ok (.invokestatic 82, 3) := by decide +kernel
theorem dX9_odds_11 : decode cX9_odds 11 = .ok (.iconst 4, 1) := by decide +kernel
theorem dX9_odds_12 : decode cX9_odds 12 = .ok (.iadd, 1) := by decide +kernel
theorem dX9_odds_13 : decode cX9_odds 13 = .ok (.iaload, 1) := by decide +kernel
theorem dX9_odds_14 : decode cX9_odds 14 = .ok (.invokevirtual 131, 3) := by decide +kernel
theorem dX9_odds_17 : decode cX9_odds 17 = .ok (.ireturn, 1) := by decide +kernel
theorem dX9_life_0 : decode cX9_life 0 = .ok (.aload_n 0, 1) := by decide +kernel
theorem dX9_life_1 : decode cX9_life 1 = .ok (.iload_n 1, 1) := by decide +kernel
theorem dX9_life_2 : decode cX9_life 2 = .ok (.invokevirtual 135, 3) := by decide +kernel
theorem dX9_life_5 : decode cX9_life 5 = .ok (.ifCond .ne 6, 3) := by decide +kernel
theorem dX9_life_8 : decode cX9_life 8 = .ok (.ldc 139, 2) := by decide +kernel
theorem dX9_life_10 : decode cX9_life 10 = .ok (.ireturn, 1) := by decide +kernel
theorem dX9_life_11 : decode cX9_life 11 = .ok (.iload_n 2, 1) := by decide +kernel
theorem dX9_life_12 : decode cX9_life 12 = .ok (.iconst 0, 1) := by decide +kernel
theorem dX9_life_13 : decode cX9_life 13 = .ok (.iconst 5, 1) := by decide +kernel
theorem dX9_life_14 : decode cX9_life 14 = .ok (.invokestatic 55, 3) := by decide +kernel
theorem dX9_life_17 : decode cX9_life 17 = .ok (.ifCond .ne 6, 3) := by decide +kernel
theorem dX9_life_20 : decode cX9_life 20 = .ok (.ldc 59, 2) := by decide +kernel
theorem dX9_life_22 : decode cX9_life 22 = .ok (.ireturn, 1) := by decide +kernel
theorem dX9_life_23 : decode cX9_life 23 = .ok (.iload_n 2, 1) := by decide +kernel
theorem dX9_life_24 : decode cX9_life 24 = .ok (.iconst 4, 1) := by decide +kernel
theorem dX9_life_25 : decode cX9_life 25 = .ok (.if_icmp .ge 12, 3) := by decide +kernel
theorem dX9_life_28 : decode cX9_life 28 = .ok (.aload_n 0, 1) := by decide +kernel
theorem dX9_life_29 : decode cX9_life 29 = .ok (.iload_n 1, 1) := by decide +kernel
theorem dX9_life_30 : decode cX9_life 30 = .ok (.iload_n 2, 1) := by decide +kernel
theorem dX9_life_31 : decode cX9_life 31 = .ok (.invokevirtual 140, 3) := by decide +kernel
theorem dX9_life_34 : decode cX9_life 34 = .ok (.goto 14, 3) := by decide +kernel
theorem dX9_life_37 : decode cX9_life 37 = .ok (.aload_n 0, 1) := by decide +kernel
theorem dX9_life_38 : decode cX9_life 38 = .ok (.getfield 7, 3) := by decide +kernel
theorem dX9_life_41 : decode cX9_life 41 = .ok (.iload_n 1, 1) := by decide +kernel
theorem dX9_life_42 : decode cX9_life 42 = .ok (.invokestatic 82, 3) := by decide +kernel
theorem dX9_life_45 : decode cX9_life 45 = .ok (.iload_n 2, 1) := by decide +kernel
theorem dX9_life_46 : decode cX9_life 46 = .ok (.iadd, 1) := by decide +kernel
theorem dX9_life_47 : decode cX9_life 47 = .ok (.iaload, 1) := by decide +kernel
theorem dX9_life_48 : decode cX9_life 48 = .ok (.ireturn, 1) := by decide +kernel
theorem dX9_policy_0 : decode cX9_policy 0 = .ok (.aload_n 0, 1) := by decide +kernel
theorem dX9_policy_1 : decode cX9_policy 1 = .ok (.iload_n 1, 1) := by decide +kernel
theorem dX9_policy_2 : decode cX9_policy 2 = .ok (.invokevirtual 143, 3) := by decide +kernel
theorem dX9_policy_5 : decode cX9_policy 5 = .ok (.ifCond .ne 6, 3) := by decide +kernel
theorem dX9_policy_8 : decode cX9_policy 8 = .ok (.ldc 139, 2) := by decide +kernel
theorem dX9_policy_10 : decode cX9_policy 10 = .ok (.ireturn, 1) := by decide +kernel
theorem dX9_policy_11 : decode cX9_policy 11 = .ok (.iload_n 2, 1) := by decide +kernel
theorem dX9_policy_12 : decode cX9_policy 12 = .ok (.iconst 0, 1) := by decide +kernel
theorem dX9_policy_13 : decode cX9_policy 13 = .ok (.iconst 5, 1) := by decide +kernel
theorem dX9_policy_14 : decode cX9_policy 14 = .ok (.invokestatic 55, 3) := by decide +kernel
theorem dX9_policy_17 : decode cX9_policy 17 = .ok (.ifCond .eq 17, 3) := by decide +kernel
theorem dX9_policy_20 : decode cX9_policy 20 = .ok (.aload_n 0, 1) := by decide +kernel
theorem dX9_policy_21 : decode cX9_policy 21 = .ok (.getfield 7, 3) := by decide +kernel
theorem dX9_policy_24 : decode cX9_policy 24 = .ok (.iload_n 1, 1) := by decide +kernel
theorem dX9_policy_25 : decode cX9_policy 25 = .ok (.invokestatic 90, 3) := by decide +kernel
theorem dX9_policy_28 : decode cX9_policy 28 = .ok (.iload_n 2, 1) := by decide +kernel
theorem dX9_policy_29 : decode cX9_policy 29 = .ok (.iadd, 1) := by decide +kernel
theorem dX9_policy_30 : decode cX9_policy 30 = .ok (.iaload, 1) := by decide +kernel
theorem dX9_policy_31 : decode cX9_policy 31 = .ok (.goto 5, 3) := by decide +kernel
theorem dX9_policy_34 : decode cX9_policy 34 = .ok (.ldc 59, 2) := by decide +kernel
theorem dX9_policy_36 : decode cX9_policy 36 = .ok (.ireturn, 1) := by decide +kernel
theorem dX9_passes_0 : decode cX9_passes 0 = .ok (.aload_n 1, 1) := by decide +kernel
theorem dX9_passes_1 : decode cX9_passes 1 = .ok (.iconst 2, 1) := by decide +kernel
theorem dX9_passes_2 : decode cX9_passes 2 = .ok (.dup2, 1) := by decide +kernel
theorem dX9_passes_3 : decode cX9_passes 3 = .ok (.iaload, 1) := by decide +kernel
theorem dX9_passes_4 : decode cX9_passes 4 = .ok (.iconst 1, 1) := by decide +kernel
theorem dX9_passes_5 : decode cX9_passes 5 = .ok (.iadd, 1) := by decide +kernel
theorem dX9_passes_6 : decode cX9_passes 6 = .ok (.iastore, 1) := by decide +kernel
theorem dX9_passes_7 : decode cX9_passes 7 = .ok (.iconst 0, 1) := by decide +kernel
theorem dX9_passes_8 : decode cX9_passes 8 = .ok (.istore_n 2, 1) := by decide +kernel
theorem dX9_passes_9 : decode cX9_passes 9 = .ok (.iconst 0, 1) := by decide +kernel
theorem dX9_passes_10 : decode cX9_passes 10 = .ok (.istore_n 3, 1) := by decide +kernel
theorem dX9_passes_11 : decode cX9_passes 11 = .ok (.iload_n 3, 1) := by decide +kernel
theorem dX9_passes_12 : decode cX9_passes 12 = .ok (.aload_n 1, 1) := by decide +kernel
theorem dX9_passes_13 : decode cX9_passes 13 = .ok (.iconst 1, 1) := by decide +kernel
theorem dX9_passes_14 : decode cX9_passes 14 = .ok (.iaload, 1) := by decide +kernel
theorem dX9_passes_15 : decode cX9_passes 15 = .ok (.if_icmp .ge 191, 3) := by decide +kernel
theorem dX9_passes_18 : decode cX9_passes 18 = .ok (.iload_n 3, 1) := by decide +kernel
theorem dX9_passes_19 : decode cX9_passes 19 = .ok (.invokestatic 90, 3) := by decide +kernel
theorem dX9_passes_22 : decode cX9_passes 22 = .ok (.istore 4, 2) := by decide +kernel
theorem dX9_passes_24 : decode cX9_passes 24 = .ok (.aload_n 0, 1) := by decide +kernel
theorem dX9_passes_25 : decode cX9_passes 25 = .ok (.getfield 41, 3) := by decide +kernel
theorem dX9_passes_28 : decode cX9_passes 28 = .ok (.aload_n 1, 1) := by decide +kernel
theorem dX9_passes_29 : decode cX9_passes 29 = .ok (.iload 4, 2) := by decide +kernel
theorem dX9_passes_31 : decode cX9_passes 31 = .ok (.iconst 0, 1) := by decide +kernel
theorem dX9_passes_32 : decode cX9_passes 32 = .ok (.iadd, 1) := by decide +kernel
theorem dX9_passes_33 : decode cX9_passes 33 = .ok (.iaload, 1) := by decide +kernel
theorem dX9_passes_34 : decode cX9_passes 34 = .ok (.iaload, 1) := by decide +kernel
theorem dX9_passes_35 : decode cX9_passes 35 = .ok (.aload_n 1, 1) := by decide +kernel
theorem dX9_passes_36 : decode cX9_passes 36 = .ok (.iload 4, 2) := by decide +kernel
theorem dX9_passes_38 : decode cX9_passes 38 = .ok (.iconst 1, 1) := by decide +kernel
theorem dX9_passes_39 : decode cX9_passes 39 = .ok (.iadd, 1) := by decide +kernel
theorem dX9_passes_40 : decode cX9_passes 40 = .ok (.iaload, 1) := by decide +kernel
theorem dX9_passes_41 : decode cX9_passes 41 = .ok (.iand, 1) := by decide +kernel
theorem dX9_passes_42 : decode cX9_passes 42 = .ok (.ifCond .eq 7, 3) := by decide +kernel
theorem dX9_passes_45 : decode cX9_passes 45 = .ok (.iconst 1, 1) := by decide +kernel
theorem dX9_passes_46 : decode cX9_passes 46 = .ok (.goto 4, 3) := by decide +kernel
theorem dX9_passes_49 : decode cX9_passes 49 = .ok (.iconst 0, 1) := by decide +kernel
theorem dX9_passes_50 : decode cX9_passes 50 = .ok (.istore 5, 2) := by decide +kernel
theorem dX9_passes_52 : decode cX9_passes 52 = .ok (.aload_n 1, 1) := by decide +kernel
theorem dX9_passes_53 : decode cX9_passes 53 = .ok (.iload 4, 2) := by decide +kernel
theorem dX9_passes_55 : decode cX9_passes 55 = .ok (.bipush 6, 2) := by decide +kernel
theorem dX9_passes_57 : decode cX9_passes 57 = .ok (.iadd, 1) := by decide +kernel
theorem dX9_passes_58 : decode cX9_passes 58 = .ok (.iaload, 1) := by decide +kernel
theorem dX9_passes_59 : decode cX9_passes 59 = .ok (.ifCond .ne 48, 3) := by decide +kernel
theorem dX9_passes_62 : decode cX9_passes 62 = .ok (.iload 5, 2) := by decide +kernel
theorem dX9_passes_64 : decode cX9_passes 64 = .ok (.ifCond .eq 43, 3) := by decide +kernel
theorem dX9_passes_67 : decode cX9_passes 67 = .ok (.aload_n 1, 1) := by decide +kernel
theorem dX9_passes_68 : decode cX9_passes 68 = .ok (.iconst 3, 1) := by decide +kernel
theorem dX9_passes_69 : decode cX9_passes 69 = .ok (.ldc 146, 2) := by decide +kernel
theorem dX9_passes_71 : decode cX9_passes 71 = .ok (.aload_n 1, 1) := by decide +kernel
theorem dX9_passes_72 : decode cX9_passes 72 = .ok (.iconst 3, 1) := by decide +kernel
theorem dX9_passes_73 : decode cX9_passes 73 = .ok (.iaload, 1) := by decide +kernel
theorem dX9_passes_74 : decode cX9_passes 74 = .ok (.aload_n 1, 1) := by decide +kernel
theorem dX9_passes_75 : decode cX9_passes 75 = .ok (.iload 4, 2) := by decide +kernel
theorem dX9_passes_77 : decode cX9_passes 77 = .ok (.iconst 4, 1) := by decide +kernel
theorem dX9_passes_78 : decode cX9_passes 78 = .ok (.iadd, 1) := by decide +kernel
theorem dX9_passes_79 : decode cX9_passes 79 = .ok (.iaload, 1) := by decide +kernel
theorem dX9_passes_80 : decode cX9_passes 80 = .ok (.iadd, 1) := by decide +kernel
theorem dX9_passes_81 : decode cX9_passes 81 = .ok (.invokestatic 128, 3) := by decide +kernel
theorem dX9_passes_84 : decode cX9_passes 84 = .ok (.iastore, 1) := by decide +kernel
theorem dX9_passes_85 : decode cX9_passes 85 = .ok (.aload_n 1, 1) := by decide +kernel
theorem dX9_passes_86 : decode cX9_passes 86 = .ok (.iconst 5, 1) := by decide +kernel
theorem dX9_passes_87 : decode cX9_passes 87 = .ok (.dup2, 1) := by decide +kernel
theorem dX9_passes_88 : decode cX9_passes 88 = .ok (.iaload, 1) := by decide +kernel
theorem dX9_passes_89 : decode cX9_passes 89 = .ok (.aload_n 1, 1) := by decide +kernel
theorem dX9_passes_90 : decode cX9_passes 90 = .ok (.iload 4, 2) := by decide +kernel
theorem dX9_passes_92 : decode cX9_passes 92 = .ok (.iconst 4, 1) := by decide +kernel
theorem dX9_passes_93 : decode cX9_passes 93 = .ok (.iadd, 1) := by decide +kernel
theorem dX9_passes_94 : decode cX9_passes 94 = .ok (.iaload, 1) := by decide +kernel
theorem dX9_passes_95 : decode cX9_passes 95 = .ok (.iadd, 1) := by decide +kernel
theorem dX9_passes_96 : decode cX9_passes 96 = .ok (.iastore, 1) := by decide +kernel
theorem dX9_passes_97 : decode cX9_passes 97 = .ok (.aload_n 1, 1) := by decide +kernel
theorem dX9_passes_98 : decode cX9_passes 98 = .ok (.iload 4, 2) := by decide +kernel
theorem dX9_passes_100 : decode cX9_passes 100 = .ok (.iconst 5, 1) := by decide +kernel
theorem dX9_passes_101 : decode cX9_passes 101 = .ok (.iadd, 1) := by decide +kernel
theorem dX9_passes_102 : decode cX9_passes 102 = .ok (.iconst 0, 1) := by decide +kernel
theorem dX9_passes_103 : decode cX9_passes 103 = .ok (.iastore, 1) := by decide +kernel
theorem dX9_passes_104 : decode cX9_passes 104 = .ok (.goto 96, 3) := by decide +kernel
theorem dX9_passes_107 : decode cX9_passes 107 = .ok (.aload_n 1, 1) := by decide +kernel
theorem dX9_passes_108 : decode cX9_passes 108 = .ok (.iload 4, 2) := by decide +kernel
theorem dX9_passes_110 : decode cX9_passes 110 = .ok (.bipush 6, 2) := by decide +kernel
theorem dX9_passes_112 : decode cX9_passes 112 = .ok (.iadd, 1) := by decide +kernel
theorem dX9_passes_113 : decode cX9_passes 113 = .ok (.iaload, 1) := by decide +kernel
theorem dX9_passes_114 : decode cX9_passes 114 = .ok (.ifCond .ne 86, 3) := by decide +kernel
theorem dX9_passes_117 : decode cX9_passes 117 = .ok (.aload_n 1, 1) := by decide +kernel
theorem dX9_passes_118 : decode cX9_passes 118 = .ok (.iload 4, 2) := by decide +kernel
theorem dX9_passes_120 : decode cX9_passes 120 = .ok (.iconst 5, 1) := by decide +kernel
theorem dX9_passes_121 : decode cX9_passes 121 = .ok (.iadd, 1) := by decide +kernel
theorem dX9_passes_122 : decode cX9_passes 122 = .ok (.dup2, 1) := by decide +kernel
theorem dX9_passes_123 : decode cX9_passes 123 = .ok (.iaload, 1) := by decide +kernel
theorem dX9_passes_124 : decode cX9_passes 124 = .ok (.iconst 1, 1) := by decide +kernel
theorem dX9_passes_125 : decode cX9_passes 125 = .ok (.iadd, 1) := by decide +kernel
theorem dX9_passes_126 : decode cX9_passes 126 = .ok (.iastore, 1) := by decide +kernel
theorem dX9_passes_127 : decode cX9_passes 127 = .ok (.aload_n 1, 1) := by decide +kernel
theorem dX9_passes_128 : decode cX9_passes 128 = .ok (.iload 4, 2) := by decide +kernel
theorem dX9_passes_130 : decode cX9_passes 130 = .ok (.iconst 5, 1) := by decide +kernel
theorem dX9_passes_131 : decode cX9_passes 131 = .ok (.iadd, 1) := by decide +kernel
theorem dX9_passes_132 : decode cX9_passes 132 = .ok (.iaload, 1) := by decide +kernel
theorem dX9_passes_133 : decode cX9_passes 133 = .ok (.aload_n 1, 1) := by decide +kernel
theorem dX9_passes_134 : decode cX9_passes 134 = .ok (.iload 4, 2) := by decide +kernel
theorem dX9_passes_136 : decode cX9_passes 136 = .ok (.iconst 2, 1) := by decide +kernel
theorem dX9_passes_137 : decode cX9_passes 137 = .ok (.iadd, 1) := by decide +kernel
theorem dX9_passes_138 : decode cX9_passes 138 = .ok (.iaload, 1) := by decide +kernel
theorem dX9_passes_139 : decode cX9_passes 139 = .ok (.if_icmp .ne 61, 3) := by decide +kernel
theorem dX9_passes_142 : decode cX9_passes 142 = .ok (.aload_n 1, 1) := by decide +kernel
theorem dX9_passes_143 : decode cX9_passes 143 = .ok (.iconst 3, 1) := by decide +kernel
theorem dX9_passes_144 : decode cX9_passes 144 = .ok (.iaload, 1) := by decide +kernel
theorem dX9_passes_145 : decode cX9_passes 145 = .ok (.aload_n 1, 1) := by decide +kernel
theorem dX9_passes_146 : decode cX9_passes 146 = .ok (.iload 4, 2) := by decide +kernel
theorem dX9_passes_148 : decode cX9_passes 148 = .ok (.iconst 3, 1) := by decide +kernel
theorem dX9_passes_149 : decode cX9_passes 149 = .ok (.iadd, 1) := by decide +kernel
theorem dX9_passes_150 : decode cX9_passes 150 = .ok (.iaload, 1) := by decide +kernel
theorem dX9_passes_151 : decode cX9_passes 151 = .ok (.invokestatic 128, 3) := by decide +kernel
theorem dX9_passes_154 : decode cX9_passes 154 = .ok (.istore 6, 2) := by decide +kernel
theorem dX9_passes_156 : decode cX9_passes 156 = .ok (.iload_n 2, 1) := by decide +kernel
theorem dX9_passes_157 : decode cX9_passes 157 = .ok (.ifCond .ne 14, 3) := by decide +kernel
theorem dX9_passes_160 : decode cX9_passes 160 = .ok (.iload 6, 2) := by decide +kernel
theorem dX9_passes_162 : decode cX9_passes 162 = .ok (.aload_n 1, 1) := by decide +kernel
theorem dX9_passes_163 : decode cX9_passes 163 = .ok (.iload 4, 2) := by decide +kernel
theorem dX9_passes_165 : decode cX9_passes 165 = .ok (.iconst 3, 1) := by decide +kernel
theorem dX9_passes_166 : decode cX9_passes 166 = .ok (.iadd, 1) := by decide +kernel
theorem dX9_passes_167 : decode cX9_passes 167 = .ok (.iaload, 1) := by decide +kernel
theorem dX9_passes_168 : decode cX9_passes 168 = .ok (.if_icmp .ge 7, 3) := by decide +kernel
theorem dX9_passes_171 : decode cX9_passes 171 = .ok (.iconst 1, 1) := by decide +kernel
theorem dX9_passes_172 : decode cX9_passes 172 = .ok (.goto 4, 3) := by decide +kernel
theorem dX9_passes_175 : decode cX9_passes 175 = .ok (.iconst 0, 1) := by decide +kernel
theorem dX9_passes_176 : decode cX9_passes 176 = .ok (.istore_n 2, 1) := by decide +kernel
theorem dX9_passes_177 : decode cX9_passes 177 = .ok (.aload_n 1, 1) := by decide +kernel
theorem dX9_passes_178 : decode cX9_passes 178 = .ok (.iconst 3, 1) := by decide +kernel
theorem dX9_passes_179 : decode cX9_passes 179 = .ok (.dup2, 1) := by decide +kernel
theorem dX9_passes_180 : decode cX9_passes 180 = .ok (.iaload, 1) := by decide +kernel
theorem dX9_passes_181 : decode cX9_passes 181 = .ok (.iload 6, 2) := by decide +kernel
theorem dX9_passes_183 : decode cX9_passes 183 = .ok (.isub, 1) := by decide +kernel
theorem dX9_passes_184 : decode cX9_passes 184 = .ok (.iastore, 1) := by decide +kernel
theorem dX9_passes_185 : decode cX9_passes 185 = .ok (.aload_n 1, 1) := by decide +kernel
theorem dX9_passes_186 : decode cX9_passes 186 = .ok (.iconst 4, 1) := by decide +kernel
theorem dX9_passes_187 : decode cX9_passes 187 = .ok (.dup2, 1) := by decide +kernel
theorem dX9_passes_188 : decode cX9_passes 188 = .ok (.iaload, 1) := by decide +kernel
theorem dX9_passes_189 : decode cX9_passes 189 = .ok (.iload 6, 2) := by decide +kernel
theorem dX9_passes_191 : decode cX9_passes 191 = .ok (.iadd, 1) := by decide +kernel
theorem dX9_passes_192 : decode cX9_passes 192 = .ok (.iastore, 1) := by decide +kernel
theorem dX9_passes_193 : decode cX9_passes 193 = .ok (.aload_n 1, 1) := by decide +kernel
theorem dX9_passes_194 : decode cX9_passes 194 = .ok (.iload 4, 2) := by decide +kernel
theorem dX9_passes_196 : decode cX9_passes 196 = .ok (.iconst 5, 1) := by decide +kernel
theorem dX9_passes_197 : decode cX9_passes 197 = .ok (.iadd, 1) := by decide +kernel
theorem dX9_passes_198 : decode cX9_passes 198 = .ok (.iconst 0, 1) := by decide +kernel
theorem dX9_passes_199 : decode cX9_passes 199 = .ok (.iastore, 1) := by decide +kernel
theorem dX9_passes_200 : decode cX9_passes 200 = .ok (.iinc 3 1, 3) := by decide +kernel
theorem dX9_passes_203 : decode cX9_passes 203 = .ok (.goto (-192), 3) := by decide +kernel
theorem dX9_passes_206 : decode cX9_passes 206 = .ok (.aload_n 1, 1) := by decide +kernel
theorem dX9_passes_207 : decode cX9_passes 207 = .ok (.bipush 6, 2) := by decide +kernel
theorem dX9_passes_209 : decode cX9_passes 209 = .ok (.iload_n 2, 1) := by decide +kernel
theorem dX9_passes_210 : decode cX9_passes 210 = .ok (.ifCond .eq 17, 3) := by decide +kernel
theorem dX9_passes_213 : decode cX9_passes 213 = .ok (.aload_n 1, 1) := by decide +kernel
theorem dX9_passes_214 : decode cX9_passes 214 = .ok (.bipush 6, 2) := by decide +kernel
theorem dX9_passes_216 : decode cX9_passes 216 = .ok (.iaload, 1) := by decide +kernel
theorem dX9_passes_217 : decode cX9_passes 217 = .ok (.iconst (-1), 1) := by decide +kernel
theorem dX9_passes_218 : decode cX9_passes 218 = .ok (.if_icmp .ne 9, 3) := by decide +kernel
theorem dX9_passes_221 : decode cX9_passes 221 = .ok (.aload_n 1, 1) := by decide +kernel
theorem dX9_passes_222 : decode cX9_passes 222 = .ok (.iconst 2, 1) := by decide +kernel
theorem dX9_passes_223 : decode cX9_passes 223 = .ok (.iaload, 1) := by decide +kernel
theorem dX9_passes_224 : decode cX9_passes 224 = .ok (.goto 7, 3) := by decide +kernel
theorem dX9_passes_227 : decode cX9_passes 227 = .ok (.aload_n 1, 1) := by decide +kernel
theorem dX9_passes_228 : decode cX9_passes 228 = .ok (.bipush 6, 2) := by decide +kernel
theorem dX9_passes_230 : decode cX9_passes 230 = .ok (.iaload, 1) := by decide +kernel
theorem dX9_passes_231 : decode cX9_passes 231 = .ok (.iastore, 1) := by decide +kernel
theorem dX9_passes_232 : decode cX9_passes 232 = .ok (.iload_n 2, 1) := by decide +kernel
theorem dX9_passes_233 : decode cX9_passes 233 = .ok (.ireturn, 1) := by decide +kernel
theorem dX9_silent_0 : decode cX9_silent 0 = .ok (.iconst 0, 1) := by decide +kernel
theorem dX9_silent_1 : decode cX9_silent 1 = .ok (.istore_n 1, 1) := by decide +kernel
theorem dX9_silent_2 : decode cX9_silent 2 = .ok (.iload_n 1, 1) := by decide +kernel
theorem dX9_silent_3 : decode cX9_silent 3 = .ok (.iconst 4, 1) := by decide +kernel
theorem dX9_silent_4 : decode cX9_silent 4 = .ok (.if_icmp .ge 16, 3) := by decide +kernel
theorem dX9_silent_7 : decode cX9_silent 7 = .ok (.aload_n 0, 1) := by decide +kernel
theorem dX9_silent_8 : decode cX9_silent 8 = .ok (.getfield 41, 3) := by decide +kernel
theorem dX9_silent_11 : decode cX9_silent 11 = .ok (.iload_n 1, 1) := by decide +kernel
theorem dX9_silent_12 : decode cX9_silent 12 = .ok (.iconst 0, 1) := by decide +kernel
theorem dX9_silent_13 : decode cX9_silent 13 = .ok (.iastore, 1) := by decide +kernel
theorem dX9_silent_14 : decode cX9_silent 14 = .ok (.iinc 1 1, 3) := by decide +kernel
theorem dX9_silent_17 : decode cX9_silent 17 = .ok (.goto (-15), 3) := by decide +kernel
theorem dX9_silent_20 : decode cX9_silent 20 = .ok (.return_, 1) := by decide +kernel
theorem dX9_notes_0 : decode cX9_notes 0 = .ok (.aload_n 0, 1) := by decide +kernel
theorem dX9_notes_1 : decode cX9_notes 1 = .ok (.getfield 110, 3) := by decide +kernel
theorem dX9_notes_4 : decode cX9_notes 4 = .ok (.bipush 30, 2) := by decide +kernel
theorem dX9_notes_6 : decode cX9_notes 6 = .ok (.if_icmp .ne 43, 3) := by decide +kernel
theorem dX9_notes_9 : decode cX9_notes 9 = .ok (.iconst 0, 1) := by decide +kernel
theorem dX9_notes_10 : decode cX9_notes 10 = .ok (.istore_n 1, 1) := by decide +kernel
theorem dX9_notes_11 : decode cX9_notes 11 = .ok (.iload_n 1, 1) := by decide +kernel
theorem dX9_notes_12 : decode cX9_notes 12 = .ok (.sipush 2146, 3) := by decide +kernel
theorem dX9_notes_15 : decode cX9_notes 15 = .ok (.if_icmp .ge 24, 3) := by decide +kernel
theorem dX9_notes_18 : decode cX9_notes 18 = .ok (.aload_n 0, 1) := by decide +kernel
theorem dX9_notes_19 : decode cX9_notes 19 = .ok (.getfield 19, 3) := by decide +kernel
theorem dX9_notes_22 : decode cX9_notes 22 = .ok (.iload_n 1, 1) := by decide +kernel
theorem dX9_notes_23 : decode cX9_notes 23 = .ok (.aload_n 0, 1) := by decide +kernel
theorem dX9_notes_24 : decode cX9_notes 24 = .ok (.getfield 19, 3) := by decide +kernel
theorem dX9_notes_27 : decode cX9_notes 27 = .ok (.iload_n 1, 1) := by decide +kernel
theorem dX9_notes_28 : decode cX9_notes 28 = .ok (.bipush 74, 2) := by decide +kernel
theorem dX9_notes_30 : decode cX9_notes 30 = .ok (.iadd, 1) := by decide +kernel
theorem dX9_notes_31 : decode cX9_notes 31 = .ok (.iaload, 1) := by decide +kernel
theorem dX9_notes_32 : decode cX9_notes 32 = .ok (.iastore, 1) := by decide +kernel
theorem dX9_notes_33 : decode cX9_notes 33 = .ok (.iinc 1 1, 3) := by decide +kernel
theorem dX9_notes_36 : decode cX9_notes 36 = .ok (.goto (-25), 3) := by decide +kernel
theorem dX9_notes_39 : decode cX9_notes 39 = .ok (.aload_n 0, 1) := by decide +kernel
theorem dX9_notes_40 : decode cX9_notes 40 = .ok (.dup, 1) := by decide +kernel
theorem dX9_notes_41 : decode cX9_notes 41 = .ok (.getfield 110, 3) := by decide +kernel
theorem dX9_notes_44 : decode cX9_notes 44 = .ok (.iconst 1, 1) := by decide +kernel
theorem dX9_notes_45 : decode cX9_notes 45 = .ok (.isub, 1) := by decide +kernel
theorem dX9_notes_46 : decode cX9_notes 46 = .ok (.putfield 110, 3) := by decide +kernel
theorem dX9_notes_49 : decode cX9_notes 49 = .ok (.aload_n 0, 1) := by decide +kernel
theorem dX9_notes_50 : decode cX9_notes 50 = .ok (.getfield 7, 3) := by decide +kernel
theorem dX9_notes_53 : decode cX9_notes 53 = .ok (.iconst 0, 1) := by decide +kernel
theorem dX9_notes_54 : decode cX9_notes 54 = .ok (.aload_n 0, 1) := by decide +kernel
theorem dX9_notes_55 : decode cX9_notes 55 = .ok (.getfield 19, 3) := by decide +kernel
theorem dX9_notes_58 : decode cX9_notes 58 = .ok (.bipush 74, 2) := by decide +kernel
theorem dX9_notes_60 : decode cX9_notes 60 = .ok (.aload_n 0, 1) := by decide +kernel
theorem dX9_notes_61 : decode cX9_notes 61 = .ok (.getfield 110, 3) := by decide +kernel
theorem dX9_notes_64 : decode cX9_notes 64 = .ok (.imul, 1) := by decide +kernel
theorem dX9_notes_65 : decode cX9_notes 65 = .ok (.invokestatic 106, 3) := by decide +kernel
theorem dX9_notes_68 : decode cX9_notes 68 = .ok (.aload_n 0, 1) := by decide +kernel
theorem dX9_notes_69 : decode cX9_notes 69 = .ok (.dup, 1) := by decide +kernel
theorem dX9_notes_70 : decode cX9_notes 70 = .ok (.getfield 110, 3) := by decide +kernel
theorem dX9_notes_73 : decode cX9_notes 73 = .ok (.iconst 1, 1) := by decide +kernel
theorem dX9_notes_74 : decode cX9_notes 74 = .ok (.iadd, 1) := by decide +kernel
theorem dX9_notes_75 : decode cX9_notes 75 = .ok (.putfield 110, 3) := by decide +kernel
theorem dX9_notes_78 : decode cX9_notes 78 = .ok (.return_, 1) := by decide +kernel
theorem dX9_takesTold_0 : decode cX9_takesTold 0 = .ok (.iconst 0, 1) := by decide +kernel
theorem dX9_takesTold_1 : decode cX9_takesTold 1 = .ok (.istore_n 1, 1) := by decide +kernel
theorem dX9_takesTold_2 : decode cX9_takesTold 2 = .ok (.iload_n 1, 1) := by decide +kernel
theorem dX9_takesTold_3 : decode cX9_takesTold 3 = .ok (.iconst 4, 1) := by decide +kernel
theorem dX9_takesTold_4 : decode cX9_takesTold 4 = .ok (.if_icmp .ge 38, 3) := by decide +kernel
theorem dX9_takesTold_7 : decode cX9_takesTold 7 = .ok (.aload_n 0, 1) := by decide +kernel
theorem dX9_takesTold_8 : decode cX9_takesTold 8 = .ok (.getfield 41, 3) := by decide +kernel
theorem dX9_takesTold_11 : decode cX9_takesTold 11 = .ok (.iload_n 1, 1) := by decide +kernel
theorem dX9_takesTold_12 : decode cX9_takesTold 12 = .ok (.aload_n 0, 1) := by decide +kernel
theorem dX9_takesTold_13 : decode cX9_takesTold 13 = .ok (.getfield 7, 3) := by decide +kernel
theorem dX9_takesTold_16 : decode cX9_takesTold 16 = .ok (.iload_n 1, 1) := by decide +kernel
theorem dX9_takesTold_17 : decode cX9_takesTold 17 = .ok (.invokestatic 82, 3) := by decide +kernel
theorem dX9_takesTold_20 : decode cX9_takesTold 20 = .ok (.iconst 5, 1) := by decide +kernel
theorem dX9_takesTold_21 : decode cX9_takesTold 21 = .ok (.iadd, 1) := by decide +kernel
theorem dX9_takesTold_22 : decode cX9_takesTold 22 = .ok (.iaload, 1) := by decide +kernel
theorem dX9_takesTold_23 : decode cX9_takesTold 23 = .ok (.iastore, 1) := by decide +kernel
theorem dX9_takesTold_24 : decode cX9_takesTold 24 = .ok (.aload_n 0, 1) := by decide +kernel
theorem dX9_takesTold_25 : decode cX9_takesTold 25 = .ok (.getfield 7, 3) := by decide +kernel
theorem dX9_takesTold_28 : decode cX9_takesTold 28 = .ok (.iload_n 1, 1) := by decide +kernel
theorem dX9_takesTold_29 : decode cX9_takesTold 29 = .ok (.invokestatic 82, 3) := by decide +kernel
theorem dX9_takesTold_32 : decode cX9_takesTold 32 = .ok (.iconst 5, 1) := by decide +kernel
theorem dX9_takesTold_33 : decode cX9_takesTold 33 = .ok (.iadd, 1) := by decide +kernel
theorem dX9_takesTold_34 : decode cX9_takesTold 34 = .ok (.iconst 0, 1) := by decide +kernel
theorem dX9_takesTold_35 : decode cX9_takesTold 35 = .ok (.iastore, 1) := by decide +kernel
theorem dX9_takesTold_36 : decode cX9_takesTold 36 = .ok (.iinc 1 1, 3) := by decide +kernel
theorem dX9_takesTold_39 : decode cX9_takesTold 39 = .ok (.goto (-37), 3) := by decide +kernel
theorem dX9_takesTold_42 : decode cX9_takesTold 42 = .ok (.return_, 1) := by decide +kernel
theorem dX9_event_0 : decode cX9_event 0 = .ok (.aload_n 0, 1) := by decide +kernel
theorem dX9_event_1 : decode cX9_event 1 = .ok (.iload_n 1, 1) := by decide +kernel
theorem dX9_event_2 : decode cX9_event 2 = .ok (.invokevirtual 135, 3) := by decide +kernel
theorem dX9_event_5 : decode cX9_event 5 = .ok (.ifCond .ne 6, 3) := by decide +kernel
theorem dX9_event_8 : decode cX9_event 8 = .ok (.ldc 139, 2) := by decide +kernel
theorem dX9_event_10 : decode cX9_event 10 = .ok (.ireturn, 1) := by decide +kernel
theorem dX9_event_11 : decode cX9_event 11 = .ok (.iload_n 2, 1) := by decide +kernel
theorem dX9_event_12 : decode cX9_event 12 = .ok (.iconst 0, 1) := by decide +kernel
theorem dX9_event_13 : decode cX9_event 13 = .ok (.bipush 15, 2) := by decide +kernel
theorem dX9_event_15 : decode cX9_event 15 = .ok (.invokestatic 55, 3) := by decide +kernel
theorem dX9_event_18 : decode cX9_event 18 = .ok (.ifCond .ne 6, 3) := by decide +kernel
theorem dX9_event_21 : decode cX9_event 21 = .ok (.ldc 59, 2) := by decide +kernel
theorem dX9_event_23 : decode cX9_event 23 = .ok (.ireturn, 1) := by decide +kernel
theorem dX9_event_24 : decode cX9_event 24 = .ok (.aload_n 0, 1) := by decide +kernel
theorem dX9_event_25 : decode cX9_event 25 = .ok (.getfield 7, 3) := by decide +kernel
theorem dX9_event_28 : decode cX9_event 28 = .ok (.iload_n 1, 1) := by decide +kernel
theorem dX9_event_29 : decode cX9_event 29 = .ok (.invokestatic 82, 3) := by decide +kernel
theorem dX9_event_32 : decode cX9_event 32 = .ok (.iconst 5, 1) := by decide +kernel
theorem dX9_event_33 : decode cX9_event 33 = .ok (.iadd, 1) := by decide +kernel
theorem dX9_event_34 : decode cX9_event 34 = .ok (.iaload, 1) := by decide +kernel
theorem dX9_event_35 : decode cX9_event 35 = .ok (.istore_n 3, 1) := by decide +kernel
theorem dX9_event_36 : decode cX9_event 36 = .ok (.aload_n 0, 1) := by decide +kernel
theorem dX9_event_37 : decode cX9_event 37 = .ok (.getfield 7, 3) := by decide +kernel
theorem dX9_event_40 : decode cX9_event 40 = .ok (.iload_n 1, 1) := by decide +kernel
theorem dX9_event_41 : decode cX9_event 41 = .ok (.invokestatic 82, 3) := by decide +kernel
theorem dX9_event_44 : decode cX9_event 44 = .ok (.iconst 5, 1) := by decide +kernel
theorem dX9_event_45 : decode cX9_event 45 = .ok (.iadd, 1) := by decide +kernel
theorem dX9_event_46 : decode cX9_event 46 = .ok (.iload_n 2, 1) := by decide +kernel
theorem dX9_event_47 : decode cX9_event 47 = .ok (.iastore, 1) := by decide +kernel
theorem dX9_event_48 : decode cX9_event 48 = .ok (.iload_n 3, 1) := by decide +kernel
theorem dX9_event_49 : decode cX9_event 49 = .ok (.ireturn, 1) := by decide +kernel
theorem dX9_draw_0 : decode cX9_draw 0 = .ok (.aload_n 0, 1) := by decide +kernel
theorem dX9_draw_1 : decode cX9_draw 1 = .ok (.getfield 7, 3) := by decide +kernel
theorem dX9_draw_4 : decode cX9_draw 4 = .ok (.bipush 7, 2) := by decide +kernel
theorem dX9_draw_6 : decode cX9_draw 6 = .ok (.aload_n 0, 1) := by decide +kernel
theorem dX9_draw_7 : decode cX9_draw 7 = .ok (.getfield 7, 3) := by decide +kernel
theorem dX9_draw_10 : decode cX9_draw 10 = .ok (.bipush 7, 2) := by decide +kernel
theorem dX9_draw_12 : decode cX9_draw 12 = .ok (.iaload, 1) := by decide +kernel
theorem dX9_draw_13 : decode cX9_draw 13 = .ok (.i2l, 1) := by decide +kernel
theorem dX9_draw_14 : decode cX9_draw 14 = .ok (.ldc2_w 147, 3) := by decide +kernel
theorem dX9_draw_17 : decode cX9_draw 17 = .ok (.lmul, 1) := by decide +kernel
theorem dX9_draw_18 : decode cX9_draw 18 = .ok (.ldc2_w 149, 3) := by decide +kernel
theorem dX9_draw_21 : decode cX9_draw 21 = .ok (.ladd, 1) := by decide +kernel
theorem dX9_draw_22 : decode cX9_draw 22 = .ok (.ldc2_w 151, 3) := by decide +kernel
theorem dX9_draw_25 : decode cX9_draw 25 = .ok (.lrem, 1) := by decide +kernel
theorem dX9_draw_26 : decode cX9_draw 26 = .ok (.l2i, 1) := by decide +kernel
theorem dX9_draw_27 : decode cX9_draw 27 = .ok (.iastore, 1) := by decide +kernel
theorem dX9_draw_28 : decode cX9_draw 28 = .ok (.aload_n 0, 1) := by decide +kernel
theorem dX9_draw_29 : decode cX9_draw 29 = .ok (.getfield 7, 3) := by decide +kernel
theorem dX9_draw_32 : decode cX9_draw 32 = .ok (.bipush 7, 2) := by decide +kernel
theorem dX9_draw_34 : decode cX9_draw 34 = .ok (.iaload, 1) := by decide +kernel
theorem dX9_draw_35 : decode cX9_draw 35 = .ok (.ldc 153, 2) := by decide +kernel
theorem dX9_draw_37 : decode cX9_draw 37 = .ok (.idiv, 1) := by decide +kernel
theorem dX9_draw_38 : decode cX9_draw 38 = .ok (.sipush 1000, 3) := by decide +kernel
theorem dX9_draw_41 : decode cX9_draw 41 = .ok (.irem, 1) := by decide +kernel
theorem dX9_draw_42 : decode cX9_draw 42 = .ok (.ireturn, 1) := by decide +kernel
theorem dX9_goes_0 : decode cX9_goes 0 = .ok (.iload_n 1, 1) := by decide +kernel
theorem dX9_goes_1 : decode cX9_goes 1 = .ok (.iconst 1, 1) := by decide +kernel
theorem dX9_goes_2 : decode cX9_goes 2 = .ok (.bipush 99, 2) := by decide +kernel
theorem dX9_goes_4 : decode cX9_goes 4 = .ok (.invokestatic 55, 3) := by decide +kernel
theorem dX9_goes_7 : decode cX9_goes 7 = .ok (.ifCond .ne 6, 3) := by decide +kernel
theorem dX9_goes_10 : decode cX9_goes 10 = .ok (.ldc 59, 2) := by decide +kernel
theorem dX9_goes_12 : decode cX9_goes 12 = .ok (.ireturn, 1) := by decide +kernel
theorem dX9_goes_13 : decode cX9_goes 13 = .ok (.aload_n 0, 1) := by decide +kernel
theorem dX9_goes_14 : decode cX9_goes 14 = .ok (.getfield 7, 3) := by decide +kernel
theorem dX9_goes_17 : decode cX9_goes 17 = .ok (.iconst 2, 1) := by decide +kernel
theorem dX9_goes_18 : decode cX9_goes 18 = .ok (.iaload, 1) := by decide +kernel
theorem dX9_goes_19 : decode cX9_goes 19 = .ok (.ldc 154, 2) := by decide +kernel
theorem dX9_goes_21 : decode cX9_goes 21 = .ok (.if_icmp .le 6, 3) := by decide +kernel
theorem dX9_goes_24 : decode cX9_goes 24 = .ok (.ldc 63, 2) := by decide +kernel
theorem dX9_goes_26 : decode cX9_goes 26 = .ok (.ireturn, 1) := by decide +kernel
theorem dX9_goes_27 : decode cX9_goes 27 = .ok (.iconst 0, 1) := by decide +kernel
theorem dX9_goes_28 : decode cX9_goes 28 = .ok (.istore_n 3, 1) := by decide +kernel
theorem dX9_goes_29 : decode cX9_goes 29 = .ok (.iload_n 3, 1) := by decide +kernel
theorem dX9_goes_30 : decode cX9_goes 30 = .ok (.iload_n 1, 1) := by decide +kernel
theorem dX9_goes_31 : decode cX9_goes 31 = .ok (.if_icmp .ge 98, 3) := by decide +kernel
theorem dX9_goes_34 : decode cX9_goes 34 = .ok (.aload_n 0, 1) := by decide +kernel
theorem dX9_goes_35 : decode cX9_goes 35 = .ok (.invokevirtual 155, 3) := by decide +kernel
theorem dX9_goes_38 : decode cX9_goes 38 = .ok (.aload_n 0, 1) := by decide +kernel
theorem dX9_goes_39 : decode cX9_goes 39 = .ok (.invokevirtual 158, 3) := by decide +kernel
theorem dX9_goes_42 : decode cX9_goes 42 = .ok (.iconst 0, 1) := by decide +kernel
theorem dX9_goes_43 : decode cX9_goes 43 = .ok (.istore 4, 2) := by decide +kernel
theorem dX9_goes_45 : decode cX9_goes 45 = .ok (.iload 4, 2) := by decide +kernel
theorem dX9_goes_47 : decode cX9_goes 47 = .ok (.aload_n 0, 1) := by decide +kernel
theorem dX9_goes_48 : decode cX9_goes 48 = .ok (.getfield 7, 3) := by decide +kernel
theorem dX9_goes_51 : decode cX9_goes 51 = .ok (.iconst 0, 1) := by decide +kernel
theorem dX9_goes_52 : decode cX9_goes 52 = .ok (.iaload, 1) := by decide +kernel
theorem dX9_goes_53 : decode cX9_goes 53 = .ok (.if_icmp .ge 61, 3) := by decide +kernel
theorem dX9_goes_56 : decode cX9_goes 56 = .ok (.iload_n 2, 1) := by decide +kernel
theorem dX9_goes_57 : decode cX9_goes 57 = .ok (.ifCond .eq 57, 3) := by decide +kernel
theorem dX9_goes_60 : decode cX9_goes 60 = .ok (.iconst 0, 1) := by decide +kernel
theorem dX9_goes_61 : decode cX9_goes 61 = .ok (.istore 5, 2) := by decide +kernel
theorem dX9_goes_63 : decode cX9_goes 63 = .ok (.iload 5, 2) := by decide +kernel
theorem dX9_goes_65 : decode cX9_goes 65 = .ok (.iconst 4, 1) := by decide +kernel
theorem dX9_goes_66 : decode cX9_goes 66 = .ok (.if_icmp .ge 42, 3) := by decide +kernel
theorem dX9_goes_69 : decode cX9_goes 69 = .ok (.aload_n 0, 1) := by decide +kernel
theorem dX9_goes_70 : decode cX9_goes 70 = .ok (.getfield 41, 3) := by decide +kernel
theorem dX9_goes_73 : decode cX9_goes 73 = .ok (.iload 4, 2) := by decide +kernel
theorem dX9_goes_75 : decode cX9_goes 75 = .ok (.dup2, 1) := by decide +kernel
theorem dX9_goes_76 : decode cX9_goes 76 = .ok (.iaload, 1) := by decide +kernel
theorem dX9_goes_77 : decode cX9_goes 77 = .ok (.aload_n 0, 1) := by decide +kernel
theorem dX9_goes_78 : decode cX9_goes 78 = .ok (.invokevirtual 161, 3) := by decide +kernel
theorem dX9_goes_81 : decode cX9_goes 81 = .ok (.aload_n 0, 1) := by decide +kernel
theorem dX9_goes_82 : decode cX9_goes 82 = .ok (.iload 4, 2) := by decide +kernel
theorem dX9_goes_84 : decode cX9_goes 84 = .ok (.iload 5, 2) := by decide +kernel
theorem dX9_goes_86 : decode cX9_goes 86 = .ok (.invokevirtual 140, 3) := by decide +kernel
theorem dX9_goes_89 : decode cX9_goes 89 = .ok (.if_icmp .ge 10, 3) := by decide +kernel
theorem dX9_goes_92 : decode cX9_goes 92 = .ok (.iconst 1, 1) := by decide +kernel
theorem dX9_goes_93 : decode cX9_goes 93 = .ok (.iload 5, 2) := by decide +kernel
theorem dX9_goes_95 : decode cX9_goes 95 = .ok (.ishl, 1) := by decide +kernel
theorem dX9_goes_96 : decode cX9_goes 96 = .ok (.goto 4, 3) := by decide +kernel
theorem dX9_goes_99 : decode cX9_goes 99 = .ok (.iconst 0, 1) := by decide +kernel
theorem dX9_goes_100 : decode cX9_goes 100 = .ok (.ior, 1) := by decide +kernel
theorem dX9_goes_101 : decode cX9_goes 101 = .ok (.iastore, 1) := by decide +kernel
theorem dX9_goes_102 : decode cX9_goes 102 = .ok (.iinc 5 1, 3) := by decide +kernel
theorem dX9_goes_105 : decode cX9_goes 105 = .ok (.goto (-42), 3) := by decide +kernel
theorem dX9_goes_108 : decode cX9_goes 108 = .ok (.iinc 4 1, 3) := by decide +kernel
theorem dX9_goes_111 : decode cX9_goes 111 = .ok (.goto (-66), 3) := by decide +kernel
theorem dX9_goes_114 : decode cX9_goes 114 = .ok (.aload_n 0, 1) := by decide +kernel
theorem dX9_goes_115 : decode cX9_goes 115 = .ok (.aload_n 0, 1) := by decide +kernel
theorem dX9_goes_116 : decode cX9_goes 116 = .ok (.getfield 7, 3) := by decide +kernel
theorem dX9_goes_119 : decode cX9_goes 119 = .ok (.invokevirtual 164, 3) := by decide +kernel
theorem dX9_goes_122 : decode cX9_goes 122 = .ok (.pop, 1) := by decide +kernel
theorem dX9_goes_123 : decode cX9_goes 123 = .ok (.iinc 3 1, 3) := by decide +kernel
theorem dX9_goes_126 : decode cX9_goes 126 = .ok (.goto (-97), 3) := by decide +kernel
theorem dX9_goes_129 : decode cX9_goes 129 = .ok (.aload_n 0, 1) := by decide +kernel
theorem dX9_goes_130 : decode cX9_goes 130 = .ok (.getfield 7, 3) := by decide +kernel
theorem dX9_goes_133 : decode cX9_goes 133 = .ok (.iconst 3, 1) := by decide +kernel
theorem dX9_goes_134 : decode cX9_goes 134 = .ok (.iaload, 1) := by decide +kernel
theorem dX9_goes_135 : decode cX9_goes 135 = .ok (.ireturn, 1) := by decide +kernel
theorem dX9_day_0 : decode cX9_day 0 = .ok (.aload_n 0, 1) := by decide +kernel
theorem dX9_day_1 : decode cX9_day 1 = .ok (.iload_n 1, 1) := by decide +kernel
theorem dX9_day_2 : decode cX9_day 2 = .ok (.iconst 0, 1) := by decide +kernel
theorem dX9_day_3 : decode cX9_day 3 = .ok (.invokevirtual 168, 3) := by decide +kernel
theorem dX9_day_6 : decode cX9_day 6 = .ok (.ireturn, 1) := by decide +kernel
theorem dX9_drift_0 : decode cX9_drift 0 = .ok (.aload_n 0, 1) := by decide +kernel
theorem dX9_drift_1 : decode cX9_drift 1 = .ok (.iload_n 1, 1) := by decide +kernel
theorem dX9_drift_2 : decode cX9_drift 2 = .ok (.iconst 1, 1) := by decide +kernel
theorem dX9_drift_3 : decode cX9_drift 3 = .ok (.invokevirtual 168, 3) := by decide +kernel
theorem dX9_drift_6 : decode cX9_drift 6 = .ok (.ireturn, 1) := by decide +kernel
theorem dX9_fund_0 : decode cX9_fund 0 = .ok (.iload_n 1, 1) := by decide +kernel
theorem dX9_fund_1 : decode cX9_fund 1 = .ok (.iconst 0, 1) := by decide +kernel
theorem dX9_fund_2 : decode cX9_fund 2 = .ok (.sipush 999, 3) := by decide +kernel
theorem dX9_fund_5 : decode cX9_fund 5 = .ok (.invokestatic 55, 3) := by decide +kernel
theorem dX9_fund_8 : decode cX9_fund 8 = .ok (.ifCond .ne 6, 3) := by decide +kernel
theorem dX9_fund_11 : decode cX9_fund 11 = .ok (.ldc 59, 2) := by decide +kernel
theorem dX9_fund_13 : decode cX9_fund 13 = .ok (.ireturn, 1) := by decide +kernel
theorem dX9_fund_14 : decode cX9_fund 14 = .ok (.aload_n 0, 1) := by decide +kernel
theorem dX9_fund_15 : decode cX9_fund 15 = .ok (.getfield 7, 3) := by decide +kernel
theorem dX9_fund_18 : decode cX9_fund 18 = .ok (.iconst 3, 1) := by decide +kernel
theorem dX9_fund_19 : decode cX9_fund 19 = .ok (.ldc 146, 2) := by decide +kernel
theorem dX9_fund_21 : decode cX9_fund 21 = .ok (.aload_n 0, 1) := by decide +kernel
theorem dX9_fund_22 : decode cX9_fund 22 = .ok (.getfield 7, 3) := by decide +kernel
theorem dX9_fund_25 : decode cX9_fund 25 = .ok (.iconst 3, 1) := by decide +kernel
theorem dX9_fund_26 : decode cX9_fund 26 = .ok (.iaload, 1) := by decide +kernel
theorem dX9_fund_27 : decode cX9_fund 27 = .ok (.iload_n 1, 1) := by decide +kernel
theorem dX9_fund_28 : decode cX9_fund 28 = .ok (.iadd, 1) := by decide +kernel
theorem dX9_fund_29 : decode cX9_fund 29 = .ok (.invokestatic 128, 3) := by decide +kernel
theorem dX9_fund_32 : decode cX9_fund 32 = .ok (.iastore, 1) := by decide +kernel
theorem dX9_fund_33 : decode cX9_fund 33 = .ok (.aload_n 0, 1) := by decide +kernel
theorem dX9_fund_34 : decode cX9_fund 34 = .ok (.getfield 7, 3) := by decide +kernel
theorem dX9_fund_37 : decode cX9_fund 37 = .ok (.iconst 3, 1) := by decide +kernel
theorem dX9_fund_38 : decode cX9_fund 38 = .ok (.iaload, 1) := by decide +kernel
theorem dX9_fund_39 : decode cX9_fund 39 = .ok (.ireturn, 1) := by decide +kernel
theorem dX9_habit_0 : decode cX9_habit 0 = .ok (.aload_n 0, 1) := by decide +kernel
theorem dX9_habit_1 : decode cX9_habit 1 = .ok (.iload_n 1, 1) := by decide +kernel
theorem dX9_habit_2 : decode cX9_habit 2 = .ok (.invokevirtual 135, 3) := by decide +kernel
theorem dX9_habit_5 : decode cX9_habit 5 = .ok (.ifCond .ne 6, 3) := by decide +kernel
theorem dX9_habit_8 : decode cX9_habit 8 = .ok (.ldc 139, 2) := by decide +kernel
theorem dX9_habit_10 : decode cX9_habit 10 = .ok (.ireturn, 1) := by decide +kernel
theorem dX9_habit_11 : decode cX9_habit 11 = .ok (.iload_n 2, 1) := by decide +kernel
theorem dX9_habit_12 : decode cX9_habit 12 = .ok (.iconst 0, 1) := by decide +kernel
theorem dX9_habit_13 : decode cX9_habit 13 = .ok (.iconst 2, 1) := by decide +kernel
theorem dX9_habit_14 : decode cX9_habit 14 = .ok (.invokestatic 55, 3) := by decide +kernel
theorem dX9_habit_17 : decode cX9_habit 17 = .ok (.ifCond .ne 6, 3) := by decide +kernel
theorem dX9_habit_20 : decode cX9_habit 20 = .ok (.ldc 59, 2) := by decide +kernel
theorem dX9_habit_22 : decode cX9_habit 22 = .ok (.ireturn, 1) := by decide +kernel
theorem dX9_habit_23 : decode cX9_habit 23 = .ok (.aload_n 0, 1) := by decide +kernel
theorem dX9_habit_24 : decode cX9_habit 24 = .ok (.getfield 7, 3) := by decide +kernel
theorem dX9_habit_27 : decode cX9_habit 27 = .ok (.iload_n 1, 1) := by decide +kernel
theorem dX9_habit_28 : decode cX9_habit 28 = .ok (.invokestatic 82, 3) := by decide +kernel
theorem dX9_habit_31 : decode cX9_habit 31 = .ok (.iconst 4, 1) := by decide +kernel
theorem dX9_habit_32 : decode cX9_habit 32 = .ok (.iadd, 1) := by decide +kernel
theorem dX9_habit_33 : decode cX9_habit 33 = .ok (.iaload, 1) := by decide +kernel
theorem dX9_habit_34 : decode cX9_habit 34 = .ok (.istore_n 3, 1) := by decide +kernel
theorem dX9_habit_35 : decode cX9_habit 35 = .ok (.aload_n 0, 1) := by decide +kernel
theorem dX9_habit_36 : decode cX9_habit 36 = .ok (.getfield 7, 3) := by decide +kernel
theorem dX9_habit_39 : decode cX9_habit 39 = .ok (.iload_n 1, 1) := by decide +kernel
theorem dX9_habit_40 : decode cX9_habit 40 = .ok (.invokestatic 82, 3) := by decide +kernel
theorem dX9_habit_43 : decode cX9_habit 43 = .ok (.iconst 4, 1) := by decide +kernel
theorem dX9_habit_44 : decode cX9_habit 44 = .ok (.iadd, 1) := by decide +kernel
theorem dX9_habit_45 : decode cX9_habit 45 = .ok (.iload_n 2, 1) := by decide +kernel
theorem dX9_habit_46 : decode cX9_habit 46 = .ok (.iastore, 1) := by decide +kernel
theorem dX9_habit_47 : decode cX9_habit 47 = .ok (.iload_n 3, 1) := by decide +kernel
theorem dX9_habit_48 : decode cX9_habit 48 = .ok (.ireturn, 1) := by decide +kernel
theorem dX9_lapse_0 : decode cX9_lapse 0 = .ok (.aload_n 0, 1) := by decide +kernel
theorem dX9_lapse_1 : decode cX9_lapse 1 = .ok (.iload_n 1, 1) := by decide +kernel
theorem dX9_lapse_2 : decode cX9_lapse 2 = .ok (.invokevirtual 143, 3) := by decide +kernel
theorem dX9_lapse_5 : decode cX9_lapse 5 = .ok (.ifCond .ne 6, 3) := by decide +kernel
theorem dX9_lapse_8 : decode cX9_lapse 8 = .ok (.ldc 139, 2) := by decide +kernel
theorem dX9_lapse_10 : decode cX9_lapse 10 = .ok (.ireturn, 1) := by decide +kernel
theorem dX9_lapse_11 : decode cX9_lapse 11 = .ok (.aload_n 0, 1) := by decide +kernel
theorem dX9_lapse_12 : decode cX9_lapse 12 = .ok (.getfield 7, 3) := by decide +kernel
theorem dX9_lapse_15 : decode cX9_lapse 15 = .ok (.iload_n 1, 1) := by decide +kernel
theorem dX9_lapse_16 : decode cX9_lapse 16 = .ok (.invokestatic 90, 3) := by decide +kernel
theorem dX9_lapse_19 : decode cX9_lapse 19 = .ok (.bipush 6, 2) := by decide +kernel
theorem dX9_lapse_21 : decode cX9_lapse 21 = .ok (.iadd, 1) := by decide +kernel
theorem dX9_lapse_22 : decode cX9_lapse 22 = .ok (.iaload, 1) := by decide +kernel
theorem dX9_lapse_23 : decode cX9_lapse 23 = .ok (.istore_n 3, 1) := by decide +kernel
theorem dX9_lapse_24 : decode cX9_lapse 24 = .ok (.aload_n 0, 1) := by decide +kernel
theorem dX9_lapse_25 : decode cX9_lapse 25 = .ok (.getfield 7, 3) := by decide +kernel
theorem dX9_lapse_28 : decode cX9_lapse 28 = .ok (.iload_n 1, 1) := by decide +kernel
theorem dX9_lapse_29 : decode cX9_lapse 29 = .ok (.invokestatic 90, 3) := by decide +kernel
theorem dX9_lapse_32 : decode cX9_lapse 32 = .ok (.bipush 6, 2) := by decide +kernel
theorem dX9_lapse_34 : decode cX9_lapse 34 = .ok (.iadd, 1) := by decide +kernel
theorem dX9_lapse_35 : decode cX9_lapse 35 = .ok (.iload_n 2, 1) := by decide +kernel
theorem dX9_lapse_36 : decode cX9_lapse 36 = .ok (.ifCond .eq 7, 3) := by decide +kernel
theorem dX9_lapse_39 : decode cX9_lapse 39 = .ok (.iconst 1, 1) := by decide +kernel
theorem dX9_lapse_40 : decode cX9_lapse 40 = .ok (.goto 4, 3) := by decide +kernel
theorem dX9_lapse_43 : decode cX9_lapse 43 = .ok (.iconst 0, 1) := by decide +kernel
theorem dX9_lapse_44 : decode cX9_lapse 44 = .ok (.iastore, 1) := by decide +kernel
theorem dX9_lapse_45 : decode cX9_lapse 45 = .ok (.iload_n 3, 1) := by decide +kernel
theorem dX9_lapse_46 : decode cX9_lapse 46 = .ok (.ireturn, 1) := by decide +kernel
theorem dX9_undo_0 : decode cX9_undo 0 = .ok (.iload_n 1, 1) := by decide +kernel
theorem dX9_undo_1 : decode cX9_undo 1 = .ok (.iconst 1, 1) := by decide +kernel
theorem dX9_undo_2 : decode cX9_undo 2 = .ok (.bipush 30, 2) := by decide +kernel
theorem dX9_undo_4 : decode cX9_undo 4 = .ok (.invokestatic 55, 3) := by decide +kernel
theorem dX9_undo_7 : decode cX9_undo 7 = .ok (.ifCond .ne 6, 3) := by decide +kernel
theorem dX9_undo_10 : decode cX9_undo 10 = .ok (.ldc 59, 2) := by decide +kernel
theorem dX9_undo_12 : decode cX9_undo 12 = .ok (.ireturn, 1) := by decide +kernel
theorem dX9_undo_13 : decode cX9_undo 13 = .ok (.iload_n 1, 1) := by decide +kernel
theorem dX9_undo_14 : decode cX9_undo 14 = .ok (.aload_n 0, 1) := by decide +kernel
theorem dX9_undo_15 : decode cX9_undo 15 = .ok (.getfield 110, 3) := by decide +kernel
theorem dX9_undo_18 : decode cX9_undo 18 = .ok (.if_icmp .le 6, 3) := by decide +kernel
theorem dX9_undo_21 : decode cX9_undo 21 = .ok (.ldc 172, 2) := by decide +kernel
theorem dX9_undo_23 : decode cX9_undo 23 = .ok (.ireturn, 1) := by decide +kernel
theorem dX9_undo_24 : decode cX9_undo 24 = .ok (.aload_n 0, 1) := by decide +kernel
theorem dX9_undo_25 : decode cX9_undo 25 = .ok (.dup, 1) := by decide +kernel
theorem dX9_undo_26 : decode cX9_undo 26 = .ok (.getfield 110, 3) := by decide +kernel
theorem dX9_undo_29 : decode cX9_undo 29 = .ok (.iload_n 1, 1) := by decide +kernel
theorem dX9_undo_30 : decode cX9_undo 30 = .ok (.isub, 1) := by decide +kernel
theorem dX9_undo_31 : decode cX9_undo 31 = .ok (.putfield 110, 3) := by decide +kernel
theorem dX9_undo_34 : decode cX9_undo 34 = .ok (.aload_n 0, 1) := by decide +kernel
theorem dX9_undo_35 : decode cX9_undo 35 = .ok (.getfield 7, 3) := by decide +kernel
theorem dX9_undo_38 : decode cX9_undo 38 = .ok (.bipush 7, 2) := by decide +kernel
theorem dX9_undo_40 : decode cX9_undo 40 = .ok (.iaload, 1) := by decide +kernel
theorem dX9_undo_41 : decode cX9_undo 41 = .ok (.istore_n 2, 1) := by decide +kernel
theorem dX9_undo_42 : decode cX9_undo 42 = .ok (.aload_n 0, 1) := by decide +kernel
theorem dX9_undo_43 : decode cX9_undo 43 = .ok (.getfield 19, 3) := by decide +kernel
theorem dX9_undo_46 : decode cX9_undo 46 = .ok (.bipush 74, 2) := by decide +kernel
theorem dX9_undo_48 : decode cX9_undo 48 = .ok (.aload_n 0, 1) := by decide +kernel
theorem dX9_undo_49 : decode cX9_undo 49 = .ok (.getfield 110, 3) := by decide +kernel
theorem dX9_undo_52 : decode cX9_undo 52 = .ok (.imul, 1) := by decide +kernel
theorem dX9_undo_53 : decode cX9_undo 53 = .ok (.aload_n 0, 1) := by decide +kernel
theorem dX9_undo_54 : decode cX9_undo 54 = .ok (.getfield 7, 3) := by decide +kernel
theorem dX9_undo_57 : decode cX9_undo 57 = .ok (.iconst 0, 1) := by decide +kernel
theorem dX9_undo_58 : decode cX9_undo 58 = .ok (.invokestatic 106, 3) := by decide +kernel
theorem dX9_undo_61 : decode cX9_undo 61 = .ok (.aload_n 0, 1) := by decide +kernel
theorem dX9_undo_62 : decode cX9_undo 62 = .ok (.getfield 7, 3) := by decide +kernel
theorem dX9_undo_65 : decode cX9_undo 65 = .ok (.bipush 7, 2) := by decide +kernel
theorem dX9_undo_67 : decode cX9_undo 67 = .ok (.iload_n 2, 1) := by decide +kernel
theorem dX9_undo_68 : decode cX9_undo 68 = .ok (.iastore, 1) := by decide +kernel
theorem dX9_undo_69 : decode cX9_undo 69 = .ok (.aload_n 0, 1) := by decide +kernel
theorem dX9_undo_70 : decode cX9_undo 70 = .ok (.getfield 7, 3) := by decide +kernel
theorem dX9_undo_73 : decode cX9_undo 73 = .ok (.iconst 2, 1) := by decide +kernel
theorem dX9_undo_74 : decode cX9_undo 74 = .ok (.iaload, 1) := by decide +kernel
theorem dX9_undo_75 : decode cX9_undo 75 = .ok (.ireturn, 1) := by decide +kernel
theorem dX9_calmBy_0 : decode cX9_calmBy 0 = .ok (.aload_n 0, 1) := by decide +kernel
theorem dX9_calmBy_1 : decode cX9_calmBy 1 = .ok (.getfield 7, 3) := by decide +kernel
theorem dX9_calmBy_4 : decode cX9_calmBy 4 = .ok (.iload_n 1, 1) := by decide +kernel
theorem dX9_calmBy_5 : decode cX9_calmBy 5 = .ok (.invokestatic 90, 3) := by decide +kernel
theorem dX9_calmBy_8 : decode cX9_calmBy 8 = .ok (.iconst 0, 1) := by decide +kernel
theorem dX9_calmBy_9 : decode cX9_calmBy 9 = .ok (.iadd, 1) := by decide +kernel
theorem dX9_calmBy_10 : decode cX9_calmBy 10 = .ok (.iaload, 1) := by decide +kernel
theorem dX9_calmBy_11 : decode cX9_calmBy 11 = .ok (.istore 5, 2) := by decide +kernel
theorem dX9_calmBy_13 : decode cX9_calmBy 13 = .ok (.ldc2_w 173, 3) := by decide +kernel
theorem dX9_calmBy_16 : decode cX9_calmBy 16 = .ok (.lstore 6, 2) := by decide +kernel
theorem dX9_calmBy_18 : decode cX9_calmBy 18 = .ok (.iconst 0, 1) := by decide +kernel
theorem dX9_calmBy_19 : decode cX9_calmBy 19 = .ok (.istore 8, 2) := by decide +kernel
theorem dX9_calmBy_21 : decode cX9_calmBy 21 = .ok (.iload 8, 2) := by decide +kernel
theorem dX9_calmBy_23 : decode cX9_calmBy 23 = .ok (.iconst 4, 1) := by decide +kernel
theorem dX9_calmBy_24 : decode cX9_calmBy 24 = .ok (.if_icmp .ge 57, 3) := by decide +kernel
theorem dX9_calmBy_27 : decode cX9_calmBy 27 = .ok (.iconst 0, 1) := by decide +kernel
theorem dX9_calmBy_28 : decode cX9_calmBy 28 = .ok (.istore 9, 2) := by decide +kernel
theorem dX9_calmBy_30 : decode cX9_calmBy 30 = .ok (.iload 9, 2) := by decide +kernel
theorem dX9_calmBy_32 : decode cX9_calmBy 32 = .ok (.iload_n 3, 1) := by decide +kernel
theorem dX9_calmBy_33 : decode cX9_calmBy 33 = .ok (.if_icmp .ge 42, 3) := by decide +kernel
theorem dX9_calmBy_36 : decode cX9_calmBy 36 = .ok (.iload_n 2, 1) := by decide +kernel
theorem dX9_calmBy_37 : decode cX9_calmBy 37 = .ok (.iload 8, 2) := by decide +kernel
theorem dX9_calmBy_39 : decode cX9_calmBy 39 = .ok (.invokestatic 175, 3) := by decide +kernel
theorem dX9_calmBy_42 : decode cX9_calmBy 42 = .ok (.ifCond .eq 33, 3) := by decide +kernel
theorem dX9_calmBy_45 : decode cX9_calmBy 45 = .ok (.lload 6, 2) := by decide +kernel
theorem dX9_calmBy_47 : decode cX9_calmBy 47 = .ok (.sipush 1000, 3) := by decide +kernel
theorem dX9_calmBy_50 : decode cX9_calmBy 50 = .ok (.aload_n 0, 1) := by decide +kernel
theorem dX9_calmBy_51 : decode cX9_calmBy 51 = .ok (.iload 5, 2) := by decide +kernel
theorem dX9_calmBy_53 : decode cX9_calmBy 53 = .ok (.iload 8, 2) := by decide +kernel
theorem dX9_calmBy_55 : decode cX9_calmBy 55 = .ok (.iload 4, 2) := by decide +kernel
theorem dX9_calmBy_57 : decode cX9_calmBy 57 = .ok (.invokevirtual 131, 3) := by decide +kernel
theorem dX9_calmBy_60 : decode cX9_calmBy 60 = .ok (.isub, 1) := by decide +kernel
theorem dX9_calmBy_61 : decode cX9_calmBy 61 = .ok (.i2l, 1) := by decide +kernel
theorem dX9_calmBy_62 : decode cX9_calmBy 62 = .ok (.lmul, 1) := by decide +kernel
theorem dX9_calmBy_63 : decode cX9_calmBy 63 = .ok (.ldc2_w 179, 3) := by decide +kernel
theorem dX9_calmBy_66 : decode cX9_calmBy 66 = .ok (.ldiv, 1) := by decide +kernel
theorem dX9_calmBy_67 : decode cX9_calmBy 67 = .ok (.lstore 6, 2) := by decide +kernel
theorem dX9_calmBy_69 : decode cX9_calmBy 69 = .ok (.iinc 9 1, 3) := by decide +kernel
theorem dX9_calmBy_72 : decode cX9_calmBy 72 = .ok (.goto (-42), 3) := by decide +kernel
theorem dX9_calmBy_75 : decode cX9_calmBy 75 = .ok (.iinc 8 1, 3) := by decide +kernel
theorem dX9_calmBy_78 : decode cX9_calmBy 78 = .ok (.goto (-57), 3) := by decide +kernel
theorem dX9_calmBy_81 : decode cX9_calmBy 81 = .ok (.lload 6, 2) := by decide +kernel
theorem dX9_calmBy_83 : decode cX9_calmBy 83 = .ok (.lreturn, 1) := by decide +kernel
theorem dX9_calmOf_0 : decode cX9_calmOf 0 = .ok (.aload_n 0, 1) := by decide +kernel
theorem dX9_calmOf_1 : decode cX9_calmOf 1 = .ok (.iload_n 1, 1) := by decide +kernel
theorem dX9_calmOf_2 : decode cX9_calmOf 2 = .ok (.aload_n 0, 1) := by decide +kernel
theorem dX9_calmOf_3 : decode cX9_calmOf 3 = .ok (.getfield 7, 3) := by decide +kernel
theorem dX9_calmOf_6 : decode cX9_calmOf 6 = .ok (.iload_n 1, 1) := by decide +kernel
theorem dX9_calmOf_7 : decode cX9_calmOf 7 = .ok (.invokestatic 90, 3) := by decide +kernel
theorem dX9_calmOf_10 : decode cX9_calmOf 10 = .ok (.iconst 1, 1) := by decide +kernel
theorem dX9_calmOf_11 : decode cX9_calmOf 11 = .ok (.iadd, 1) := by decide +kernel
theorem dX9_calmOf_12 : decode cX9_calmOf 12 = .ok (.iaload, 1) := by decide +kernel
theorem dX9_calmOf_13 : decode cX9_calmOf 13 = .ok (.iload_n 2, 1) := by decide +kernel
theorem dX9_calmOf_14 : decode cX9_calmOf 14 = .ok (.aload_n 0, 1) := by decide +kernel
theorem dX9_calmOf_15 : decode cX9_calmOf 15 = .ok (.getfield 7, 3) := by decide +kernel
theorem dX9_calmOf_18 : decode cX9_calmOf 18 = .ok (.aload_n 0, 1) := by decide +kernel
theorem dX9_calmOf_19 : decode cX9_calmOf 19 = .ok (.getfield 7, 3) := by decide +kernel
theorem dX9_calmOf_22 : decode cX9_calmOf 22 = .ok (.iload_n 1, 1) := by decide +kernel
theorem dX9_calmOf_23 : decode cX9_calmOf 23 = .ok (.invokestatic 90, 3) := by decide +kernel
theorem dX9_calmOf_26 : decode cX9_calmOf 26 = .ok (.iconst 0, 1) := by decide +kernel
theorem dX9_calmOf_27 : decode cX9_calmOf 27 = .ok (.iadd, 1) := by decide +kernel
theorem dX9_calmOf_28 : decode cX9_calmOf 28 = .ok (.iaload, 1) := by decide +kernel
theorem dX9_calmOf_29 : decode cX9_calmOf 29 = .ok (.invokestatic 82, 3) := by decide +kernel
theorem dX9_calmOf_32 : decode cX9_calmOf 32 = .ok (.iconst 4, 1) := by decide +kernel
theorem dX9_calmOf_33 : decode cX9_calmOf 33 = .ok (.iadd, 1) := by decide +kernel
theorem dX9_calmOf_34 : decode cX9_calmOf 34 = .ok (.iaload, 1) := by decide +kernel
theorem dX9_calmOf_35 : decode cX9_calmOf 35 = .ok (.invokevirtual 181, 3) := by decide +kernel
theorem dX9_calmOf_38 : decode cX9_calmOf 38 = .ok (.lreturn, 1) := by decide +kernel
theorem dX9_calm_0 : decode cX9_calm 0 = .ok (.aload_n 0, 1) := by decide +kernel
theorem dX9_calm_1 : decode cX9_calm 1 = .ok (.iload_n 1, 1) := by decide +kernel
theorem dX9_calm_2 : decode cX9_calm 2 = .ok (.invokevirtual 143, 3) := by decide +kernel
theorem dX9_calm_5 : decode cX9_calm 5 = .ok (.ifCond .ne 6, 3) := by decide +kernel
theorem dX9_calm_8 : decode cX9_calm 8 = .ok (.ldc 139, 2) := by decide +kernel
theorem dX9_calm_10 : decode cX9_calm 10 = .ok (.ireturn, 1) := by decide +kernel
theorem dX9_calm_11 : decode cX9_calm 11 = .ok (.iload_n 2, 1) := by decide +kernel
theorem dX9_calm_12 : decode cX9_calm 12 = .ok (.iconst 0, 1) := by decide +kernel
theorem dX9_calm_13 : decode cX9_calm 13 = .ok (.bipush 99, 2) := by decide +kernel
theorem dX9_calm_15 : decode cX9_calm 15 = .ok (.invokestatic 55, 3) := by decide +kernel
theorem dX9_calm_18 : decode cX9_calm 18 = .ok (.ifCond .eq 13, 3) := by decide +kernel
theorem dX9_calm_21 : decode cX9_calm 21 = .ok (.aload_n 0, 1) := by decide +kernel
theorem dX9_calm_22 : decode cX9_calm 22 = .ok (.iload_n 1, 1) := by decide +kernel
theorem dX9_calm_23 : decode cX9_calm 23 = .ok (.iload_n 2, 1) := by decide +kernel
theorem dX9_calm_24 : decode cX9_calm 24 = .ok (.invokevirtual 185, 3) := by decide +kernel
theorem dX9_calm_27 : decode cX9_calm 27 = .ok (.l2i, 1) := by decide +kernel
theorem dX9_calm_28 : decode cX9_calm 28 = .ok (.goto 5, 3) := by decide +kernel
theorem dX9_calm_31 : decode cX9_calm 31 = .ok (.ldc 59, 2) := by decide +kernel
theorem dX9_calm_33 : decode cX9_calm 33 = .ok (.ireturn, 1) := by decide +kernel
theorem dX9_fair_0 : decode cX9_fair 0 = .ok (.aload_n 0, 1) := by decide +kernel
theorem dX9_fair_1 : decode cX9_fair 1 = .ok (.iload_n 1, 1) := by decide +kernel
theorem dX9_fair_2 : decode cX9_fair 2 = .ok (.invokevirtual 143, 3) := by decide +kernel
theorem dX9_fair_5 : decode cX9_fair 5 = .ok (.ifCond .ne 6, 3) := by decide +kernel
theorem dX9_fair_8 : decode cX9_fair 8 = .ok (.ldc 139, 2) := by decide +kernel
theorem dX9_fair_10 : decode cX9_fair 10 = .ok (.ireturn, 1) := by decide +kernel
theorem dX9_fair_11 : decode cX9_fair 11 = .ok (.aload_n 0, 1) := by decide +kernel
theorem dX9_fair_12 : decode cX9_fair 12 = .ok (.iload_n 1, 1) := by decide +kernel
theorem dX9_fair_13 : decode cX9_fair 13 = .ok (.aload_n 0, 1) := by decide +kernel
theorem dX9_fair_14 : decode cX9_fair 14 = .ok (.getfield 7, 3) := by decide +kernel
theorem dX9_fair_17 : decode cX9_fair 17 = .ok (.iload_n 1, 1) := by decide +kernel
theorem dX9_fair_18 : decode cX9_fair 18 = .ok (.invokestatic 90, 3) := by decide +kernel
theorem dX9_fair_21 : decode cX9_fair 21 = .ok (.iconst 2, 1) := by decide +kernel
theorem dX9_fair_22 : decode cX9_fair 22 = .ok (.iadd, 1) := by decide +kernel
theorem dX9_fair_23 : decode cX9_fair 23 = .ok (.iaload, 1) := by decide +kernel
theorem dX9_fair_24 : decode cX9_fair 24 = .ok (.invokevirtual 185, 3) := by decide +kernel
theorem dX9_fair_27 : decode cX9_fair 27 = .ok (.lstore_n 2, 1) := by decide +kernel
theorem dX9_fair_28 : decode cX9_fair 28 = .ok (.aload_n 0, 1) := by decide +kernel
theorem dX9_fair_29 : decode cX9_fair 29 = .ok (.getfield 7, 3) := by decide +kernel
theorem dX9_fair_32 : decode cX9_fair 32 = .ok (.iload_n 1, 1) := by decide +kernel
theorem dX9_fair_33 : decode cX9_fair 33 = .ok (.invokestatic 90, 3) := by decide +kernel
theorem dX9_fair_36 : decode cX9_fair 36 = .ok (.iconst 3, 1) := by decide +kernel
theorem dX9_fair_37 : decode cX9_fair 37 = .ok (.iadd, 1) := by decide +kernel
theorem dX9_fair_38 : decode cX9_fair 38 = .ok (.iaload, 1) := by decide +kernel
theorem dX9_fair_39 : decode cX9_fair 39 = .ok (.i2l, 1) := by decide +kernel
theorem dX9_fair_40 : decode cX9_fair 40 = .ok (.lload_n 2, 1) := by decide +kernel
theorem dX9_fair_41 : decode cX9_fair 41 = .ok (.lmul, 1) := by decide +kernel
theorem dX9_fair_42 : decode cX9_fair 42 = .ok (.lstore 4, 2) := by decide +kernel
theorem dX9_fair_44 : decode cX9_fair 44 = .ok (.ldc2_w 173, 3) := by decide +kernel
theorem dX9_fair_47 : decode cX9_fair 47 = .ok (.lload_n 2, 1) := by decide +kernel
theorem dX9_fair_48 : decode cX9_fair 48 = .ok (.lsub, 1) := by decide +kernel
theorem dX9_fair_49 : decode cX9_fair 49 = .ok (.lstore 6, 2) := by decide +kernel
theorem dX9_fair_51 : decode cX9_fair 51 = .ok (.lload 6, 2) := by decide +kernel
theorem dX9_fair_53 : decode cX9_fair 53 = .ok (.lconst 0, 1) := by decide +kernel
theorem dX9_fair_54 : decode cX9_fair 54 = .ok (.lcmp, 1) := by decide +kernel
theorem dX9_fair_55 : decode cX9_fair 55 = .ok (.ifCond .ne 16, 3) := by decide +kernel
theorem dX9_fair_58 : decode cX9_fair 58 = .ok (.lload 4, 2) := by decide +kernel
theorem dX9_fair_60 : decode cX9_fair 60 = .ok (.lconst 0, 1) := by decide +kernel
theorem dX9_fair_61 : decode cX9_fair 61 = .ok (.lcmp, 1) := by decide +kernel
theorem dX9_fair_62 : decode cX9_fair 62 = .ok (.ifCond .ne 7, 3) := by decide +kernel
theorem dX9_fair_65 : decode cX9_fair 65 = .ok (.iconst 0, 1) := by decide +kernel
theorem dX9_fair_66 : decode cX9_fair 66 = .ok (.goto 4, 3) := by decide +kernel
theorem dX9_fair_69 : decode cX9_fair 69 = .ok (.iconst (-1), 1) := by decide +kernel
theorem dX9_fair_70 : decode cX9_fair 70 = .ok (.ireturn, 1) := by decide +kernel
theorem dX9_fair_71 : decode cX9_fair 71 = .ok (.lload 4, 2) := by decide +kernel
theorem dX9_fair_73 : decode cX9_fair 73 = .ok (.lload 6, 2) := by decide +kernel
theorem dX9_fair_75 : decode cX9_fair 75 = .ok (.ladd, 1) := by decide +kernel
theorem dX9_fair_76 : decode cX9_fair 76 = .ok (.lconst 1, 1) := by decide +kernel
theorem dX9_fair_77 : decode cX9_fair 77 = .ok (.lsub, 1) := by decide +kernel
theorem dX9_fair_78 : decode cX9_fair 78 = .ok (.lload 6, 2) := by decide +kernel
theorem dX9_fair_80 : decode cX9_fair 80 = .ok (.ldiv, 1) := by decide +kernel
theorem dX9_fair_81 : decode cX9_fair 81 = .ok (.l2i, 1) := by decide +kernel
theorem dX9_fair_82 : decode cX9_fair 82 = .ok (.ireturn, 1) := by decide +kernel
theorem dX9_pays_0 : decode cX9_pays 0 = .ok (.aload_n 0, 1) := by decide +kernel
theorem dX9_pays_1 : decode cX9_pays 1 = .ok (.iload_n 1, 1) := by decide +kernel
theorem dX9_pays_2 : decode cX9_pays 2 = .ok (.invokevirtual 143, 3) := by decide +kernel
theorem dX9_pays_5 : decode cX9_pays 5 = .ok (.ifCond .ne 6, 3) := by decide +kernel
theorem dX9_pays_8 : decode cX9_pays 8 = .ok (.ldc 139, 2) := by decide +kernel
theorem dX9_pays_10 : decode cX9_pays 10 = .ok (.ireturn, 1) := by decide +kernel
theorem dX9_pays_11 : decode cX9_pays 11 = .ok (.iload_n 2, 1) := by decide +kernel
theorem dX9_pays_12 : decode cX9_pays 12 = .ok (.iconst 1, 1) := by decide +kernel
theorem dX9_pays_13 : decode cX9_pays 13 = .ok (.bipush 60, 2) := by decide +kernel
theorem dX9_pays_15 : decode cX9_pays 15 = .ok (.invokestatic 55, 3) := by decide +kernel
theorem dX9_pays_18 : decode cX9_pays 18 = .ok (.ifCond .ne 6, 3) := by decide +kernel
theorem dX9_pays_21 : decode cX9_pays 21 = .ok (.ldc 59, 2) := by decide +kernel
theorem dX9_pays_23 : decode cX9_pays 23 = .ok (.ireturn, 1) := by decide +kernel
theorem dX9_pays_24 : decode cX9_pays 24 = .ok (.iload_n 1, 1) := by decide +kernel
theorem dX9_pays_25 : decode cX9_pays 25 = .ok (.invokestatic 90, 3) := by decide +kernel
theorem dX9_pays_28 : decode cX9_pays 28 = .ok (.istore_n 3, 1) := by decide +kernel
theorem dX9_pays_29 : decode cX9_pays 29 = .ok (.aload_n 0, 1) := by decide +kernel
theorem dX9_pays_30 : decode cX9_pays 30 = .ok (.getfield 7, 3) := by decide +kernel
theorem dX9_pays_33 : decode cX9_pays 33 = .ok (.iload_n 3, 1) := by decide +kernel
theorem dX9_pays_34 : decode cX9_pays 34 = .ok (.bipush 6, 2) := by decide +kernel
theorem dX9_pays_36 : decode cX9_pays 36 = .ok (.iadd, 1) := by decide +kernel
theorem dX9_pays_37 : decode cX9_pays 37 = .ok (.iaload, 1) := by decide +kernel
theorem dX9_pays_38 : decode cX9_pays 38 = .ok (.iconst 1, 1) := by decide +kernel
theorem dX9_pays_39 : decode cX9_pays 39 = .ok (.if_icmp .ne 6, 3) := by decide +kernel
theorem dX9_pays_42 : decode cX9_pays 42 = .ok (.ldc 172, 2) := by decide +kernel
theorem dX9_pays_44 : decode cX9_pays 44 = .ok (.ireturn, 1) := by decide +kernel
theorem dX9_pays_45 : decode cX9_pays 45 = .ok (.aload_n 0, 1) := by decide +kernel
theorem dX9_pays_46 : decode cX9_pays 46 = .ok (.getfield 7, 3) := by decide +kernel
theorem dX9_pays_49 : decode cX9_pays 49 = .ok (.iload_n 3, 1) := by decide +kernel
theorem dX9_pays_50 : decode cX9_pays 50 = .ok (.iconst 2, 1) := by decide +kernel
theorem dX9_pays_51 : decode cX9_pays 51 = .ok (.iadd, 1) := by decide +kernel
theorem dX9_pays_52 : decode cX9_pays 52 = .ok (.iaload, 1) := by decide +kernel
theorem dX9_pays_53 : decode cX9_pays 53 = .ok (.istore 4, 2) := by decide +kernel
theorem dX9_pays_55 : decode cX9_pays 55 = .ok (.aload_n 0, 1) := by decide +kernel
theorem dX9_pays_56 : decode cX9_pays 56 = .ok (.iload_n 1, 1) := by decide +kernel
theorem dX9_pays_57 : decode cX9_pays 57 = .ok (.iconst 1, 1) := by decide +kernel
theorem dX9_pays_58 : decode cX9_pays 58 = .ok (.invokevirtual 185, 3) := by decide +kernel
theorem dX9_pays_61 : decode cX9_pays 61 = .ok (.lstore 5, 2) := by decide +kernel
theorem dX9_pays_63 : decode cX9_pays 63 = .ok (.iconst 0, 1) := by decide +kernel
theorem dX9_pays_64 : decode cX9_pays 64 = .ok (.istore 7, 2) := by decide +kernel
theorem dX9_pays_66 : decode cX9_pays 66 = .ok (.iload 7, 2) := by decide +kernel
theorem dX9_pays_68 : decode cX9_pays 68 = .ok (.bipush 31, 2) := by decide +kernel
theorem dX9_pays_70 : decode cX9_pays 70 = .ok (.if_icmp .ge 36, 3) := by decide +kernel
theorem dX9_pays_73 : decode cX9_pays 73 = .ok (.aload_n 0, 1) := by decide +kernel
theorem dX9_pays_74 : decode cX9_pays 74 = .ok (.getfield 44, 3) := by decide +kernel
theorem dX9_pays_77 : decode cX9_pays 77 = .ok (.iload 7, 2) := by decide +kernel
theorem dX9_pays_79 : decode cX9_pays 79 = .ok (.iload 7, 2) := by decide +kernel
theorem dX9_pays_81 : decode cX9_pays 81 = .ok (.aload_n 0, 1) := by decide +kernel
theorem dX9_pays_82 : decode cX9_pays 82 = .ok (.getfield 7, 3) := by decide +kernel
theorem dX9_pays_85 : decode cX9_pays 85 = .ok (.iload_n 3, 1) := by decide +kernel
theorem dX9_pays_86 : decode cX9_pays 86 = .ok (.iconst 5, 1) := by decide +kernel
theorem dX9_pays_87 : decode cX9_pays 87 = .ok (.iadd, 1) := by decide +kernel
theorem dX9_pays_88 : decode cX9_pays 88 = .ok (.iaload, 1) := by decide +kernel
theorem dX9_pays_89 : decode cX9_pays 89 = .ok (.if_icmp .ne 9, 3) := by decide +kernel
theorem dX9_pays_92 : decode cX9_pays 92 = .ok (.ldc2_w 173, 3) := by decide +kernel
theorem dX9_pays_95 : decode cX9_pays 95 = .ok (.goto 4, 3) := by decide +kernel
theorem dX9_pays_98 : decode cX9_pays 98 = .ok (.lconst 0, 1) := by decide +kernel
theorem dX9_pays_99 : decode cX9_pays 99 = .ok (.lastore, 1) := by decide +kernel
theorem dX9_pays_100 : decode cX9_pays 100 = .ok (.iinc 7 1, 3) := by decide +kernel
theorem dX9_pays_103 : decode cX9_pays 103 = .ok (.goto (-37), 3) := by decide +kernel
theorem dX9_pays_106 : decode cX9_pays 106 = .ok (.lconst 0, 1) := by decide +kernel
theorem dX9_pays_107 : decode cX9_pays 107 = .ok (.lstore 7, 2) := by decide +kernel
theorem dX9_pays_109 : decode cX9_pays 109 = .ok (.iconst 0, 1) := by decide +kernel
theorem dX9_pays_110 : decode cX9_pays 110 = .ok (.istore 9, 2) := by decide +kernel
theorem dX9_pays_112 : decode cX9_pays 112 = .ok (.iload 9, 2) := by decide +kernel
theorem dX9_pays_114 : decode cX9_pays 114 = .ok (.iload_n 2, 1) := by decide +kernel
theorem dX9_pays_115 : decode cX9_pays 115 = .ok (.if_icmp .ge 148, 3) := by decide +kernel
theorem dX9_pays_118 : decode cX9_pays 118 = .ok (.iconst 0, 1) := by decide +kernel
theorem dX9_pays_119 : decode cX9_pays 119 = .ok (.istore 10, 2) := by decide +kernel
theorem dX9_pays_121 : decode cX9_pays 121 = .ok (.iload 10, 2) := by decide +kernel
theorem dX9_pays_123 : decode cX9_pays 123 = .ok (.bipush 31, 2) := by decide +kernel
theorem dX9_pays_125 : decode cX9_pays 125 = .ok (.if_icmp .ge 17, 3) := by decide +kernel
theorem dX9_pays_128 : decode cX9_pays 128 = .ok (.aload_n 0, 1) := by decide +kernel
theorem dX9_pays_129 : decode cX9_pays 129 = .ok (.getfield 48, 3) := by decide +kernel
theorem dX9_pays_132 : decode cX9_pays 132 = .ok (.iload 10, 2) := by decide +kernel
theorem dX9_pays_134 : decode cX9_pays 134 = .ok (.lconst 0, 1) := by decide +kernel
theorem dX9_pays_135 : decode cX9_pays 135 = .ok (.lastore, 1) := by decide +kernel
theorem dX9_pays_136 : decode cX9_pays 136 = .ok (.iinc 10 1, 3) := by decide +kernel
theorem dX9_pays_139 : decode cX9_pays 139 = .ok (.goto (-18), 3) := by decide +kernel
theorem dX9_pays_142 : decode cX9_pays 142 = .ok (.iconst 0, 1) := by decide +kernel
theorem dX9_pays_143 : decode cX9_pays 143 = .ok (.istore 10, 2) := by decide +kernel
theorem dX9_pays_145 : decode cX9_pays 145 = .ok (.iload 10, 2) := by decide +kernel
theorem dX9_pays_147 : decode cX9_pays 147 = .ok (.iload 4, 2) := by decide +kernel
theorem dX9_pays_149 : decode cX9_pays 149 = .ok (.if_icmp .ge 58, 3) := by decide +kernel
theorem dX9_pays_152 : decode cX9_pays 152 = .ok (.aload_n 0, 1) := by decide +kernel
theorem dX9_pays_153 : decode cX9_pays 153 = .ok (.getfield 44, 3) := by decide +kernel
theorem dX9_pays_156 : decode cX9_pays 156 = .ok (.iload 10, 2) := by decide +kernel
theorem dX9_pays_158 : decode cX9_pays 158 = .ok (.laload, 1) := by decide +kernel
theorem dX9_pays_159 : decode cX9_pays 159 = .ok (.lload 5, 2) := by decide +kernel
theorem dX9_pays_161 : decode cX9_pays 161 = .ok (.lmul, 1) := by decide +kernel
theorem dX9_pays_162 : decode cX9_pays 162 = .ok (.ldc2_w 173, 3) := by decide +kernel
theorem dX9_pays_165 : decode cX9_pays 165 = .ok (.ldiv, 1) := by decide +kernel
theorem dX9_pays_166 : decode cX9_pays 166 = .ok (.lstore 11, 2) := by decide +kernel
theorem dX9_pays_168 : decode cX9_pays 168 = .ok (.aload_n 0, 1) := by decide +kernel
theorem dX9_pays_169 : decode cX9_pays 169 = .ok (.getfield 48, 3) := by decide +kernel
theorem dX9_pays_172 : decode cX9_pays 172 = .ok (.iload 10, 2) := by decide +kernel
theorem dX9_pays_174 : decode cX9_pays 174 = .ok (.iconst 1, 1) := by decide +kernel
theorem dX9_pays_175 : decode cX9_pays 175 = .ok (.iadd, 1) := by decide +kernel
theorem dX9_pays_176 : decode cX9_pays 176 = .ok (.dup2, 1) := by decide +kernel
theorem dX9_pays_177 : decode cX9_pays 177 = .ok (.laload, 1) := by decide +kernel
theorem dX9_pays_178 : decode cX9_pays 178 = .ok (.lload 11, 2) := by decide +kernel
theorem dX9_pays_180 : decode cX9_pays 180 = .ok (.ladd, 1) := by decide +kernel
theorem dX9_pays_181 : decode cX9_pays 181 = .ok (.lastore, 1) := by decide +kernel
theorem dX9_pays_182 : decode cX9_pays 182 = .ok (.aload_n 0, 1) := by decide +kernel
theorem dX9_pays_183 : decode cX9_pays 183 = .ok (.getfield 48, 3) := by decide +kernel
theorem dX9_pays_186 : decode cX9_pays 186 = .ok (.iconst 0, 1) := by decide +kernel
theorem dX9_pays_187 : decode cX9_pays 187 = .ok (.dup2, 1) := by decide +kernel
theorem dX9_pays_188 : decode cX9_pays 188 = .ok (.laload, 1) := by decide +kernel
theorem dX9_pays_189 : decode cX9_pays 189 = .ok (.aload_n 0, 1) := by decide +kernel
theorem dX9_pays_190 : decode cX9_pays 190 = .ok (.getfield 44, 3) := by decide +kernel
theorem dX9_pays_193 : decode cX9_pays 193 = .ok (.iload 10, 2) := by decide +kernel
theorem dX9_pays_195 : decode cX9_pays 195 = .ok (.laload, 1) := by decide +kernel
theorem dX9_pays_196 : decode cX9_pays 196 = .ok (.lload 11, 2) := by decide +kernel
theorem dX9_pays_198 : decode cX9_pays 198 = .ok (.lsub, 1) := by decide +kernel
theorem dX9_pays_199 : decode cX9_pays 199 = .ok (.ladd, 1) := by decide +kernel
theorem dX9_pays_200 : decode cX9_pays 200 = .ok (.lastore, 1) := by decide +kernel
theorem dX9_pays_201 : decode cX9_pays 201 = .ok (.iinc 10 1, 3) := by decide +kernel
theorem dX9_pays_204 : decode cX9_pays 204 = .ok (.goto (-59), 3) := by decide +kernel
theorem dX9_pays_207 : decode cX9_pays 207 = .ok (.lload 7, 2) := by decide +kernel
theorem dX9_pays_209 : decode cX9_pays 209 = .ok (.aload_n 0, 1) := by decide +kernel
theorem dX9_pays_210 : decode cX9_pays 210 = .ok (.getfield 48, 3) := by decide +kernel
theorem dX9_pays_213 : decode cX9_pays 213 = .ok (.iload 4, 2) := by decide +kernel
theorem dX9_pays_215 : decode cX9_pays 215 = .ok (.laload, 1) := by decide +kernel
theorem dX9_pays_216 : decode cX9_pays 216 = .ok (.ladd, 1) := by decide +kernel
theorem dX9_pays_217 : decode cX9_pays 217 = .ok (.lstore 7, 2) := by decide +kernel
theorem dX9_pays_219 : decode cX9_pays 219 = .ok (.aload_n 0, 1) := by decide +kernel
theorem dX9_pays_220 : decode cX9_pays 220 = .ok (.getfield 48, 3) := by decide +kernel
theorem dX9_pays_223 : decode cX9_pays 223 = .ok (.iload 4, 2) := by decide +kernel
theorem dX9_pays_225 : decode cX9_pays 225 = .ok (.lconst 0, 1) := by decide +kernel
theorem dX9_pays_226 : decode cX9_pays 226 = .ok (.lastore, 1) := by decide +kernel
theorem dX9_pays_227 : decode cX9_pays 227 = .ok (.iconst 0, 1) := by decide +kernel
theorem dX9_pays_228 : decode cX9_pays 228 = .ok (.istore 10, 2) := by decide +kernel
theorem dX9_pays_230 : decode cX9_pays 230 = .ok (.iload 10, 2) := by decide +kernel
theorem dX9_pays_232 : decode cX9_pays 232 = .ok (.bipush 31, 2) := by decide +kernel
theorem dX9_pays_234 : decode cX9_pays 234 = .ok (.if_icmp .ge 23, 3) := by decide +kernel
theorem dX9_pays_237 : decode cX9_pays 237 = .ok (.aload_n 0, 1) := by decide +kernel
theorem dX9_pays_238 : decode cX9_pays 238 = .ok (.getfield 44, 3) := by decide +kernel
theorem dX9_pays_241 : decode cX9_pays 241 = .ok (.iload 10, 2) := by decide +kernel
theorem dX9_pays_243 : decode cX9_pays 243 = .ok (.aload_n 0, 1) := by decide +kernel
theorem dX9_pays_244 : decode cX9_pays 244 = .ok (.getfield 48, 3) := by decide +kernel
theorem dX9_pays_247 : decode cX9_pays 247 = .ok (.iload 10, 2) := by decide +kernel
theorem dX9_pays_249 : decode cX9_pays 249 = .ok (.laload, 1) := by decide +kernel
theorem dX9_pays_250 : decode cX9_pays 250 = .ok (.lastore, 1) := by decide +kernel
theorem dX9_pays_251 : decode cX9_pays 251 = .ok (.iinc 10 1, 3) := by decide +kernel
theorem dX9_pays_254 : decode cX9_pays 254 = .ok (.goto (-24), 3) := by decide +kernel
theorem dX9_pays_257 : decode cX9_pays 257 = .ok (.iinc 9 1, 3) := by decide +kernel
theorem dX9_pays_260 : decode cX9_pays 260 = .ok (.goto (-148), 3) := by decide +kernel
theorem dX9_pays_263 : decode cX9_pays 263 = .ok (.lload 7, 2) := by decide +kernel
theorem dX9_pays_265 : decode cX9_pays 265 = .ok (.l2i, 1) := by decide +kernel
theorem dX9_pays_266 : decode cX9_pays 266 = .ok (.ireturn, 1) := by decide +kernel
theorem dX9_soonest_0 : decode cX9_soonest 0 = .ok (.aload_n 0, 1) := by decide +kernel
theorem dX9_soonest_1 : decode cX9_soonest 1 = .ok (.getfield 7, 3) := by decide +kernel
theorem dX9_soonest_4 : decode cX9_soonest 4 = .ok (.iconst 0, 1) := by decide +kernel
theorem dX9_soonest_5 : decode cX9_soonest 5 = .ok (.aload_n 0, 1) := by decide +kernel
theorem dX9_soonest_6 : decode cX9_soonest 6 = .ok (.getfield 16, 3) := by decide +kernel
theorem dX9_soonest_9 : decode cX9_soonest 9 = .ok (.iconst 0, 1) := by decide +kernel
theorem dX9_soonest_10 : decode cX9_soonest 10 = .ok (.invokestatic 106, 3) := by decide +kernel
theorem dX9_soonest_13 : decode cX9_soonest 13 = .ok (.aload_n 0, 1) := by decide +kernel
theorem dX9_soonest_14 : decode cX9_soonest 14 = .ok (.invokevirtual 189, 3) := by decide +kernel
theorem dX9_soonest_17 : decode cX9_soonest 17 = .ok (.iconst 1, 1) := by decide +kernel
theorem dX9_soonest_18 : decode cX9_soonest 18 = .ok (.istore_n 1, 1) := by decide +kernel
theorem dX9_soonest_19 : decode cX9_soonest 19 = .ok (.iload_n 1, 1) := by decide +kernel
theorem dX9_soonest_20 : decode cX9_soonest 20 = .ok (.sipush 1000, 3) := by decide +kernel
theorem dX9_soonest_23 : decode cX9_soonest 23 = .ok (.if_icmp .ge 22, 3) := by decide +kernel
theorem dX9_soonest_26 : decode cX9_soonest 26 = .ok (.aload_n 0, 1) := by decide +kernel
theorem dX9_soonest_27 : decode cX9_soonest 27 = .ok (.aload_n 0, 1) := by decide +kernel
theorem dX9_soonest_28 : decode cX9_soonest 28 = .ok (.getfield 16, 3) := by decide +kernel
theorem dX9_soonest_31 : decode cX9_soonest 31 = .ok (.invokevirtual 164, 3) := by decide +kernel
theorem dX9_soonest_34 : decode cX9_soonest 34 = .ok (.ifCond .eq 5, 3) := by decide +kernel
theorem dX9_soonest_37 : decode cX9_soonest 37 = .ok (.iload_n 1, 1) := by decide +kernel
theorem dX9_soonest_38 : decode cX9_soonest 38 = .ok (.ireturn, 1) := by decide +kernel
theorem dX9_soonest_39 : decode cX9_soonest 39 = .ok (.iinc 1 1, 3) := by decide +kernel
theorem dX9_soonest_42 : decode cX9_soonest 42 = .ok (.goto (-23), 3) := by decide +kernel
theorem dX9_soonest_45 : decode cX9_soonest 45 = .ok (.iconst (-1), 1) := by decide +kernel
theorem dX9_soonest_46 : decode cX9_soonest 46 = .ok (.ireturn, 1) := by decide +kernel
theorem dX9_needs_0 : decode cX9_needs 0 = .ok (.iload_n 1, 1) := by decide +kernel
theorem dX9_needs_1 : decode cX9_needs 1 = .ok (.iconst 1, 1) := by decide +kernel
theorem dX9_needs_2 : decode cX9_needs 2 = .ok (.bipush 99, 2) := by decide +kernel
theorem dX9_needs_4 : decode cX9_needs 4 = .ok (.invokestatic 55, 3) := by decide +kernel
theorem dX9_needs_7 : decode cX9_needs 7 = .ok (.ifCond .ne 6, 3) := by decide +kernel
theorem dX9_needs_10 : decode cX9_needs 10 = .ok (.ldc 59, 2) := by decide +kernel
theorem dX9_needs_12 : decode cX9_needs 12 = .ok (.ireturn, 1) := by decide +kernel
theorem dX9_needs_13 : decode cX9_needs 13 = .ok (.aload_n 0, 1) := by decide +kernel
theorem dX9_needs_14 : decode cX9_needs 14 = .ok (.getfield 7, 3) := by decide +kernel
theorem dX9_needs_17 : decode cX9_needs 17 = .ok (.iconst 0, 1) := by decide +kernel
theorem dX9_needs_18 : decode cX9_needs 18 = .ok (.aload_n 0, 1) := by decide +kernel
theorem dX9_needs_19 : decode cX9_needs 19 = .ok (.getfield 16, 3) := by decide +kernel
theorem dX9_needs_22 : decode cX9_needs 22 = .ok (.iconst 0, 1) := by decide +kernel
theorem dX9_needs_23 : decode cX9_needs 23 = .ok (.invokestatic 106, 3) := by decide +kernel
theorem dX9_needs_26 : decode cX9_needs 26 = .ok (.aload_n 0, 1) := by decide +kernel
theorem dX9_needs_27 : decode cX9_needs 27 = .ok (.getfield 16, 3) := by decide +kernel
theorem dX9_needs_30 : decode cX9_needs 30 = .ok (.iconst 3, 1) := by decide +kernel
theorem dX9_needs_31 : decode cX9_needs 31 = .ok (.ldc 146, 2) := by decide +kernel
theorem dX9_needs_33 : decode cX9_needs 33 = .ok (.iastore, 1) := by decide +kernel
theorem dX9_needs_34 : decode cX9_needs 34 = .ok (.aload_n 0, 1) := by decide +kernel
theorem dX9_needs_35 : decode cX9_needs 35 = .ok (.invokevirtual 189, 3) := by decide +kernel
theorem dX9_needs_38 : decode cX9_needs 38 = .ok (.iconst 0, 1) := by decide +kernel
theorem dX9_needs_39 : decode cX9_needs 39 = .ok (.istore_n 2, 1) := by decide +kernel
theorem dX9_needs_40 : decode cX9_needs 40 = .ok (.iload_n 2, 1) := by decide +kernel
theorem dX9_needs_41 : decode cX9_needs 41 = .ok (.iload_n 1, 1) := by decide +kernel
theorem dX9_needs_42 : decode cX9_needs 42 = .ok (.if_icmp .ge 18, 3) := by decide +kernel
theorem dX9_needs_45 : decode cX9_needs 45 = .ok (.aload_n 0, 1) := by decide +kernel
theorem dX9_needs_46 : decode cX9_needs 46 = .ok (.aload_n 0, 1) := by decide +kernel
theorem dX9_needs_47 : decode cX9_needs 47 = .ok (.getfield 16, 3) := by decide +kernel
theorem dX9_needs_50 : decode cX9_needs 50 = .ok (.invokevirtual 164, 3) := by decide +kernel
theorem dX9_needs_53 : decode cX9_needs 53 = .ok (.pop, 1) := by decide +kernel
theorem dX9_needs_54 : decode cX9_needs 54 = .ok (.iinc 2 1, 3) := by decide +kernel
theorem dX9_needs_57 : decode cX9_needs 57 = .ok (.goto (-17), 3) := by decide +kernel
theorem dX9_needs_60 : decode cX9_needs 60 = .ok (.ldc 146, 2) := by decide +kernel
theorem dX9_needs_62 : decode cX9_needs 62 = .ok (.aload_n 0, 1) := by decide +kernel
theorem dX9_needs_63 : decode cX9_needs 63 = .ok (.getfield 16, 3) := by decide +kernel
theorem dX9_needs_66 : decode cX9_needs 66 = .ok (.iconst 3, 1) := by decide +kernel
theorem dX9_needs_67 : decode cX9_needs 67 = .ok (.iaload, 1) := by decide +kernel
theorem dX9_needs_68 : decode cX9_needs 68 = .ok (.isub, 1) := by decide +kernel
theorem dX9_needs_69 : decode cX9_needs 69 = .ok (.ireturn, 1) := by decide +kernel
theorem dX9_holds_0 : decode cX9_holds 0 = .ok (.aload_n 0, 1) := by decide +kernel
theorem dX9_holds_1 : decode cX9_holds 1 = .ok (.getfield 7, 3) := by decide +kernel
theorem dX9_holds_4 : decode cX9_holds 4 = .ok (.iconst 0, 1) := by decide +kernel
theorem dX9_holds_5 : decode cX9_holds 5 = .ok (.aload_n 0, 1) := by decide +kernel
theorem dX9_holds_6 : decode cX9_holds 6 = .ok (.getfield 16, 3) := by decide +kernel
theorem dX9_holds_9 : decode cX9_holds 9 = .ok (.iconst 0, 1) := by decide +kernel
theorem dX9_holds_10 : decode cX9_holds 10 = .ok (.invokestatic 106, 3) := by decide +kernel
theorem dX9_holds_13 : decode cX9_holds 13 = .ok (.aload_n 0, 1) := by decide +kernel
theorem dX9_holds_14 : decode cX9_holds 14 = .ok (.invokevirtual 189, 3) := by decide +kernel
theorem dX9_holds_17 : decode cX9_holds 17 = .ok (.iconst 0, 1) := by decide +kernel
theorem dX9_holds_18 : decode cX9_holds 18 = .ok (.istore_n 3, 1) := by decide +kernel
theorem dX9_holds_19 : decode cX9_holds 19 = .ok (.iload_n 3, 1) := by decide +kernel
theorem dX9_holds_20 : decode cX9_holds 20 = .ok (.aload_n 0, 1) := by decide +kernel
theorem dX9_holds_21 : decode cX9_holds 21 = .ok (.getfield 7, 3) := by decide +kernel
theorem dX9_holds_24 : decode cX9_holds 24 = .ok (.iconst 1, 1) := by decide +kernel
theorem dX9_holds_25 : decode cX9_holds 25 = .ok (.iaload, 1) := by decide +kernel
theorem dX9_holds_26 : decode cX9_holds 26 = .ok (.if_icmp .ge 34, 3) := by decide +kernel
theorem dX9_holds_29 : decode cX9_holds 29 = .ok (.aload_n 0, 1) := by decide +kernel
theorem dX9_holds_30 : decode cX9_holds 30 = .ok (.getfield 16, 3) := by decide +kernel
theorem dX9_holds_33 : decode cX9_holds 33 = .ok (.iload_n 3, 1) := by decide +kernel
theorem dX9_holds_34 : decode cX9_holds 34 = .ok (.invokestatic 90, 3) := by decide +kernel
theorem dX9_holds_37 : decode cX9_holds 37 = .ok (.bipush 6, 2) := by decide +kernel
theorem dX9_holds_39 : decode cX9_holds 39 = .ok (.iadd, 1) := by decide +kernel
theorem dX9_holds_40 : decode cX9_holds 40 = .ok (.iload_n 1, 1) := by decide +kernel
theorem dX9_holds_41 : decode cX9_holds 41 = .ok (.iload_n 3, 1) := by decide +kernel
theorem dX9_holds_42 : decode cX9_holds 42 = .ok (.invokestatic 175, 3) := by decide +kernel
theorem dX9_holds_45 : decode cX9_holds 45 = .ok (.ifCond .eq 7, 3) := by decide +kernel
theorem dX9_holds_48 : decode cX9_holds 48 = .ok (.iconst 0, 1) := by decide +kernel
theorem dX9_holds_49 : decode cX9_holds 49 = .ok (.goto 4, 3) := by decide +kernel
theorem dX9_holds_52 : decode cX9_holds 52 = .ok (.iconst 1, 1) := by decide +kernel
theorem dX9_holds_53 : decode cX9_holds 53 = .ok (.iastore, 1) := by decide +kernel
theorem dX9_holds_54 : decode cX9_holds 54 = .ok (.iinc 3 1, 3) := by decide +kernel
theorem dX9_holds_57 : decode cX9_holds 57 = .ok (.goto (-38), 3) := by decide +kernel
theorem dX9_holds_60 : decode cX9_holds 60 = .ok (.iconst 1, 1) := by decide +kernel
theorem dX9_holds_61 : decode cX9_holds 61 = .ok (.istore_n 3, 1) := by decide +kernel
theorem dX9_holds_62 : decode cX9_holds 62 = .ok (.iconst 0, 1) := by decide +kernel
theorem dX9_holds_63 : decode cX9_holds 63 = .ok (.istore 4, 2) := by decide +kernel
theorem dX9_holds_65 : decode cX9_holds 65 = .ok (.iload 4, 2) := by decide +kernel
theorem dX9_holds_67 : decode cX9_holds 67 = .ok (.iload_n 2, 1) := by decide +kernel
theorem dX9_holds_68 : decode cX9_holds 68 = .ok (.if_icmp .ge 30, 3) := by decide +kernel
theorem dX9_holds_71 : decode cX9_holds 71 = .ok (.iload_n 3, 1) := by decide +kernel
theorem dX9_holds_72 : decode cX9_holds 72 = .ok (.ifCond .eq 26, 3) := by decide +kernel
theorem dX9_holds_75 : decode cX9_holds 75 = .ok (.aload_n 0, 1) := by decide +kernel
theorem dX9_holds_76 : decode cX9_holds 76 = .ok (.aload_n 0, 1) := by decide +kernel
theorem dX9_holds_77 : decode cX9_holds 77 = .ok (.getfield 16, 3) := by decide +kernel
theorem dX9_holds_80 : decode cX9_holds 80 = .ok (.invokevirtual 164, 3) := by decide +kernel
theorem dX9_holds_83 : decode cX9_holds 83 = .ok (.ifCond .ne 7, 3) := by decide +kernel
theorem dX9_holds_86 : decode cX9_holds 86 = .ok (.iconst 1, 1) := by decide +kernel
theorem dX9_holds_87 : decode cX9_holds 87 = .ok (.goto 4, 3) := by decide +kernel
theorem dX9_holds_90 : decode cX9_holds 90 = .ok (.iconst 0, 1) := by decide +kernel
theorem dX9_holds_91 : decode cX9_holds 91 = .ok (.istore_n 3, 1) := by decide +kernel
theorem dX9_holds_92 : decode cX9_holds 92 = .ok (.iinc 4 1, 3) := by decide +kernel
theorem dX9_holds_95 : decode cX9_holds 95 = .ok (.goto (-30), 3) := by decide +kernel
theorem dX9_holds_98 : decode cX9_holds 98 = .ok (.iload_n 3, 1) := by decide +kernel
theorem dX9_holds_99 : decode cX9_holds 99 = .ok (.ireturn, 1) := by decide +kernel
theorem dX9_premiums_0 : decode cX9_premiums 0 = .ok (.iconst 0, 1) := by decide +kernel
theorem dX9_premiums_1 : decode cX9_premiums 1 = .ok (.istore_n 2, 1) := by decide +kernel
theorem dX9_premiums_2 : decode cX9_premiums 2 = .ok (.iconst 0, 1) := by decide +kernel
theorem dX9_premiums_3 : decode cX9_premiums 3 = .ok (.istore_n 3, 1) := by decide +kernel
theorem dX9_premiums_4 : decode cX9_premiums 4 = .ok (.iload_n 3, 1) := by decide +kernel
theorem dX9_premiums_5 : decode cX9_premiums 5 = .ok (.aload_n 0, 1) := by decide +kernel
theorem dX9_premiums_6 : decode cX9_premiums 6 = .ok (.getfield 7, 3) := by decide +kernel
theorem dX9_premiums_9 : decode cX9_premiums 9 = .ok (.iconst 1, 1) := by decide +kernel
theorem dX9_premiums_10 : decode cX9_premiums 10 = .ok (.iaload, 1) := by decide +kernel
theorem dX9_premiums_11 : decode cX9_premiums 11 = .ok (.if_icmp .ge 35, 3) := by decide +kernel
theorem dX9_premiums_14 : decode cX9_premiums 14 = .ok (.iload_n 2, 1) := by decide +kernel
theorem dX9_premiums_15 : decode cX9_premiums 15 = .ok (.iload_n 1, 1) := by decide +kernel
theorem dX9_premiums_16 : decode cX9_premiums 16 = .ok (.iload_n 3, 1) := by decide +kernel
theorem dX9_premiums_17 : decode cX9_premiums 17 = .ok (.invokestatic 175, 3) := by decide +kernel
theorem dX9_premiums_20 : decode cX9_premiums 20 = .ok (.ifCond .eq 17, 3) := by decide +kernel
theorem dX9_premiums_23 : decode cX9_premiums 23 = .ok (.aload_n 0, 1) := by decide +kernel
theorem dX9_premiums_24 : decode cX9_premiums 24 = .ok (.getfield 7, 3) := by decide +kernel
theorem dX9_premiums_27 : decode cX9_premiums 27 = .ok (.iload_n 3, 1) := by decide +kernel
theorem dX9_premiums_28 : decode cX9_premiums 28 = .ok (.invokestatic 90, 3) := by decide +kernel
theorem dX9_premiums_31 : decode cX9_premiums 31 = .ok (.iconst 4, 1) := by decide +kernel
theorem dX9_premiums_32 : decode cX9_premiums 32 = .ok (.iadd, 1) := by decide +kernel
theorem dX9_premiums_33 : decode cX9_premiums 33 = .ok (.iaload, 1) := by decide +kernel
theorem dX9_premiums_34 : decode cX9_premiums 34 = .ok (.goto 4, 3) := by decide +kernel
theorem dX9_premiums_37 : decode cX9_premiums 37 = .ok (.iconst 0, 1) := by decide +kernel
theorem dX9_premiums_38 : decode cX9_premiums 38 = .ok (.iadd, 1) := by decide +kernel
theorem dX9_premiums_39 : decode cX9_premiums 39 = .ok (.istore_n 2, 1) := by decide +kernel
theorem dX9_premiums_40 : decode cX9_premiums 40 = .ok (.iinc 3 1, 3) := by decide +kernel
theorem dX9_premiums_43 : decode cX9_premiums 43 = .ok (.goto (-39), 3) := by decide +kernel
theorem dX9_premiums_46 : decode cX9_premiums 46 = .ok (.iload_n 2, 1) := by decide +kernel
theorem dX9_premiums_47 : decode cX9_premiums 47 = .ok (.ireturn, 1) := by decide +kernel
theorem dX9_keepWhich_0 : decode cX9_keepWhich 0 = .ok (.iload_n 1, 1) := by decide +kernel
theorem dX9_keepWhich_1 : decode cX9_keepWhich 1 = .ok (.iconst 1, 1) := by decide +kernel
theorem dX9_keepWhich_2 : decode cX9_keepWhich 2 = .ok (.bipush 60, 2) := by decide +kernel
theorem dX9_keepWhich_4 : decode cX9_keepWhich 4 = .ok (.invokestatic 55, 3) := by decide +kernel
theorem dX9_keepWhich_7 : decode cX9_keepWhich 7 = .ok (.ifCond .eq 12, 3) := by decide +kernel
theorem dX9_keepWhich_10 : decode cX9_keepWhich 10 = .ok (.iload_n 2, 1) := by decide +kernel
theorem dX9_keepWhich_11 : decode cX9_keepWhich 11 = .ok (.iconst 0, 1) := by decide +kernel
theorem dX9_keepWhich_12 : decode cX9_keepWhich 12 = .ok (.iconst 1, 1) := by decide +kernel
theorem dX9_keepWhich_13 : decode cX9_keepWhich 13 = .ok (.invokestatic 55, 3) := by decide +kernel
theorem dX9_keepWhich_16 : decode cX9_keepWhich 16 = .ok (.ifCond .ne 6, 3) := by decide +kernel
theorem dX9_keepWhich_19 : decode cX9_keepWhich 19 = .ok (.ldc 59, 2) := by decide +kernel
theorem dX9_keepWhich_21 : decode cX9_keepWhich 21 = .ok (.ireturn, 1) := by decide +kernel
theorem dX9_keepWhich_22 : decode cX9_keepWhich 22 = .ok (.iconst 0, 1) := by decide +kernel
theorem dX9_keepWhich_23 : decode cX9_keepWhich 23 = .ok (.istore_n 3, 1) := by decide +kernel
theorem dX9_keepWhich_24 : decode cX9_keepWhich 24 = .ok (.iconst 1, 1) := by decide +kernel
theorem dX9_keepWhich_25 : decode cX9_keepWhich 25 = .ok (.istore 4, 2) := by decide +kernel
theorem dX9_keepWhich_27 : decode cX9_keepWhich 27 = .ok (.iload 4, 2) := by decide +kernel
theorem dX9_keepWhich_29 : decode cX9_keepWhich 29 = .ok (.iconst 1, 1) := by decide +kernel
theorem dX9_keepWhich_30 : decode cX9_keepWhich 30 = .ok (.aload_n 0, 1) := by decide +kernel
theorem dX9_keepWhich_31 : decode cX9_keepWhich 31 = .ok (.getfield 7, 3) := by decide +kernel
theorem dX9_keepWhich_34 : decode cX9_keepWhich 34 = .ok (.iconst 1, 1) := by decide +kernel
theorem dX9_keepWhich_35 : decode cX9_keepWhich 35 = .ok (.iaload, 1) := by decide +kernel
theorem dX9_keepWhich_36 : decode cX9_keepWhich 36 = .ok (.ishl, 1) := by decide +kernel
theorem dX9_keepWhich_37 : decode cX9_keepWhich 37 = .ok (.if_icmp .ge 84, 3) := by decide +kernel
theorem dX9_keepWhich_40 : decode cX9_keepWhich 40 = .ok (.aload_n 0, 1) := by decide +kernel
theorem dX9_keepWhich_41 : decode cX9_keepWhich 41 = .ok (.iload 4, 2) := by decide +kernel
theorem dX9_keepWhich_43 : decode cX9_keepWhich 43 = .ok (.invokevirtual 192, 3) := by decide +kernel
theorem dX9_keepWhich_46 : decode cX9_keepWhich 46 = .ok (.aload_n 0, 1) := by decide +kernel
theorem dX9_keepWhich_47 : decode cX9_keepWhich 47 = .ok (.iload_n 3, 1) := by decide +kernel
theorem dX9_keepWhich_48 : decode cX9_keepWhich 48 = .ok (.invokevirtual 192, 3) := by decide +kernel
theorem dX9_keepWhich_51 : decode cX9_keepWhich 51 = .ok (.isub, 1) := by decide +kernel
theorem dX9_keepWhich_52 : decode cX9_keepWhich 52 = .ok (.istore 5, 2) := by decide +kernel
theorem dX9_keepWhich_54 : decode cX9_keepWhich 54 = .ok (.iload 5, 2) := by decide +kernel
theorem dX9_keepWhich_56 : decode cX9_keepWhich 56 = .ok (.ifCond .gt 20, 3) := by decide +kernel
theorem dX9_keepWhich_59 : decode cX9_keepWhich 59 = .ok (.iload 5, 2) := by decide +kernel
theorem dX9_keepWhich_61 : decode cX9_keepWhich 61 = .ok (.ifCond .ne 19, 3) := by decide +kernel
theorem dX9_keepWhich_64 : decode cX9_keepWhich 64 = .ok (.iload 4, 2) := by decide +kernel
theorem dX9_keepWhich_66 : decode cX9_keepWhich 66 = .ok (.invokestatic 195, 3) := by decide +kernel
theorem dX9_keepWhich_69 : decode cX9_keepWhich 69 = .ok (.iload_n 3, 1) := by decide +kernel
theorem dX9_keepWhich_70 : decode cX9_keepWhich 70 = .ok (.invokestatic 195, 3) := by decide +kernel
theorem dX9_keepWhich_73 : decode cX9_keepWhich 73 = .ok (.if_icmp .ge 7, 3) := by decide +kernel
theorem dX9_keepWhich_76 : decode cX9_keepWhich 76 = .ok (.iconst 1, 1) := by decide +kernel
theorem dX9_keepWhich_77 : decode cX9_keepWhich 77 = .ok (.goto 4, 3) := by decide +kernel
theorem dX9_keepWhich_80 : decode cX9_keepWhich 80 = .ok (.iconst 0, 1) := by decide +kernel
theorem dX9_keepWhich_81 : decode cX9_keepWhich 81 = .ok (.istore 6, 2) := by decide +kernel
theorem dX9_keepWhich_83 : decode cX9_keepWhich 83 = .ok (.iload 4, 2) := by decide +kernel
theorem dX9_keepWhich_85 : decode cX9_keepWhich 85 = .ok (.aload_n 0, 1) := by decide +kernel
theorem dX9_keepWhich_86 : decode cX9_keepWhich 86 = .ok (.invokevirtual 116, 3) := by decide +kernel
theorem dX9_keepWhich_89 : decode cX9_keepWhich 89 = .ok (.iand, 1) := by decide +kernel
theorem dX9_keepWhich_90 : decode cX9_keepWhich 90 = .ok (.ifCond .ne 23, 3) := by decide +kernel
theorem dX9_keepWhich_93 : decode cX9_keepWhich 93 = .ok (.iload 6, 2) := by decide +kernel
theorem dX9_keepWhich_95 : decode cX9_keepWhich 95 = .ok (.ifCond .eq 18, 3) := by decide +kernel
theorem dX9_keepWhich_98 : decode cX9_keepWhich 98 = .ok (.aload_n 0, 1) := by decide +kernel
theorem dX9_keepWhich_99 : decode cX9_keepWhich 99 = .ok (.iload 4, 2) := by decide +kernel
theorem dX9_keepWhich_101 : decode cX9_keepWhich 101 = .ok (.iload_n 1, 1) := by decide +kernel
theorem dX9_keepWhich_102 : decode cX9_keepWhich 102 = .ok (.invokevirtual 198, 3) := by decide +kernel
theorem dX9_keepWhich_105 : decode cX9_keepWhich 105 = .ok (.ifCond .eq 8, 3) := by decide +kernel
theorem dX9_keepWhich_108 : decode cX9_keepWhich 108 = .ok (.iload 4, 2) := by decide +kernel
theorem dX9_keepWhich_110 : decode cX9_keepWhich 110 = .ok (.goto 4, 3) := by decide +kernel
theorem dX9_keepWhich_113 : decode cX9_keepWhich 113 = .ok (.iload_n 3, 1) := by decide +kernel
theorem dX9_keepWhich_114 : decode cX9_keepWhich 114 = .ok (.istore_n 3, 1) := by decide +kernel
theorem dX9_keepWhich_115 : decode cX9_keepWhich 115 = .ok (.iinc 4 1, 3) := by decide +kernel
theorem dX9_keepWhich_118 : decode cX9_keepWhich 118 = .ok (.goto (-91), 3) := by decide +kernel
theorem dX9_keepWhich_121 : decode cX9_keepWhich 121 = .ok (.iload_n 2, 1) := by decide +kernel
theorem dX9_keepWhich_122 : decode cX9_keepWhich 122 = .ok (.ifCond .ne 11, 3) := by decide +kernel
theorem dX9_keepWhich_125 : decode cX9_keepWhich 125 = .ok (.aload_n 0, 1) := by decide +kernel
theorem dX9_keepWhich_126 : decode cX9_keepWhich 126 = .ok (.iload_n 3, 1) := by decide +kernel
theorem dX9_keepWhich_127 : decode cX9_keepWhich 127 = .ok (.invokevirtual 192, 3) := by decide +kernel
theorem dX9_keepWhich_130 : decode cX9_keepWhich 130 = .ok (.goto 4, 3) := by decide +kernel
theorem dX9_keepWhich_133 : decode cX9_keepWhich 133 = .ok (.iload_n 3, 1) := by decide +kernel
theorem dX9_keepWhich_134 : decode cX9_keepWhich 134 = .ok (.ireturn, 1) := by decide +kernel
theorem dX9_gainBy_0 : decode cX9_gainBy 0 = .ok (.iload_n 2, 1) := by decide +kernel
theorem dX9_gainBy_1 : decode cX9_gainBy 1 = .ok (.ifCond .ne 7, 3) := by decide +kernel
theorem dX9_gainBy_4 : decode cX9_gainBy 4 = .ok (.lconst 0, 1) := by decide +kernel
theorem dX9_gainBy_5 : decode cX9_gainBy 5 = .ok (.goto 17, 3) := by decide +kernel
theorem dX9_gainBy_8 : decode cX9_gainBy 8 = .ok (.iload_n 2, 1) := by decide +kernel
theorem dX9_gainBy_9 : decode cX9_gainBy 9 = .ok (.iconst 1, 1) := by decide +kernel
theorem dX9_gainBy_10 : decode cX9_gainBy 10 = .ok (.if_icmp .ne 9, 3) := by decide +kernel
theorem dX9_gainBy_13 : decode cX9_gainBy 13 = .ok (.ldc2_w 201, 3) := by decide +kernel
theorem dX9_gainBy_16 : decode cX9_gainBy 16 = .ok (.goto 6, 3) := by decide +kernel
theorem dX9_gainBy_19 : decode cX9_gainBy 19 = .ok (.ldc2_w 203, 3) := by decide +kernel
theorem dX9_gainBy_22 : decode cX9_gainBy 22 = .ok (.lstore_n 3, 1) := by decide +kernel
theorem dX9_gainBy_23 : decode cX9_gainBy 23 = .ok (.iconst 0, 1) := by decide +kernel
theorem dX9_gainBy_24 : decode cX9_gainBy 24 = .ok (.istore 5, 2) := by decide +kernel
theorem dX9_gainBy_26 : decode cX9_gainBy 26 = .ok (.iload 5, 2) := by decide +kernel
theorem dX9_gainBy_28 : decode cX9_gainBy 28 = .ok (.aload_n 0, 1) := by decide +kernel
theorem dX9_gainBy_29 : decode cX9_gainBy 29 = .ok (.getfield 7, 3) := by decide +kernel
theorem dX9_gainBy_32 : decode cX9_gainBy 32 = .ok (.iconst 1, 1) := by decide +kernel
theorem dX9_gainBy_33 : decode cX9_gainBy 33 = .ok (.iaload, 1) := by decide +kernel
theorem dX9_gainBy_34 : decode cX9_gainBy 34 = .ok (.if_icmp .ge 101, 3) := by decide +kernel
theorem dX9_gainBy_37 : decode cX9_gainBy 37 = .ok (.iload 5, 2) := by decide +kernel
theorem dX9_gainBy_39 : decode cX9_gainBy 39 = .ok (.invokestatic 90, 3) := by decide +kernel
theorem dX9_gainBy_42 : decode cX9_gainBy 42 = .ok (.istore 6, 2) := by decide +kernel
theorem dX9_gainBy_44 : decode cX9_gainBy 44 = .ok (.aload_n 0, 1) := by decide +kernel
theorem dX9_gainBy_45 : decode cX9_gainBy 45 = .ok (.getfield 7, 3) := by decide +kernel
theorem dX9_gainBy_48 : decode cX9_gainBy 48 = .ok (.iload 6, 2) := by decide +kernel
theorem dX9_gainBy_50 : decode cX9_gainBy 50 = .ok (.iconst 0, 1) := by decide +kernel
theorem dX9_gainBy_51 : decode cX9_gainBy 51 = .ok (.iadd, 1) := by decide +kernel
theorem dX9_gainBy_52 : decode cX9_gainBy 52 = .ok (.iaload, 1) := by decide +kernel
theorem dX9_gainBy_53 : decode cX9_gainBy 53 = .ok (.iload_n 1, 1) := by decide +kernel
theorem dX9_gainBy_54 : decode cX9_gainBy 54 = .ok (.if_icmp .ne 20, 3) := by decide +kernel
theorem dX9_gainBy_57 : decode cX9_gainBy 57 = .ok (.aload_n 0, 1) := by decide +kernel
theorem dX9_gainBy_58 : decode cX9_gainBy 58 = .ok (.getfield 7, 3) := by decide +kernel
theorem dX9_gainBy_61 : decode cX9_gainBy 61 = .ok (.iload 6, 2) := by decide +kernel
theorem dX9_gainBy_63 : decode cX9_gainBy 63 = .ok (.bipush 6, 2) := by decide +kernel
theorem dX9_gainBy_65 : decode cX9_gainBy 65 = .ok (.iadd, 1) := by decide +kernel
theorem dX9_gainBy_66 : decode cX9_gainBy 66 = .ok (.iaload, 1) := by decide +kernel
theorem dX9_gainBy_67 : decode cX9_gainBy 67 = .ok (.ifCond .ne 7, 3) := by decide +kernel
theorem dX9_gainBy_70 : decode cX9_gainBy 70 = .ok (.iconst 1, 1) := by decide +kernel
theorem dX9_gainBy_71 : decode cX9_gainBy 71 = .ok (.goto 4, 3) := by decide +kernel
theorem dX9_gainBy_74 : decode cX9_gainBy 74 = .ok (.iconst 0, 1) := by decide +kernel
theorem dX9_gainBy_75 : decode cX9_gainBy 75 = .ok (.istore 7, 2) := by decide +kernel
theorem dX9_gainBy_77 : decode cX9_gainBy 77 = .ok (.lload_n 3, 1) := by decide +kernel
theorem dX9_gainBy_78 : decode cX9_gainBy 78 = .ok (.iload 7, 2) := by decide +kernel
theorem dX9_gainBy_80 : decode cX9_gainBy 80 = .ok (.ifCond .eq 46, 3) := by decide +kernel
theorem dX9_gainBy_83 : decode cX9_gainBy 83 = .ok (.aload_n 0, 1) := by decide +kernel
theorem dX9_gainBy_84 : decode cX9_gainBy 84 = .ok (.getfield 7, 3) := by decide +kernel
theorem dX9_gainBy_87 : decode cX9_gainBy 87 = .ok (.iload 6, 2) := by decide +kernel
theorem dX9_gainBy_89 : decode cX9_gainBy 89 = .ok (.iconst 3, 1) := by decide +kernel
theorem dX9_gainBy_90 : decode cX9_gainBy 90 = .ok (.iadd, 1) := by decide +kernel
theorem dX9_gainBy_91 : decode cX9_gainBy 91 = .ok (.iaload, 1) := by decide +kernel
theorem dX9_gainBy_92 : decode cX9_gainBy 92 = .ok (.i2l, 1) := by decide +kernel
theorem dX9_gainBy_93 : decode cX9_gainBy 93 = .ok (.aload_n 0, 1) := by decide +kernel
theorem dX9_gainBy_94 : decode cX9_gainBy 94 = .ok (.iload 5, 2) := by decide +kernel
theorem dX9_gainBy_96 : decode cX9_gainBy 96 = .ok (.aload_n 0, 1) := by decide +kernel
theorem dX9_gainBy_97 : decode cX9_gainBy 97 = .ok (.getfield 7, 3) := by decide +kernel
theorem dX9_gainBy_100 : decode cX9_gainBy 100 = .ok (.iload 6, 2) := by decide +kernel
theorem dX9_gainBy_102 : decode cX9_gainBy 102 = .ok (.iconst 1, 1) := by decide +kernel
theorem dX9_gainBy_103 : decode cX9_gainBy 103 = .ok (.iadd, 1) := by decide +kernel
theorem dX9_gainBy_104 : decode cX9_gainBy 104 = .ok (.iaload, 1) := by decide +kernel
theorem dX9_gainBy_105 : decode cX9_gainBy 105 = .ok (.aload_n 0, 1) := by decide +kernel
theorem dX9_gainBy_106 : decode cX9_gainBy 106 = .ok (.getfield 7, 3) := by decide +kernel
theorem dX9_gainBy_109 : decode cX9_gainBy 109 = .ok (.iload 6, 2) := by decide +kernel
theorem dX9_gainBy_111 : decode cX9_gainBy 111 = .ok (.iconst 2, 1) := by decide +kernel
theorem dX9_gainBy_112 : decode cX9_gainBy 112 = .ok (.iadd, 1) := by decide +kernel
theorem dX9_gainBy_113 : decode cX9_gainBy 113 = .ok (.iaload, 1) := by decide +kernel
theorem dX9_gainBy_114 : decode cX9_gainBy 114 = .ok (.iload_n 2, 1) := by decide +kernel
theorem dX9_gainBy_115 : decode cX9_gainBy 115 = .ok (.invokevirtual 181, 3) := by decide +kernel
theorem dX9_gainBy_118 : decode cX9_gainBy 118 = .ok (.lmul, 1) := by decide +kernel
theorem dX9_gainBy_119 : decode cX9_gainBy 119 = .ok (.ldc2_w 205, 3) := by decide +kernel
theorem dX9_gainBy_122 : decode cX9_gainBy 122 = .ok (.ldiv, 1) := by decide +kernel
theorem dX9_gainBy_123 : decode cX9_gainBy 123 = .ok (.goto 4, 3) := by decide +kernel
theorem dX9_gainBy_126 : decode cX9_gainBy 126 = .ok (.lconst 0, 1) := by decide +kernel
theorem dX9_gainBy_127 : decode cX9_gainBy 127 = .ok (.ladd, 1) := by decide +kernel
theorem dX9_gainBy_128 : decode cX9_gainBy 128 = .ok (.lstore_n 3, 1) := by decide +kernel
theorem dX9_gainBy_129 : decode cX9_gainBy 129 = .ok (.iinc 5 1, 3) := by decide +kernel
theorem dX9_gainBy_132 : decode cX9_gainBy 132 = .ok (.goto (-106), 3) := by decide +kernel
theorem dX9_gainBy_135 : decode cX9_gainBy 135 = .ok (.lload_n 3, 1) := by decide +kernel
theorem dX9_gainBy_136 : decode cX9_gainBy 136 = .ok (.lreturn, 1) := by decide +kernel
theorem dX9_choose_0 : decode cX9_choose 0 = .ok (.aload_n 0, 1) := by decide +kernel
theorem dX9_choose_1 : decode cX9_choose 1 = .ok (.iload_n 1, 1) := by decide +kernel
theorem dX9_choose_2 : decode cX9_choose 2 = .ok (.invokevirtual 135, 3) := by decide +kernel
theorem dX9_choose_5 : decode cX9_choose 5 = .ok (.ifCond .ne 6, 3) := by decide +kernel
theorem dX9_choose_8 : decode cX9_choose 8 = .ok (.ldc 139, 2) := by decide +kernel
theorem dX9_choose_10 : decode cX9_choose 10 = .ok (.ireturn, 1) := by decide +kernel
theorem dX9_choose_11 : decode cX9_choose 11 = .ok (.iconst 0, 1) := by decide +kernel
theorem dX9_choose_12 : decode cX9_choose 12 = .ok (.istore_n 2, 1) := by decide +kernel
theorem dX9_choose_13 : decode cX9_choose 13 = .ok (.iconst 1, 1) := by decide +kernel
theorem dX9_choose_14 : decode cX9_choose 14 = .ok (.istore_n 3, 1) := by decide +kernel
theorem dX9_choose_15 : decode cX9_choose 15 = .ok (.iload_n 3, 1) := by decide +kernel
theorem dX9_choose_16 : decode cX9_choose 16 = .ok (.iconst 3, 1) := by decide +kernel
theorem dX9_choose_17 : decode cX9_choose 17 = .ok (.if_icmp .ge 31, 3) := by decide +kernel
theorem dX9_choose_20 : decode cX9_choose 20 = .ok (.aload_n 0, 1) := by decide +kernel
theorem dX9_choose_21 : decode cX9_choose 21 = .ok (.iload_n 1, 1) := by decide +kernel
theorem dX9_choose_22 : decode cX9_choose 22 = .ok (.iload_n 3, 1) := by decide +kernel
theorem dX9_choose_23 : decode cX9_choose 23 = .ok (.invokevirtual 207, 3) := by decide +kernel
theorem dX9_choose_26 : decode cX9_choose 26 = .ok (.aload_n 0, 1) := by decide +kernel
theorem dX9_choose_27 : decode cX9_choose 27 = .ok (.iload_n 1, 1) := by decide +kernel
theorem dX9_choose_28 : decode cX9_choose 28 = .ok (.iload_n 2, 1) := by decide +kernel
theorem dX9_choose_29 : decode cX9_choose 29 = .ok (.invokevirtual 207, 3) := by decide +kernel
theorem dX9_choose_32 : decode cX9_choose 32 = .ok (.lcmp, 1) := by decide +kernel
theorem dX9_choose_33 : decode cX9_choose 33 = .ok (.ifCond .le 7, 3) := by decide +kernel
theorem dX9_choose_36 : decode cX9_choose 36 = .ok (.iload_n 3, 1) := by decide +kernel
theorem dX9_choose_37 : decode cX9_choose 37 = .ok (.goto 4, 3) := by decide +kernel
theorem dX9_choose_40 : decode cX9_choose 40 = .ok (.iload_n 2, 1) := by decide +kernel
theorem dX9_choose_41 : decode cX9_choose 41 = .ok (.istore_n 2, 1) := by decide +kernel
theorem dX9_choose_42 : decode cX9_choose 42 = .ok (.iinc 3 1, 3) := by decide +kernel
theorem dX9_choose_45 : decode cX9_choose 45 = .ok (.goto (-30), 3) := by decide +kernel
theorem dX9_choose_48 : decode cX9_choose 48 = .ok (.iload_n 2, 1) := by decide +kernel
theorem dX9_choose_49 : decode cX9_choose 49 = .ok (.ireturn, 1) := by decide +kernel
theorem dX9_fires_0 : decode cX9_fires 0 = .ok (.aload_n 0, 1) := by decide +kernel
theorem dX9_fires_1 : decode cX9_fires 1 = .ok (.iload_n 1, 1) := by decide +kernel
theorem dX9_fires_2 : decode cX9_fires 2 = .ok (.invokevirtual 135, 3) := by decide +kernel
theorem dX9_fires_5 : decode cX9_fires 5 = .ok (.ifCond .ne 6, 3) := by decide +kernel
theorem dX9_fires_8 : decode cX9_fires 8 = .ok (.ldc 139, 2) := by decide +kernel
theorem dX9_fires_10 : decode cX9_fires 10 = .ok (.ireturn, 1) := by decide +kernel
theorem dX9_fires_11 : decode cX9_fires 11 = .ok (.iload_n 2, 1) := by decide +kernel
theorem dX9_fires_12 : decode cX9_fires 12 = .ok (.iconst 0, 1) := by decide +kernel
theorem dX9_fires_13 : decode cX9_fires 13 = .ok (.iconst 3, 1) := by decide +kernel
theorem dX9_fires_14 : decode cX9_fires 14 = .ok (.invokestatic 55, 3) := by decide +kernel
theorem dX9_fires_17 : decode cX9_fires 17 = .ok (.ifCond .eq 23, 3) := by decide +kernel
theorem dX9_fires_20 : decode cX9_fires 20 = .ok (.iload_n 3, 1) := by decide +kernel
theorem dX9_fires_21 : decode cX9_fires 21 = .ok (.iconst 1, 1) := by decide +kernel
theorem dX9_fires_22 : decode cX9_fires 22 = .ok (.bipush 99, 2) := by decide +kernel
theorem dX9_fires_24 : decode cX9_fires 24 = .ok (.invokestatic 55, 3) := by decide +kernel
theorem dX9_fires_27 : decode cX9_fires 27 = .ok (.ifCond .eq 13, 3) := by decide +kernel
theorem dX9_fires_30 : decode cX9_fires 30 = .ok (.iload 4, 2) := by decide +kernel
theorem dX9_fires_32 : decode cX9_fires 32 = .ok (.iconst 0, 1) := by decide +kernel
theorem dX9_fires_33 : decode cX9_fires 33 = .ok (.iconst 1, 1) := by decide +kernel
theorem dX9_fires_34 : decode cX9_fires 34 = .ok (.invokestatic 55, 3) := by decide +kernel
theorem dX9_fires_37 : decode cX9_fires 37 = .ok (.ifCond .ne 6, 3) := by decide +kernel
theorem dX9_fires_40 : decode cX9_fires 40 = .ok (.ldc 59, 2) := by decide +kernel
theorem dX9_fires_42 : decode cX9_fires 42 = .ok (.ireturn, 1) := by decide +kernel
theorem dX9_fires_43 : decode cX9_fires 43 = .ok (.sipush 1000, 3) := by decide +kernel
theorem dX9_fires_46 : decode cX9_fires 46 = .ok (.istore 5, 2) := by decide +kernel
theorem dX9_fires_48 : decode cX9_fires 48 = .ok (.sipush 1000, 3) := by decide +kernel
theorem dX9_fires_51 : decode cX9_fires 51 = .ok (.istore 6, 2) := by decide +kernel
theorem dX9_fires_53 : decode cX9_fires 53 = .ok (.iconst 0, 1) := by decide +kernel
theorem dX9_fires_54 : decode cX9_fires 54 = .ok (.istore 7, 2) := by decide +kernel
theorem dX9_fires_56 : decode cX9_fires 56 = .ok (.iload 7, 2) := by decide +kernel
theorem dX9_fires_58 : decode cX9_fires 58 = .ok (.aload_n 0, 1) := by decide +kernel
theorem dX9_fires_59 : decode cX9_fires 59 = .ok (.getfield 7, 3) := by decide +kernel
theorem dX9_fires_62 : decode cX9_fires 62 = .ok (.iconst 1, 1) := by decide +kernel
theorem dX9_fires_63 : decode cX9_fires 63 = .ok (.iaload, 1) := by decide +kernel
theorem dX9_fires_64 : decode cX9_fires 64 = .ok (.if_icmp .ge 100, 3) := by decide +kernel
theorem dX9_fires_67 : decode cX9_fires 67 = .ok (.iload 7, 2) := by decide +kernel
theorem dX9_fires_69 : decode cX9_fires 69 = .ok (.invokestatic 90, 3) := by decide +kernel
theorem dX9_fires_72 : decode cX9_fires 72 = .ok (.istore 8, 2) := by decide +kernel
theorem dX9_fires_74 : decode cX9_fires 74 = .ok (.aload_n 0, 1) := by decide +kernel
theorem dX9_fires_75 : decode cX9_fires 75 = .ok (.getfield 7, 3) := by decide +kernel
theorem dX9_fires_78 : decode cX9_fires 78 = .ok (.iload 8, 2) := by decide +kernel
theorem dX9_fires_80 : decode cX9_fires 80 = .ok (.iconst 0, 1) := by decide +kernel
theorem dX9_fires_81 : decode cX9_fires 81 = .ok (.iadd, 1) := by decide +kernel
theorem dX9_fires_82 : decode cX9_fires 82 = .ok (.iaload, 1) := by decide +kernel
theorem dX9_fires_83 : decode cX9_fires 83 = .ok (.iload_n 1, 1) := by decide +kernel
theorem dX9_fires_84 : decode cX9_fires 84 = .ok (.if_icmp .ne 74, 3) := by decide +kernel
theorem dX9_fires_87 : decode cX9_fires 87 = .ok (.aload_n 0, 1) := by decide +kernel
theorem dX9_fires_88 : decode cX9_fires 88 = .ok (.getfield 7, 3) := by decide +kernel
theorem dX9_fires_91 : decode cX9_fires 91 = .ok (.iload 8, 2) := by decide +kernel
theorem dX9_fires_93 : decode cX9_fires 93 = .ok (.bipush 6, 2) := by decide +kernel
theorem dX9_fires_95 : decode cX9_fires 95 = .ok (.iadd, 1) := by decide +kernel
theorem dX9_fires_96 : decode cX9_fires 96 = .ok (.iaload, 1) := by decide +kernel
theorem dX9_fires_97 : decode cX9_fires 97 = .ok (.ifCond .ne 61, 3) := by decide +kernel
theorem dX9_fires_100 : decode cX9_fires 100 = .ok (.aload_n 0, 1) := by decide +kernel
theorem dX9_fires_101 : decode cX9_fires 101 = .ok (.getfield 7, 3) := by decide +kernel
theorem dX9_fires_104 : decode cX9_fires 104 = .ok (.iload 8, 2) := by decide +kernel
theorem dX9_fires_106 : decode cX9_fires 106 = .ok (.iconst 1, 1) := by decide +kernel
theorem dX9_fires_107 : decode cX9_fires 107 = .ok (.iadd, 1) := by decide +kernel
theorem dX9_fires_108 : decode cX9_fires 108 = .ok (.iaload, 1) := by decide +kernel
theorem dX9_fires_109 : decode cX9_fires 109 = .ok (.iload_n 2, 1) := by decide +kernel
theorem dX9_fires_110 : decode cX9_fires 110 = .ok (.invokestatic 175, 3) := by decide +kernel
theorem dX9_fires_113 : decode cX9_fires 113 = .ok (.ifCond .eq 45, 3) := by decide +kernel
theorem dX9_fires_116 : decode cX9_fires 116 = .ok (.iload 5, 2) := by decide +kernel
theorem dX9_fires_118 : decode cX9_fires 118 = .ok (.aload_n 0, 1) := by decide +kernel
theorem dX9_fires_119 : decode cX9_fires 119 = .ok (.getfield 7, 3) := by decide +kernel
theorem dX9_fires_122 : decode cX9_fires 122 = .ok (.iload 8, 2) := by decide +kernel
theorem dX9_fires_124 : decode cX9_fires 124 = .ok (.iconst 2, 1) := by decide +kernel
theorem dX9_fires_125 : decode cX9_fires 125 = .ok (.iadd, 1) := by decide +kernel
theorem dX9_fires_126 : decode cX9_fires 126 = .ok (.iaload, 1) := by decide +kernel
theorem dX9_fires_127 : decode cX9_fires 127 = .ok (.aload_n 0, 1) := by decide +kernel
theorem dX9_fires_128 : decode cX9_fires 128 = .ok (.getfield 7, 3) := by decide +kernel
theorem dX9_fires_131 : decode cX9_fires 131 = .ok (.iload 8, 2) := by decide +kernel
theorem dX9_fires_133 : decode cX9_fires 133 = .ok (.iconst 5, 1) := by decide +kernel
theorem dX9_fires_134 : decode cX9_fires 134 = .ok (.iadd, 1) := by decide +kernel
theorem dX9_fires_135 : decode cX9_fires 135 = .ok (.iaload, 1) := by decide +kernel
theorem dX9_fires_136 : decode cX9_fires 136 = .ok (.isub, 1) := by decide +kernel
theorem dX9_fires_137 : decode cX9_fires 137 = .ok (.invokestatic 128, 3) := by decide +kernel
theorem dX9_fires_140 : decode cX9_fires 140 = .ok (.istore 5, 2) := by decide +kernel
theorem dX9_fires_142 : decode cX9_fires 142 = .ok (.iload 6, 2) := by decide +kernel
theorem dX9_fires_144 : decode cX9_fires 144 = .ok (.aload_n 0, 1) := by decide +kernel
theorem dX9_fires_145 : decode cX9_fires 145 = .ok (.getfield 7, 3) := by decide +kernel
theorem dX9_fires_148 : decode cX9_fires 148 = .ok (.iload 8, 2) := by decide +kernel
theorem dX9_fires_150 : decode cX9_fires 150 = .ok (.iconst 2, 1) := by decide +kernel
theorem dX9_fires_151 : decode cX9_fires 151 = .ok (.iadd, 1) := by decide +kernel
theorem dX9_fires_152 : decode cX9_fires 152 = .ok (.iaload, 1) := by decide +kernel
theorem dX9_fires_153 : decode cX9_fires 153 = .ok (.invokestatic 128, 3) := by decide +kernel
theorem dX9_fires_156 : decode cX9_fires 156 = .ok (.istore 6, 2) := by decide +kernel
theorem dX9_fires_158 : decode cX9_fires 158 = .ok (.iinc 7 1, 3) := by decide +kernel
theorem dX9_fires_161 : decode cX9_fires 161 = .ok (.goto (-105), 3) := by decide +kernel
theorem dX9_fires_164 : decode cX9_fires 164 = .ok (.iload 5, 2) := by decide +kernel
theorem dX9_fires_166 : decode cX9_fires 166 = .ok (.iload_n 3, 1) := by decide +kernel
theorem dX9_fires_167 : decode cX9_fires 167 = .ok (.if_icmp .le 7, 3) := by decide +kernel
theorem dX9_fires_170 : decode cX9_fires 170 = .ok (.iconst 0, 1) := by decide +kernel
theorem dX9_fires_171 : decode cX9_fires 171 = .ok (.goto 12, 3) := by decide +kernel
theorem dX9_fires_174 : decode cX9_fires 174 = .ok (.iconst 1, 1) := by decide +kernel
theorem dX9_fires_175 : decode cX9_fires 175 = .ok (.iload_n 3, 1) := by decide +kernel
theorem dX9_fires_176 : decode cX9_fires 176 = .ok (.iload 5, 2) := by decide +kernel
theorem dX9_fires_178 : decode cX9_fires 178 = .ok (.isub, 1) := by decide +kernel
theorem dX9_fires_179 : decode cX9_fires 179 = .ok (.iload 6, 2) := by decide +kernel
theorem dX9_fires_181 : decode cX9_fires 181 = .ok (.idiv, 1) := by decide +kernel
theorem dX9_fires_182 : decode cX9_fires 182 = .ok (.iadd, 1) := by decide +kernel
theorem dX9_fires_183 : decode cX9_fires 183 = .ok (.istore 7, 2) := by decide +kernel
theorem dX9_fires_185 : decode cX9_fires 185 = .ok (.iload 4, 2) := by decide +kernel
theorem dX9_fires_187 : decode cX9_fires 187 = .ok (.ifCond .ne 8, 3) := by decide +kernel
theorem dX9_fires_190 : decode cX9_fires 190 = .ok (.iload 7, 2) := by decide +kernel
theorem dX9_fires_192 : decode cX9_fires 192 = .ok (.goto 14, 3) := by decide +kernel
theorem dX9_fires_195 : decode cX9_fires 195 = .ok (.iload 7, 2) := by decide +kernel
theorem dX9_fires_197 : decode cX9_fires 197 = .ok (.ifCond .ne 7, 3) := by decide +kernel
theorem dX9_fires_200 : decode cX9_fires 200 = .ok (.iconst (-1), 1) := by decide +kernel
theorem dX9_fires_201 : decode cX9_fires 201 = .ok (.goto 5, 3) := by decide +kernel
theorem dX9_fires_204 : decode cX9_fires 204 = .ok (.iload 5, 2) := by decide +kernel
theorem dX9_fires_206 : decode cX9_fires 206 = .ok (.ireturn, 1) := by decide +kernel
theorem dX9_struck_0 : decode cX9_struck 0 = .ok (.iload_n 1, 1) := by decide +kernel
theorem dX9_struck_1 : decode cX9_struck 1 = .ok (.iconst 0, 1) := by decide +kernel
theorem dX9_struck_2 : decode cX9_struck 2 = .ok (.iconst 3, 1) := by decide +kernel
theorem dX9_struck_3 : decode cX9_struck 3 = .ok (.invokestatic 55, 3) := by decide +kernel
theorem dX9_struck_6 : decode cX9_struck 6 = .ok (.ifCond .eq 12, 3) := by decide +kernel
theorem dX9_struck_9 : decode cX9_struck 9 = .ok (.iload_n 2, 1) := by decide +kernel
theorem dX9_struck_10 : decode cX9_struck 10 = .ok (.iconst 0, 1) := by decide +kernel
theorem dX9_struck_11 : decode cX9_struck 11 = .ok (.iconst 2, 1) := by decide +kernel
theorem dX9_struck_12 : decode cX9_struck 12 = .ok (.invokestatic 55, 3) := by decide +kernel
theorem dX9_struck_15 : decode cX9_struck 15 = .ok (.ifCond .ne 6, 3) := by decide +kernel
theorem dX9_struck_18 : decode cX9_struck 18 = .ok (.ldc 59, 2) := by decide +kernel
theorem dX9_struck_20 : decode cX9_struck 20 = .ok (.ireturn, 1) := by decide +kernel
theorem dX9_struck_21 : decode cX9_struck 21 = .ok (.iconst (-1), 1) := by decide +kernel
theorem dX9_struck_22 : decode cX9_struck 22 = .ok (.istore_n 3, 1) := by decide +kernel
theorem dX9_struck_23 : decode cX9_struck 23 = .ok (.lconst 0, 1) := by decide +kernel
theorem dX9_struck_24 : decode cX9_struck 24 = .ok (.lstore 4, 2) := by decide +kernel
theorem dX9_struck_26 : decode cX9_struck 26 = .ok (.iconst 0, 1) := by decide +kernel
theorem dX9_struck_27 : decode cX9_struck 27 = .ok (.istore 6, 2) := by decide +kernel
theorem dX9_struck_29 : decode cX9_struck 29 = .ok (.iconst 0, 1) := by decide +kernel
theorem dX9_struck_30 : decode cX9_struck 30 = .ok (.istore 7, 2) := by decide +kernel
theorem dX9_struck_32 : decode cX9_struck 32 = .ok (.iload 7, 2) := by decide +kernel
theorem dX9_struck_34 : decode cX9_struck 34 = .ok (.aload_n 0, 1) := by decide +kernel
theorem dX9_struck_35 : decode cX9_struck 35 = .ok (.getfield 7, 3) := by decide +kernel
theorem dX9_struck_38 : decode cX9_struck 38 = .ok (.iconst 1, 1) := by decide +kernel
theorem dX9_struck_39 : decode cX9_struck 39 = .ok (.iaload, 1) := by decide +kernel
theorem dX9_struck_40 : decode cX9_struck 40 = .ok (.if_icmp .ge 119, 3) := by decide +kernel
theorem dX9_struck_43 : decode cX9_struck 43 = .ok (.iload 7, 2) := by decide +kernel
theorem dX9_struck_45 : decode cX9_struck 45 = .ok (.invokestatic 90, 3) := by decide +kernel
theorem dX9_struck_48 : decode cX9_struck 48 = .ok (.istore 8, 2) := by decide +kernel
theorem dX9_struck_50 : decode cX9_struck 50 = .ok (.aload_n 0, 1) := by decide +kernel
theorem dX9_struck_51 : decode cX9_struck 51 = .ok (.getfield 7, 3) := by decide +kernel
theorem dX9_struck_54 : decode cX9_struck 54 = .ok (.iload 8, 2) := by decide +kernel
theorem dX9_struck_56 : decode cX9_struck 56 = .ok (.bipush 6, 2) := by decide +kernel
theorem dX9_struck_58 : decode cX9_struck 58 = .ok (.iadd, 1) := by decide +kernel
theorem dX9_struck_59 : decode cX9_struck 59 = .ok (.iaload, 1) := by decide +kernel
theorem dX9_struck_60 : decode cX9_struck 60 = .ok (.ifCond .ne 93, 3) := by decide +kernel
theorem dX9_struck_63 : decode cX9_struck 63 = .ok (.aload_n 0, 1) := by decide +kernel
theorem dX9_struck_64 : decode cX9_struck 64 = .ok (.getfield 7, 3) := by decide +kernel
theorem dX9_struck_67 : decode cX9_struck 67 = .ok (.iload 8, 2) := by decide +kernel
theorem dX9_struck_69 : decode cX9_struck 69 = .ok (.iconst 1, 1) := by decide +kernel
theorem dX9_struck_70 : decode cX9_struck 70 = .ok (.iadd, 1) := by decide +kernel
theorem dX9_struck_71 : decode cX9_struck 71 = .ok (.iaload, 1) := by decide +kernel
theorem dX9_struck_72 : decode cX9_struck 72 = .ok (.iconst 1, 1) := by decide +kernel
theorem dX9_struck_73 : decode cX9_struck 73 = .ok (.iload_n 1, 1) := by decide +kernel
theorem dX9_struck_74 : decode cX9_struck 74 = .ok (.ishl, 1) := by decide +kernel
theorem dX9_struck_75 : decode cX9_struck 75 = .ok (.iconst (-1), 1) := by decide +kernel
theorem dX9_struck_76 : decode cX9_struck 76 = .ok (.ixor, 1) := by decide +kernel
theorem dX9_struck_77 : decode cX9_struck 77 = .ok (.iand, 1) := by decide +kernel
theorem dX9_struck_78 : decode cX9_struck 78 = .ok (.istore 9, 2) := by decide +kernel
theorem dX9_struck_80 : decode cX9_struck 80 = .ok (.aload_n 0, 1) := by decide +kernel
theorem dX9_struck_81 : decode cX9_struck 81 = .ok (.iload 7, 2) := by decide +kernel
theorem dX9_struck_83 : decode cX9_struck 83 = .ok (.iload 9, 2) := by decide +kernel
theorem dX9_struck_85 : decode cX9_struck 85 = .ok (.aload_n 0, 1) := by decide +kernel
theorem dX9_struck_86 : decode cX9_struck 86 = .ok (.getfield 7, 3) := by decide +kernel
theorem dX9_struck_89 : decode cX9_struck 89 = .ok (.iload 8, 2) := by decide +kernel
theorem dX9_struck_91 : decode cX9_struck 91 = .ok (.iconst 2, 1) := by decide +kernel
theorem dX9_struck_92 : decode cX9_struck 92 = .ok (.iadd, 1) := by decide +kernel
theorem dX9_struck_93 : decode cX9_struck 93 = .ok (.iaload, 1) := by decide +kernel
theorem dX9_struck_94 : decode cX9_struck 94 = .ok (.aload_n 0, 1) := by decide +kernel
theorem dX9_struck_95 : decode cX9_struck 95 = .ok (.getfield 7, 3) := by decide +kernel
theorem dX9_struck_98 : decode cX9_struck 98 = .ok (.aload_n 0, 1) := by decide +kernel
theorem dX9_struck_99 : decode cX9_struck 99 = .ok (.getfield 7, 3) := by decide +kernel
theorem dX9_struck_102 : decode cX9_struck 102 = .ok (.iload 8, 2) := by decide +kernel
theorem dX9_struck_104 : decode cX9_struck 104 = .ok (.iconst 0, 1) := by decide +kernel
theorem dX9_struck_105 : decode cX9_struck 105 = .ok (.iadd, 1) := by decide +kernel
theorem dX9_struck_106 : decode cX9_struck 106 = .ok (.iaload, 1) := by decide +kernel
theorem dX9_struck_107 : decode cX9_struck 107 = .ok (.invokestatic 82, 3) := by decide +kernel
theorem dX9_struck_110 : decode cX9_struck 110 = .ok (.iconst 4, 1) := by decide +kernel
theorem dX9_struck_111 : decode cX9_struck 111 = .ok (.iadd, 1) := by decide +kernel
theorem dX9_struck_112 : decode cX9_struck 112 = .ok (.iaload, 1) := by decide +kernel
theorem dX9_struck_113 : decode cX9_struck 113 = .ok (.invokevirtual 181, 3) := by decide +kernel
theorem dX9_struck_116 : decode cX9_struck 116 = .ok (.lstore 10, 2) := by decide +kernel
theorem dX9_struck_118 : decode cX9_struck 118 = .ok (.iload 6, 2) := by decide +kernel
theorem dX9_struck_120 : decode cX9_struck 120 = .ok (.iload 9, 2) := by decide +kernel
theorem dX9_struck_122 : decode cX9_struck 122 = .ok (.ifCond .ne 7, 3) := by decide +kernel
theorem dX9_struck_125 : decode cX9_struck 125 = .ok (.iconst 1, 1) := by decide +kernel
theorem dX9_struck_126 : decode cX9_struck 126 = .ok (.goto 4, 3) := by decide +kernel
theorem dX9_struck_129 : decode cX9_struck 129 = .ok (.iconst 0, 1) := by decide +kernel
theorem dX9_struck_130 : decode cX9_struck 130 = .ok (.iadd, 1) := by decide +kernel
theorem dX9_struck_131 : decode cX9_struck 131 = .ok (.istore 6, 2) := by decide +kernel
theorem dX9_struck_133 : decode cX9_struck 133 = .ok (.iload_n 3, 1) := by decide +kernel
theorem dX9_struck_134 : decode cX9_struck 134 = .ok (.iconst (-1), 1) := by decide +kernel
theorem dX9_struck_135 : decode cX9_struck 135 = .ok (.if_icmp .eq 11, 3) := by decide +kernel
theorem dX9_struck_138 : decode cX9_struck 138 = .ok (.lload 10, 2) := by decide +kernel
theorem dX9_struck_140 : decode cX9_struck 140 = .ok (.lload 4, 2) := by decide +kernel
theorem dX9_struck_142 : decode cX9_struck 142 = .ok (.lcmp, 1) := by decide +kernel
theorem dX9_struck_143 : decode cX9_struck 143 = .ok (.ifCond .le 10, 3) := by decide +kernel
theorem dX9_struck_146 : decode cX9_struck 146 = .ok (.iload 7, 2) := by decide +kernel
theorem dX9_struck_148 : decode cX9_struck 148 = .ok (.istore_n 3, 1) := by decide +kernel
theorem dX9_struck_149 : decode cX9_struck 149 = .ok (.lload 10, 2) := by decide +kernel
theorem dX9_struck_151 : decode cX9_struck 151 = .ok (.lstore 4, 2) := by decide +kernel
theorem dX9_struck_153 : decode cX9_struck 153 = .ok (.iinc 7 1, 3) := by decide +kernel
theorem dX9_struck_156 : decode cX9_struck 156 = .ok (.goto (-124), 3) := by decide +kernel
theorem dX9_struck_159 : decode cX9_struck 159 = .ok (.iload_n 2, 1) := by decide +kernel
theorem dX9_struck_160 : decode cX9_struck 160 = .ok (.iconst 2, 1) := by decide +kernel
theorem dX9_struck_161 : decode cX9_struck 161 = .ok (.if_icmp .ne 8, 3) := by decide +kernel
theorem dX9_struck_164 : decode cX9_struck 164 = .ok (.iload 6, 2) := by decide +kernel
theorem dX9_struck_166 : decode cX9_struck 166 = .ok (.goto 23, 3) := by decide +kernel
theorem dX9_struck_169 : decode cX9_struck 169 = .ok (.iload_n 3, 1) := by decide +kernel
theorem dX9_struck_170 : decode cX9_struck 170 = .ok (.iconst (-1), 1) := by decide +kernel
theorem dX9_struck_171 : decode cX9_struck 171 = .ok (.if_icmp .ne 7, 3) := by decide +kernel
theorem dX9_struck_174 : decode cX9_struck 174 = .ok (.iconst (-1), 1) := by decide +kernel
theorem dX9_struck_175 : decode cX9_struck 175 = .ok (.goto 14, 3) := by decide +kernel
theorem dX9_struck_178 : decode cX9_struck 178 = .ok (.iload_n 2, 1) := by decide +kernel
theorem dX9_struck_179 : decode cX9_struck 179 = .ok (.ifCond .ne 9, 3) := by decide +kernel
theorem dX9_struck_182 : decode cX9_struck 182 = .ok (.lload 4, 2) := by decide +kernel
theorem dX9_struck_184 : decode cX9_struck 184 = .ok (.l2i, 1) := by decide +kernel
theorem dX9_struck_185 : decode cX9_struck 185 = .ok (.goto 4, 3) := by decide +kernel
theorem dX9_struck_188 : decode cX9_struck 188 = .ok (.iload_n 3, 1) := by decide +kernel
theorem dX9_struck_189 : decode cX9_struck 189 = .ok (.ireturn, 1) := by decide +kernel
theorem dX9_witness_0 : decode cX9_witness 0 = .ok (.iload_n 1, 1) := by decide +kernel
theorem dX9_witness_1 : decode cX9_witness 1 = .ok (.iconst 0, 1) := by decide +kernel
theorem dX9_witness_2 : decode cX9_witness 2 = .ok (.ldc 210, 2) := by decide +kernel
theorem dX9_witness_4 : decode cX9_witness 4 = .ok (.invokestatic 55, 3) := by decide +kernel
theorem dX9_witness_7 : decode cX9_witness 7 = .ok (.ifCond .ne 6, 3) := by decide +kernel
theorem dX9_witness_10 : decode cX9_witness 10 = .ok (.ldc 59, 2) := by decide +kernel
theorem dX9_witness_12 : decode cX9_witness 12 = .ok (.ireturn, 1) := by decide +kernel
theorem dX9_witness_13 : decode cX9_witness 13 = .ok (.aload_n 0, 1) := by decide +kernel
theorem dX9_witness_14 : decode cX9_witness 14 = .ok (.getfield 119, 3) := by decide +kernel
theorem dX9_witness_17 : decode cX9_witness 17 = .ok (.bipush 8, 2) := by decide +kernel
theorem dX9_witness_19 : decode cX9_witness 19 = .ok (.if_icmp .ne 6, 3) := by decide +kernel
theorem dX9_witness_22 : decode cX9_witness 22 = .ok (.ldc 63, 2) := by decide +kernel
theorem dX9_witness_24 : decode cX9_witness 24 = .ok (.ireturn, 1) := by decide +kernel
theorem dX9_witness_25 : decode cX9_witness 25 = .ok (.aload_n 0, 1) := by decide +kernel
theorem dX9_witness_26 : decode cX9_witness 26 = .ok (.getfield 32, 3) := by decide +kernel
theorem dX9_witness_29 : decode cX9_witness 29 = .ok (.aload_n 0, 1) := by decide +kernel
theorem dX9_witness_30 : decode cX9_witness 30 = .ok (.getfield 119, 3) := by decide +kernel
theorem dX9_witness_33 : decode cX9_witness 33 = .ok (.iload_n 1, 1) := by decide +kernel
theorem dX9_witness_34 : decode cX9_witness 34 = .ok (.iastore, 1) := by decide +kernel
theorem dX9_witness_35 : decode cX9_witness 35 = .ok (.aload_n 0, 1) := by decide +kernel
theorem dX9_witness_36 : decode cX9_witness 36 = .ok (.dup, 1) := by decide +kernel
theorem dX9_witness_37 : decode cX9_witness 37 = .ok (.getfield 119, 3) := by decide +kernel
theorem dX9_witness_40 : decode cX9_witness 40 = .ok (.iconst 1, 1) := by decide +kernel
theorem dX9_witness_41 : decode cX9_witness 41 = .ok (.iadd, 1) := by decide +kernel
theorem dX9_witness_42 : decode cX9_witness 42 = .ok (.putfield 119, 3) := by decide +kernel
theorem dX9_witness_45 : decode cX9_witness 45 = .ok (.aload_n 0, 1) := by decide +kernel
theorem dX9_witness_46 : decode cX9_witness 46 = .ok (.getfield 119, 3) := by decide +kernel
theorem dX9_witness_49 : decode cX9_witness 49 = .ok (.ireturn, 1) := by decide +kernel
theorem dX9_fewest_0 : decode cX9_fewest 0 = .ok (.iload_n 1, 1) := by decide +kernel
theorem dX9_fewest_1 : decode cX9_fewest 1 = .ok (.iconst 0, 1) := by decide +kernel
theorem dX9_fewest_2 : decode cX9_fewest 2 = .ok (.ldc 210, 2) := by decide +kernel
theorem dX9_fewest_4 : decode cX9_fewest 4 = .ok (.invokestatic 55, 3) := by decide +kernel
theorem dX9_fewest_7 : decode cX9_fewest 7 = .ok (.ifCond .eq 12, 3) := by decide +kernel
theorem dX9_fewest_10 : decode cX9_fewest 10 = .ok (.iload_n 2, 1) := by decide +kernel
theorem dX9_fewest_11 : decode cX9_fewest 11 = .ok (.iconst 0, 1) := by decide +kernel
theorem dX9_fewest_12 : decode cX9_fewest 12 = .ok (.iconst 1, 1) := by decide +kernel
theorem dX9_fewest_13 : decode cX9_fewest 13 = .ok (.invokestatic 55, 3) := by decide +kernel
theorem dX9_fewest_16 : decode cX9_fewest 16 = .ok (.ifCond .ne 6, 3) := by decide +kernel
theorem dX9_fewest_19 : decode cX9_fewest 19 = .ok (.ldc 59, 2) := by decide +kernel
theorem dX9_fewest_21 : decode cX9_fewest 21 = .ok (.ireturn, 1) := by decide +kernel
theorem dX9_fewest_22 : decode cX9_fewest 22 = .ok (.iconst (-1), 1) := by decide +kernel
theorem dX9_fewest_23 : decode cX9_fewest 23 = .ok (.istore_n 3, 1) := by decide +kernel
theorem dX9_fewest_24 : decode cX9_fewest 24 = .ok (.iconst 0, 1) := by decide +kernel
theorem dX9_fewest_25 : decode cX9_fewest 25 = .ok (.istore 4, 2) := by decide +kernel
theorem dX9_fewest_27 : decode cX9_fewest 27 = .ok (.iload 4, 2) := by decide +kernel
theorem dX9_fewest_29 : decode cX9_fewest 29 = .ok (.iconst 1, 1) := by decide +kernel
theorem dX9_fewest_30 : decode cX9_fewest 30 = .ok (.aload_n 0, 1) := by decide +kernel
theorem dX9_fewest_31 : decode cX9_fewest 31 = .ok (.getfield 119, 3) := by decide +kernel
theorem dX9_fewest_34 : decode cX9_fewest 34 = .ok (.ishl, 1) := by decide +kernel
theorem dX9_fewest_35 : decode cX9_fewest 35 = .ok (.if_icmp .ge 87, 3) := by decide +kernel
theorem dX9_fewest_38 : decode cX9_fewest 38 = .ok (.iload_n 1, 1) := by decide +kernel
theorem dX9_fewest_39 : decode cX9_fewest 39 = .ok (.istore 5, 2) := by decide +kernel
theorem dX9_fewest_41 : decode cX9_fewest 41 = .ok (.iconst 0, 1) := by decide +kernel
theorem dX9_fewest_42 : decode cX9_fewest 42 = .ok (.istore 6, 2) := by decide +kernel
theorem dX9_fewest_44 : decode cX9_fewest 44 = .ok (.iload 6, 2) := by decide +kernel
theorem dX9_fewest_46 : decode cX9_fewest 46 = .ok (.aload_n 0, 1) := by decide +kernel
theorem dX9_fewest_47 : decode cX9_fewest 47 = .ok (.getfield 119, 3) := by decide +kernel
theorem dX9_fewest_50 : decode cX9_fewest 50 = .ok (.if_icmp .ge 37, 3) := by decide +kernel
theorem dX9_fewest_53 : decode cX9_fewest 53 = .ok (.iload 5, 2) := by decide +kernel
theorem dX9_fewest_55 : decode cX9_fewest 55 = .ok (.iload 4, 2) := by decide +kernel
theorem dX9_fewest_57 : decode cX9_fewest 57 = .ok (.iload 6, 2) := by decide +kernel
theorem dX9_fewest_59 : decode cX9_fewest 59 = .ok (.invokestatic 175, 3) := by decide +kernel
theorem dX9_fewest_62 : decode cX9_fewest 62 = .ok (.ifCond .eq 15, 3) := by decide +kernel
theorem dX9_fewest_65 : decode cX9_fewest 65 = .ok (.aload_n 0, 1) := by decide +kernel
theorem dX9_fewest_66 : decode cX9_fewest 66 = .ok (.getfield 32, 3) := by decide +kernel
theorem dX9_fewest_69 : decode cX9_fewest 69 = .ok (.iload 6, 2) := by decide +kernel
theorem dX9_fewest_71 : decode cX9_fewest 71 = .ok (.iaload, 1) := by decide +kernel
theorem dX9_fewest_72 : decode cX9_fewest 72 = .ok (.iconst (-1), 1) := by decide +kernel
theorem dX9_fewest_73 : decode cX9_fewest 73 = .ok (.ixor, 1) := by decide +kernel
theorem dX9_fewest_74 : decode cX9_fewest 74 = .ok (.goto 4, 3) := by decide +kernel
theorem dX9_fewest_77 : decode cX9_fewest 77 = .ok (.iconst (-1), 1) := by decide +kernel
theorem dX9_fewest_78 : decode cX9_fewest 78 = .ok (.iand, 1) := by decide +kernel
theorem dX9_fewest_79 : decode cX9_fewest 79 = .ok (.istore 5, 2) := by decide +kernel
theorem dX9_fewest_81 : decode cX9_fewest 81 = .ok (.iinc 6 1, 3) := by decide +kernel
theorem dX9_fewest_84 : decode cX9_fewest 84 = .ok (.goto (-40), 3) := by decide +kernel
theorem dX9_fewest_87 : decode cX9_fewest 87 = .ok (.iload 5, 2) := by decide +kernel
theorem dX9_fewest_89 : decode cX9_fewest 89 = .ok (.ifCond .ne 25, 3) := by decide +kernel
theorem dX9_fewest_92 : decode cX9_fewest 92 = .ok (.iload_n 3, 1) := by decide +kernel
theorem dX9_fewest_93 : decode cX9_fewest 93 = .ok (.iconst (-1), 1) := by decide +kernel
theorem dX9_fewest_94 : decode cX9_fewest 94 = .ok (.if_icmp .eq 15, 3) := by decide +kernel
theorem dX9_fewest_97 : decode cX9_fewest 97 = .ok (.iload 4, 2) := by decide +kernel
theorem dX9_fewest_99 : decode cX9_fewest 99 = .ok (.invokestatic 195, 3) := by decide +kernel
theorem dX9_fewest_102 : decode cX9_fewest 102 = .ok (.iload_n 3, 1) := by decide +kernel
theorem dX9_fewest_103 : decode cX9_fewest 103 = .ok (.invokestatic 195, 3) := by decide +kernel
theorem dX9_fewest_106 : decode cX9_fewest 106 = .ok (.if_icmp .ge 8, 3) := by decide +kernel
theorem dX9_fewest_109 : decode cX9_fewest 109 = .ok (.iload 4, 2) := by decide +kernel
theorem dX9_fewest_111 : decode cX9_fewest 111 = .ok (.goto 4, 3) := by decide +kernel
theorem dX9_fewest_114 : decode cX9_fewest 114 = .ok (.iload_n 3, 1) := by decide +kernel
theorem dX9_fewest_115 : decode cX9_fewest 115 = .ok (.istore_n 3, 1) := by decide +kernel
theorem dX9_fewest_116 : decode cX9_fewest 116 = .ok (.iinc 4 1, 3) := by decide +kernel
theorem dX9_fewest_119 : decode cX9_fewest 119 = .ok (.goto (-92), 3) := by decide +kernel
theorem dX9_fewest_122 : decode cX9_fewest 122 = .ok (.iload_n 3, 1) := by decide +kernel
theorem dX9_fewest_123 : decode cX9_fewest 123 = .ok (.iconst (-1), 1) := by decide +kernel
theorem dX9_fewest_124 : decode cX9_fewest 124 = .ok (.if_icmp .eq 8, 3) := by decide +kernel
theorem dX9_fewest_127 : decode cX9_fewest 127 = .ok (.iload_n 2, 1) := by decide +kernel
theorem dX9_fewest_128 : decode cX9_fewest 128 = .ok (.iconst 1, 1) := by decide +kernel
theorem dX9_fewest_129 : decode cX9_fewest 129 = .ok (.if_icmp .ne 7, 3) := by decide +kernel
theorem dX9_fewest_132 : decode cX9_fewest 132 = .ok (.iload_n 3, 1) := by decide +kernel
theorem dX9_fewest_133 : decode cX9_fewest 133 = .ok (.goto 7, 3) := by decide +kernel
theorem dX9_fewest_136 : decode cX9_fewest 136 = .ok (.iload_n 3, 1) := by decide +kernel
theorem dX9_fewest_137 : decode cX9_fewest 137 = .ok (.invokestatic 195, 3) := by decide +kernel
theorem dX9_fewest_140 : decode cX9_fewest 140 = .ok (.ireturn, 1) := by decide +kernel
theorem dX9_ledger_0 : decode cX9_ledger 0 = .ok (.iload_n 1, 1) := by decide +kernel
theorem dX9_ledger_1 : decode cX9_ledger 1 = .ok (.iconst 0, 1) := by decide +kernel
theorem dX9_ledger_2 : decode cX9_ledger 2 = .ok (.ldc 146, 2) := by decide +kernel
theorem dX9_ledger_4 : decode cX9_ledger 4 = .ok (.invokestatic 55, 3) := by decide +kernel
theorem dX9_ledger_7 : decode cX9_ledger 7 = .ok (.ifCond .ne 6, 3) := by decide +kernel
theorem dX9_ledger_10 : decode cX9_ledger 10 = .ok (.ldc 59, 2) := by decide +kernel
theorem dX9_ledger_12 : decode cX9_ledger 12 = .ok (.ireturn, 1) := by decide +kernel
theorem dX9_ledger_13 : decode cX9_ledger 13 = .ok (.aload_n 0, 1) := by decide +kernel
theorem dX9_ledger_14 : decode cX9_ledger 14 = .ok (.getfield 122, 3) := by decide +kernel
theorem dX9_ledger_17 : decode cX9_ledger 17 = .ok (.iconst 3, 1) := by decide +kernel
theorem dX9_ledger_18 : decode cX9_ledger 18 = .ok (.if_icmp .ne 6, 3) := by decide +kernel
theorem dX9_ledger_21 : decode cX9_ledger 21 = .ok (.ldc 63, 2) := by decide +kernel
theorem dX9_ledger_23 : decode cX9_ledger 23 = .ok (.ireturn, 1) := by decide +kernel
theorem dX9_ledger_24 : decode cX9_ledger 24 = .ok (.aload_n 0, 1) := by decide +kernel
theorem dX9_ledger_25 : decode cX9_ledger 25 = .ok (.getfield 35, 3) := by decide +kernel
theorem dX9_ledger_28 : decode cX9_ledger 28 = .ok (.aload_n 0, 1) := by decide +kernel
theorem dX9_ledger_29 : decode cX9_ledger 29 = .ok (.getfield 122, 3) := by decide +kernel
theorem dX9_ledger_32 : decode cX9_ledger 32 = .ok (.iload_n 1, 1) := by decide +kernel
theorem dX9_ledger_33 : decode cX9_ledger 33 = .ok (.iastore, 1) := by decide +kernel
theorem dX9_ledger_34 : decode cX9_ledger 34 = .ok (.aload_n 0, 1) := by decide +kernel
theorem dX9_ledger_35 : decode cX9_ledger 35 = .ok (.dup, 1) := by decide +kernel
theorem dX9_ledger_36 : decode cX9_ledger 36 = .ok (.getfield 122, 3) := by decide +kernel
theorem dX9_ledger_39 : decode cX9_ledger 39 = .ok (.iconst 1, 1) := by decide +kernel
theorem dX9_ledger_40 : decode cX9_ledger 40 = .ok (.iadd, 1) := by decide +kernel
theorem dX9_ledger_41 : decode cX9_ledger 41 = .ok (.putfield 122, 3) := by decide +kernel
theorem dX9_ledger_44 : decode cX9_ledger 44 = .ok (.aload_n 0, 1) := by decide +kernel
theorem dX9_ledger_45 : decode cX9_ledger 45 = .ok (.getfield 122, 3) := by decide +kernel
theorem dX9_ledger_48 : decode cX9_ledger 48 = .ok (.ireturn, 1) := by decide +kernel
theorem dX9_setIn_0 : decode cX9_setIn 0 = .ok (.iload_n 1, 1) := by decide +kernel
theorem dX9_setIn_1 : decode cX9_setIn 1 = .ok (.iconst 4, 1) := by decide +kernel
theorem dX9_setIn_2 : decode cX9_setIn 2 = .ok (.aload_n 0, 1) := by decide +kernel
theorem dX9_setIn_3 : decode cX9_setIn 3 = .ok (.getfield 122, 3) := by decide +kernel
theorem dX9_setIn_6 : decode cX9_setIn 6 = .ok (.iconst 1, 1) := by decide +kernel
theorem dX9_setIn_7 : decode cX9_setIn 7 = .ok (.isub, 1) := by decide +kernel
theorem dX9_setIn_8 : decode cX9_setIn 8 = .ok (.iload_n 2, 1) := by decide +kernel
theorem dX9_setIn_9 : decode cX9_setIn 9 = .ok (.isub, 1) := by decide +kernel
theorem dX9_setIn_10 : decode cX9_setIn 10 = .ok (.imul, 1) := by decide +kernel
theorem dX9_setIn_11 : decode cX9_setIn 11 = .ok (.ishr, 1) := by decide +kernel
theorem dX9_setIn_12 : decode cX9_setIn 12 = .ok (.bipush 15, 2) := by decide +kernel
theorem dX9_setIn_14 : decode cX9_setIn 14 = .ok (.iand, 1) := by decide +kernel
theorem dX9_setIn_15 : decode cX9_setIn 15 = .ok (.ireturn, 1) := by decide +kernel
theorem dX9_findRows_0 : decode cX9_findRows 0 = .ok (.aload_n 0, 1) := by decide +kernel
theorem dX9_findRows_1 : decode cX9_findRows 1 = .ok (.iconst 0, 1) := by decide +kernel
theorem dX9_findRows_2 : decode cX9_findRows 2 = .ok (.putfield 211, 3) := by decide +kernel
theorem dX9_findRows_5 : decode cX9_findRows 5 = .ok (.aload_n 0, 1) := by decide +kernel
theorem dX9_findRows_6 : decode cX9_findRows 6 = .ok (.iconst 0, 1) := by decide +kernel
theorem dX9_findRows_7 : decode cX9_findRows 7 = .ok (.putfield 214, 3) := by decide +kernel
theorem dX9_findRows_10 : decode cX9_findRows 10 = .ok (.aload_n 0, 1) := by decide +kernel
theorem dX9_findRows_11 : decode cX9_findRows 11 = .ok (.bipush 15, 2) := by decide +kernel
theorem dX9_findRows_13 : decode cX9_findRows 13 = .ok (.putfield 217, 3) := by decide +kernel
theorem dX9_findRows_16 : decode cX9_findRows 16 = .ok (.iconst 0, 1) := by decide +kernel
theorem dX9_findRows_17 : decode cX9_findRows 17 = .ok (.istore_n 2, 1) := by decide +kernel
theorem dX9_findRows_18 : decode cX9_findRows 18 = .ok (.iload_n 2, 1) := by decide +kernel
theorem dX9_findRows_19 : decode cX9_findRows 19 = .ok (.iconst 1, 1) := by decide +kernel
theorem dX9_findRows_20 : decode cX9_findRows 20 = .ok (.iconst 4, 1) := by decide +kernel
theorem dX9_findRows_21 : decode cX9_findRows 21 = .ok (.aload_n 0, 1) := by decide +kernel
theorem dX9_findRows_22 : decode cX9_findRows 22 = .ok (.getfield 122, 3) := by decide +kernel
theorem dX9_findRows_25 : decode cX9_findRows 25 = .ok (.imul, 1) := by decide +kernel
theorem dX9_findRows_26 : decode cX9_findRows 26 = .ok (.ishl, 1) := by decide +kernel
theorem dX9_findRows_27 : decode cX9_findRows 27 = .ok (.if_icmp .ge 152, 3) := by decide +kernel
theorem dX9_findRows_30 : decode cX9_findRows 30 = .ok (.aload_n 0, 1) := by decide +kernel
theorem dX9_findRows_31 : decode cX9_findRows 31 = .ok (.getfield 7, 3) := by decide +kernel
theorem dX9_findRows_34 : decode cX9_findRows 34 = .ok (.iconst 0, 1) := by decide +kernel
theorem dX9_findRows_35 : decode cX9_findRows 35 = .ok (.aload_n 0, 1) := by decide +kernel
theorem dX9_findRows_36 : decode cX9_findRows 36 = .ok (.getfield 16, 3) := by decide +kernel
theorem dX9_findRows_39 : decode cX9_findRows 39 = .ok (.iconst 0, 1) := by decide +kernel
theorem dX9_findRows_40 : decode cX9_findRows 40 = .ok (.invokestatic 106, 3) := by decide +kernel
theorem dX9_findRows_43 : decode cX9_findRows 43 = .ok (.aload_n 0, 1) := by decide +kernel
theorem dX9_findRows_44 : decode cX9_findRows 44 = .ok (.invokevirtual 189, 3) := by decide +kernel
theorem dX9_findRows_47 : decode cX9_findRows 47 = .ok (.iconst 1, 1) := by decide +kernel
theorem dX9_findRows_48 : decode cX9_findRows 48 = .ok (.istore_n 3, 1) := by decide +kernel
theorem dX9_findRows_49 : decode cX9_findRows 49 = .ok (.iconst 0, 1) := by decide +kernel
theorem dX9_findRows_50 : decode cX9_findRows 50 = .ok (.istore 4, 2) := by decide +kernel
theorem dX9_findRows_52 : decode cX9_findRows 52 = .ok (.iconst 0, 1) := by decide +kernel
theorem dX9_findRows_53 : decode cX9_findRows 53 = .ok (.istore 5, 2) := by decide +kernel
theorem dX9_findRows_55 : decode cX9_findRows 55 = .ok (.iload 5, 2) := by decide +kernel
theorem dX9_findRows_57 : decode cX9_findRows 57 = .ok (.aload_n 0, 1) := by decide +kernel
theorem dX9_findRows_58 : decode cX9_findRows 58 = .ok (.getfield 122, 3) := by decide +kernel
theorem dX9_findRows_61 : decode cX9_findRows 61 = .ok (.if_icmp .ge 68, 3) := by decide +kernel
theorem dX9_findRows_64 : decode cX9_findRows 64 = .ok (.iload_n 3, 1) := by decide +kernel
theorem dX9_findRows_65 : decode cX9_findRows 65 = .ok (.ifCond .eq 64, 3) := by decide +kernel
theorem dX9_findRows_68 : decode cX9_findRows 68 = .ok (.aload_n 0, 1) := by decide +kernel
theorem dX9_findRows_69 : decode cX9_findRows 69 = .ok (.getfield 41, 3) := by decide +kernel
theorem dX9_findRows_72 : decode cX9_findRows 72 = .ok (.iload_n 1, 1) := by decide +kernel
theorem dX9_findRows_73 : decode cX9_findRows 73 = .ok (.aload_n 0, 1) := by decide +kernel
theorem dX9_findRows_74 : decode cX9_findRows 74 = .ok (.iload_n 2, 1) := by decide +kernel
theorem dX9_findRows_75 : decode cX9_findRows 75 = .ok (.iload 5, 2) := by decide +kernel
theorem dX9_findRows_77 : decode cX9_findRows 77 = .ok (.invokevirtual 220, 3) := by decide +kernel
theorem dX9_findRows_80 : decode cX9_findRows 80 = .ok (.iastore, 1) := by decide +kernel
theorem dX9_findRows_81 : decode cX9_findRows 81 = .ok (.iload 4, 2) := by decide +kernel
theorem dX9_findRows_83 : decode cX9_findRows 83 = .ok (.aload_n 0, 1) := by decide +kernel
theorem dX9_findRows_84 : decode cX9_findRows 84 = .ok (.getfield 41, 3) := by decide +kernel
theorem dX9_findRows_87 : decode cX9_findRows 87 = .ok (.iload_n 1, 1) := by decide +kernel
theorem dX9_findRows_88 : decode cX9_findRows 88 = .ok (.iaload, 1) := by decide +kernel
theorem dX9_findRows_89 : decode cX9_findRows 89 = .ok (.ior, 1) := by decide +kernel
theorem dX9_findRows_90 : decode cX9_findRows 90 = .ok (.istore 4, 2) := by decide +kernel
theorem dX9_findRows_92 : decode cX9_findRows 92 = .ok (.aload_n 0, 1) := by decide +kernel
theorem dX9_findRows_93 : decode cX9_findRows 93 = .ok (.aload_n 0, 1) := by decide +kernel
theorem dX9_findRows_94 : decode cX9_findRows 94 = .ok (.getfield 16, 3) := by decide +kernel
theorem dX9_findRows_97 : decode cX9_findRows 97 = .ok (.invokevirtual 164, 3) := by decide +kernel
theorem dX9_findRows_100 : decode cX9_findRows 100 = .ok (.pop, 1) := by decide +kernel
theorem dX9_findRows_101 : decode cX9_findRows 101 = .ok (.aload_n 0, 1) := by decide +kernel
theorem dX9_findRows_102 : decode cX9_findRows 102 = .ok (.getfield 16, 3) := by decide +kernel
theorem dX9_findRows_105 : decode cX9_findRows 105 = .ok (.iconst 3, 1) := by decide +kernel
theorem dX9_findRows_106 : decode cX9_findRows 106 = .ok (.iaload, 1) := by decide +kernel
theorem dX9_findRows_107 : decode cX9_findRows 107 = .ok (.aload_n 0, 1) := by decide +kernel
theorem dX9_findRows_108 : decode cX9_findRows 108 = .ok (.getfield 35, 3) := by decide +kernel
theorem dX9_findRows_111 : decode cX9_findRows 111 = .ok (.iload 5, 2) := by decide +kernel
theorem dX9_findRows_113 : decode cX9_findRows 113 = .ok (.iaload, 1) := by decide +kernel
theorem dX9_findRows_114 : decode cX9_findRows 114 = .ok (.if_icmp .ne 7, 3) := by decide +kernel
theorem dX9_findRows_117 : decode cX9_findRows 117 = .ok (.iconst 1, 1) := by decide +kernel
theorem dX9_findRows_118 : decode cX9_findRows 118 = .ok (.goto 4, 3) := by decide +kernel
theorem dX9_findRows_121 : decode cX9_findRows 121 = .ok (.iconst 0, 1) := by decide +kernel
theorem dX9_findRows_122 : decode cX9_findRows 122 = .ok (.istore_n 3, 1) := by decide +kernel
theorem dX9_findRows_123 : decode cX9_findRows 123 = .ok (.iinc 5 1, 3) := by decide +kernel
theorem dX9_findRows_126 : decode cX9_findRows 126 = .ok (.goto (-71), 3) := by decide +kernel
theorem dX9_findRows_129 : decode cX9_findRows 129 = .ok (.iload_n 3, 1) := by decide +kernel
theorem dX9_findRows_130 : decode cX9_findRows 130 = .ok (.ifCond .eq 43, 3) := by decide +kernel
theorem dX9_findRows_133 : decode cX9_findRows 133 = .ok (.aload_n 0, 1) := by decide +kernel
theorem dX9_findRows_134 : decode cX9_findRows 134 = .ok (.aload_n 0, 1) := by decide +kernel
theorem dX9_findRows_135 : decode cX9_findRows 135 = .ok (.getfield 211, 3) := by decide +kernel
theorem dX9_findRows_138 : decode cX9_findRows 138 = .ok (.ifCond .ne 7, 3) := by decide +kernel
theorem dX9_findRows_141 : decode cX9_findRows 141 = .ok (.iload_n 2, 1) := by decide +kernel
theorem dX9_findRows_142 : decode cX9_findRows 142 = .ok (.goto 7, 3) := by decide +kernel
theorem dX9_findRows_145 : decode cX9_findRows 145 = .ok (.aload_n 0, 1) := by decide +kernel
theorem dX9_findRows_146 : decode cX9_findRows 146 = .ok (.getfield 214, 3) := by decide +kernel
theorem dX9_findRows_149 : decode cX9_findRows 149 = .ok (.putfield 214, 3) := by decide +kernel
theorem dX9_findRows_152 : decode cX9_findRows 152 = .ok (.aload_n 0, 1) := by decide +kernel
theorem dX9_findRows_153 : decode cX9_findRows 153 = .ok (.dup, 1) := by decide +kernel
theorem dX9_findRows_154 : decode cX9_findRows 154 = .ok (.getfield 211, 3) := by decide +kernel
theorem dX9_findRows_157 : decode cX9_findRows 157 = .ok (.iconst 1, 1) := by decide +kernel
theorem dX9_findRows_158 : decode cX9_findRows 158 = .ok (.iadd, 1) := by decide +kernel
theorem dX9_findRows_159 : decode cX9_findRows 159 = .ok (.putfield 211, 3) := by decide +kernel
theorem dX9_findRows_162 : decode cX9_findRows 162 = .ok (.aload_n 0, 1) := by decide +kernel
theorem dX9_findRows_163 : decode cX9_findRows 163 = .ok (.dup, 1) := by decide +kernel
theorem dX9_findRows_164 : decode cX9_findRows 164 = .ok (.getfield 217, 3) := by decide +kernel
theorem dX9_findRows_167 : decode cX9_findRows 167 = .ok (.iload 4, 2) := by decide +kernel
theorem dX9_findRows_169 : decode cX9_findRows 169 = .ok (.iand, 1) := by decide +kernel
theorem dX9_findRows_170 : decode cX9_findRows 170 = .ok (.putfield 217, 3) := by decide +kernel
theorem dX9_findRows_173 : decode cX9_findRows 173 = .ok (.iinc 2 1, 3) := by decide +kernel
theorem dX9_findRows_176 : decode cX9_findRows 176 = .ok (.goto (-158), 3) := by decide +kernel
theorem dX9_findRows_179 : decode cX9_findRows 179 = .ok (.return_, 1) := by decide +kernel
theorem dX9_befell_0 : decode cX9_befell 0 = .ok (.aload_n 0, 1) := by decide +kernel
theorem dX9_befell_1 : decode cX9_befell 1 = .ok (.iload_n 1, 1) := by decide +kernel
theorem dX9_befell_2 : decode cX9_befell 2 = .ok (.invokevirtual 135, 3) := by decide +kernel
theorem dX9_befell_5 : decode cX9_befell 5 = .ok (.ifCond .ne 6, 3) := by decide +kernel
theorem dX9_befell_8 : decode cX9_befell 8 = .ok (.ldc 139, 2) := by decide +kernel
theorem dX9_befell_10 : decode cX9_befell 10 = .ok (.ireturn, 1) := by decide +kernel
theorem dX9_befell_11 : decode cX9_befell 11 = .ok (.aload_n 0, 1) := by decide +kernel
theorem dX9_befell_12 : decode cX9_befell 12 = .ok (.iload_n 1, 1) := by decide +kernel
theorem dX9_befell_13 : decode cX9_befell 13 = .ok (.invokevirtual 223, 3) := by decide +kernel
theorem dX9_befell_16 : decode cX9_befell 16 = .ok (.iload_n 2, 1) := by decide +kernel
theorem dX9_befell_17 : decode cX9_befell 17 = .ok (.iconst (-1), 1) := by decide +kernel
theorem dX9_befell_18 : decode cX9_befell 18 = .ok (.if_icmp .ne 10, 3) := by decide +kernel
theorem dX9_befell_21 : decode cX9_befell 21 = .ok (.aload_n 0, 1) := by decide +kernel
theorem dX9_befell_22 : decode cX9_befell 22 = .ok (.getfield 211, 3) := by decide +kernel
theorem dX9_befell_25 : decode cX9_befell 25 = .ok (.goto 37, 3) := by decide +kernel
theorem dX9_befell_28 : decode cX9_befell 28 = .ok (.iload_n 2, 1) := by decide +kernel
theorem dX9_befell_29 : decode cX9_befell 29 = .ok (.iconst 0, 1) := by decide +kernel
theorem dX9_befell_30 : decode cX9_befell 30 = .ok (.aload_n 0, 1) := by decide +kernel
theorem dX9_befell_31 : decode cX9_befell 31 = .ok (.getfield 122, 3) := by decide +kernel
theorem dX9_befell_34 : decode cX9_befell 34 = .ok (.iconst 1, 1) := by decide +kernel
theorem dX9_befell_35 : decode cX9_befell 35 = .ok (.isub, 1) := by decide +kernel
theorem dX9_befell_36 : decode cX9_befell 36 = .ok (.invokestatic 55, 3) := by decide +kernel
theorem dX9_befell_39 : decode cX9_befell 39 = .ok (.ifCond .eq 22, 3) := by decide +kernel
theorem dX9_befell_42 : decode cX9_befell 42 = .ok (.aload_n 0, 1) := by decide +kernel
theorem dX9_befell_43 : decode cX9_befell 43 = .ok (.getfield 211, 3) := by decide +kernel
theorem dX9_befell_46 : decode cX9_befell 46 = .ok (.ifCond .le 15, 3) := by decide +kernel
theorem dX9_befell_49 : decode cX9_befell 49 = .ok (.aload_n 0, 1) := by decide +kernel
theorem dX9_befell_50 : decode cX9_befell 50 = .ok (.aload_n 0, 1) := by decide +kernel
theorem dX9_befell_51 : decode cX9_befell 51 = .ok (.getfield 214, 3) := by decide +kernel
theorem dX9_befell_54 : decode cX9_befell 54 = .ok (.iload_n 2, 1) := by decide +kernel
theorem dX9_befell_55 : decode cX9_befell 55 = .ok (.invokevirtual 220, 3) := by decide +kernel
theorem dX9_befell_58 : decode cX9_befell 58 = .ok (.goto 4, 3) := by decide +kernel
theorem dX9_befell_61 : decode cX9_befell 61 = .ok (.iconst (-1), 1) := by decide +kernel
theorem dX9_befell_62 : decode cX9_befell 62 = .ok (.ireturn, 1) := by decide +kernel
theorem dX9_sure_0 : decode cX9_sure 0 = .ok (.aload_n 0, 1) := by decide +kernel
theorem dX9_sure_1 : decode cX9_sure 1 = .ok (.iload_n 1, 1) := by decide +kernel
theorem dX9_sure_2 : decode cX9_sure 2 = .ok (.invokevirtual 135, 3) := by decide +kernel
theorem dX9_sure_5 : decode cX9_sure 5 = .ok (.ifCond .ne 6, 3) := by decide +kernel
theorem dX9_sure_8 : decode cX9_sure 8 = .ok (.ldc 139, 2) := by decide +kernel
theorem dX9_sure_10 : decode cX9_sure 10 = .ok (.ireturn, 1) := by decide +kernel
theorem dX9_sure_11 : decode cX9_sure 11 = .ok (.aload_n 0, 1) := by decide +kernel
theorem dX9_sure_12 : decode cX9_sure 12 = .ok (.iload_n 1, 1) := by decide +kernel
theorem dX9_sure_13 : decode cX9_sure 13 = .ok (.invokevirtual 223, 3) := by decide +kernel
theorem dX9_sure_16 : decode cX9_sure 16 = .ok (.aload_n 0, 1) := by decide +kernel
theorem dX9_sure_17 : decode cX9_sure 17 = .ok (.getfield 211, 3) := by decide +kernel
theorem dX9_sure_20 : decode cX9_sure 20 = .ok (.ifCond .ne 7, 3) := by decide +kernel
theorem dX9_sure_23 : decode cX9_sure 23 = .ok (.iconst 0, 1) := by decide +kernel
theorem dX9_sure_24 : decode cX9_sure 24 = .ok (.goto 7, 3) := by decide +kernel
theorem dX9_sure_27 : decode cX9_sure 27 = .ok (.aload_n 0, 1) := by decide +kernel
theorem dX9_sure_28 : decode cX9_sure 28 = .ok (.getfield 217, 3) := by decide +kernel
theorem dX9_sure_31 : decode cX9_sure 31 = .ok (.ireturn, 1) := by decide +kernel
theorem dX9_write_0 : decode cX9_write 0 = .ok (.iload_n 1, 1) := by decide +kernel
theorem dX9_write_1 : decode cX9_write 1 = .ok (.iconst 0, 1) := by decide +kernel
theorem dX9_write_2 : decode cX9_write 2 = .ok (.ldc 146, 2) := by decide +kernel
theorem dX9_write_4 : decode cX9_write 4 = .ok (.invokestatic 55, 3) := by decide +kernel
theorem dX9_write_7 : decode cX9_write 7 = .ok (.ifCond .ne 6, 3) := by decide +kernel
theorem dX9_write_10 : decode cX9_write 10 = .ok (.ldc 59, 2) := by decide +kernel
theorem dX9_write_12 : decode cX9_write 12 = .ok (.ireturn, 1) := by decide +kernel
theorem dX9_write_13 : decode cX9_write 13 = .ok (.aload_n 0, 1) := by decide +kernel
theorem dX9_write_14 : decode cX9_write 14 = .ok (.getfield 125, 3) := by decide +kernel
theorem dX9_write_17 : decode cX9_write 17 = .ok (.bipush 20, 2) := by decide +kernel
theorem dX9_write_19 : decode cX9_write 19 = .ok (.if_icmp .ne 6, 3) := by decide +kernel
theorem dX9_write_22 : decode cX9_write 22 = .ok (.ldc 63, 2) := by decide +kernel
theorem dX9_write_24 : decode cX9_write 24 = .ok (.ireturn, 1) := by decide +kernel
theorem dX9_write_25 : decode cX9_write 25 = .ok (.aload_n 0, 1) := by decide +kernel
theorem dX9_write_26 : decode cX9_write 26 = .ok (.getfield 38, 3) := by decide +kernel
theorem dX9_write_29 : decode cX9_write 29 = .ok (.aload_n 0, 1) := by decide +kernel
theorem dX9_write_30 : decode cX9_write 30 = .ok (.getfield 125, 3) := by decide +kernel
theorem dX9_write_33 : decode cX9_write 33 = .ok (.iload_n 1, 1) := by decide +kernel
theorem dX9_write_34 : decode cX9_write 34 = .ok (.iastore, 1) := by decide +kernel
theorem dX9_write_35 : decode cX9_write 35 = .ok (.aload_n 0, 1) := by decide +kernel
theorem dX9_write_36 : decode cX9_write 36 = .ok (.dup, 1) := by decide +kernel
theorem dX9_write_37 : decode cX9_write 37 = .ok (.getfield 125, 3) := by decide +kernel
theorem dX9_write_40 : decode cX9_write 40 = .ok (.iconst 1, 1) := by decide +kernel
theorem dX9_write_41 : decode cX9_write 41 = .ok (.iadd, 1) := by decide +kernel
theorem dX9_write_42 : decode cX9_write 42 = .ok (.putfield 125, 3) := by decide +kernel
theorem dX9_write_45 : decode cX9_write 45 = .ok (.aload_n 0, 1) := by decide +kernel
theorem dX9_write_46 : decode cX9_write 46 = .ok (.getfield 125, 3) := by decide +kernel
theorem dX9_write_49 : decode cX9_write 49 = .ok (.ireturn, 1) := by decide +kernel
theorem dX9_judge_0 : decode cX9_judge 0 = .ok (.aload_n 0, 1) := by decide +kernel
theorem dX9_judge_1 : decode cX9_judge 1 = .ok (.getfield 7, 3) := by decide +kernel
theorem dX9_judge_4 : decode cX9_judge 4 = .ok (.iconst 0, 1) := by decide +kernel
theorem dX9_judge_5 : decode cX9_judge 5 = .ok (.aload_n 0, 1) := by decide +kernel
theorem dX9_judge_6 : decode cX9_judge 6 = .ok (.getfield 16, 3) := by decide +kernel
theorem dX9_judge_9 : decode cX9_judge 9 = .ok (.iconst 0, 1) := by decide +kernel
theorem dX9_judge_10 : decode cX9_judge 10 = .ok (.invokestatic 106, 3) := by decide +kernel
theorem dX9_judge_13 : decode cX9_judge 13 = .ok (.aload_n 0, 1) := by decide +kernel
theorem dX9_judge_14 : decode cX9_judge 14 = .ok (.invokevirtual 189, 3) := by decide +kernel
theorem dX9_judge_17 : decode cX9_judge 17 = .ok (.iconst 0, 1) := by decide +kernel
theorem dX9_judge_18 : decode cX9_judge 18 = .ok (.istore_n 1, 1) := by decide +kernel
theorem dX9_judge_19 : decode cX9_judge 19 = .ok (.iload_n 1, 1) := by decide +kernel
theorem dX9_judge_20 : decode cX9_judge 20 = .ok (.aload_n 0, 1) := by decide +kernel
theorem dX9_judge_21 : decode cX9_judge 21 = .ok (.getfield 125, 3) := by decide +kernel
theorem dX9_judge_24 : decode cX9_judge 24 = .ok (.if_icmp .ge 35, 3) := by decide +kernel
theorem dX9_judge_27 : decode cX9_judge 27 = .ok (.aload_n 0, 1) := by decide +kernel
theorem dX9_judge_28 : decode cX9_judge 28 = .ok (.aload_n 0, 1) := by decide +kernel
theorem dX9_judge_29 : decode cX9_judge 29 = .ok (.getfield 16, 3) := by decide +kernel
theorem dX9_judge_32 : decode cX9_judge 32 = .ok (.invokevirtual 164, 3) := by decide +kernel
theorem dX9_judge_35 : decode cX9_judge 35 = .ok (.pop, 1) := by decide +kernel
theorem dX9_judge_36 : decode cX9_judge 36 = .ok (.aload_n 0, 1) := by decide +kernel
theorem dX9_judge_37 : decode cX9_judge 37 = .ok (.getfield 16, 3) := by decide +kernel
theorem dX9_judge_40 : decode cX9_judge 40 = .ok (.iconst 3, 1) := by decide +kernel
theorem dX9_judge_41 : decode cX9_judge 41 = .ok (.iaload, 1) := by decide +kernel
theorem dX9_judge_42 : decode cX9_judge 42 = .ok (.aload_n 0, 1) := by decide +kernel
theorem dX9_judge_43 : decode cX9_judge 43 = .ok (.getfield 38, 3) := by decide +kernel
theorem dX9_judge_46 : decode cX9_judge 46 = .ok (.iload_n 1, 1) := by decide +kernel
theorem dX9_judge_47 : decode cX9_judge 47 = .ok (.iaload, 1) := by decide +kernel
theorem dX9_judge_48 : decode cX9_judge 48 = .ok (.if_icmp .eq 5, 3) := by decide +kernel
theorem dX9_judge_51 : decode cX9_judge 51 = .ok (.iload_n 1, 1) := by decide +kernel
theorem dX9_judge_52 : decode cX9_judge 52 = .ok (.ireturn, 1) := by decide +kernel
theorem dX9_judge_53 : decode cX9_judge 53 = .ok (.iinc 1 1, 3) := by decide +kernel
theorem dX9_judge_56 : decode cX9_judge 56 = .ok (.goto (-37), 3) := by decide +kernel
theorem dX9_judge_59 : decode cX9_judge 59 = .ok (.iconst (-1), 1) := by decide +kernel
theorem dX9_judge_60 : decode cX9_judge 60 = .ok (.ireturn, 1) := by decide +kernel
theorem dX9_tear_0 : decode cX9_tear 0 = .ok (.aload_n 0, 1) := by decide +kernel
theorem dX9_tear_1 : decode cX9_tear 1 = .ok (.getfield 119, 3) := by decide +kernel
theorem dX9_tear_4 : decode cX9_tear 4 = .ok (.aload_n 0, 1) := by decide +kernel
theorem dX9_tear_5 : decode cX9_tear 5 = .ok (.getfield 122, 3) := by decide +kernel
theorem dX9_tear_8 : decode cX9_tear 8 = .ok (.iadd, 1) := by decide +kernel
theorem dX9_tear_9 : decode cX9_tear 9 = .ok (.aload_n 0, 1) := by decide +kernel
theorem dX9_tear_10 : decode cX9_tear 10 = .ok (.getfield 125, 3) := by decide +kernel
theorem dX9_tear_13 : decode cX9_tear 13 = .ok (.iadd, 1) := by decide +kernel
theorem dX9_tear_14 : decode cX9_tear 14 = .ok (.istore_n 1, 1) := by decide +kernel
theorem dX9_tear_15 : decode cX9_tear 15 = .ok (.aload_n 0, 1) := by decide +kernel
theorem dX9_tear_16 : decode cX9_tear 16 = .ok (.iconst 0, 1) := by decide +kernel
theorem dX9_tear_17 : decode cX9_tear 17 = .ok (.putfield 119, 3) := by decide +kernel
theorem dX9_tear_20 : decode cX9_tear 20 = .ok (.aload_n 0, 1) := by decide +kernel
theorem dX9_tear_21 : decode cX9_tear 21 = .ok (.iconst 0, 1) := by decide +kernel
theorem dX9_tear_22 : decode cX9_tear 22 = .ok (.putfield 122, 3) := by decide +kernel
theorem dX9_tear_25 : decode cX9_tear 25 = .ok (.aload_n 0, 1) := by decide +kernel
theorem dX9_tear_26 : decode cX9_tear 26 = .ok (.iconst 0, 1) := by decide +kernel
theorem dX9_tear_27 : decode cX9_tear 27 = .ok (.putfield 125, 3) := by decide +kernel
theorem dX9_tear_30 : decode cX9_tear 30 = .ok (.iload_n 1, 1) := by decide +kernel
theorem dX9_tear_31 : decode cX9_tear 31 = .ok (.ireturn, 1) := by decide +kernel
theorem dX9_seed_0 : decode cX9_seed 0 = .ok (.iload_n 1, 1) := by decide +kernel
theorem dX9_seed_1 : decode cX9_seed 1 = .ok (.ifCond .ge 6, 3) := by decide +kernel
theorem dX9_seed_4 : decode cX9_seed 4 = .ok (.ldc 59, 2) := by decide +kernel
theorem dX9_seed_6 : decode cX9_seed 6 = .ok (.ireturn, 1) := by decide +kernel
theorem dX9_seed_7 : decode cX9_seed 7 = .ok (.aload_n 0, 1) := by decide +kernel
theorem dX9_seed_8 : decode cX9_seed 8 = .ok (.getfield 7, 3) := by decide +kernel
theorem dX9_seed_11 : decode cX9_seed 11 = .ok (.bipush 7, 2) := by decide +kernel
theorem dX9_seed_13 : decode cX9_seed 13 = .ok (.iaload, 1) := by decide +kernel
theorem dX9_seed_14 : decode cX9_seed 14 = .ok (.istore_n 2, 1) := by decide +kernel
theorem dX9_seed_15 : decode cX9_seed 15 = .ok (.aload_n 0, 1) := by decide +kernel
theorem dX9_seed_16 : decode cX9_seed 16 = .ok (.getfield 7, 3) := by decide +kernel
theorem dX9_seed_19 : decode cX9_seed 19 = .ok (.bipush 7, 2) := by decide +kernel
theorem dX9_seed_21 : decode cX9_seed 21 = .ok (.iload_n 1, 1) := by decide +kernel
theorem dX9_seed_22 : decode cX9_seed 22 = .ok (.iastore, 1) := by decide +kernel
theorem dX9_seed_23 : decode cX9_seed 23 = .ok (.iload_n 2, 1) := by decide +kernel
theorem dX9_seed_24 : decode cX9_seed 24 = .ok (.ireturn, 1) := by decide +kernel
theorem dX9_keep_0 : decode cX9_keep 0 = .ok (.iload_n 1, 1) := by decide +kernel
theorem dX9_keep_1 : decode cX9_keep 1 = .ok (.iconst 0, 1) := by decide +kernel
theorem dX9_keep_2 : decode cX9_keep 2 = .ok (.iconst 1, 1) := by decide +kernel
theorem dX9_keep_3 : decode cX9_keep 3 = .ok (.invokestatic 55, 3) := by decide +kernel
theorem dX9_keep_6 : decode cX9_keep 6 = .ok (.ifCond .ne 6, 3) := by decide +kernel
theorem dX9_keep_9 : decode cX9_keep 9 = .ok (.ldc 139, 2) := by decide +kernel
theorem dX9_keep_11 : decode cX9_keep 11 = .ok (.ireturn, 1) := by decide +kernel
theorem dX9_keep_12 : decode cX9_keep 12 = .ok (.aload_n 0, 1) := by decide +kernel
theorem dX9_keep_13 : decode cX9_keep 13 = .ok (.getfield 7, 3) := by decide +kernel
theorem dX9_keep_16 : decode cX9_keep 16 = .ok (.iconst 0, 1) := by decide +kernel
theorem dX9_keep_17 : decode cX9_keep 17 = .ok (.aload_n 0, 1) := by decide +kernel
theorem dX9_keep_18 : decode cX9_keep 18 = .ok (.getfield 22, 3) := by decide +kernel
theorem dX9_keep_21 : decode cX9_keep 21 = .ok (.bipush 74, 2) := by decide +kernel
theorem dX9_keep_23 : decode cX9_keep 23 = .ok (.iload_n 1, 1) := by decide +kernel
theorem dX9_keep_24 : decode cX9_keep 24 = .ok (.imul, 1) := by decide +kernel
theorem dX9_keep_25 : decode cX9_keep 25 = .ok (.invokestatic 106, 3) := by decide +kernel
theorem dX9_keep_28 : decode cX9_keep 28 = .ok (.aload_n 0, 1) := by decide +kernel
theorem dX9_keep_29 : decode cX9_keep 29 = .ok (.getfield 25, 3) := by decide +kernel
theorem dX9_keep_32 : decode cX9_keep 32 = .ok (.iload_n 1, 1) := by decide +kernel
theorem dX9_keep_33 : decode cX9_keep 33 = .ok (.iconst 1, 1) := by decide +kernel
theorem dX9_keep_34 : decode cX9_keep 34 = .ok (.bastore, 1) := by decide +kernel
theorem dX9_keep_35 : decode cX9_keep 35 = .ok (.aload_n 0, 1) := by decide +kernel
theorem dX9_keep_36 : decode cX9_keep 36 = .ok (.iconst 0, 1) := by decide +kernel
theorem dX9_keep_37 : decode cX9_keep 37 = .ok (.putfield 110, 3) := by decide +kernel
theorem dX9_keep_40 : decode cX9_keep 40 = .ok (.iconst 1, 1) := by decide +kernel
theorem dX9_keep_41 : decode cX9_keep 41 = .ok (.ireturn, 1) := by decide +kernel
theorem dX9_goBack_0 : decode cX9_goBack 0 = .ok (.iload_n 1, 1) := by decide +kernel
theorem dX9_goBack_1 : decode cX9_goBack 1 = .ok (.iconst 0, 1) := by decide +kernel
theorem dX9_goBack_2 : decode cX9_goBack 2 = .ok (.iconst 1, 1) := by decide +kernel
theorem dX9_goBack_3 : decode cX9_goBack 3 = .ok (.invokestatic 55, 3) := by decide +kernel
theorem dX9_goBack_6 : decode cX9_goBack 6 = .ok (.ifCond .ne 6, 3) := by decide +kernel
theorem dX9_goBack_9 : decode cX9_goBack 9 = .ok (.ldc 139, 2) := by decide +kernel
theorem dX9_goBack_11 : decode cX9_goBack 11 = .ok (.ireturn, 1) := by decide +kernel
theorem dX9_goBack_12 : decode cX9_goBack 12 = .ok (.aload_n 0, 1) := by decide +kernel
theorem dX9_goBack_13 : decode cX9_goBack 13 = .ok (.getfield 25, 3) := by decide +kernel
theorem dX9_goBack_16 : decode cX9_goBack 16 = .ok (.iload_n 1, 1) := by decide +kernel
theorem dX9_goBack_17 : decode cX9_goBack 17 = .ok (.baload, 1) := by decide +kernel
theorem dX9_goBack_18 : decode cX9_goBack 18 = .ok (.ifCond .ne 6, 3) := by decide +kernel
theorem dX9_goBack_21 : decode cX9_goBack 21 = .ok (.ldc 172, 2) := by decide +kernel
theorem dX9_goBack_23 : decode cX9_goBack 23 = .ok (.ireturn, 1) := by decide +kernel
theorem dX9_goBack_24 : decode cX9_goBack 24 = .ok (.aload_n 0, 1) := by decide +kernel
theorem dX9_goBack_25 : decode cX9_goBack 25 = .ok (.getfield 22, 3) := by decide +kernel
theorem dX9_goBack_28 : decode cX9_goBack 28 = .ok (.bipush 74, 2) := by decide +kernel
theorem dX9_goBack_30 : decode cX9_goBack 30 = .ok (.iload_n 1, 1) := by decide +kernel
theorem dX9_goBack_31 : decode cX9_goBack 31 = .ok (.imul, 1) := by decide +kernel
theorem dX9_goBack_32 : decode cX9_goBack 32 = .ok (.aload_n 0, 1) := by decide +kernel
theorem dX9_goBack_33 : decode cX9_goBack 33 = .ok (.getfield 7, 3) := by decide +kernel
theorem dX9_goBack_36 : decode cX9_goBack 36 = .ok (.iconst 0, 1) := by decide +kernel
theorem dX9_goBack_37 : decode cX9_goBack 37 = .ok (.invokestatic 106, 3) := by decide +kernel
theorem dX9_goBack_40 : decode cX9_goBack 40 = .ok (.aload_n 0, 1) := by decide +kernel
theorem dX9_goBack_41 : decode cX9_goBack 41 = .ok (.iconst 0, 1) := by decide +kernel
theorem dX9_goBack_42 : decode cX9_goBack 42 = .ok (.putfield 110, 3) := by decide +kernel
theorem dX9_goBack_45 : decode cX9_goBack 45 = .ok (.iconst 1, 1) := by decide +kernel
theorem dX9_goBack_46 : decode cX9_goBack 46 = .ok (.ireturn, 1) := by decide +kernel
