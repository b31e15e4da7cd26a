theorem dX0_init_0 : decode cX0_init 0 = .ok (.aload_n 0, 1) := by decide +kernel
theorem dX0_init_1 : decode cX0_init 1 = .ok (.invokespecial 3, 3) := by decide +kernel
theorem dX0_init_4 : decode cX0_init 4 = .ok (.aload_n 0, 1) := by decide +kernel
theorem dX0_init_5 : decode cX0_init 5 = .ok (.iconst 0, 1) := by decide +kernel
theorem dX0_init_6 : decode cX0_init 6 = .ok (.putfield 9, 3) := by decide +kernel
theorem dX0_init_9 : decode cX0_init 9 = .ok (.aload_n 0, 1) := by decide +kernel
theorem dX0_init_10 : decode cX0_init 10 = .ok (.iconst 0, 1) := by decide +kernel
theorem dX0_init_11 : decode cX0_init 11 = .ok (.putfield 15, 3) := by decide +kernel
theorem dX0_init_14 : decode cX0_init 14 = .ok (.aload_n 0, 1) := by decide +kernel
theorem dX0_init_15 : decode cX0_init 15 = .ok (.iconst 0, 1) := by decide +kernel
theorem dX0_init_16 : decode cX0_init 16 = .ok (.putfield 18, 3) := by decide +kernel
theorem dX0_init_19 : decode cX0_init 19 = .ok (.aload_n 0, 1) := by decide +kernel
theorem dX0_init_20 : decode cX0_init 20 = .ok (.bipush 16, 2) := by decide +kernel
theorem dX0_init_22 : decode cX0_init 22 = .ok (.newarray .int, 2) := by decide +kernel
theorem dX0_init_24 : decode cX0_init 24 = .ok (.putfield 21, 3) := by decide +kernel
theorem dX0_init_27 : decode cX0_init 27 = .ok (.aload_n 0, 1) := by decide +kernel
theorem dX0_init_28 : decode cX0_init 28 = .ok (.iconst 4, 1) := by decide +kernel
theorem dX0_init_29 : decode cX0_init 29 = .ok (.newarray .int, 2) := by decide +kernel
theorem dX0_init_31 : decode cX0_init 31 = .ok (.putfield 25, 3) := by decide +kernel
theorem dX0_init_34 : decode cX0_init 34 = .ok (.aload_n 0, 1) := by decide +kernel
theorem dX0_init_35 : decode cX0_init 35 = .ok (.bipush 6, 2) := by decide +kernel
theorem dX0_init_37 : decode cX0_init 37 = .ok (.newarray .int, 2) := by decide +kernel
theorem dX0_init_39 : decode cX0_init 39 = .ok (.putfield 28, 3) := by decide +kernel
theorem dX0_init_42 : decode cX0_init 42 = .ok (.aload_n 0, 1) := by decide +kernel
theorem dX0_init_43 : decode cX0_init 43 = .ok (.bipush 6, 2) := by decide +kernel
theorem dX0_init_45 : decode cX0_init 45 = .ok (.newarray .int, 2) := by decide +kernel
theorem dX0_init_47 : decode cX0_init 47 = .ok (.putfield 31, 3) := by decide +kernel
theorem dX0_init_50 : decode cX0_init 50 = .ok (.aload_n 0, 1) := by decide +kernel
theorem dX0_init_51 : decode cX0_init 51 = .ok (.bipush 6, 2) := by decide +kernel
theorem dX0_init_53 : decode cX0_init 53 = .ok (.newarray .int, 2) := by decide +kernel
theorem dX0_init_55 : decode cX0_init 55 = .ok (.putfield 34, 3) := by decide +kernel
theorem dX0_init_58 : decode cX0_init 58 = .ok (.aload_n 0, 1) := by decide +kernel
theorem dX0_init_59 : decode cX0_init 59 = .ok (.bipush 6, 2) := by decide +kernel
theorem dX0_init_61 : decode cX0_init 61 = .ok (.newarray .int, 2) := by decide +kernel
theorem dX0_init_63 : decode cX0_init 63 = .ok (.putfield 37, 3) := by decide +kernel
theorem dX0_init_66 : decode cX0_init 66 = .ok (.aload_n 0, 1) := by decide +kernel
theorem dX0_init_67 : decode cX0_init 67 = .ok (.bipush 6, 2) := by decide +kernel
theorem dX0_init_69 : decode cX0_init 69 = .ok (.newarray .int, 2) := by decide +kernel
theorem dX0_init_71 : decode cX0_init 71 = .ok (.putfield 40, 3) := by decide +kernel
theorem dX0_init_74 : decode cX0_init 74 = .ok (.return_, 1) := by decide +kernel
theorem dX0_clear_0 : decode cX0_clear 0 = .ok (.aload_n 0, 1) := by decide +kernel
theorem dX0_clear_1 : decode cX0_clear 1 = .ok (.iconst 0, 1) := by decide +kernel
theorem dX0_clear_2 : decode cX0_clear 2 = .ok (.putfield 9, 3) := by decide +kernel
theorem dX0_clear_5 : decode cX0_clear 5 = .ok (.aload_n 0, 1) := by decide +kernel
theorem dX0_clear_6 : decode cX0_clear 6 = .ok (.iconst 0, 1) := by decide +kernel
theorem dX0_clear_7 : decode cX0_clear 7 = .ok (.putfield 15, 3) := by decide +kernel
theorem dX0_clear_10 : decode cX0_clear 10 = .ok (.aload_n 0, 1) := by decide +kernel
theorem dX0_clear_11 : decode cX0_clear 11 = .ok (.iconst 0, 1) := by decide +kernel
theorem dX0_clear_12 : decode cX0_clear 12 = .ok (.putfield 18, 3) := by decide +kernel
theorem dX0_clear_15 : decode cX0_clear 15 = .ok (.return_, 1) := by decide +kernel
theorem dX0_copyFrom_0 : decode cX0_copyFrom 0 = .ok (.aload_n 0, 1) := by decide +kernel
theorem dX0_copyFrom_1 : decode cX0_copyFrom 1 = .ok (.aload_n 1, 1) := by decide +kernel
theorem dX0_copyFrom_2 : decode cX0_copyFrom 2 = .ok (.getfield 9, 3) := by decide +kernel
theorem dX0_copyFrom_5 : decode cX0_copyFrom 5 = .ok (.putfield 9, 3) := by decide +kernel
theorem dX0_copyFrom_8 : decode cX0_copyFrom 8 = .ok (.aload_n 0, 1) := by decide +kernel
theorem dX0_copyFrom_9 : decode cX0_copyFrom 9 = .ok (.aload_n 1, 1) := by decide +kernel
theorem dX0_copyFrom_10 : decode cX0_copyFrom 10 = .ok (.getfield 15, 3) := by decide +kernel
theorem dX0_copyFrom_13 : decode cX0_copyFrom 13 = .ok (.putfield 15, 3) := by decide +kernel
theorem dX0_copyFrom_16 : decode cX0_copyFrom 16 = .ok (.aload_n 0, 1) := by decide +kernel
theorem dX0_copyFrom_17 : decode cX0_copyFrom 17 = .ok (.aload_n 1, 1) := by decide +kernel
theorem dX0_copyFrom_18 : decode cX0_copyFrom 18 = .ok (.getfield 18, 3) := by decide +kernel
theorem dX0_copyFrom_21 : decode cX0_copyFrom 21 = .ok (.putfield 18, 3) := by decide +kernel
theorem dX0_copyFrom_24 : decode cX0_copyFrom 24 = .ok (.aload_n 1, 1) := by decide +kernel
theorem dX0_copyFrom_25 : decode cX0_copyFrom 25 = .ok (.getfield 21, 3) := by decide +kernel
theorem dX0_copyFrom_28 : decode cX0_copyFrom 28 = .ok (.iconst 0, 1) := by decide +kernel
theorem dX0_copyFrom_29 : decode cX0_copyFrom 29 = .ok (.aload_n 0, 1) := by decide +kernel
theorem dX0_copyFrom_30 : decode cX0_copyFrom 30 = .ok (.getfield 21, 3) := by decide +kernel
theorem dX0_copyFrom_33 : decode cX0_copyFrom 33 = .ok (.iconst 0, 1) := by decide +kernel
theorem dX0_copyFrom_34 : decode cX0_copyFrom 34 = .ok (.bipush 16, 2) := by decide +kernel
theorem dX0_copyFrom_36 : decode cX0_copyFrom 36 = .ok (.invokestatic 43, 3) := by decide +kernel
theorem dX0_copyFrom_39 : decode cX0_copyFrom 39 = .ok (.aload_n 1, 1) := by decide +kernel
theorem dX0_copyFrom_40 : decode cX0_copyFrom 40 = .ok (.getfield 25, 3) := by decide +kernel
theorem dX0_copyFrom_43 : decode cX0_copyFrom 43 = .ok (.iconst 0, 1) := by decide +kernel
theorem dX0_copyFrom_44 : decode cX0_copyFrom 44 = .ok (.aload_n 0, 1) := by decide +kernel
theorem dX0_copyFrom_45 : decode cX0_copyFrom 45 = .ok (.getfield 25, 3) := by decide +kernel
theorem dX0_copyFrom_48 : decode cX0_copyFrom 48 = .ok (.iconst 0, 1) := by decide +kernel
theorem dX0_copyFrom_49 : decode cX0_copyFrom 49 = .ok (.iconst 4, 1) := by decide +kernel
theorem dX0_copyFrom_50 : decode cX0_copyFrom 50 = .ok (.invokestatic 43, 3) := by decide +kernel
theorem dX0_copyFrom_53 : decode cX0_copyFrom 53 = .ok (.aload_n 1, 1) := by decide +kernel
theorem dX0_copyFrom_54 : decode cX0_copyFrom 54 = .ok (.getfield 28, 3) := by decide +kernel
theorem dX0_copyFrom_57 : decode cX0_copyFrom 57 = .ok (.iconst 0, 1) := by decide +kernel
theorem dX0_copyFrom_58 : decode cX0_copyFrom 58 = .ok (.aload_n 0, 1) := by decide +kernel
theorem dX0_copyFrom_59 : decode cX0_copyFrom 59 = .ok (.getfield 28, 3) := by decide +kernel
theorem dX0_copyFrom_62 : decode cX0_copyFrom 62 = .ok (.iconst 0, 1) := by decide +kernel
theorem dX0_copyFrom_63 : decode cX0_copyFrom 63 = .ok (.bipush 6, 2) := by decide +kernel
theorem dX0_copyFrom_65 : decode cX0_copyFrom 65 = .ok (.invokestatic 43, 3) := by decide +kernel
theorem dX0_copyFrom_68 : decode cX0_copyFrom 68 = .ok (.aload_n 1, 1) := by decide +kernel
theorem dX0_copyFrom_69 : decode cX0_copyFrom 69 = .ok (.getfield 31, 3) := by decide +kernel
theorem dX0_copyFrom_72 : decode cX0_copyFrom 72 = .ok (.iconst 0, 1) := by decide +kernel
theorem dX0_copyFrom_73 : decode cX0_copyFrom 73 = .ok (.aload_n 0, 1) := by decide +kernel
theorem dX0_copyFrom_74 : decode cX0_copyFrom 74 = .ok (.getfield 31, 3) := by decide +kernel
theorem dX0_copyFrom_77 : decode cX0_copyFrom 77 = .ok (.iconst 0, 1) := by decide +kernel
theorem dX0_copyFrom_78 : decode cX0_copyFrom 78 = .ok (.bipush 6, 2) := by decide +kernel
theorem dX0_copyFrom_80 : decode cX0_copyFrom 80 = .ok (.invokestatic 43, 3) := by decide +kernel
theorem dX0_copyFrom_83 : decode cX0_copyFrom 83 = .ok (.aload_n 1, 1) := by decide +kernel
theorem dX0_copyFrom_84 : decode cX0_copyFrom 84 = .ok (.getfield 34, 3) := by decide +kernel
theorem dX0_copyFrom_87 : decode cX0_copyFrom 87 = .ok (.iconst 0, 1) := by decide +kernel
theorem dX0_copyFrom_88 : decode cX0_copyFrom 88 = .ok (.aload_n 0, 1) := by decide +kernel
theorem dX0_copyFrom_89 : decode cX0_copyFrom 89 = .ok (.getfield 34, 3) := by decide +kernel
theorem dX0_copyFrom_92 : decode cX0_copyFrom 92 = .ok (.iconst 0, 1) := by decide +kernel
theorem dX0_copyFrom_93 : decode cX0_copyFrom 93 = .ok (.bipush 6, 2) := by decide +kernel
theorem dX0_copyFrom_95 : decode cX0_copyFrom 95 = .ok (.invokestatic 43, 3) := by decide +kernel
theorem dX0_copyFrom_98 : decode cX0_copyFrom 98 = .ok (.aload_n 1, 1) := by decide +kernel
theorem dX0_copyFrom_99 : decode cX0_copyFrom 99 = .ok (.getfield 37, 3) := by decide +kernel
theorem dX0_copyFrom_102 : decode cX0_copyFrom 102 = .ok (.iconst 0, 1) := by decide +kernel
theorem dX0_copyFrom_103 : decode cX0_copyFrom 103 = .ok (.aload_n 0, 1) := by decide +kernel
theorem dX0_copyFrom_104 : decode cX0_copyFrom 104 = .ok (.getfield 37, 3) := by decide +kernel
theorem dX0_copyFrom_107 : decode cX0_copyFrom 107 = .ok (.iconst 0, 1) := by decide +kernel
theorem dX0_copyFrom_108 : decode cX0_copyFrom 108 = .ok (.bipush 6, 2) := by decide +kernel
theorem dX0_copyFrom_110 : decode cX0_copyFrom 110 = .ok (.invokestatic 43, 3) := by decide +kernel
theorem dX0_copyFrom_113 : decode cX0_copyFrom 113 = .ok (.aload_n 1, 1) := by decide +kernel
theorem dX0_copyFrom_114 : decode cX0_copyFrom 114 = .ok (.getfield 40, 3) := by decide +kernel
theorem dX0_copyFrom_117 : decode cX0_copyFrom 117 = .ok (.iconst 0, 1) := by decide +kernel
theorem dX0_copyFrom_118 : decode cX0_copyFrom 118 = .ok (.aload_n 0, 1) := by decide +kernel
theorem dX0_copyFrom_119 : decode cX0_copyFrom 119 = .ok (.getfield 40, 3) := by decide +kernel
theorem dX0_copyFrom_122 : decode cX0_copyFrom 122 = .ok (.iconst 0, 1) := by decide +kernel
theorem dX0_copyFrom_123 : decode cX0_copyFrom 123 = .ok (.bipush 6, 2) := by decide +kernel
theorem dX0_copyFrom_125 : decode cX0_copyFrom 125 = .ok (.invokestatic 43, 3) := by decide +kernel
theorem dX0_copyFrom_128 : decode cX0_copyFrom 128 = .ok (.return_, 1) := by decide +kernel
theorem dX0_addLife_0 : decode cX0_addLife 0 = .ok (.aload_n 0, 1) := by decide +kernel
theorem dX0_addLife_1 : decode cX0_addLife 1 = .ok (.getfield 15, 3) := by decide +kernel
theorem dX0_addLife_4 : decode cX0_addLife 4 = .ok (.iconst 4, 1) := by decide +kernel
theorem dX0_addLife_5 : decode cX0_addLife 5 = .ok (.if_icmp .lt 4, 3) := by decide +kernel
theorem dX0_addLife_8 : decode cX0_addLife 8 = .ok (.return_, 1) := by decide +kernel
theorem dX0_addLife_9 : decode cX0_addLife 9 = .ok (.iconst 0, 1) := by decide +kernel
theorem dX0_addLife_10 : decode cX0_addLife 10 = .ok (.istore_n 2, 1) := by decide +kernel
theorem dX0_addLife_11 : decode cX0_addLife 11 = .ok (.iload_n 2, 1) := by decide +kernel
theorem dX0_addLife_12 : decode cX0_addLife 12 = .ok (.iconst 4, 1) := by decide +kernel
theorem dX0_addLife_13 : decode cX0_addLife 13 = .ok (.if_icmp .ge 25, 3) := by decide +kernel
theorem dX0_addLife_16 : decode cX0_addLife 16 = .ok (.aload_n 0, 1) := by decide +kernel
theorem dX0_addLife_17 : decode cX0_addLife 17 = .ok (.getfield 21, 3) := by decide +kernel
theorem dX0_addLife_20 : decode cX0_addLife 20 = .ok (.aload_n 0, 1) := by decide +kernel
theorem dX0_addLife_21 : decode cX0_addLife 21 = .ok (.getfield 15, 3) := by decide +kernel
theorem dX0_addLife_24 : decode cX0_addLife 24 = .ok (.iconst 4, 1) := by decide +kernel
theorem dX0_addLife_25 : decode cX0_addLife 25 = .ok (.imul, 1) := by decide +kernel
theorem dX0_addLife_26 : decode cX0_addLife 26 = .ok (.iload_n 2, 1) := by decide +kernel
theorem dX0_addLife_27 : decode cX0_addLife 27 = .ok (.iadd, 1) := by decide +kernel
theorem dX0_addLife_28 : decode cX0_addLife 28 = .ok (.aload_n 1, 1) := by decide +kernel
theorem dX0_addLife_29 : decode cX0_addLife 29 = .ok (.iload_n 2, 1) := by decide +kernel
theorem dX0_addLife_30 : decode cX0_addLife 30 = .ok (.iaload, 1) := by decide +kernel
theorem dX0_addLife_31 : decode cX0_addLife 31 = .ok (.iastore, 1) := by decide +kernel
theorem dX0_addLife_32 : decode cX0_addLife 32 = .ok (.iinc 2 1, 3) := by decide +kernel
theorem dX0_addLife_35 : decode cX0_addLife 35 = .ok (.goto (-24), 3) := by decide +kernel
theorem dX0_addLife_38 : decode cX0_addLife 38 = .ok (.aload_n 0, 1) := by decide +kernel
theorem dX0_addLife_39 : decode cX0_addLife 39 = .ok (.getfield 25, 3) := by decide +kernel
theorem dX0_addLife_42 : decode cX0_addLife 42 = .ok (.aload_n 0, 1) := by decide +kernel
theorem dX0_addLife_43 : decode cX0_addLife 43 = .ok (.getfield 15, 3) := by decide +kernel
theorem dX0_addLife_46 : decode cX0_addLife 46 = .ok (.aload_n 1, 1) := by decide +kernel
theorem dX0_addLife_47 : decode cX0_addLife 47 = .ok (.iconst 4, 1) := by decide +kernel
theorem dX0_addLife_48 : decode cX0_addLife 48 = .ok (.iaload, 1) := by decide +kernel
theorem dX0_addLife_49 : decode cX0_addLife 49 = .ok (.iastore, 1) := by decide +kernel
theorem dX0_addLife_50 : decode cX0_addLife 50 = .ok (.aload_n 0, 1) := by decide +kernel
theorem dX0_addLife_51 : decode cX0_addLife 51 = .ok (.dup, 1) := by decide +kernel
theorem dX0_addLife_52 : decode cX0_addLife 52 = .ok (.getfield 15, 3) := by decide +kernel
theorem dX0_addLife_55 : decode cX0_addLife 55 = .ok (.iconst 1, 1) := by decide +kernel
theorem dX0_addLife_56 : decode cX0_addLife 56 = .ok (.iadd, 1) := by decide +kernel
theorem dX0_addLife_57 : decode cX0_addLife 57 = .ok (.putfield 15, 3) := by decide +kernel
theorem dX0_addLife_60 : decode cX0_addLife 60 = .ok (.return_, 1) := by decide +kernel
theorem dX0_addPolicy_0 : decode cX0_addPolicy 0 = .ok (.aload_n 0, 1) := by decide +kernel
theorem dX0_addPolicy_1 : decode cX0_addPolicy 1 = .ok (.getfield 18, 3) := by decide +kernel
theorem dX0_addPolicy_4 : decode cX0_addPolicy 4 = .ok (.bipush 6, 2) := by decide +kernel
theorem dX0_addPolicy_6 : decode cX0_addPolicy 6 = .ok (.if_icmp .lt 4, 3) := by decide +kernel
theorem dX0_addPolicy_9 : decode cX0_addPolicy 9 = .ok (.return_, 1) := by decide +kernel
theorem dX0_addPolicy_10 : decode cX0_addPolicy 10 = .ok (.aload_n 0, 1) := by decide +kernel
theorem dX0_addPolicy_11 : decode cX0_addPolicy 11 = .ok (.getfield 28, 3) := by decide +kernel
theorem dX0_addPolicy_14 : decode cX0_addPolicy 14 = .ok (.aload_n 0, 1) := by decide +kernel
theorem dX0_addPolicy_15 : decode cX0_addPolicy 15 = .ok (.getfield 18, 3) := by decide +kernel
theorem dX0_addPolicy_18 : decode cX0_addPolicy 18 = .ok (.aload_n 1, 1) := by decide +kernel
theorem dX0_addPolicy_19 : decode cX0_addPolicy 19 = .ok (.iconst 0, 1) := by decide +kernel
theorem dX0_addPolicy_20 : decode cX0_addPolicy 20 = .ok (.iaload, 1) := by decide +kernel
theorem dX0_addPolicy_21 : decode cX0_addPolicy 21 = .ok (.iastore, 1) := by decide +kernel
theorem dX0_addPolicy_22 : decode cX0_addPolicy 22 = .ok (.aload_n 0, 1) := by decide +kernel
theorem dX0_addPolicy_23 : decode cX0_addPolicy 23 = .ok (.getfield 31, 3) := by decide +kernel
theorem dX0_addPolicy_26 : decode cX0_addPolicy 26 = .ok (.aload_n 0, 1) := by decide +kernel
theorem dX0_addPolicy_27 : decode cX0_addPolicy 27 = .ok (.getfield 18, 3) := by decide +kernel
theorem dX0_addPolicy_30 : decode cX0_addPolicy 30 = .ok (.aload_n 1, 1) := by decide +kernel
theorem dX0_addPolicy_31 : decode cX0_addPolicy 31 = .ok (.iconst 1, 1) := by decide +kernel
theorem dX0_addPolicy_32 : decode cX0_addPolicy 32 = .ok (.iaload, 1) := by decide +kernel
theorem dX0_addPolicy_33 : decode cX0_addPolicy 33 = .ok (.iastore, 1) := by decide +kernel
theorem dX0_addPolicy_34 : decode cX0_addPolicy 34 = .ok (.aload_n 0, 1) := by decide +kernel
theorem dX0_addPolicy_35 : decode cX0_addPolicy 35 = .ok (.getfield 34, 3) := by decide +kernel
theorem dX0_addPolicy_38 : decode cX0_addPolicy 38 = .ok (.aload_n 0, 1) := by decide +kernel
theorem dX0_addPolicy_39 : decode cX0_addPolicy 39 = .ok (.getfield 18, 3) := by decide +kernel
theorem dX0_addPolicy_42 : decode cX0_addPolicy 42 = .ok (.aload_n 1, 1) := by decide +kernel
theorem dX0_addPolicy_43 : decode cX0_addPolicy 43 = .ok (.iconst 2, 1) := by decide +kernel
theorem dX0_addPolicy_44 : decode cX0_addPolicy 44 = .ok (.iaload, 1) := by decide +kernel
theorem dX0_addPolicy_45 : decode cX0_addPolicy 45 = .ok (.iastore, 1) := by decide +kernel
theorem dX0_addPolicy_46 : decode cX0_addPolicy 46 = .ok (.aload_n 0, 1) := by decide +kernel
theorem dX0_addPolicy_47 : decode cX0_addPolicy 47 = .ok (.getfield 37, 3) := by decide +kernel
theorem dX0_addPolicy_50 : decode cX0_addPolicy 50 = .ok (.aload_n 0, 1) := by decide +kernel
theorem dX0_addPolicy_51 : decode cX0_addPolicy 51 = .ok (.getfield 18, 3) := by decide +kernel
theorem dX0_addPolicy_54 : decode cX0_addPolicy 54 = .ok (.aload_n 1, 1) := by decide +kernel
theorem dX0_addPolicy_55 : decode cX0_addPolicy 55 = .ok (.iconst 3, 1) := by decide +kernel
theorem dX0_addPolicy_56 : decode cX0_addPolicy 56 = .ok (.iaload, 1) := by decide +kernel
theorem dX0_addPolicy_57 : decode cX0_addPolicy 57 = .ok (.iastore, 1) := by decide +kernel
theorem dX0_addPolicy_58 : decode cX0_addPolicy 58 = .ok (.aload_n 0, 1) := by decide +kernel
theorem dX0_addPolicy_59 : decode cX0_addPolicy 59 = .ok (.getfield 40, 3) := by decide +kernel
theorem dX0_addPolicy_62 : decode cX0_addPolicy 62 = .ok (.aload_n 0, 1) := by decide +kernel
theorem dX0_addPolicy_63 : decode cX0_addPolicy 63 = .ok (.getfield 18, 3) := by decide +kernel
theorem dX0_addPolicy_66 : decode cX0_addPolicy 66 = .ok (.aload_n 1, 1) := by decide +kernel
theorem dX0_addPolicy_67 : decode cX0_addPolicy 67 = .ok (.iconst 4, 1) := by decide +kernel
theorem dX0_addPolicy_68 : decode cX0_addPolicy 68 = .ok (.iaload, 1) := by decide +kernel
theorem dX0_addPolicy_69 : decode cX0_addPolicy 69 = .ok (.iastore, 1) := by decide +kernel
theorem dX0_addPolicy_70 : decode cX0_addPolicy 70 = .ok (.aload_n 0, 1) := by decide +kernel
theorem dX0_addPolicy_71 : decode cX0_addPolicy 71 = .ok (.dup, 1) := by decide +kernel
theorem dX0_addPolicy_72 : decode cX0_addPolicy 72 = .ok (.getfield 18, 3) := by decide +kernel
theorem dX0_addPolicy_75 : decode cX0_addPolicy 75 = .ok (.iconst 1, 1) := by decide +kernel
theorem dX0_addPolicy_76 : decode cX0_addPolicy 76 = .ok (.iadd, 1) := by decide +kernel
theorem dX0_addPolicy_77 : decode cX0_addPolicy 77 = .ok (.putfield 18, 3) := by decide +kernel
theorem dX0_addPolicy_80 : decode cX0_addPolicy 80 = .ok (.return_, 1) := by decide +kernel
theorem dX0_oddsOf_0 : decode cX0_oddsOf 0 = .ok (.sipush 1000, 3) := by decide +kernel
theorem dX0_oddsOf_3 : decode cX0_oddsOf 3 = .ok (.aload_n 0, 1) := by decide +kernel
theorem dX0_oddsOf_4 : decode cX0_oddsOf 4 = .ok (.getfield 21, 3) := by decide +kernel
theorem dX0_oddsOf_7 : decode cX0_oddsOf 7 = .ok (.iload_n 1, 1) := by decide +kernel
theorem dX0_oddsOf_8 : decode cX0_oddsOf 8 = .ok (.iconst 4, 1) := by decide +kernel
theorem dX0_oddsOf_9 : decode cX0_oddsOf 9 = .ok (.imul, 1) := by decide +kernel
theorem dX0_oddsOf_10 : decode cX0_oddsOf 10 = .ok (.iload_n 2, 1) := by decide +kernel
theorem dX0_oddsOf_11 : decode cX0_oddsOf 11 = .ok (.iadd, 1) := by decide +kernel
theorem dX0_oddsOf_12 : decode cX0_oddsOf 12 = .ok (.iaload, 1) := by decide +kernel
theorem dX0_oddsOf_13 : decode cX0_oddsOf 13 = .ok (.iload_n 3, 1) := by decide +kernel
theorem dX0_oddsOf_14 : decode cX0_oddsOf 14 = .ok (.ishl, 1) := by decide +kernel
theorem dX0_oddsOf_15 : decode cX0_oddsOf 15 = .ok (.invokestatic 49, 3) := by decide +kernel
theorem dX0_oddsOf_18 : decode cX0_oddsOf 18 = .ok (.ireturn, 1) := by decide +kernel
theorem dX1_init_0 : decode cX1_init 0 = .ok (.aload_n 0, 1) := by decide +kernel
theorem dX1_init_1 : decode cX1_init 1 = .ok (.invokespecial 3, 3) := by decide +kernel
theorem dX1_init_4 : decode cX1_init 4 = .ok (.aload_n 0, 1) := by decide +kernel
theorem dX1_init_5 : decode cX1_init 5 = .ok (.iconst 0, 1) := by decide +kernel
theorem dX1_init_6 : decode cX1_init 6 = .ok (.putfield 9, 3) := by decide +kernel
theorem dX1_init_9 : decode cX1_init 9 = .ok (.aload_n 0, 1) := by decide +kernel
theorem dX1_init_10 : decode cX1_init 10 = .ok (.iconst (-1), 1) := by decide +kernel
theorem dX1_init_11 : decode cX1_init 11 = .ok (.putfield 15, 3) := by decide +kernel
theorem dX1_init_14 : decode cX1_init 14 = .ok (.aload_n 0, 1) := by decide +kernel
theorem dX1_init_15 : decode cX1_init 15 = .ok (.iconst 0, 1) := by decide +kernel
theorem dX1_init_16 : decode cX1_init 16 = .ok (.putfield 18, 3) := by decide +kernel
theorem dX1_init_19 : decode cX1_init 19 = .ok (.aload_n 0, 1) := by decide +kernel
theorem dX1_init_20 : decode cX1_init 20 = .ok (.new 21, 3) := by decide +kernel
theorem dX1_init_23 : decode cX1_init 23 = .ok (.dup, 1) := by decide +kernel
theorem dX1_init_24 : decode cX1_init 24 = .ok (.invokespecial 23, 3) := by decide +kernel
theorem dX1_init_27 : decode cX1_init 27 = .ok (.putfield 24, 3) := by decide +kernel
theorem dX1_init_30 : decode cX1_init 30 = .ok (.return_, 1) := by decide +kernel
theorem dX1_run_0 : decode cX1_run 0 = .ok (.aload_n 0, 1) := by decide +kernel
theorem dX1_run_1 : decode cX1_run 1 = .ok (.iconst 0, 1) := by decide +kernel
theorem dX1_run_2 : decode cX1_run 2 = .ok (.putfield 9, 3) := by decide +kernel
theorem dX1_run_5 : decode cX1_run 5 = .ok (.aload_n 0, 1) := by decide +kernel
theorem dX1_run_6 : decode cX1_run 6 = .ok (.iconst (-1), 1) := by decide +kernel
theorem dX1_run_7 : decode cX1_run 7 = .ok (.putfield 15, 3) := by decide +kernel
theorem dX1_run_10 : decode cX1_run 10 = .ok (.aload_n 0, 1) := by decide +kernel
theorem dX1_run_11 : decode cX1_run 11 = .ok (.iconst 0, 1) := by decide +kernel
theorem dX1_run_12 : decode cX1_run 12 = .ok (.putfield 18, 3) := by decide +kernel
theorem dX1_run_15 : decode cX1_run 15 = .ok (.aload_n 3, 1) := by decide +kernel
theorem dX1_run_16 : decode cX1_run 16 = .ok (.getfield 28, 3) := by decide +kernel
theorem dX1_run_19 : decode cX1_run 19 = .ok (.istore 5, 2) := by decide +kernel
theorem dX1_run_21 : decode cX1_run 21 = .ok (.iconst 0, 1) := by decide +kernel
theorem dX1_run_22 : decode cX1_run 22 = .ok (.istore 6, 2) := by decide +kernel
theorem dX1_run_24 : decode cX1_run 24 = .ok (.iload 6, 2) := by decide +kernel
theorem dX1_run_26 : decode cX1_run 26 = .ok (.iconst 1, 1) := by decide +kernel
theorem dX1_run_27 : decode cX1_run 27 = .ok (.iconst 4, 1) := by decide +kernel
theorem dX1_run_28 : decode cX1_run 28 = .ok (.iload 5, 2) := by decide +kernel
theorem dX1_run_30 : decode cX1_run 30 = .ok (.imul, 1) := by decide +kernel
theorem dX1_run_31 : decode cX1_run 31 = .ok (.ishl, 1) := by decide +kernel
theorem dX1_run_32 : decode cX1_run 32 = .ok (.if_icmp .ge 58, 3) := by decide +kernel
theorem dX1_run_35 : decode cX1_run 35 = .ok (.aload_n 0, 1) := by decide +kernel
theorem dX1_run_36 : decode cX1_run 36 = .ok (.aload_n 1, 1) := by decide +kernel
theorem dX1_run_37 : decode cX1_run 37 = .ok (.aload_n 2, 1) := by decide +kernel
theorem dX1_run_38 : decode cX1_run 38 = .ok (.aload_n 3, 1) := by decide +kernel
theorem dX1_run_39 : decode cX1_run 39 = .ok (.iload 4, 2) := by decide +kernel
theorem dX1_run_41 : decode cX1_run 41 = .ok (.iload 6, 2) := by decide +kernel
theorem dX1_run_43 : decode cX1_run 43 = .ok (.invokevirtual 33, 3) := by decide +kernel
theorem dX1_run_46 : decode cX1_run 46 = .ok (.istore 7, 2) := by decide +kernel
theorem dX1_run_48 : decode cX1_run 48 = .ok (.iload 7, 2) := by decide +kernel
theorem dX1_run_50 : decode cX1_run 50 = .ok (.iload 5, 2) := by decide +kernel
theorem dX1_run_52 : decode cX1_run 52 = .ok (.if_icmp .ge 24, 3) := by decide +kernel
theorem dX1_run_55 : decode cX1_run 55 = .ok (.iload 6, 2) := by decide +kernel
theorem dX1_run_57 : decode cX1_run 57 = .ok (.iconst 1, 1) := by decide +kernel
theorem dX1_run_58 : decode cX1_run 58 = .ok (.iconst 4, 1) := by decide +kernel
theorem dX1_run_59 : decode cX1_run 59 = .ok (.iload 5, 2) := by decide +kernel
theorem dX1_run_61 : decode cX1_run 61 = .ok (.iconst 1, 1) := by decide +kernel
theorem dX1_run_62 : decode cX1_run 62 = .ok (.isub, 1) := by decide +kernel
theorem dX1_run_63 : decode cX1_run 63 = .ok (.iload 7, 2) := by decide +kernel
theorem dX1_run_65 : decode cX1_run 65 = .ok (.isub, 1) := by decide +kernel
theorem dX1_run_66 : decode cX1_run 66 = .ok (.imul, 1) := by decide +kernel
theorem dX1_run_67 : decode cX1_run 67 = .ok (.ishl, 1) := by decide +kernel
theorem dX1_run_68 : decode cX1_run 68 = .ok (.iconst 1, 1) := by decide +kernel
theorem dX1_run_69 : decode cX1_run 69 = .ok (.isub, 1) := by decide +kernel
theorem dX1_run_70 : decode cX1_run 70 = .ok (.ior, 1) := by decide +kernel
theorem dX1_run_71 : decode cX1_run 71 = .ok (.istore 6, 2) := by decide +kernel
theorem dX1_run_73 : decode cX1_run 73 = .ok (.goto 11, 3) := by decide +kernel
theorem dX1_run_76 : decode cX1_run 76 = .ok (.aload_n 0, 1) := by decide +kernel
theorem dX1_run_77 : decode cX1_run 77 = .ok (.iload 6, 2) := by decide +kernel
theorem dX1_run_79 : decode cX1_run 79 = .ok (.iload 5, 2) := by decide +kernel
theorem dX1_run_81 : decode cX1_run 81 = .ok (.invokevirtual 37, 3) := by decide +kernel
theorem dX1_run_84 : decode cX1_run 84 = .ok (.iinc 6 1, 3) := by decide +kernel
theorem dX1_run_87 : decode cX1_run 87 = .ok (.goto (-63), 3) := by decide +kernel
theorem dX1_run_90 : decode cX1_run 90 = .ok (.return_, 1) := by decide +kernel
theorem dX1_daysThatFit_0 : decode cX1_daysThatFit 0 = .ok (.aload_n 0, 1) := by decide +kernel
theorem dX1_daysThatFit_1 : decode cX1_daysThatFit 1 = .ok (.getfield 24, 3) := by decide +kernel
theorem dX1_daysThatFit_4 : decode cX1_daysThatFit 4 = .ok (.aload_n 2, 1) := by decide +kernel
theorem dX1_daysThatFit_5 : decode cX1_daysThatFit 5 = .ok (.invokevirtual 41, 3) := by decide +kernel
theorem dX1_daysThatFit_8 : decode cX1_daysThatFit 8 = .ok (.iconst 0, 1) := by decide +kernel
theorem dX1_daysThatFit_9 : decode cX1_daysThatFit 9 = .ok (.istore 6, 2) := by decide +kernel
theorem dX1_daysThatFit_11 : decode cX1_daysThatFit 11 = .ok (.iload 6, 2) := by decide +kernel
theorem dX1_daysThatFit_13 : decode cX1_daysThatFit 13 = .ok (.aload_n 3, 1) := by decide +kernel
theorem dX1_daysThatFit_14 : decode cX1_daysThatFit 14 = .ok (.getfield 28, 3) := by decide +kernel
theorem dX1_daysThatFit_17 : decode cX1_daysThatFit 17 = .ok (.if_icmp .ge 53, 3) := by decide +kernel
theorem dX1_daysThatFit_20 : decode cX1_daysThatFit 20 = .ok (.aload_n 0, 1) := by decide +kernel
theorem dX1_daysThatFit_21 : decode cX1_daysThatFit 21 = .ok (.getfield 24, 3) := by decide +kernel
theorem dX1_daysThatFit_24 : decode cX1_daysThatFit 24 = .ok (.aload_n 1, 1) := by decide +kernel
theorem dX1_daysThatFit_25 : decode cX1_daysThatFit 25 = .ok (.iload 4, 2) := by decide +kernel
theorem dX1_daysThatFit_27 : decode cX1_daysThatFit 27 = .ok (.iload 5, 2) := by decide +kernel
theorem dX1_daysThatFit_29 : decode cX1_daysThatFit 29 = .ok (.iload 6, 2) := by decide +kernel
theorem dX1_daysThatFit_31 : decode cX1_daysThatFit 31 = .ok (.aload_n 3, 1) := by decide +kernel
theorem dX1_daysThatFit_32 : decode cX1_daysThatFit 32 = .ok (.getfield 28, 3) := by decide +kernel
theorem dX1_daysThatFit_35 : decode cX1_daysThatFit 35 = .ok (.invokestatic 45, 3) := by decide +kernel
theorem dX1_daysThatFit_38 : decode cX1_daysThatFit 38 = .ok (.invokestatic 49, 3) := by decide +kernel
theorem dX1_daysThatFit_41 : decode cX1_daysThatFit 41 = .ok (.invokevirtual 53, 3) := by decide +kernel
theorem dX1_daysThatFit_44 : decode cX1_daysThatFit 44 = .ok (.aload_n 0, 1) := by decide +kernel
theorem dX1_daysThatFit_45 : decode cX1_daysThatFit 45 = .ok (.getfield 24, 3) := by decide +kernel
theorem dX1_daysThatFit_48 : decode cX1_daysThatFit 48 = .ok (.getfield 57, 3) := by decide +kernel
theorem dX1_daysThatFit_51 : decode cX1_daysThatFit 51 = .ok (.aload_n 3, 1) := by decide +kernel
theorem dX1_daysThatFit_52 : decode cX1_daysThatFit 52 = .ok (.getfield 60, 3) := by decide +kernel
theorem dX1_daysThatFit_55 : decode cX1_daysThatFit 55 = .ok (.iload 6, 2) := by decide +kernel
theorem dX1_daysThatFit_57 : decode cX1_daysThatFit 57 = .ok (.iaload, 1) := by decide +kernel
theorem dX1_daysThatFit_58 : decode cX1_daysThatFit 58 = .ok (.if_icmp .eq 6, 3) := by decide +kernel
theorem dX1_daysThatFit_61 : decode cX1_daysThatFit 61 = .ok (.iload 6, 2) := by decide +kernel
theorem dX1_daysThatFit_63 : decode cX1_daysThatFit 63 = .ok (.ireturn, 1) := by decide +kernel
theorem dX1_daysThatFit_64 : decode cX1_daysThatFit 64 = .ok (.iinc 6 1, 3) := by decide +kernel
theorem dX1_daysThatFit_67 : decode cX1_daysThatFit 67 = .ok (.goto (-56), 3) := by decide +kernel
theorem dX1_daysThatFit_70 : decode cX1_daysThatFit 70 = .ok (.aload_n 3, 1) := by decide +kernel
theorem dX1_daysThatFit_71 : decode cX1_daysThatFit 71 = .ok (.getfield 28, 3) := by decide +kernel
theorem dX1_daysThatFit_74 : decode cX1_daysThatFit 74 = .ok (.ireturn, 1) := by decide +kernel
theorem dX1_takeRow_0 : decode cX1_takeRow 0 = .ok (.iconst 0, 1) := by decide +kernel
theorem dX1_takeRow_1 : decode cX1_takeRow 1 = .ok (.istore_n 3, 1) := by decide +kernel
theorem dX1_takeRow_2 : decode cX1_takeRow 2 = .ok (.iconst 0, 1) := by decide +kernel
theorem dX1_takeRow_3 : decode cX1_takeRow 3 = .ok (.istore 4, 2) := by decide +kernel
theorem dX1_takeRow_5 : decode cX1_takeRow 5 = .ok (.iload 4, 2) := by decide +kernel
theorem dX1_takeRow_7 : decode cX1_takeRow 7 = .ok (.iload_n 2, 1) := by decide +kernel
theorem dX1_takeRow_8 : decode cX1_takeRow 8 = .ok (.if_icmp .ge 19, 3) := by decide +kernel
theorem dX1_takeRow_11 : decode cX1_takeRow 11 = .ok (.iload_n 3, 1) := by decide +kernel
theorem dX1_takeRow_12 : decode cX1_takeRow 12 = .ok (.iload_n 1, 1) := by decide +kernel
theorem dX1_takeRow_13 : decode cX1_takeRow 13 = .ok (.iload 4, 2) := by decide +kernel
theorem dX1_takeRow_15 : decode cX1_takeRow 15 = .ok (.iload_n 2, 1) := by decide +kernel
theorem dX1_takeRow_16 : decode cX1_takeRow 16 = .ok (.invokestatic 45, 3) := by decide +kernel
theorem dX1_takeRow_19 : decode cX1_takeRow 19 = .ok (.ior, 1) := by decide +kernel
theorem dX1_takeRow_20 : decode cX1_takeRow 20 = .ok (.istore_n 3, 1) := by decide +kernel
theorem dX1_takeRow_21 : decode cX1_takeRow 21 = .ok (.iinc 4 1, 3) := by decide +kernel
theorem dX1_takeRow_24 : decode cX1_takeRow 24 = .ok (.goto (-19), 3) := by decide +kernel
theorem dX1_takeRow_27 : decode cX1_takeRow 27 = .ok (.aload_n 0, 1) := by decide +kernel
theorem dX1_takeRow_28 : decode cX1_takeRow 28 = .ok (.aload_n 0, 1) := by decide +kernel
theorem dX1_takeRow_29 : decode cX1_takeRow 29 = .ok (.getfield 9, 3) := by decide +kernel
theorem dX1_takeRow_32 : decode cX1_takeRow 32 = .ok (.ifCond .ne 7, 3) := by decide +kernel
theorem dX1_takeRow_35 : decode cX1_takeRow 35 = .ok (.iload_n 3, 1) := by decide +kernel
theorem dX1_takeRow_36 : decode cX1_takeRow 36 = .ok (.goto 9, 3) := by decide +kernel
theorem dX1_takeRow_39 : decode cX1_takeRow 39 = .ok (.aload_n 0, 1) := by decide +kernel
theorem dX1_takeRow_40 : decode cX1_takeRow 40 = .ok (.getfield 18, 3) := by decide +kernel
theorem dX1_takeRow_43 : decode cX1_takeRow 43 = .ok (.iload_n 3, 1) := by decide +kernel
theorem dX1_takeRow_44 : decode cX1_takeRow 44 = .ok (.iand, 1) := by decide +kernel
theorem dX1_takeRow_45 : decode cX1_takeRow 45 = .ok (.putfield 18, 3) := by decide +kernel
theorem dX1_takeRow_48 : decode cX1_takeRow 48 = .ok (.aload_n 0, 1) := by decide +kernel
theorem dX1_takeRow_49 : decode cX1_takeRow 49 = .ok (.getfield 9, 3) := by decide +kernel
theorem dX1_takeRow_52 : decode cX1_takeRow 52 = .ok (.ifCond .ne 8, 3) := by decide +kernel
theorem dX1_takeRow_55 : decode cX1_takeRow 55 = .ok (.aload_n 0, 1) := by decide +kernel
theorem dX1_takeRow_56 : decode cX1_takeRow 56 = .ok (.iload_n 1, 1) := by decide +kernel
theorem dX1_takeRow_57 : decode cX1_takeRow 57 = .ok (.putfield 15, 3) := by decide +kernel
theorem dX1_takeRow_60 : decode cX1_takeRow 60 = .ok (.aload_n 0, 1) := by decide +kernel
theorem dX1_takeRow_61 : decode cX1_takeRow 61 = .ok (.dup, 1) := by decide +kernel
theorem dX1_takeRow_62 : decode cX1_takeRow 62 = .ok (.getfield 9, 3) := by decide +kernel
theorem dX1_takeRow_65 : decode cX1_takeRow 65 = .ok (.iconst 1, 1) := by decide +kernel
theorem dX1_takeRow_66 : decode cX1_takeRow 66 = .ok (.iadd, 1) := by decide +kernel
theorem dX1_takeRow_67 : decode cX1_takeRow 67 = .ok (.putfield 9, 3) := by decide +kernel
theorem dX1_takeRow_70 : decode cX1_takeRow 70 = .ok (.return_, 1) := by decide +kernel
theorem dX1_setIn_0 : decode cX1_setIn 0 = .ok (.iload_n 0, 1) := by decide +kernel
theorem dX1_setIn_1 : decode cX1_setIn 1 = .ok (.iconst 4, 1) := by decide +kernel
theorem dX1_setIn_2 : decode cX1_setIn 2 = .ok (.iload_n 2, 1) := by decide +kernel
theorem dX1_setIn_3 : decode cX1_setIn 3 = .ok (.iconst 1, 1) := by decide +kernel
theorem dX1_setIn_4 : decode cX1_setIn 4 = .ok (.isub, 1) := by decide +kernel
theorem dX1_setIn_5 : decode cX1_setIn 5 = .ok (.iload_n 1, 1) := by decide +kernel
theorem dX1_setIn_6 : decode cX1_setIn 6 = .ok (.isub, 1) := by decide +kernel
theorem dX1_setIn_7 : decode cX1_setIn 7 = .ok (.imul, 1) := by decide +kernel
theorem dX1_setIn_8 : decode cX1_setIn 8 = .ok (.ishr, 1) := by decide +kernel
theorem dX1_setIn_9 : decode cX1_setIn 9 = .ok (.bipush 15, 2) := by decide +kernel
theorem dX1_setIn_11 : decode cX1_setIn 11 = .ok (.iand, 1) := by decide +kernel
theorem dX1_setIn_12 : decode cX1_setIn 12 = .ok (.ireturn, 1) := by decide +kernel
theorem dX2_init_0 : decode cX2_init 0 = .ok (.aload_n 0, 1) := by decide +kernel
theorem dX2_init_1 : decode cX2_init 1 = .ok (.invokespecial 3, 3) := by decide +kernel
theorem dX2_init_4 : decode cX2_init 4 = .ok (.aload_n 0, 1) := by decide +kernel
theorem dX2_init_5 : decode cX2_init 5 = .ok (.bipush 30, 2) := by decide +kernel
theorem dX2_init_7 : decode cX2_init 7 = .ok (.newarray .int, 2) := by decide +kernel
theorem dX2_init_9 : decode cX2_init 9 = .ok (.putfield 9, 3) := by decide +kernel
theorem dX2_init_12 : decode cX2_init 12 = .ok (.return_, 1) := by decide +kernel
theorem dX2_calmBy_0 : decode cX2_calmBy 0 = .ok (.ldc2_w 15, 3) := by decide +kernel
theorem dX2_calmBy_3 : decode cX2_calmBy 3 = .ok (.lstore 5, 2) := by decide +kernel
theorem dX2_calmBy_5 : decode cX2_calmBy 5 = .ok (.iconst 0, 1) := by decide +kernel
theorem dX2_calmBy_6 : decode cX2_calmBy 6 = .ok (.istore 7, 2) := by decide +kernel
theorem dX2_calmBy_8 : decode cX2_calmBy 8 = .ok (.iload 7, 2) := by decide +kernel
theorem dX2_calmBy_10 : decode cX2_calmBy 10 = .ok (.iconst 4, 1) := by decide +kernel
theorem dX2_calmBy_11 : decode cX2_calmBy 11 = .ok (.if_icmp .ge 63, 3) := by decide +kernel
theorem dX2_calmBy_14 : decode cX2_calmBy 14 = .ok (.iload_n 2, 1) := by decide +kernel
theorem dX2_calmBy_15 : decode cX2_calmBy 15 = .ok (.iload 7, 2) := by decide +kernel
theorem dX2_calmBy_17 : decode cX2_calmBy 17 = .ok (.ishr, 1) := by decide +kernel
theorem dX2_calmBy_18 : decode cX2_calmBy 18 = .ok (.iconst 1, 1) := by decide +kernel
theorem dX2_calmBy_19 : decode cX2_calmBy 19 = .ok (.iand, 1) := by decide +kernel
theorem dX2_calmBy_20 : decode cX2_calmBy 20 = .ok (.ifCond .ne 6, 3) := by decide +kernel
theorem dX2_calmBy_23 : decode cX2_calmBy 23 = .ok (.goto 45, 3) := by decide +kernel
theorem dX2_calmBy_26 : decode cX2_calmBy 26 = .ok (.sipush 1000, 3) := by decide +kernel
theorem dX2_calmBy_29 : decode cX2_calmBy 29 = .ok (.aload_n 0, 1) := by decide +kernel
theorem dX2_calmBy_30 : decode cX2_calmBy 30 = .ok (.iload_n 1, 1) := by decide +kernel
theorem dX2_calmBy_31 : decode cX2_calmBy 31 = .ok (.iload 7, 2) := by decide +kernel
theorem dX2_calmBy_33 : decode cX2_calmBy 33 = .ok (.iload_n 3, 1) := by decide +kernel
theorem dX2_calmBy_34 : decode cX2_calmBy 34 = .ok (.invokevirtual 17, 3) := by decide +kernel
theorem dX2_calmBy_37 : decode cX2_calmBy 37 = .ok (.isub, 1) := by decide +kernel
theorem dX2_calmBy_38 : decode cX2_calmBy 38 = .ok (.istore 8, 2) := by decide +kernel
theorem dX2_calmBy_40 : decode cX2_calmBy 40 = .ok (.iconst 0, 1) := by decide +kernel
theorem dX2_calmBy_41 : decode cX2_calmBy 41 = .ok (.istore 9, 2) := by decide +kernel
theorem dX2_calmBy_43 : decode cX2_calmBy 43 = .ok (.iload 9, 2) := by decide +kernel
theorem dX2_calmBy_45 : decode cX2_calmBy 45 = .ok (.iload 4, 2) := by decide +kernel
theorem dX2_calmBy_47 : decode cX2_calmBy 47 = .ok (.if_icmp .ge 21, 3) := by decide +kernel
theorem dX2_calmBy_50 : decode cX2_calmBy 50 = .ok (.lload 5, 2) := by decide +kernel
theorem dX2_calmBy_52 : decode cX2_calmBy 52 = .ok (.iload 8, 2) := by decide +kernel
theorem dX2_calmBy_54 : decode cX2_calmBy 54 = .ok (.i2l, 1) := by decide +kernel
theorem dX2_calmBy_55 : decode cX2_calmBy 55 = .ok (.lmul, 1) := by decide +kernel
theorem dX2_calmBy_56 : decode cX2_calmBy 56 = .ok (.ldc2_w 23, 3) := by decide +kernel
theorem dX2_calmBy_59 : decode cX2_calmBy 59 = .ok (.ldiv, 1) := by decide +kernel
theorem dX2_calmBy_60 : decode cX2_calmBy 60 = .ok (.lstore 5, 2) := by decide +kernel
theorem dX2_calmBy_62 : decode cX2_calmBy 62 = .ok (.iinc 9 1, 3) := by decide +kernel
theorem dX2_calmBy_65 : decode cX2_calmBy 65 = .ok (.goto (-22), 3) := by decide +kernel
theorem dX2_calmBy_68 : decode cX2_calmBy 68 = .ok (.iinc 7 1, 3) := by decide +kernel
theorem dX2_calmBy_71 : decode cX2_calmBy 71 = .ok (.goto (-63), 3) := by decide +kernel
theorem dX2_calmBy_74 : decode cX2_calmBy 74 = .ok (.lload 5, 2) := by decide +kernel
theorem dX2_calmBy_76 : decode cX2_calmBy 76 = .ok (.l2i, 1) := by decide +kernel
theorem dX2_calmBy_77 : decode cX2_calmBy 77 = .ok (.ireturn, 1) := by decide +kernel
theorem dX2_calmOf_0 : decode cX2_calmOf 0 = .ok (.aload_n 0, 1) := by decide +kernel
theorem dX2_calmOf_1 : decode cX2_calmOf 1 = .ok (.getfield 25, 3) := by decide +kernel
theorem dX2_calmOf_4 : decode cX2_calmOf 4 = .ok (.iload_n 2, 1) := by decide +kernel
theorem dX2_calmOf_5 : decode cX2_calmOf 5 = .ok (.iaload, 1) := by decide +kernel
theorem dX2_calmOf_6 : decode cX2_calmOf 6 = .ok (.istore 4, 2) := by decide +kernel
theorem dX2_calmOf_8 : decode cX2_calmOf 8 = .ok (.aload_n 0, 1) := by decide +kernel
theorem dX2_calmOf_9 : decode cX2_calmOf 9 = .ok (.iload 4, 2) := by decide +kernel
theorem dX2_calmOf_11 : decode cX2_calmOf 11 = .ok (.aload_n 0, 1) := by decide +kernel
theorem dX2_calmOf_12 : decode cX2_calmOf 12 = .ok (.getfield 28, 3) := by decide +kernel
theorem dX2_calmOf_15 : decode cX2_calmOf 15 = .ok (.iload_n 2, 1) := by decide +kernel
theorem dX2_calmOf_16 : decode cX2_calmOf 16 = .ok (.iaload, 1) := by decide +kernel
theorem dX2_calmOf_17 : decode cX2_calmOf 17 = .ok (.aload_n 1, 1) := by decide +kernel
theorem dX2_calmOf_18 : decode cX2_calmOf 18 = .ok (.getfield 31, 3) := by decide +kernel
theorem dX2_calmOf_21 : decode cX2_calmOf 21 = .ok (.iload 4, 2) := by decide +kernel
theorem dX2_calmOf_23 : decode cX2_calmOf 23 = .ok (.iaload, 1) := by decide +kernel
theorem dX2_calmOf_24 : decode cX2_calmOf 24 = .ok (.iload_n 3, 1) := by decide +kernel
theorem dX2_calmOf_25 : decode cX2_calmOf 25 = .ok (.invokestatic 36, 3) := by decide +kernel
theorem dX2_calmOf_28 : decode cX2_calmOf 28 = .ok (.ireturn, 1) := by decide +kernel
theorem dX2_fairPremium_0 : decode cX2_fairPremium 0 = .ok (.aload_n 0, 1) := by decide +kernel
theorem dX2_fairPremium_1 : decode cX2_fairPremium 1 = .ok (.aload_n 1, 1) := by decide +kernel
theorem dX2_fairPremium_2 : decode cX2_fairPremium 2 = .ok (.iload_n 2, 1) := by decide +kernel
theorem dX2_fairPremium_3 : decode cX2_fairPremium 3 = .ok (.aload_n 0, 1) := by decide +kernel
theorem dX2_fairPremium_4 : decode cX2_fairPremium 4 = .ok (.getfield 40, 3) := by decide +kernel
theorem dX2_fairPremium_7 : decode cX2_fairPremium 7 = .ok (.iload_n 2, 1) := by decide +kernel
theorem dX2_fairPremium_8 : decode cX2_fairPremium 8 = .ok (.iaload, 1) := by decide +kernel
theorem dX2_fairPremium_9 : decode cX2_fairPremium 9 = .ok (.invokestatic 43, 3) := by decide +kernel
theorem dX2_fairPremium_12 : decode cX2_fairPremium 12 = .ok (.i2l, 1) := by decide +kernel
theorem dX2_fairPremium_13 : decode cX2_fairPremium 13 = .ok (.lstore_n 3, 1) := by decide +kernel
theorem dX2_fairPremium_14 : decode cX2_fairPremium 14 = .ok (.aload_n 0, 1) := by decide +kernel
theorem dX2_fairPremium_15 : decode cX2_fairPremium 15 = .ok (.getfield 47, 3) := by decide +kernel
theorem dX2_fairPremium_18 : decode cX2_fairPremium 18 = .ok (.iload_n 2, 1) := by decide +kernel
theorem dX2_fairPremium_19 : decode cX2_fairPremium 19 = .ok (.iaload, 1) := by decide +kernel
theorem dX2_fairPremium_20 : decode cX2_fairPremium 20 = .ok (.i2l, 1) := by decide +kernel
theorem dX2_fairPremium_21 : decode cX2_fairPremium 21 = .ok (.lload_n 3, 1) := by decide +kernel
theorem dX2_fairPremium_22 : decode cX2_fairPremium 22 = .ok (.lmul, 1) := by decide +kernel
theorem dX2_fairPremium_23 : decode cX2_fairPremium 23 = .ok (.lstore 5, 2) := by decide +kernel
theorem dX2_fairPremium_25 : decode cX2_fairPremium 25 = .ok (.ldc2_w 15, 3) := by decide +kernel
theorem dX2_fairPremium_28 : decode cX2_fairPremium 28 = .ok (.lload_n 3, 1) := by decide +kernel
theorem dX2_fairPremium_29 : decode cX2_fairPremium 29 = .ok (.lsub, 1) := by decide +kernel
theorem dX2_fairPremium_30 : decode cX2_fairPremium 30 = .ok (.lstore 7, 2) := by decide +kernel
theorem dX2_fairPremium_32 : decode cX2_fairPremium 32 = .ok (.lload 5, 2) := by decide +kernel
theorem dX2_fairPremium_34 : decode cX2_fairPremium 34 = .ok (.lconst 0, 1) := by decide +kernel
theorem dX2_fairPremium_35 : decode cX2_fairPremium 35 = .ok (.lcmp, 1) := by decide +kernel
theorem dX2_fairPremium_36 : decode cX2_fairPremium 36 = .ok (.ifCond .ne 5, 3) := by decide +kernel
theorem dX2_fairPremium_39 : decode cX2_fairPremium 39 = .ok (.iconst 0, 1) := by decide +kernel
theorem dX2_fairPremium_40 : decode cX2_fairPremium 40 = .ok (.ireturn, 1) := by decide +kernel
theorem dX2_fairPremium_41 : decode cX2_fairPremium 41 = .ok (.lload 7, 2) := by decide +kernel
theorem dX2_fairPremium_43 : decode cX2_fairPremium 43 = .ok (.lconst 0, 1) := by decide +kernel
theorem dX2_fairPremium_44 : decode cX2_fairPremium 44 = .ok (.lcmp, 1) := by decide +kernel
theorem dX2_fairPremium_45 : decode cX2_fairPremium 45 = .ok (.ifCond .gt 7, 3) := by decide +kernel
theorem dX2_fairPremium_48 : decode cX2_fairPremium 48 = .ok (.iconst (-1), 1) := by decide +kernel
theorem dX2_fairPremium_49 : decode cX2_fairPremium 49 = .ok (.goto 14, 3) := by decide +kernel
theorem dX2_fairPremium_52 : decode cX2_fairPremium 52 = .ok (.lload 5, 2) := by decide +kernel
theorem dX2_fairPremium_54 : decode cX2_fairPremium 54 = .ok (.lload 7, 2) := by decide +kernel
theorem dX2_fairPremium_56 : decode cX2_fairPremium 56 = .ok (.ladd, 1) := by decide +kernel
theorem dX2_fairPremium_57 : decode cX2_fairPremium 57 = .ok (.lconst 1, 1) := by decide +kernel
theorem dX2_fairPremium_58 : decode cX2_fairPremium 58 = .ok (.lsub, 1) := by decide +kernel
theorem dX2_fairPremium_59 : decode cX2_fairPremium 59 = .ok (.lload 7, 2) := by decide +kernel
theorem dX2_fairPremium_61 : decode cX2_fairPremium 61 = .ok (.ldiv, 1) := by decide +kernel
theorem dX2_fairPremium_62 : decode cX2_fairPremium 62 = .ok (.l2i, 1) := by decide +kernel
theorem dX2_fairPremium_63 : decode cX2_fairPremium 63 = .ok (.ireturn, 1) := by decide +kernel
theorem dX2_paidWithin_0 : decode cX2_paidWithin 0 = .ok (.aload_n 1, 1) := by decide +kernel
theorem dX2_paidWithin_1 : decode cX2_paidWithin 1 = .ok (.getfield 40, 3) := by decide +kernel
theorem dX2_paidWithin_4 : decode cX2_paidWithin 4 = .ok (.iload_n 3, 1) := by decide +kernel
theorem dX2_paidWithin_5 : decode cX2_paidWithin 5 = .ok (.iaload, 1) := by decide +kernel
theorem dX2_paidWithin_6 : decode cX2_paidWithin 6 = .ok (.bipush 30, 2) := by decide +kernel
theorem dX2_paidWithin_8 : decode cX2_paidWithin 8 = .ok (.invokestatic 50, 3) := by decide +kernel
theorem dX2_paidWithin_11 : decode cX2_paidWithin 11 = .ok (.istore 5, 2) := by decide +kernel
theorem dX2_paidWithin_13 : decode cX2_paidWithin 13 = .ok (.aload_n 2, 1) := by decide +kernel
theorem dX2_paidWithin_14 : decode cX2_paidWithin 14 = .ok (.getfield 56, 3) := by decide +kernel
theorem dX2_paidWithin_17 : decode cX2_paidWithin 17 = .ok (.iload_n 3, 1) := by decide +kernel
theorem dX2_paidWithin_18 : decode cX2_paidWithin 18 = .ok (.iaload, 1) := by decide +kernel
theorem dX2_paidWithin_19 : decode cX2_paidWithin 19 = .ok (.istore 6, 2) := by decide +kernel
theorem dX2_paidWithin_21 : decode cX2_paidWithin 21 = .ok (.iload 6, 2) := by decide +kernel
theorem dX2_paidWithin_23 : decode cX2_paidWithin 23 = .ok (.iconst 0, 1) := by decide +kernel
theorem dX2_paidWithin_24 : decode cX2_paidWithin 24 = .ok (.iload 5, 2) := by decide +kernel
theorem dX2_paidWithin_26 : decode cX2_paidWithin 26 = .ok (.iconst 1, 1) := by decide +kernel
theorem dX2_paidWithin_27 : decode cX2_paidWithin 27 = .ok (.isub, 1) := by decide +kernel
theorem dX2_paidWithin_28 : decode cX2_paidWithin 28 = .ok (.invokestatic 59, 3) := by decide +kernel
theorem dX2_paidWithin_31 : decode cX2_paidWithin 31 = .ok (.ifCond .eq 5, 3) := by decide +kernel
theorem dX2_paidWithin_34 : decode cX2_paidWithin 34 = .ok (.iconst 0, 1) := by decide +kernel
theorem dX2_paidWithin_35 : decode cX2_paidWithin 35 = .ok (.ireturn, 1) := by decide +kernel
theorem dX2_paidWithin_36 : decode cX2_paidWithin 36 = .ok (.aload_n 1, 1) := by decide +kernel
theorem dX2_paidWithin_37 : decode cX2_paidWithin 37 = .ok (.aload_n 2, 1) := by decide +kernel
theorem dX2_paidWithin_38 : decode cX2_paidWithin 38 = .ok (.iload_n 3, 1) := by decide +kernel
theorem dX2_paidWithin_39 : decode cX2_paidWithin 39 = .ok (.iconst 1, 1) := by decide +kernel
theorem dX2_paidWithin_40 : decode cX2_paidWithin 40 = .ok (.invokestatic 43, 3) := by decide +kernel
theorem dX2_paidWithin_43 : decode cX2_paidWithin 43 = .ok (.i2l, 1) := by decide +kernel
theorem dX2_paidWithin_44 : decode cX2_paidWithin 44 = .ok (.lstore 7, 2) := by decide +kernel
theorem dX2_paidWithin_46 : decode cX2_paidWithin 46 = .ok (.aload_n 0, 1) := by decide +kernel
theorem dX2_paidWithin_47 : decode cX2_paidWithin 47 = .ok (.getfield 9, 3) := by decide +kernel
theorem dX2_paidWithin_50 : decode cX2_paidWithin 50 = .ok (.iconst 0, 1) := by decide +kernel
theorem dX2_paidWithin_51 : decode cX2_paidWithin 51 = .ok (.invokestatic 63, 3) := by decide +kernel
theorem dX2_paidWithin_54 : decode cX2_paidWithin 54 = .ok (.aload_n 0, 1) := by decide +kernel
theorem dX2_paidWithin_55 : decode cX2_paidWithin 55 = .ok (.getfield 9, 3) := by decide +kernel
theorem dX2_paidWithin_58 : decode cX2_paidWithin 58 = .ok (.iload 6, 2) := by decide +kernel
theorem dX2_paidWithin_60 : decode cX2_paidWithin 60 = .ok (.ldc 69, 2) := by decide +kernel
theorem dX2_paidWithin_62 : decode cX2_paidWithin 62 = .ok (.iastore, 1) := by decide +kernel
theorem dX2_paidWithin_63 : decode cX2_paidWithin 63 = .ok (.iconst 0, 1) := by decide +kernel
theorem dX2_paidWithin_64 : decode cX2_paidWithin 64 = .ok (.istore 9, 2) := by decide +kernel
theorem dX2_paidWithin_66 : decode cX2_paidWithin 66 = .ok (.iconst 0, 1) := by decide +kernel
theorem dX2_paidWithin_67 : decode cX2_paidWithin 67 = .ok (.istore 10, 2) := by decide +kernel
theorem dX2_paidWithin_69 : decode cX2_paidWithin 69 = .ok (.iload 10, 2) := by decide +kernel
theorem dX2_paidWithin_71 : decode cX2_paidWithin 71 = .ok (.iload 4, 2) := by decide +kernel
theorem dX2_paidWithin_73 : decode cX2_paidWithin 73 = .ok (.if_icmp .ge 94, 3) := by decide +kernel
theorem dX2_paidWithin_76 : decode cX2_paidWithin 76 = .ok (.iconst 0, 1) := by decide +kernel
theorem dX2_paidWithin_77 : decode cX2_paidWithin 77 = .ok (.istore 11, 2) := by decide +kernel
theorem dX2_paidWithin_79 : decode cX2_paidWithin 79 = .ok (.iconst 0, 1) := by decide +kernel
theorem dX2_paidWithin_80 : decode cX2_paidWithin 80 = .ok (.istore 12, 2) := by decide +kernel
theorem dX2_paidWithin_82 : decode cX2_paidWithin 82 = .ok (.iconst 0, 1) := by decide +kernel
theorem dX2_paidWithin_83 : decode cX2_paidWithin 83 = .ok (.istore 13, 2) := by decide +kernel
theorem dX2_paidWithin_85 : decode cX2_paidWithin 85 = .ok (.iload 13, 2) := by decide +kernel
theorem dX2_paidWithin_87 : decode cX2_paidWithin 87 = .ok (.iload 5, 2) := by decide +kernel
theorem dX2_paidWithin_89 : decode cX2_paidWithin 89 = .ok (.if_icmp .ge 54, 3) := by decide +kernel
theorem dX2_paidWithin_92 : decode cX2_paidWithin 92 = .ok (.aload_n 0, 1) := by decide +kernel
theorem dX2_paidWithin_93 : decode cX2_paidWithin 93 = .ok (.getfield 9, 3) := by decide +kernel
theorem dX2_paidWithin_96 : decode cX2_paidWithin 96 = .ok (.iload 13, 2) := by decide +kernel
theorem dX2_paidWithin_98 : decode cX2_paidWithin 98 = .ok (.iaload, 1) := by decide +kernel
theorem dX2_paidWithin_99 : decode cX2_paidWithin 99 = .ok (.istore 14, 2) := by decide +kernel
theorem dX2_paidWithin_101 : decode cX2_paidWithin 101 = .ok (.iload 14, 2) := by decide +kernel
theorem dX2_paidWithin_103 : decode cX2_paidWithin 103 = .ok (.i2l, 1) := by decide +kernel
theorem dX2_paidWithin_104 : decode cX2_paidWithin 104 = .ok (.lload 7, 2) := by decide +kernel
theorem dX2_paidWithin_106 : decode cX2_paidWithin 106 = .ok (.lmul, 1) := by decide +kernel
theorem dX2_paidWithin_107 : decode cX2_paidWithin 107 = .ok (.ldc2_w 15, 3) := by decide +kernel
theorem dX2_paidWithin_110 : decode cX2_paidWithin 110 = .ok (.ldiv, 1) := by decide +kernel
theorem dX2_paidWithin_111 : decode cX2_paidWithin 111 = .ok (.l2i, 1) := by decide +kernel
theorem dX2_paidWithin_112 : decode cX2_paidWithin 112 = .ok (.istore 15, 2) := by decide +kernel
theorem dX2_paidWithin_114 : decode cX2_paidWithin 114 = .ok (.aload_n 0, 1) := by decide +kernel
theorem dX2_paidWithin_115 : decode cX2_paidWithin 115 = .ok (.getfield 9, 3) := by decide +kernel
theorem dX2_paidWithin_118 : decode cX2_paidWithin 118 = .ok (.iload 13, 2) := by decide +kernel
theorem dX2_paidWithin_120 : decode cX2_paidWithin 120 = .ok (.iload 11, 2) := by decide +kernel
theorem dX2_paidWithin_122 : decode cX2_paidWithin 122 = .ok (.iastore, 1) := by decide +kernel
theorem dX2_paidWithin_123 : decode cX2_paidWithin 123 = .ok (.iload 15, 2) := by decide +kernel
theorem dX2_paidWithin_125 : decode cX2_paidWithin 125 = .ok (.istore 11, 2) := by decide +kernel
theorem dX2_paidWithin_127 : decode cX2_paidWithin 127 = .ok (.iload 12, 2) := by decide +kernel
theorem dX2_paidWithin_129 : decode cX2_paidWithin 129 = .ok (.iload 14, 2) := by decide +kernel
theorem dX2_paidWithin_131 : decode cX2_paidWithin 131 = .ok (.iload 15, 2) := by decide +kernel
theorem dX2_paidWithin_133 : decode cX2_paidWithin 133 = .ok (.isub, 1) := by decide +kernel
theorem dX2_paidWithin_134 : decode cX2_paidWithin 134 = .ok (.iadd, 1) := by decide +kernel
theorem dX2_paidWithin_135 : decode cX2_paidWithin 135 = .ok (.istore 12, 2) := by decide +kernel
theorem dX2_paidWithin_137 : decode cX2_paidWithin 137 = .ok (.iinc 13 1, 3) := by decide +kernel
theorem dX2_paidWithin_140 : decode cX2_paidWithin 140 = .ok (.goto (-55), 3) := by decide +kernel
theorem dX2_paidWithin_143 : decode cX2_paidWithin 143 = .ok (.aload_n 0, 1) := by decide +kernel
theorem dX2_paidWithin_144 : decode cX2_paidWithin 144 = .ok (.getfield 9, 3) := by decide +kernel
theorem dX2_paidWithin_147 : decode cX2_paidWithin 147 = .ok (.iconst 0, 1) := by decide +kernel
theorem dX2_paidWithin_148 : decode cX2_paidWithin 148 = .ok (.dup2, 1) := by decide +kernel
theorem dX2_paidWithin_149 : decode cX2_paidWithin 149 = .ok (.iaload, 1) := by decide +kernel
theorem dX2_paidWithin_150 : decode cX2_paidWithin 150 = .ok (.iload 12, 2) := by decide +kernel
theorem dX2_paidWithin_152 : decode cX2_paidWithin 152 = .ok (.iadd, 1) := by decide +kernel
theorem dX2_paidWithin_153 : decode cX2_paidWithin 153 = .ok (.iastore, 1) := by decide +kernel
theorem dX2_paidWithin_154 : decode cX2_paidWithin 154 = .ok (.iload 9, 2) := by decide +kernel
theorem dX2_paidWithin_156 : decode cX2_paidWithin 156 = .ok (.iload 11, 2) := by decide +kernel
theorem dX2_paidWithin_158 : decode cX2_paidWithin 158 = .ok (.iadd, 1) := by decide +kernel
theorem dX2_paidWithin_159 : decode cX2_paidWithin 159 = .ok (.istore 9, 2) := by decide +kernel
theorem dX2_paidWithin_161 : decode cX2_paidWithin 161 = .ok (.iinc 10 1, 3) := by decide +kernel
theorem dX2_paidWithin_164 : decode cX2_paidWithin 164 = .ok (.goto (-95), 3) := by decide +kernel
theorem dX2_paidWithin_167 : decode cX2_paidWithin 167 = .ok (.iload 9, 2) := by decide +kernel
theorem dX2_paidWithin_169 : decode cX2_paidWithin 169 = .ok (.ireturn, 1) := by decide +kernel
theorem dX2_bestHabit_0 : decode cX2_bestHabit 0 = .ok (.iconst 0, 1) := by decide +kernel
theorem dX2_bestHabit_1 : decode cX2_bestHabit 1 = .ok (.istore_n 3, 1) := by decide +kernel
theorem dX2_bestHabit_2 : decode cX2_bestHabit 2 = .ok (.iconst 1, 1) := by decide +kernel
theorem dX2_bestHabit_3 : decode cX2_bestHabit 3 = .ok (.istore 4, 2) := by decide +kernel
theorem dX2_bestHabit_5 : decode cX2_bestHabit 5 = .ok (.iload 4, 2) := by decide +kernel
theorem dX2_bestHabit_7 : decode cX2_bestHabit 7 = .ok (.iconst 2, 1) := by decide +kernel
theorem dX2_bestHabit_8 : decode cX2_bestHabit 8 = .ok (.if_icmp .gt 31, 3) := by decide +kernel
theorem dX2_bestHabit_11 : decode cX2_bestHabit 11 = .ok (.aload_n 0, 1) := by decide +kernel
theorem dX2_bestHabit_12 : decode cX2_bestHabit 12 = .ok (.aload_n 1, 1) := by decide +kernel
theorem dX2_bestHabit_13 : decode cX2_bestHabit 13 = .ok (.iload_n 2, 1) := by decide +kernel
theorem dX2_bestHabit_14 : decode cX2_bestHabit 14 = .ok (.iload 4, 2) := by decide +kernel
theorem dX2_bestHabit_16 : decode cX2_bestHabit 16 = .ok (.invokestatic 70, 3) := by decide +kernel
theorem dX2_bestHabit_19 : decode cX2_bestHabit 19 = .ok (.aload_n 0, 1) := by decide +kernel
theorem dX2_bestHabit_20 : decode cX2_bestHabit 20 = .ok (.aload_n 1, 1) := by decide +kernel
theorem dX2_bestHabit_21 : decode cX2_bestHabit 21 = .ok (.iload_n 2, 1) := by decide +kernel
theorem dX2_bestHabit_22 : decode cX2_bestHabit 22 = .ok (.iload_n 3, 1) := by decide +kernel
theorem dX2_bestHabit_23 : decode cX2_bestHabit 23 = .ok (.invokestatic 70, 3) := by decide +kernel
theorem dX2_bestHabit_26 : decode cX2_bestHabit 26 = .ok (.lcmp, 1) := by decide +kernel
theorem dX2_bestHabit_27 : decode cX2_bestHabit 27 = .ok (.ifCond .le 6, 3) := by decide +kernel
theorem dX2_bestHabit_30 : decode cX2_bestHabit 30 = .ok (.iload 4, 2) := by decide +kernel
theorem dX2_bestHabit_32 : decode cX2_bestHabit 32 = .ok (.istore_n 3, 1) := by decide +kernel
theorem dX2_bestHabit_33 : decode cX2_bestHabit 33 = .ok (.iinc 4 1, 3) := by decide +kernel
theorem dX2_bestHabit_36 : decode cX2_bestHabit 36 = .ok (.goto (-31), 3) := by decide +kernel
theorem dX2_bestHabit_39 : decode cX2_bestHabit 39 = .ok (.iload_n 3, 1) := by decide +kernel
theorem dX2_bestHabit_40 : decode cX2_bestHabit 40 = .ok (.ireturn, 1) := by decide +kernel
theorem dX2_gainBy_0 : decode cX2_gainBy 0 = .ok (.iload_n 3, 1) := by decide +kernel
theorem dX2_gainBy_1 : decode cX2_gainBy 1 = .ok (.ifCond .ne 7, 3) := by decide +kernel
theorem dX2_gainBy_4 : decode cX2_gainBy 4 = .ok (.lconst 0, 1) := by decide +kernel
theorem dX2_gainBy_5 : decode cX2_gainBy 5 = .ok (.goto 17, 3) := by decide +kernel
theorem dX2_gainBy_8 : decode cX2_gainBy 8 = .ok (.iload_n 3, 1) := by decide +kernel
theorem dX2_gainBy_9 : decode cX2_gainBy 9 = .ok (.iconst 1, 1) := by decide +kernel
theorem dX2_gainBy_10 : decode cX2_gainBy 10 = .ok (.if_icmp .ne 9, 3) := by decide +kernel
theorem dX2_gainBy_13 : decode cX2_gainBy 13 = .ok (.ldc2_w 74, 3) := by decide +kernel
theorem dX2_gainBy_16 : decode cX2_gainBy 16 = .ok (.goto 6, 3) := by decide +kernel
theorem dX2_gainBy_19 : decode cX2_gainBy 19 = .ok (.ldc2_w 76, 3) := by decide +kernel
theorem dX2_gainBy_22 : decode cX2_gainBy 22 = .ok (.lstore 4, 2) := by decide +kernel
theorem dX2_gainBy_24 : decode cX2_gainBy 24 = .ok (.iconst 0, 1) := by decide +kernel
theorem dX2_gainBy_25 : decode cX2_gainBy 25 = .ok (.istore 6, 2) := by decide +kernel
theorem dX2_gainBy_27 : decode cX2_gainBy 27 = .ok (.iload 6, 2) := by decide +kernel
theorem dX2_gainBy_29 : decode cX2_gainBy 29 = .ok (.aload_n 0, 1) := by decide +kernel
theorem dX2_gainBy_30 : decode cX2_gainBy 30 = .ok (.getfield 78, 3) := by decide +kernel
theorem dX2_gainBy_33 : decode cX2_gainBy 33 = .ok (.if_icmp .ge 72, 3) := by decide +kernel
theorem dX2_gainBy_36 : decode cX2_gainBy 36 = .ok (.aload_n 0, 1) := by decide +kernel
theorem dX2_gainBy_37 : decode cX2_gainBy 37 = .ok (.getfield 25, 3) := by decide +kernel
theorem dX2_gainBy_40 : decode cX2_gainBy 40 = .ok (.iload 6, 2) := by decide +kernel
theorem dX2_gainBy_42 : decode cX2_gainBy 42 = .ok (.iaload, 1) := by decide +kernel
theorem dX2_gainBy_43 : decode cX2_gainBy 43 = .ok (.iload_n 2, 1) := by decide +kernel
theorem dX2_gainBy_44 : decode cX2_gainBy 44 = .ok (.if_icmp .ne 55, 3) := by decide +kernel
theorem dX2_gainBy_47 : decode cX2_gainBy 47 = .ok (.aload_n 1, 1) := by decide +kernel
theorem dX2_gainBy_48 : decode cX2_gainBy 48 = .ok (.iload 6, 2) := by decide +kernel
theorem dX2_gainBy_50 : decode cX2_gainBy 50 = .ok (.invokevirtual 82, 3) := by decide +kernel
theorem dX2_gainBy_53 : decode cX2_gainBy 53 = .ok (.ifCond .ne 46, 3) := by decide +kernel
theorem dX2_gainBy_56 : decode cX2_gainBy 56 = .ok (.aload_n 0, 1) := by decide +kernel
theorem dX2_gainBy_57 : decode cX2_gainBy 57 = .ok (.iload_n 2, 1) := by decide +kernel
theorem dX2_gainBy_58 : decode cX2_gainBy 58 = .ok (.aload_n 0, 1) := by decide +kernel
theorem dX2_gainBy_59 : decode cX2_gainBy 59 = .ok (.getfield 28, 3) := by decide +kernel
theorem dX2_gainBy_62 : decode cX2_gainBy 62 = .ok (.iload 6, 2) := by decide +kernel
theorem dX2_gainBy_64 : decode cX2_gainBy 64 = .ok (.iaload, 1) := by decide +kernel
theorem dX2_gainBy_65 : decode cX2_gainBy 65 = .ok (.iload_n 3, 1) := by decide +kernel
theorem dX2_gainBy_66 : decode cX2_gainBy 66 = .ok (.aload_n 0, 1) := by decide +kernel
theorem dX2_gainBy_67 : decode cX2_gainBy 67 = .ok (.getfield 40, 3) := by decide +kernel
theorem dX2_gainBy_70 : decode cX2_gainBy 70 = .ok (.iload 6, 2) := by decide +kernel
theorem dX2_gainBy_72 : decode cX2_gainBy 72 = .ok (.iaload, 1) := by decide +kernel
theorem dX2_gainBy_73 : decode cX2_gainBy 73 = .ok (.invokestatic 36, 3) := by decide +kernel
theorem dX2_gainBy_76 : decode cX2_gainBy 76 = .ok (.i2l, 1) := by decide +kernel
theorem dX2_gainBy_77 : decode cX2_gainBy 77 = .ok (.lstore 7, 2) := by decide +kernel
theorem dX2_gainBy_79 : decode cX2_gainBy 79 = .ok (.lload 4, 2) := by decide +kernel
theorem dX2_gainBy_81 : decode cX2_gainBy 81 = .ok (.aload_n 0, 1) := by decide +kernel
theorem dX2_gainBy_82 : decode cX2_gainBy 82 = .ok (.getfield 47, 3) := by decide +kernel
theorem dX2_gainBy_85 : decode cX2_gainBy 85 = .ok (.iload 6, 2) := by decide +kernel
theorem dX2_gainBy_87 : decode cX2_gainBy 87 = .ok (.iaload, 1) := by decide +kernel
theorem dX2_gainBy_88 : decode cX2_gainBy 88 = .ok (.i2l, 1) := by decide +kernel
theorem dX2_gainBy_89 : decode cX2_gainBy 89 = .ok (.lload 7, 2) := by decide +kernel
theorem dX2_gainBy_91 : decode cX2_gainBy 91 = .ok (.lmul, 1) := by decide +kernel
theorem dX2_gainBy_92 : decode cX2_gainBy 92 = .ok (.ldc2_w 86, 3) := by decide +kernel
theorem dX2_gainBy_95 : decode cX2_gainBy 95 = .ok (.ldiv, 1) := by decide +kernel
theorem dX2_gainBy_96 : decode cX2_gainBy 96 = .ok (.ladd, 1) := by decide +kernel
theorem dX2_gainBy_97 : decode cX2_gainBy 97 = .ok (.lstore 4, 2) := by decide +kernel
theorem dX2_gainBy_99 : decode cX2_gainBy 99 = .ok (.iinc 6 1, 3) := by decide +kernel
theorem dX2_gainBy_102 : decode cX2_gainBy 102 = .ok (.goto (-75), 3) := by decide +kernel
theorem dX2_gainBy_105 : decode cX2_gainBy 105 = .ok (.lload 4, 2) := by decide +kernel
theorem dX2_gainBy_107 : decode cX2_gainBy 107 = .ok (.lreturn, 1) := by decide +kernel
theorem dX2_calmWithout_0 : decode cX2_calmWithout 0 = .ok (.aload_n 0, 1) := by decide +kernel
theorem dX2_calmWithout_1 : decode cX2_calmWithout 1 = .ok (.getfield 25, 3) := by decide +kernel
theorem dX2_calmWithout_4 : decode cX2_calmWithout 4 = .ok (.iload_n 2, 1) := by decide +kernel
theorem dX2_calmWithout_5 : decode cX2_calmWithout 5 = .ok (.iaload, 1) := by decide +kernel
theorem dX2_calmWithout_6 : decode cX2_calmWithout 6 = .ok (.istore 4, 2) := by decide +kernel
theorem dX2_calmWithout_8 : decode cX2_calmWithout 8 = .ok (.aload_n 0, 1) := by decide +kernel
theorem dX2_calmWithout_9 : decode cX2_calmWithout 9 = .ok (.iload 4, 2) := by decide +kernel
theorem dX2_calmWithout_11 : decode cX2_calmWithout 11 = .ok (.aload_n 0, 1) := by decide +kernel
theorem dX2_calmWithout_12 : decode cX2_calmWithout 12 = .ok (.iload_n 2, 1) := by decide +kernel
theorem dX2_calmWithout_13 : decode cX2_calmWithout 13 = .ok (.iload_n 3, 1) := by decide +kernel
theorem dX2_calmWithout_14 : decode cX2_calmWithout 14 = .ok (.invokestatic 88, 3) := by decide +kernel
theorem dX2_calmWithout_17 : decode cX2_calmWithout 17 = .ok (.aload_n 1, 1) := by decide +kernel
theorem dX2_calmWithout_18 : decode cX2_calmWithout 18 = .ok (.getfield 31, 3) := by decide +kernel
theorem dX2_calmWithout_21 : decode cX2_calmWithout 21 = .ok (.iload 4, 2) := by decide +kernel
theorem dX2_calmWithout_23 : decode cX2_calmWithout 23 = .ok (.iaload, 1) := by decide +kernel
theorem dX2_calmWithout_24 : decode cX2_calmWithout 24 = .ok (.aload_n 0, 1) := by decide +kernel
theorem dX2_calmWithout_25 : decode cX2_calmWithout 25 = .ok (.getfield 40, 3) := by decide +kernel
theorem dX2_calmWithout_28 : decode cX2_calmWithout 28 = .ok (.iload_n 2, 1) := by decide +kernel
theorem dX2_calmWithout_29 : decode cX2_calmWithout 29 = .ok (.iaload, 1) := by decide +kernel
theorem dX2_calmWithout_30 : decode cX2_calmWithout 30 = .ok (.invokestatic 36, 3) := by decide +kernel
theorem dX2_calmWithout_33 : decode cX2_calmWithout 33 = .ok (.ireturn, 1) := by decide +kernel
theorem dX2_kindsWithout_0 : decode cX2_kindsWithout 0 = .ok (.aload_n 0, 1) := by decide +kernel
theorem dX2_kindsWithout_1 : decode cX2_kindsWithout 1 = .ok (.getfield 28, 3) := by decide +kernel
theorem dX2_kindsWithout_4 : decode cX2_kindsWithout 4 = .ok (.iload_n 1, 1) := by decide +kernel
theorem dX2_kindsWithout_5 : decode cX2_kindsWithout 5 = .ok (.iaload, 1) := by decide +kernel
theorem dX2_kindsWithout_6 : decode cX2_kindsWithout 6 = .ok (.iconst 1, 1) := by decide +kernel
theorem dX2_kindsWithout_7 : decode cX2_kindsWithout 7 = .ok (.iload_n 2, 1) := by decide +kernel
theorem dX2_kindsWithout_8 : decode cX2_kindsWithout 8 = .ok (.ishl, 1) := by decide +kernel
theorem dX2_kindsWithout_9 : decode cX2_kindsWithout 9 = .ok (.iconst (-1), 1) := by decide +kernel
theorem dX2_kindsWithout_10 : decode cX2_kindsWithout 10 = .ok (.ixor, 1) := by decide +kernel
theorem dX2_kindsWithout_11 : decode cX2_kindsWithout 11 = .ok (.iand, 1) := by decide +kernel
theorem dX2_kindsWithout_12 : decode cX2_kindsWithout 12 = .ok (.ireturn, 1) := by decide +kernel
theorem dX2_calmestWithout_0 : decode cX2_calmestWithout 0 = .ok (.iconst (-1), 1) := by decide +kernel
theorem dX2_calmestWithout_1 : decode cX2_calmestWithout 1 = .ok (.istore_n 3, 1) := by decide +kernel
theorem dX2_calmestWithout_2 : decode cX2_calmestWithout 2 = .ok (.iconst (-1), 1) := by decide +kernel
theorem dX2_calmestWithout_3 : decode cX2_calmestWithout 3 = .ok (.istore 4, 2) := by decide +kernel
theorem dX2_calmestWithout_5 : decode cX2_calmestWithout 5 = .ok (.iconst 0, 1) := by decide +kernel
theorem dX2_calmestWithout_6 : decode cX2_calmestWithout 6 = .ok (.istore 5, 2) := by decide +kernel
theorem dX2_calmestWithout_8 : decode cX2_calmestWithout 8 = .ok (.iload 5, 2) := by decide +kernel
theorem dX2_calmestWithout_10 : decode cX2_calmestWithout 10 = .ok (.aload_n 0, 1) := by decide +kernel
theorem dX2_calmestWithout_11 : decode cX2_calmestWithout 11 = .ok (.getfield 78, 3) := by decide +kernel
theorem dX2_calmestWithout_14 : decode cX2_calmestWithout 14 = .ok (.if_icmp .ge 46, 3) := by decide +kernel
theorem dX2_calmestWithout_17 : decode cX2_calmestWithout 17 = .ok (.aload_n 1, 1) := by decide +kernel
theorem dX2_calmestWithout_18 : decode cX2_calmestWithout 18 = .ok (.iload 5, 2) := by decide +kernel
theorem dX2_calmestWithout_20 : decode cX2_calmestWithout 20 = .ok (.invokevirtual 82, 3) := by decide +kernel
theorem dX2_calmestWithout_23 : decode cX2_calmestWithout 23 = .ok (.ifCond .eq 7, 3) := by decide +kernel
theorem dX2_calmestWithout_26 : decode cX2_calmestWithout 26 = .ok (.iconst (-1), 1) := by decide +kernel
theorem dX2_calmestWithout_27 : decode cX2_calmestWithout 27 = .ok (.goto 11, 3) := by decide +kernel
theorem dX2_calmestWithout_30 : decode cX2_calmestWithout 30 = .ok (.aload_n 0, 1) := by decide +kernel
theorem dX2_calmestWithout_31 : decode cX2_calmestWithout 31 = .ok (.aload_n 1, 1) := by decide +kernel
theorem dX2_calmestWithout_32 : decode cX2_calmestWithout 32 = .ok (.iload 5, 2) := by decide +kernel
theorem dX2_calmestWithout_34 : decode cX2_calmestWithout 34 = .ok (.iload_n 2, 1) := by decide +kernel
theorem dX2_calmestWithout_35 : decode cX2_calmestWithout 35 = .ok (.invokestatic 92, 3) := by decide +kernel
theorem dX2_calmestWithout_38 : decode cX2_calmestWithout 38 = .ok (.istore 6, 2) := by decide +kernel
theorem dX2_calmestWithout_40 : decode cX2_calmestWithout 40 = .ok (.iload 6, 2) := by decide +kernel
theorem dX2_calmestWithout_42 : decode cX2_calmestWithout 42 = .ok (.iload 4, 2) := by decide +kernel
theorem dX2_calmestWithout_44 : decode cX2_calmestWithout 44 = .ok (.if_icmp .le 10, 3) := by decide +kernel
theorem dX2_calmestWithout_47 : decode cX2_calmestWithout 47 = .ok (.iload 5, 2) := by decide +kernel
theorem dX2_calmestWithout_49 : decode cX2_calmestWithout 49 = .ok (.istore_n 3, 1) := by decide +kernel
theorem dX2_calmestWithout_50 : decode cX2_calmestWithout 50 = .ok (.iload 6, 2) := by decide +kernel
theorem dX2_calmestWithout_52 : decode cX2_calmestWithout 52 = .ok (.istore 4, 2) := by decide +kernel
theorem dX2_calmestWithout_54 : decode cX2_calmestWithout 54 = .ok (.iinc 5 1, 3) := by decide +kernel
theorem dX2_calmestWithout_57 : decode cX2_calmestWithout 57 = .ok (.goto (-49), 3) := by decide +kernel
theorem dX2_calmestWithout_60 : decode cX2_calmestWithout 60 = .ok (.iload_n 3, 1) := by decide +kernel
theorem dX2_calmestWithout_61 : decode cX2_calmestWithout 61 = .ok (.ireturn, 1) := by decide +kernel
theorem dX2_leftWithoutKind_0 : decode cX2_leftWithoutKind 0 = .ok (.iconst 0, 1) := by decide +kernel
theorem dX2_leftWithoutKind_1 : decode cX2_leftWithoutKind 1 = .ok (.istore_n 3, 1) := by decide +kernel
theorem dX2_leftWithoutKind_2 : decode cX2_leftWithoutKind 2 = .ok (.iconst 0, 1) := by decide +kernel
theorem dX2_leftWithoutKind_3 : decode cX2_leftWithoutKind 3 = .ok (.istore 4, 2) := by decide +kernel
theorem dX2_leftWithoutKind_5 : decode cX2_leftWithoutKind 5 = .ok (.iload 4, 2) := by decide +kernel
theorem dX2_leftWithoutKind_7 : decode cX2_leftWithoutKind 7 = .ok (.aload_n 0, 1) := by decide +kernel
theorem dX2_leftWithoutKind_8 : decode cX2_leftWithoutKind 8 = .ok (.getfield 78, 3) := by decide +kernel
theorem dX2_leftWithoutKind_11 : decode cX2_leftWithoutKind 11 = .ok (.if_icmp .ge 31, 3) := by decide +kernel
theorem dX2_leftWithoutKind_14 : decode cX2_leftWithoutKind 14 = .ok (.aload_n 1, 1) := by decide +kernel
theorem dX2_leftWithoutKind_15 : decode cX2_leftWithoutKind 15 = .ok (.iload 4, 2) := by decide +kernel
theorem dX2_leftWithoutKind_17 : decode cX2_leftWithoutKind 17 = .ok (.invokevirtual 82, 3) := by decide +kernel
theorem dX2_leftWithoutKind_20 : decode cX2_leftWithoutKind 20 = .ok (.ifCond .ne 16, 3) := by decide +kernel
theorem dX2_leftWithoutKind_23 : decode cX2_leftWithoutKind 23 = .ok (.aload_n 0, 1) := by decide +kernel
theorem dX2_leftWithoutKind_24 : decode cX2_leftWithoutKind 24 = .ok (.iload 4, 2) := by decide +kernel
theorem dX2_leftWithoutKind_26 : decode cX2_leftWithoutKind 26 = .ok (.iload_n 2, 1) := by decide +kernel
theorem dX2_leftWithoutKind_27 : decode cX2_leftWithoutKind 27 = .ok (.invokestatic 88, 3) := by decide +kernel
theorem dX2_leftWithoutKind_30 : decode cX2_leftWithoutKind 30 = .ok (.ifCond .ne 6, 3) := by decide +kernel
theorem dX2_leftWithoutKind_33 : decode cX2_leftWithoutKind 33 = .ok (.iinc 3 1, 3) := by decide +kernel
theorem dX2_leftWithoutKind_36 : decode cX2_leftWithoutKind 36 = .ok (.iinc 4 1, 3) := by decide +kernel
theorem dX2_leftWithoutKind_39 : decode cX2_leftWithoutKind 39 = .ok (.goto (-34), 3) := by decide +kernel
theorem dX2_leftWithoutKind_42 : decode cX2_leftWithoutKind 42 = .ok (.iload_n 3, 1) := by decide +kernel
theorem dX2_leftWithoutKind_43 : decode cX2_leftWithoutKind 43 = .ok (.ireturn, 1) := by decide +kernel
theorem dX3_init_0 : decode cX3_init 0 = .ok (.aload_n 0, 1) := by decide +kernel
theorem dX3_init_1 : decode cX3_init 1 = .ok (.invokespecial 3, 3) := by decide +kernel
theorem dX3_init_4 : decode cX3_init 4 = .ok (.aload_n 0, 1) := by decide +kernel
theorem dX3_init_5 : decode cX3_init 5 = .ok (.bipush 30, 2) := by decide +kernel
theorem dX3_init_7 : decode cX3_init 7 = .ok (.anewarray 9, 3) := by decide +kernel
theorem dX3_init_10 : decode cX3_init 10 = .ok (.putfield 11, 3) := by decide +kernel
theorem dX3_init_13 : decode cX3_init 13 = .ok (.aload_n 0, 1) := by decide +kernel
theorem dX3_init_14 : decode cX3_init 14 = .ok (.iconst 0, 1) := by decide +kernel
theorem dX3_init_15 : decode cX3_init 15 = .ok (.putfield 17, 3) := by decide +kernel
theorem dX3_init_18 : decode cX3_init 18 = .ok (.aload_n 0, 1) := by decide +kernel
theorem dX3_init_19 : decode cX3_init 19 = .ok (.iconst 0, 1) := by decide +kernel
theorem dX3_init_20 : decode cX3_init 20 = .ok (.putfield 21, 3) := by decide +kernel
theorem dX3_init_23 : decode cX3_init 23 = .ok (.return_, 1) := by decide +kernel
theorem dX3_forget_0 : decode cX3_forget 0 = .ok (.aload_n 0, 1) := by decide +kernel
theorem dX3_forget_1 : decode cX3_forget 1 = .ok (.iconst 0, 1) := by decide +kernel
theorem dX3_forget_2 : decode cX3_forget 2 = .ok (.putfield 17, 3) := by decide +kernel
theorem dX3_forget_5 : decode cX3_forget 5 = .ok (.aload_n 0, 1) := by decide +kernel
theorem dX3_forget_6 : decode cX3_forget 6 = .ok (.iconst 0, 1) := by decide +kernel
theorem dX3_forget_7 : decode cX3_forget 7 = .ok (.putfield 21, 3) := by decide +kernel
theorem dX3_forget_10 : decode cX3_forget 10 = .ok (.return_, 1) := by decide +kernel
theorem dX3_remember_0 : decode cX3_remember 0 = .ok (.aload_n 0, 1) := by decide +kernel
theorem dX3_remember_1 : decode cX3_remember 1 = .ok (.getfield 11, 3) := by decide +kernel
theorem dX3_remember_4 : decode cX3_remember 4 = .ok (.aload_n 0, 1) := by decide +kernel
theorem dX3_remember_5 : decode cX3_remember 5 = .ok (.getfield 17, 3) := by decide +kernel
theorem dX3_remember_8 : decode cX3_remember 8 = .ok (.aaload, 1) := by decide +kernel
theorem dX3_remember_9 : decode cX3_remember 9 = .ok (.ifnonnull 19, 3) := by decide +kernel
theorem dX3_remember_12 : decode cX3_remember 12 = .ok (.aload_n 0, 1) := by decide +kernel
theorem dX3_remember_13 : decode cX3_remember 13 = .ok (.getfield 11, 3) := by decide +kernel
theorem dX3_remember_16 : decode cX3_remember 16 = .ok (.aload_n 0, 1) := by decide +kernel
theorem dX3_remember_17 : decode cX3_remember 17 = .ok (.getfield 17, 3) := by decide +kernel
theorem dX3_remember_20 : decode cX3_remember 20 = .ok (.new 9, 3) := by decide +kernel
theorem dX3_remember_23 : decode cX3_remember 23 = .ok (.dup, 1) := by decide +kernel
theorem dX3_remember_24 : decode cX3_remember 24 = .ok (.invokespecial 24, 3) := by decide +kernel
theorem dX3_remember_27 : decode cX3_remember 27 = .ok (.aastore, 1) := by decide +kernel
theorem dX3_remember_28 : decode cX3_remember 28 = .ok (.aload_n 0, 1) := by decide +kernel
theorem dX3_remember_29 : decode cX3_remember 29 = .ok (.getfield 11, 3) := by decide +kernel
theorem dX3_remember_32 : decode cX3_remember 32 = .ok (.aload_n 0, 1) := by decide +kernel
theorem dX3_remember_33 : decode cX3_remember 33 = .ok (.getfield 17, 3) := by decide +kernel
theorem dX3_remember_36 : decode cX3_remember 36 = .ok (.aaload, 1) := by decide +kernel
theorem dX3_remember_37 : decode cX3_remember 37 = .ok (.aload_n 1, 1) := by decide +kernel
theorem dX3_remember_38 : decode cX3_remember 38 = .ok (.invokevirtual 25, 3) := by decide +kernel
theorem dX3_remember_41 : decode cX3_remember 41 = .ok (.aload_n 0, 1) := by decide +kernel
theorem dX3_remember_42 : decode cX3_remember 42 = .ok (.aload_n 0, 1) := by decide +kernel
theorem dX3_remember_43 : decode cX3_remember 43 = .ok (.getfield 17, 3) := by decide +kernel
theorem dX3_remember_46 : decode cX3_remember 46 = .ok (.iconst 1, 1) := by decide +kernel
theorem dX3_remember_47 : decode cX3_remember 47 = .ok (.iadd, 1) := by decide +kernel
theorem dX3_remember_48 : decode cX3_remember 48 = .ok (.bipush 30, 2) := by decide +kernel
theorem dX3_remember_50 : decode cX3_remember 50 = .ok (.if_icmp .ge 12, 3) := by decide +kernel
theorem dX3_remember_53 : decode cX3_remember 53 = .ok (.aload_n 0, 1) := by decide +kernel
theorem dX3_remember_54 : decode cX3_remember 54 = .ok (.getfield 17, 3) := by decide +kernel
theorem dX3_remember_57 : decode cX3_remember 57 = .ok (.iconst 1, 1) := by decide +kernel
theorem dX3_remember_58 : decode cX3_remember 58 = .ok (.iadd, 1) := by decide +kernel
theorem dX3_remember_59 : decode cX3_remember 59 = .ok (.goto 4, 3) := by decide +kernel
theorem dX3_remember_62 : decode cX3_remember 62 = .ok (.iconst 0, 1) := by decide +kernel
theorem dX3_remember_63 : decode cX3_remember 63 = .ok (.putfield 17, 3) := by decide +kernel
theorem dX3_remember_66 : decode cX3_remember 66 = .ok (.aload_n 0, 1) := by decide +kernel
theorem dX3_remember_67 : decode cX3_remember 67 = .ok (.bipush 30, 2) := by decide +kernel
theorem dX3_remember_69 : decode cX3_remember 69 = .ok (.aload_n 0, 1) := by decide +kernel
theorem dX3_remember_70 : decode cX3_remember 70 = .ok (.getfield 21, 3) := by decide +kernel
theorem dX3_remember_73 : decode cX3_remember 73 = .ok (.iconst 1, 1) := by decide +kernel
theorem dX3_remember_74 : decode cX3_remember 74 = .ok (.iadd, 1) := by decide +kernel
theorem dX3_remember_75 : decode cX3_remember 75 = .ok (.invokestatic 29, 3) := by decide +kernel
theorem dX3_remember_78 : decode cX3_remember 78 = .ok (.putfield 21, 3) := by decide +kernel
theorem dX3_remember_81 : decode cX3_remember 81 = .ok (.return_, 1) := by decide +kernel
theorem dX3_takeBack_0 : decode cX3_takeBack 0 = .ok (.iload_n 1, 1) := by decide +kernel
theorem dX3_takeBack_1 : decode cX3_takeBack 1 = .ok (.iconst 1, 1) := by decide +kernel
theorem dX3_takeBack_2 : decode cX3_takeBack 2 = .ok (.if_icmp .lt 11, 3) := by decide +kernel
theorem dX3_takeBack_5 : decode cX3_takeBack 5 = .ok (.iload_n 1, 1) := by decide +kernel
theorem dX3_takeBack_6 : decode cX3_takeBack 6 = .ok (.aload_n 0, 1) := by decide +kernel
theorem dX3_takeBack_7 : decode cX3_takeBack 7 = .ok (.getfield 21, 3) := by decide +kernel
theorem dX3_takeBack_10 : decode cX3_takeBack 10 = .ok (.if_icmp .le 4, 3) := by decide +kernel
theorem dX3_takeBack_13 : decode cX3_takeBack 13 = .ok (.return_, 1) := by decide +kernel
theorem dX3_takeBack_14 : decode cX3_takeBack 14 = .ok (.aload_n 0, 1) := by decide +kernel
theorem dX3_takeBack_15 : decode cX3_takeBack 15 = .ok (.aload_n 0, 1) := by decide +kernel
theorem dX3_takeBack_16 : decode cX3_takeBack 16 = .ok (.getfield 17, 3) := by decide +kernel
theorem dX3_takeBack_19 : decode cX3_takeBack 19 = .ok (.iload_n 1, 1) := by decide +kernel
theorem dX3_takeBack_20 : decode cX3_takeBack 20 = .ok (.if_icmp .lt 12, 3) := by decide +kernel
theorem dX3_takeBack_23 : decode cX3_takeBack 23 = .ok (.aload_n 0, 1) := by decide +kernel
theorem dX3_takeBack_24 : decode cX3_takeBack 24 = .ok (.getfield 17, 3) := by decide +kernel
theorem dX3_takeBack_27 : decode cX3_takeBack 27 = .ok (.iload_n 1, 1) := by decide +kernel
theorem dX3_takeBack_28 : decode cX3_takeBack 28 = .ok (.isub, 1) := by decide +kernel
theorem dX3_takeBack_29 : decode cX3_takeBack 29 = .ok (.goto 12, 3) := by decide +kernel
theorem dX3_takeBack_32 : decode cX3_takeBack 32 = .ok (.aload_n 0, 1) := by decide +kernel
theorem dX3_takeBack_33 : decode cX3_takeBack 33 = .ok (.getfield 17, 3) := by decide +kernel
theorem dX3_takeBack_36 : decode cX3_takeBack 36 = .ok (.iload_n 1, 1) := by decide +kernel
theorem dX3_takeBack_37 : decode cX3_takeBack 37 = .ok (.isub, 1) := by decide +kernel
theorem dX3_takeBack_38 : decode cX3_takeBack 38 = .ok (.bipush 30, 2) := by decide +kernel
theorem dX3_takeBack_40 : decode cX3_takeBack 40 = .ok (.iadd, 1) := by decide +kernel
theorem dX3_takeBack_41 : decode cX3_takeBack 41 = .ok (.putfield 17, 3) := by decide +kernel
theorem dX3_takeBack_44 : decode cX3_takeBack 44 = .ok (.aload_n 0, 1) := by decide +kernel
theorem dX3_takeBack_45 : decode cX3_takeBack 45 = .ok (.dup, 1) := by decide +kernel
theorem dX3_takeBack_46 : decode cX3_takeBack 46 = .ok (.getfield 21, 3) := by decide +kernel
theorem dX3_takeBack_49 : decode cX3_takeBack 49 = .ok (.iload_n 1, 1) := by decide +kernel
theorem dX3_takeBack_50 : decode cX3_takeBack 50 = .ok (.isub, 1) := by decide +kernel
theorem dX3_takeBack_51 : decode cX3_takeBack 51 = .ok (.putfield 21, 3) := by decide +kernel
theorem dX3_takeBack_54 : decode cX3_takeBack 54 = .ok (.aload_n 0, 1) := by decide +kernel
theorem dX3_takeBack_55 : decode cX3_takeBack 55 = .ok (.getfield 11, 3) := by decide +kernel
theorem dX3_takeBack_58 : decode cX3_takeBack 58 = .ok (.aload_n 0, 1) := by decide +kernel
theorem dX3_takeBack_59 : decode cX3_takeBack 59 = .ok (.getfield 17, 3) := by decide +kernel
theorem dX3_takeBack_62 : decode cX3_takeBack 62 = .ok (.aaload, 1) := by decide +kernel
theorem dX3_takeBack_63 : decode cX3_takeBack 63 = .ok (.ifnull 16, 3) := by decide +kernel
theorem dX3_takeBack_66 : decode cX3_takeBack 66 = .ok (.aload_n 2, 1) := by decide +kernel
theorem dX3_takeBack_67 : decode cX3_takeBack 67 = .ok (.aload_n 0, 1) := by decide +kernel
theorem dX3_takeBack_68 : decode cX3_takeBack 68 = .ok (.getfield 11, 3) := by decide +kernel
theorem dX3_takeBack_71 : decode cX3_takeBack 71 = .ok (.aload_n 0, 1) := by decide +kernel
theorem dX3_takeBack_72 : decode cX3_takeBack 72 = .ok (.getfield 17, 3) := by decide +kernel
theorem dX3_takeBack_75 : decode cX3_takeBack 75 = .ok (.aaload, 1) := by decide +kernel
theorem dX3_takeBack_76 : decode cX3_takeBack 76 = .ok (.invokevirtual 25, 3) := by decide +kernel
theorem dX3_takeBack_79 : decode cX3_takeBack 79 = .ok (.return_, 1) := by decide +kernel
theorem dX4_init_0 : decode cX4_init 0 = .ok (.aload_n 0, 1) := by decide +kernel
theorem dX4_init_1 : decode cX4_init 1 = .ok (.invokespecial 3, 3) := by decide +kernel
theorem dX4_init_4 : decode cX4_init 4 = .ok (.aload_n 0, 1) := by decide +kernel
theorem dX4_init_5 : decode cX4_init 5 = .ok (.new 9, 3) := by decide +kernel
theorem dX4_init_8 : decode cX4_init 8 = .ok (.dup, 1) := by decide +kernel
theorem dX4_init_9 : decode cX4_init 9 = .ok (.invokespecial 11, 3) := by decide +kernel
theorem dX4_init_12 : decode cX4_init 12 = .ok (.putfield 12, 3) := by decide +kernel
theorem dX4_init_15 : decode cX4_init 15 = .ok (.aload_n 0, 1) := by decide +kernel
theorem dX4_init_16 : decode cX4_init 16 = .ok (.iconst (-1), 1) := by decide +kernel
theorem dX4_init_17 : decode cX4_init 17 = .ok (.putfield 18, 3) := by decide +kernel
theorem dX4_init_20 : decode cX4_init 20 = .ok (.aload_n 0, 1) := by decide +kernel
theorem dX4_init_21 : decode cX4_init 21 = .ok (.iconst 0, 1) := by decide +kernel
theorem dX4_init_22 : decode cX4_init 22 = .ok (.putfield 22, 3) := by decide +kernel
theorem dX4_init_25 : decode cX4_init 25 = .ok (.aload_n 0, 1) := by decide +kernel
theorem dX4_init_26 : decode cX4_init 26 = .ok (.iconst 0, 1) := by decide +kernel
theorem dX4_init_27 : decode cX4_init 27 = .ok (.putfield 25, 3) := by decide +kernel
theorem dX4_init_30 : decode cX4_init 30 = .ok (.aload_n 0, 1) := by decide +kernel
theorem dX4_init_31 : decode cX4_init 31 = .ok (.sipush 250, 3) := by decide +kernel
theorem dX4_init_34 : decode cX4_init 34 = .ok (.newarray .int, 2) := by decide +kernel
theorem dX4_init_36 : decode cX4_init 36 = .ok (.putfield 28, 3) := by decide +kernel
theorem dX4_init_39 : decode cX4_init 39 = .ok (.aload_n 0, 1) := by decide +kernel
theorem dX4_init_40 : decode cX4_init 40 = .ok (.iconst 0, 1) := by decide +kernel
theorem dX4_init_41 : decode cX4_init 41 = .ok (.putfield 32, 3) := by decide +kernel
theorem dX4_init_44 : decode cX4_init 44 = .ok (.aload_n 0, 1) := by decide +kernel
theorem dX4_init_45 : decode cX4_init 45 = .ok (.iconst 0, 1) := by decide +kernel
theorem dX4_init_46 : decode cX4_init 46 = .ok (.putfield 35, 3) := by decide +kernel
theorem dX4_init_49 : decode cX4_init 49 = .ok (.aload_n 0, 1) := by decide +kernel
theorem dX4_init_50 : decode cX4_init 50 = .ok (.iconst 5, 1) := by decide +kernel
theorem dX4_init_51 : decode cX4_init 51 = .ok (.newarray .int, 2) := by decide +kernel
theorem dX4_init_53 : decode cX4_init 53 = .ok (.putfield 39, 3) := by decide +kernel
theorem dX4_init_56 : decode cX4_init 56 = .ok (.return_, 1) := by decide +kernel
theorem dX4_addLetter_0 : decode cX4_addLetter 0 = .ok (.aload_n 0, 1) := by decide +kernel
theorem dX4_addLetter_1 : decode cX4_addLetter 1 = .ok (.getfield 25, 3) := by decide +kernel
theorem dX4_addLetter_4 : decode cX4_addLetter 4 = .ok (.sipush 250, 3) := by decide +kernel
theorem dX4_addLetter_7 : decode cX4_addLetter 7 = .ok (.if_icmp .lt 6, 3) := by decide +kernel
theorem dX4_addLetter_10 : decode cX4_addLetter 10 = .ok (.ldc 42, 2) := by decide +kernel
theorem dX4_addLetter_12 : decode cX4_addLetter 12 = .ok (.ireturn, 1) := by decide +kernel
theorem dX4_addLetter_13 : decode cX4_addLetter 13 = .ok (.aload_n 0, 1) := by decide +kernel
theorem dX4_addLetter_14 : decode cX4_addLetter 14 = .ok (.getfield 28, 3) := by decide +kernel
theorem dX4_addLetter_17 : decode cX4_addLetter 17 = .ok (.aload_n 0, 1) := by decide +kernel
theorem dX4_addLetter_18 : decode cX4_addLetter 18 = .ok (.getfield 25, 3) := by decide +kernel
theorem dX4_addLetter_21 : decode cX4_addLetter 21 = .ok (.iload_n 1, 1) := by decide +kernel
theorem dX4_addLetter_22 : decode cX4_addLetter 22 = .ok (.iastore, 1) := by decide +kernel
theorem dX4_addLetter_23 : decode cX4_addLetter 23 = .ok (.aload_n 0, 1) := by decide +kernel
theorem dX4_addLetter_24 : decode cX4_addLetter 24 = .ok (.dup, 1) := by decide +kernel
theorem dX4_addLetter_25 : decode cX4_addLetter 25 = .ok (.getfield 25, 3) := by decide +kernel
theorem dX4_addLetter_28 : decode cX4_addLetter 28 = .ok (.iconst 1, 1) := by decide +kernel
theorem dX4_addLetter_29 : decode cX4_addLetter 29 = .ok (.iadd, 1) := by decide +kernel
theorem dX4_addLetter_30 : decode cX4_addLetter 30 = .ok (.putfield 25, 3) := by decide +kernel
theorem dX4_addLetter_33 : decode cX4_addLetter 33 = .ok (.aload_n 0, 1) := by decide +kernel
theorem dX4_addLetter_34 : decode cX4_addLetter 34 = .ok (.getfield 25, 3) := by decide +kernel
theorem dX4_addLetter_37 : decode cX4_addLetter 37 = .ok (.ireturn, 1) := by decide +kernel
theorem dX4_readText_0 : decode cX4_readText 0 = .ok (.aload_n 0, 1) := by decide +kernel
theorem dX4_readText_1 : decode cX4_readText 1 = .ok (.iconst 0, 1) := by decide +kernel
theorem dX4_readText_2 : decode cX4_readText 2 = .ok (.putfield 32, 3) := by decide +kernel
theorem dX4_readText_5 : decode cX4_readText 5 = .ok (.aload_n 0, 1) := by decide +kernel
theorem dX4_readText_6 : decode cX4_readText 6 = .ok (.iconst 0, 1) := by decide +kernel
theorem dX4_readText_7 : decode cX4_readText 7 = .ok (.putfield 35, 3) := by decide +kernel
theorem dX4_readText_10 : decode cX4_readText 10 = .ok (.aload_n 0, 1) := by decide +kernel
theorem dX4_readText_11 : decode cX4_readText 11 = .ok (.iconst 0, 1) := by decide +kernel
theorem dX4_readText_12 : decode cX4_readText 12 = .ok (.putfield 22, 3) := by decide +kernel
theorem dX4_readText_15 : decode cX4_readText 15 = .ok (.aload_n 0, 1) := by decide +kernel
theorem dX4_readText_16 : decode cX4_readText 16 = .ok (.iconst (-1), 1) := by decide +kernel
theorem dX4_readText_17 : decode cX4_readText 17 = .ok (.putfield 18, 3) := by decide +kernel
theorem dX4_readText_20 : decode cX4_readText 20 = .ok (.aload_n 0, 1) := by decide +kernel
theorem dX4_readText_21 : decode cX4_readText 21 = .ok (.getfield 12, 3) := by decide +kernel
theorem dX4_readText_24 : decode cX4_readText 24 = .ok (.invokevirtual 43, 3) := by decide +kernel
theorem dX4_readText_27 : decode cX4_readText 27 = .ok (.aload_n 0, 1) := by decide +kernel
theorem dX4_readText_28 : decode cX4_readText 28 = .ok (.invokevirtual 46, 3) := by decide +kernel
theorem dX4_readText_31 : decode cX4_readText 31 = .ok (.iconst 0, 1) := by decide +kernel
theorem dX4_readText_32 : decode cX4_readText 32 = .ok (.istore_n 1, 1) := by decide +kernel
theorem dX4_readText_33 : decode cX4_readText 33 = .ok (.iload_n 1, 1) := by decide +kernel
theorem dX4_readText_34 : decode cX4_readText 34 = .ok (.sipush 250, 3) := by decide +kernel
theorem dX4_readText_37 : decode cX4_readText 37 = .ok (.if_icmp .ge 35, 3) := by decide +kernel
theorem dX4_readText_40 : decode cX4_readText 40 = .ok (.aload_n 0, 1) := by decide +kernel
theorem dX4_readText_41 : decode cX4_readText 41 = .ok (.invokevirtual 49, 3) := by decide +kernel
theorem dX4_readText_44 : decode cX4_readText 44 = .ok (.ifCond .eq 28, 3) := by decide +kernel
theorem dX4_readText_47 : decode cX4_readText 47 = .ok (.aload_n 0, 1) := by decide +kernel
theorem dX4_readText_48 : decode cX4_readText 48 = .ok (.getfield 32, 3) := by decide +kernel
theorem dX4_readText_51 : decode cX4_readText 51 = .ok (.aload_n 0, 1) := by decide +kernel
theorem dX4_readText_52 : decode cX4_readText 52 = .ok (.getfield 25, 3) := by decide +kernel
theorem dX4_readText_55 : decode cX4_readText 55 = .ok (.if_icmp .ge 17, 3) := by decide +kernel
theorem dX4_readText_58 : decode cX4_readText 58 = .ok (.aload_n 0, 1) := by decide +kernel
theorem dX4_readText_59 : decode cX4_readText 59 = .ok (.invokevirtual 53, 3) := by decide +kernel
theorem dX4_readText_62 : decode cX4_readText 62 = .ok (.aload_n 0, 1) := by decide +kernel
theorem dX4_readText_63 : decode cX4_readText 63 = .ok (.invokevirtual 46, 3) := by decide +kernel
theorem dX4_readText_66 : decode cX4_readText 66 = .ok (.iinc 1 1, 3) := by decide +kernel
theorem dX4_readText_69 : decode cX4_readText 69 = .ok (.goto (-36), 3) := by decide +kernel
theorem dX4_readText_72 : decode cX4_readText 72 = .ok (.aload_n 0, 1) := by decide +kernel
theorem dX4_readText_73 : decode cX4_readText 73 = .ok (.iconst 0, 1) := by decide +kernel
theorem dX4_readText_74 : decode cX4_readText 74 = .ok (.putfield 25, 3) := by decide +kernel
theorem dX4_readText_77 : decode cX4_readText 77 = .ok (.aload_n 0, 1) := by decide +kernel
theorem dX4_readText_78 : decode cX4_readText 78 = .ok (.getfield 22, 3) := by decide +kernel
theorem dX4_readText_81 : decode cX4_readText 81 = .ok (.ireturn, 1) := by decide +kernel
theorem dX4_goesOn_0 : decode cX4_goesOn 0 = .ok (.aload_n 0, 1) := by decide +kernel
theorem dX4_goesOn_1 : decode cX4_goesOn 1 = .ok (.getfield 22, 3) := by decide +kernel
theorem dX4_goesOn_4 : decode cX4_goesOn 4 = .ok (.ifCond .ne 7, 3) := by decide +kernel
theorem dX4_goesOn_7 : decode cX4_goesOn 7 = .ok (.iconst 1, 1) := by decide +kernel
theorem dX4_goesOn_8 : decode cX4_goesOn 8 = .ok (.goto 4, 3) := by decide +kernel
theorem dX4_goesOn_11 : decode cX4_goesOn 11 = .ok (.iconst 0, 1) := by decide +kernel
theorem dX4_goesOn_12 : decode cX4_goesOn 12 = .ok (.ireturn, 1) := by decide +kernel
theorem dX4_faultAt_0 : decode cX4_faultAt 0 = .ok (.aload_n 0, 1) := by decide +kernel
theorem dX4_faultAt_1 : decode cX4_faultAt 1 = .ok (.iload_n 1, 1) := by decide +kernel
theorem dX4_faultAt_2 : decode cX4_faultAt 2 = .ok (.putfield 22, 3) := by decide +kernel
theorem dX4_faultAt_5 : decode cX4_faultAt 5 = .ok (.aload_n 0, 1) := by decide +kernel
theorem dX4_faultAt_6 : decode cX4_faultAt 6 = .ok (.iload_n 2, 1) := by decide +kernel
theorem dX4_faultAt_7 : decode cX4_faultAt 7 = .ok (.putfield 18, 3) := by decide +kernel
theorem dX4_faultAt_10 : decode cX4_faultAt 10 = .ok (.return_, 1) := by decide +kernel
theorem dX4_skipBlanks_0 : decode cX4_skipBlanks 0 = .ok (.aload_n 0, 1) := by decide +kernel
theorem dX4_skipBlanks_1 : decode cX4_skipBlanks 1 = .ok (.getfield 32, 3) := by decide +kernel
theorem dX4_skipBlanks_4 : decode cX4_skipBlanks 4 = .ok (.aload_n 0, 1) := by decide +kernel
theorem dX4_skipBlanks_5 : decode cX4_skipBlanks 5 = .ok (.getfield 25, 3) := by decide +kernel
theorem dX4_skipBlanks_8 : decode cX4_skipBlanks 8 = .ok (.if_icmp .ge 30, 3) := by decide +kernel
theorem dX4_skipBlanks_11 : decode cX4_skipBlanks 11 = .ok (.aload_n 0, 1) := by decide +kernel
theorem dX4_skipBlanks_12 : decode cX4_skipBlanks 12 = .ok (.getfield 28, 3) := by decide +kernel
theorem dX4_skipBlanks_15 : decode cX4_skipBlanks 15 = .ok (.aload_n 0, 1) := by decide +kernel
theorem dX4_skipBlanks_16 : decode cX4_skipBlanks 16 = .ok (.getfield 32, 3) := by decide +kernel
theorem dX4_skipBlanks_19 : decode cX4_skipBlanks 19 = .ok (.iaload, 1) := by decide +kernel
theorem dX4_skipBlanks_20 : decode cX4_skipBlanks 20 = .ok (.bipush 32, 2) := by decide +kernel
theorem dX4_skipBlanks_22 : decode cX4_skipBlanks 22 = .ok (.if_icmp .ne 16, 3) := by decide +kernel
theorem dX4_skipBlanks_25 : decode cX4_skipBlanks 25 = .ok (.aload_n 0, 1) := by decide +kernel
theorem dX4_skipBlanks_26 : decode cX4_skipBlanks 26 = .ok (.dup, 1) := by decide +kernel
theorem dX4_skipBlanks_27 : decode cX4_skipBlanks 27 = .ok (.getfield 32, 3) := by decide +kernel
theorem dX4_skipBlanks_30 : decode cX4_skipBlanks 30 = .ok (.iconst 1, 1) := by decide +kernel
theorem dX4_skipBlanks_31 : decode cX4_skipBlanks 31 = .ok (.iadd, 1) := by decide +kernel
theorem dX4_skipBlanks_32 : decode cX4_skipBlanks 32 = .ok (.putfield 32, 3) := by decide +kernel
theorem dX4_skipBlanks_35 : decode cX4_skipBlanks 35 = .ok (.goto (-35), 3) := by decide +kernel
theorem dX4_skipBlanks_38 : decode cX4_skipBlanks 38 = .ok (.return_, 1) := by decide +kernel
theorem dX4_readClause_0 : decode cX4_readClause 0 = .ok (.aload_n 0, 1) := by decide +kernel
theorem dX4_readClause_1 : decode cX4_readClause 1 = .ok (.getfield 28, 3) := by decide +kernel
theorem dX4_readClause_4 : decode cX4_readClause 4 = .ok (.aload_n 0, 1) := by decide +kernel
theorem dX4_readClause_5 : decode cX4_readClause 5 = .ok (.getfield 32, 3) := by decide +kernel
theorem dX4_readClause_8 : decode cX4_readClause 8 = .ok (.iaload, 1) := by decide +kernel
theorem dX4_readClause_9 : decode cX4_readClause 9 = .ok (.istore_n 1, 1) := by decide +kernel
theorem dX4_readClause_10 : decode cX4_readClause 10 = .ok (.aload_n 0, 1) := by decide +kernel
theorem dX4_readClause_11 : decode cX4_readClause 11 = .ok (.iload_n 1, 1) := by decide +kernel
theorem dX4_readClause_12 : decode cX4_readClause 12 = .ok (.invokevirtual 56, 3) := by decide +kernel
theorem dX4_readClause_15 : decode cX4_readClause 15 = .ok (.istore_n 2, 1) := by decide +kernel
theorem dX4_readClause_16 : decode cX4_readClause 16 = .ok (.iload_n 2, 1) := by decide +kernel
theorem dX4_readClause_17 : decode cX4_readClause 17 = .ok (.ifCond .eq 13, 3) := by decide +kernel
theorem dX4_readClause_20 : decode cX4_readClause 20 = .ok (.aload_n 0, 1) := by decide +kernel
theorem dX4_readClause_21 : decode cX4_readClause 21 = .ok (.iload_n 2, 1) := by decide +kernel
theorem dX4_readClause_22 : decode cX4_readClause 22 = .ok (.aload_n 0, 1) := by decide +kernel
theorem dX4_readClause_23 : decode cX4_readClause 23 = .ok (.getfield 32, 3) := by decide +kernel
theorem dX4_readClause_26 : decode cX4_readClause 26 = .ok (.invokevirtual 60, 3) := by decide +kernel
theorem dX4_readClause_29 : decode cX4_readClause 29 = .ok (.return_, 1) := by decide +kernel
theorem dX4_readClause_30 : decode cX4_readClause 30 = .ok (.aload_n 0, 1) := by decide +kernel
theorem dX4_readClause_31 : decode cX4_readClause 31 = .ok (.dup, 1) := by decide +kernel
theorem dX4_readClause_32 : decode cX4_readClause 32 = .ok (.getfield 32, 3) := by decide +kernel
theorem dX4_readClause_35 : decode cX4_readClause 35 = .ok (.iconst 1, 1) := by decide +kernel
theorem dX4_readClause_36 : decode cX4_readClause 36 = .ok (.iadd, 1) := by decide +kernel
theorem dX4_readClause_37 : decode cX4_readClause 37 = .ok (.putfield 32, 3) := by decide +kernel
theorem dX4_readClause_40 : decode cX4_readClause 40 = .ok (.iload_n 1, 1) := by decide +kernel
theorem dX4_readClause_41 : decode cX4_readClause 41 = .ok (.bipush 111, 2) := by decide +kernel
theorem dX4_readClause_43 : decode cX4_readClause 43 = .ok (.if_icmp .ne 15, 3) := by decide +kernel
theorem dX4_readClause_46 : decode cX4_readClause 46 = .ok (.aload_n 0, 1) := by decide +kernel
theorem dX4_readClause_47 : decode cX4_readClause 47 = .ok (.iconst 0, 1) := by decide +kernel
theorem dX4_readClause_48 : decode cX4_readClause 48 = .ok (.iconst 0, 1) := by decide +kernel
theorem dX4_readClause_49 : decode cX4_readClause 49 = .ok (.sipush 999, 3) := by decide +kernel
theorem dX4_readClause_52 : decode cX4_readClause 52 = .ok (.invokevirtual 64, 3) := by decide +kernel
theorem dX4_readClause_55 : decode cX4_readClause 55 = .ok (.goto 20, 3) := by decide +kernel
theorem dX4_readClause_58 : decode cX4_readClause 58 = .ok (.iload_n 1, 1) := by decide +kernel
theorem dX4_readClause_59 : decode cX4_readClause 59 = .ok (.bipush 108, 2) := by decide +kernel
theorem dX4_readClause_61 : decode cX4_readClause 61 = .ok (.if_icmp .ne 10, 3) := by decide +kernel
theorem dX4_readClause_64 : decode cX4_readClause 64 = .ok (.aload_n 0, 1) := by decide +kernel
theorem dX4_readClause_65 : decode cX4_readClause 65 = .ok (.invokevirtual 68, 3) := by decide +kernel
theorem dX4_readClause_68 : decode cX4_readClause 68 = .ok (.goto 7, 3) := by decide +kernel
theorem dX4_readClause_71 : decode cX4_readClause 71 = .ok (.aload_n 0, 1) := by decide +kernel
theorem dX4_readClause_72 : decode cX4_readClause 72 = .ok (.invokevirtual 71, 3) := by decide +kernel
theorem dX4_readClause_75 : decode cX4_readClause 75 = .ok (.aload_n 0, 1) := by decide +kernel
theorem dX4_readClause_76 : decode cX4_readClause 76 = .ok (.invokevirtual 74, 3) := by decide +kernel
theorem dX4_readClause_79 : decode cX4_readClause 79 = .ok (.aload_n 0, 1) := by decide +kernel
theorem dX4_readClause_80 : decode cX4_readClause 80 = .ok (.invokevirtual 49, 3) := by decide +kernel
theorem dX4_readClause_83 : decode cX4_readClause 83 = .ok (.ifCond .eq 8, 3) := by decide +kernel
theorem dX4_readClause_86 : decode cX4_readClause 86 = .ok (.aload_n 0, 1) := by decide +kernel
theorem dX4_readClause_87 : decode cX4_readClause 87 = .ok (.iload_n 1, 1) := by decide +kernel
theorem dX4_readClause_88 : decode cX4_readClause 88 = .ok (.invokevirtual 77, 3) := by decide +kernel
theorem dX4_readClause_91 : decode cX4_readClause 91 = .ok (.return_, 1) := by decide +kernel
theorem dX4_faultOfWord_0 : decode cX4_faultOfWord 0 = .ok (.iload_n 1, 1) := by decide +kernel
theorem dX4_faultOfWord_1 : decode cX4_faultOfWord 1 = .ok (.bipush 111, 2) := by decide +kernel
theorem dX4_faultOfWord_3 : decode cX4_faultOfWord 3 = .ok (.if_icmp .ne 7, 3) := by decide +kernel
theorem dX4_faultOfWord_6 : decode cX4_faultOfWord 6 = .ok (.iconst 1, 1) := by decide +kernel
theorem dX4_faultOfWord_7 : decode cX4_faultOfWord 7 = .ok (.goto 4, 3) := by decide +kernel
theorem dX4_faultOfWord_10 : decode cX4_faultOfWord 10 = .ok (.iconst 0, 1) := by decide +kernel
theorem dX4_faultOfWord_11 : decode cX4_faultOfWord 11 = .ok (.istore_n 2, 1) := by decide +kernel
theorem dX4_faultOfWord_12 : decode cX4_faultOfWord 12 = .ok (.iload_n 1, 1) := by decide +kernel
theorem dX4_faultOfWord_13 : decode cX4_faultOfWord 13 = .ok (.bipush 108, 2) := by decide +kernel
theorem dX4_faultOfWord_15 : decode cX4_faultOfWord 15 = .ok (.if_icmp .eq 9, 3) := by decide +kernel
theorem dX4_faultOfWord_18 : decode cX4_faultOfWord 18 = .ok (.iload_n 1, 1) := by decide +kernel
theorem dX4_faultOfWord_19 : decode cX4_faultOfWord 19 = .ok (.bipush 112, 2) := by decide +kernel
theorem dX4_faultOfWord_21 : decode cX4_faultOfWord 21 = .ok (.if_icmp .ne 7, 3) := by decide +kernel
theorem dX4_faultOfWord_24 : decode cX4_faultOfWord 24 = .ok (.iconst 1, 1) := by decide +kernel
theorem dX4_faultOfWord_25 : decode cX4_faultOfWord 25 = .ok (.goto 4, 3) := by decide +kernel
theorem dX4_faultOfWord_28 : decode cX4_faultOfWord 28 = .ok (.iconst 0, 1) := by decide +kernel
theorem dX4_faultOfWord_29 : decode cX4_faultOfWord 29 = .ok (.istore_n 3, 1) := by decide +kernel
theorem dX4_faultOfWord_30 : decode cX4_faultOfWord 30 = .ok (.iload_n 2, 1) := by decide +kernel
theorem dX4_faultOfWord_31 : decode cX4_faultOfWord 31 = .ok (.ifCond .ne 16, 3) := by decide +kernel
theorem dX4_faultOfWord_34 : decode cX4_faultOfWord 34 = .ok (.aload_n 0, 1) := by decide +kernel
theorem dX4_faultOfWord_35 : decode cX4_faultOfWord 35 = .ok (.getfield 35, 3) := by decide +kernel
theorem dX4_faultOfWord_38 : decode cX4_faultOfWord 38 = .ok (.ifCond .eq 7, 3) := by decide +kernel
theorem dX4_faultOfWord_41 : decode cX4_faultOfWord 41 = .ok (.iload_n 3, 1) := by decide +kernel
theorem dX4_faultOfWord_42 : decode cX4_faultOfWord 42 = .ok (.ifCond .ne 5, 3) := by decide +kernel
theorem dX4_faultOfWord_45 : decode cX4_faultOfWord 45 = .ok (.iconst 1, 1) := by decide +kernel
theorem dX4_faultOfWord_46 : decode cX4_faultOfWord 46 = .ok (.ireturn, 1) := by decide +kernel
theorem dX4_faultOfWord_47 : decode cX4_faultOfWord 47 = .ok (.iload_n 2, 1) := by decide +kernel
theorem dX4_faultOfWord_48 : decode cX4_faultOfWord 48 = .ok (.ifCond .eq 10, 3) := by decide +kernel
theorem dX4_faultOfWord_51 : decode cX4_faultOfWord 51 = .ok (.aload_n 0, 1) := by decide +kernel
theorem dX4_faultOfWord_52 : decode cX4_faultOfWord 52 = .ok (.getfield 35, 3) := by decide +kernel
theorem dX4_faultOfWord_55 : decode cX4_faultOfWord 55 = .ok (.goto 45, 3) := by decide +kernel
theorem dX4_faultOfWord_58 : decode cX4_faultOfWord 58 = .ok (.iload_n 1, 1) := by decide +kernel
theorem dX4_faultOfWord_59 : decode cX4_faultOfWord 59 = .ok (.bipush 108, 2) := by decide +kernel
theorem dX4_faultOfWord_61 : decode cX4_faultOfWord 61 = .ok (.if_icmp .ne 22, 3) := by decide +kernel
theorem dX4_faultOfWord_64 : decode cX4_faultOfWord 64 = .ok (.aload_n 0, 1) := by decide +kernel
theorem dX4_faultOfWord_65 : decode cX4_faultOfWord 65 = .ok (.getfield 12, 3) := by decide +kernel
theorem dX4_faultOfWord_68 : decode cX4_faultOfWord 68 = .ok (.getfield 81, 3) := by decide +kernel
theorem dX4_faultOfWord_71 : decode cX4_faultOfWord 71 = .ok (.iconst 4, 1) := by decide +kernel
theorem dX4_faultOfWord_72 : decode cX4_faultOfWord 72 = .ok (.if_icmp .lt 7, 3) := by decide +kernel
theorem dX4_faultOfWord_75 : decode cX4_faultOfWord 75 = .ok (.iconst 1, 1) := by decide +kernel
theorem dX4_faultOfWord_76 : decode cX4_faultOfWord 76 = .ok (.goto 24, 3) := by decide +kernel
theorem dX4_faultOfWord_79 : decode cX4_faultOfWord 79 = .ok (.iconst 0, 1) := by decide +kernel
theorem dX4_faultOfWord_80 : decode cX4_faultOfWord 80 = .ok (.goto 20, 3) := by decide +kernel
theorem dX4_faultOfWord_83 : decode cX4_faultOfWord 83 = .ok (.aload_n 0, 1) := by decide +kernel
theorem dX4_faultOfWord_84 : decode cX4_faultOfWord 84 = .ok (.getfield 12, 3) := by decide +kernel
theorem dX4_faultOfWord_87 : decode cX4_faultOfWord 87 = .ok (.getfield 84, 3) := by decide +kernel
theorem dX4_faultOfWord_90 : decode cX4_faultOfWord 90 = .ok (.bipush 6, 2) := by decide +kernel
theorem dX4_faultOfWord_92 : decode cX4_faultOfWord 92 = .ok (.if_icmp .lt 7, 3) := by decide +kernel
theorem dX4_faultOfWord_95 : decode cX4_faultOfWord 95 = .ok (.iconst 1, 1) := by decide +kernel
theorem dX4_faultOfWord_96 : decode cX4_faultOfWord 96 = .ok (.goto 4, 3) := by decide +kernel
theorem dX4_faultOfWord_99 : decode cX4_faultOfWord 99 = .ok (.iconst 0, 1) := by decide +kernel
theorem dX4_faultOfWord_100 : decode cX4_faultOfWord 100 = .ok (.istore 4, 2) := by decide +kernel
theorem dX4_faultOfWord_102 : decode cX4_faultOfWord 102 = .ok (.iload 4, 2) := by decide +kernel
theorem dX4_faultOfWord_104 : decode cX4_faultOfWord 104 = .ok (.ifCond .eq 7, 3) := by decide +kernel
theorem dX4_faultOfWord_107 : decode cX4_faultOfWord 107 = .ok (.iconst 3, 1) := by decide +kernel
theorem dX4_faultOfWord_108 : decode cX4_faultOfWord 108 = .ok (.goto 4, 3) := by decide +kernel
theorem dX4_faultOfWord_111 : decode cX4_faultOfWord 111 = .ok (.iconst 0, 1) := by decide +kernel
theorem dX4_faultOfWord_112 : decode cX4_faultOfWord 112 = .ok (.ireturn, 1) := by decide +kernel
theorem dX4_readLifeNumbers_0 : decode cX4_readLifeNumbers 0 = .ok (.iconst 0, 1) := by decide +kernel
theorem dX4_readLifeNumbers_1 : decode cX4_readLifeNumbers 1 = .ok (.istore_n 1, 1) := by decide +kernel
theorem dX4_readLifeNumbers_2 : decode cX4_readLifeNumbers 2 = .ok (.iload_n 1, 1) := by decide +kernel
theorem dX4_readLifeNumbers_3 : decode cX4_readLifeNumbers 3 = .ok (.iconst 4, 1) := by decide +kernel
theorem dX4_readLifeNumbers_4 : decode cX4_readLifeNumbers 4 = .ok (.if_icmp .ge 18, 3) := by decide +kernel
theorem dX4_readLifeNumbers_7 : decode cX4_readLifeNumbers 7 = .ok (.aload_n 0, 1) := by decide +kernel
theorem dX4_readLifeNumbers_8 : decode cX4_readLifeNumbers 8 = .ok (.iload_n 1, 1) := by decide +kernel
theorem dX4_readLifeNumbers_9 : decode cX4_readLifeNumbers 9 = .ok (.iconst 0, 1) := by decide +kernel
theorem dX4_readLifeNumbers_10 : decode cX4_readLifeNumbers 10 = .ok (.sipush 200, 3) := by decide +kernel
theorem dX4_readLifeNumbers_13 : decode cX4_readLifeNumbers 13 = .ok (.invokevirtual 64, 3) := by decide +kernel
theorem dX4_readLifeNumbers_16 : decode cX4_readLifeNumbers 16 = .ok (.iinc 1 1, 3) := by decide +kernel
theorem dX4_readLifeNumbers_19 : decode cX4_readLifeNumbers 19 = .ok (.goto (-17), 3) := by decide +kernel
theorem dX4_readLifeNumbers_22 : decode cX4_readLifeNumbers 22 = .ok (.aload_n 0, 1) := by decide +kernel
theorem dX4_readLifeNumbers_23 : decode cX4_readLifeNumbers 23 = .ok (.iconst 4, 1) := by decide +kernel
theorem dX4_readLifeNumbers_24 : decode cX4_readLifeNumbers 24 = .ok (.iconst 0, 1) := by decide +kernel
theorem dX4_readLifeNumbers_25 : decode cX4_readLifeNumbers 25 = .ok (.iconst 2, 1) := by decide +kernel
theorem dX4_readLifeNumbers_26 : decode cX4_readLifeNumbers 26 = .ok (.invokevirtual 64, 3) := by decide +kernel
theorem dX4_readLifeNumbers_29 : decode cX4_readLifeNumbers 29 = .ok (.return_, 1) := by decide +kernel
theorem dX4_readPolicyNumbers_0 : decode cX4_readPolicyNumbers 0 = .ok (.aload_n 0, 1) := by decide +kernel
theorem dX4_readPolicyNumbers_1 : decode cX4_readPolicyNumbers 1 = .ok (.iconst 0, 1) := by decide +kernel
theorem dX4_readPolicyNumbers_2 : decode cX4_readPolicyNumbers 2 = .ok (.iconst 0, 1) := by decide +kernel
theorem dX4_readPolicyNumbers_3 : decode cX4_readPolicyNumbers 3 = .ok (.aload_n 0, 1) := by decide +kernel
theorem dX4_readPolicyNumbers_4 : decode cX4_readPolicyNumbers 4 = .ok (.getfield 12, 3) := by decide +kernel
theorem dX4_readPolicyNumbers_7 : decode cX4_readPolicyNumbers 7 = .ok (.getfield 81, 3) := by decide +kernel
theorem dX4_readPolicyNumbers_10 : decode cX4_readPolicyNumbers 10 = .ok (.iconst 1, 1) := by decide +kernel
theorem dX4_readPolicyNumbers_11 : decode cX4_readPolicyNumbers 11 = .ok (.isub, 1) := by decide +kernel
theorem dX4_readPolicyNumbers_12 : decode cX4_readPolicyNumbers 12 = .ok (.invokevirtual 64, 3) := by decide +kernel
theorem dX4_readPolicyNumbers_15 : decode cX4_readPolicyNumbers 15 = .ok (.aload_n 0, 1) := by decide +kernel
theorem dX4_readPolicyNumbers_16 : decode cX4_readPolicyNumbers 16 = .ok (.iconst 1, 1) := by decide +kernel
theorem dX4_readPolicyNumbers_17 : decode cX4_readPolicyNumbers 17 = .ok (.iconst 1, 1) := by decide +kernel
theorem dX4_readPolicyNumbers_18 : decode cX4_readPolicyNumbers 18 = .ok (.bipush 15, 2) := by decide +kernel
theorem dX4_readPolicyNumbers_20 : decode cX4_readPolicyNumbers 20 = .ok (.invokevirtual 64, 3) := by decide +kernel
theorem dX4_readPolicyNumbers_23 : decode cX4_readPolicyNumbers 23 = .ok (.aload_n 0, 1) := by decide +kernel
theorem dX4_readPolicyNumbers_24 : decode cX4_readPolicyNumbers 24 = .ok (.iconst 2, 1) := by decide +kernel
theorem dX4_readPolicyNumbers_25 : decode cX4_readPolicyNumbers 25 = .ok (.iconst 1, 1) := by decide +kernel
theorem dX4_readPolicyNumbers_26 : decode cX4_readPolicyNumbers 26 = .ok (.bipush 30, 2) := by decide +kernel
theorem dX4_readPolicyNumbers_28 : decode cX4_readPolicyNumbers 28 = .ok (.invokevirtual 64, 3) := by decide +kernel
theorem dX4_readPolicyNumbers_31 : decode cX4_readPolicyNumbers 31 = .ok (.aload_n 0, 1) := by decide +kernel
theorem dX4_readPolicyNumbers_32 : decode cX4_readPolicyNumbers 32 = .ok (.iconst 3, 1) := by decide +kernel
theorem dX4_readPolicyNumbers_33 : decode cX4_readPolicyNumbers 33 = .ok (.iconst 0, 1) := by decide +kernel
theorem dX4_readPolicyNumbers_34 : decode cX4_readPolicyNumbers 34 = .ok (.sipush 999, 3) := by decide +kernel
theorem dX4_readPolicyNumbers_37 : decode cX4_readPolicyNumbers 37 = .ok (.invokevirtual 64, 3) := by decide +kernel
theorem dX4_readPolicyNumbers_40 : decode cX4_readPolicyNumbers 40 = .ok (.aload_n 0, 1) := by decide +kernel
theorem dX4_readPolicyNumbers_41 : decode cX4_readPolicyNumbers 41 = .ok (.iconst 4, 1) := by decide +kernel
theorem dX4_readPolicyNumbers_42 : decode cX4_readPolicyNumbers 42 = .ok (.iconst 0, 1) := by decide +kernel
theorem dX4_readPolicyNumbers_43 : decode cX4_readPolicyNumbers 43 = .ok (.sipush 999, 3) := by decide +kernel
theorem dX4_readPolicyNumbers_46 : decode cX4_readPolicyNumbers 46 = .ok (.invokevirtual 64, 3) := by decide +kernel
theorem dX4_readPolicyNumbers_49 : decode cX4_readPolicyNumbers 49 = .ok (.return_, 1) := by decide +kernel
theorem dX4_readNumber_0 : decode cX4_readNumber 0 = .ok (.aload_n 0, 1) := by decide +kernel
theorem dX4_readNumber_1 : decode cX4_readNumber 1 = .ok (.invokevirtual 46, 3) := by decide +kernel
theorem dX4_readNumber_4 : decode cX4_readNumber 4 = .ok (.aload_n 0, 1) := by decide +kernel
theorem dX4_readNumber_5 : decode cX4_readNumber 5 = .ok (.invokevirtual 49, 3) := by decide +kernel
theorem dX4_readNumber_8 : decode cX4_readNumber 8 = .ok (.ifCond .ne 4, 3) := by decide +kernel
theorem dX4_readNumber_11 : decode cX4_readNumber 11 = .ok (.return_, 1) := by decide +kernel
theorem dX4_readNumber_12 : decode cX4_readNumber 12 = .ok (.aload_n 0, 1) := by decide +kernel
theorem dX4_readNumber_13 : decode cX4_readNumber 13 = .ok (.getfield 32, 3) := by decide +kernel
theorem dX4_readNumber_16 : decode cX4_readNumber 16 = .ok (.istore 4, 2) := by decide +kernel
theorem dX4_readNumber_18 : decode cX4_readNumber 18 = .ok (.iconst 0, 1) := by decide +kernel
theorem dX4_readNumber_19 : decode cX4_readNumber 19 = .ok (.istore 5, 2) := by decide +kernel
theorem dX4_readNumber_21 : decode cX4_readNumber 21 = .ok (.aload_n 0, 1) := by decide +kernel
theorem dX4_readNumber_22 : decode cX4_readNumber 22 = .ok (.getfield 32, 3) := by decide +kernel
theorem dX4_readNumber_25 : decode cX4_readNumber 25 = .ok (.aload_n 0, 1) := by decide +kernel
theorem dX4_readNumber_26 : decode cX4_readNumber 26 = .ok (.getfield 25, 3) := by decide +kernel
theorem dX4_readNumber_29 : decode cX4_readNumber 29 = .ok (.if_icmp .ge 62, 3) := by decide +kernel
theorem dX4_readNumber_32 : decode cX4_readNumber 32 = .ok (.aload_n 0, 1) := by decide +kernel
theorem dX4_readNumber_33 : decode cX4_readNumber 33 = .ok (.getfield 28, 3) := by decide +kernel
theorem dX4_readNumber_36 : decode cX4_readNumber 36 = .ok (.aload_n 0, 1) := by decide +kernel
theorem dX4_readNumber_37 : decode cX4_readNumber 37 = .ok (.getfield 32, 3) := by decide +kernel
theorem dX4_readNumber_40 : decode cX4_readNumber 40 = .ok (.iaload, 1) := by decide +kernel
theorem dX4_readNumber_41 : decode cX4_readNumber 41 = .ok (.invokestatic 87, 3) := by decide +kernel
theorem dX4_readNumber_44 : decode cX4_readNumber 44 = .ok (.ifCond .eq 47, 3) := by decide +kernel
theorem dX4_readNumber_47 : decode cX4_readNumber 47 = .ok (.aload_n 0, 1) := by decide +kernel
theorem dX4_readNumber_48 : decode cX4_readNumber 48 = .ok (.getfield 32, 3) := by decide +kernel
theorem dX4_readNumber_51 : decode cX4_readNumber 51 = .ok (.iload 4, 2) := by decide +kernel
theorem dX4_readNumber_53 : decode cX4_readNumber 53 = .ok (.isub, 1) := by decide +kernel
theorem dX4_readNumber_54 : decode cX4_readNumber 54 = .ok (.iconst 3, 1) := by decide +kernel
theorem dX4_readNumber_55 : decode cX4_readNumber 55 = .ok (.if_icmp .ge 23, 3) := by decide +kernel
theorem dX4_readNumber_58 : decode cX4_readNumber 58 = .ok (.iload 5, 2) := by decide +kernel
theorem dX4_readNumber_60 : decode cX4_readNumber 60 = .ok (.bipush 10, 2) := by decide +kernel
theorem dX4_readNumber_62 : decode cX4_readNumber 62 = .ok (.imul, 1) := by decide +kernel
theorem dX4_readNumber_63 : decode cX4_readNumber 63 = .ok (.aload_n 0, 1) := by decide +kernel
theorem dX4_readNumber_64 : decode cX4_readNumber 64 = .ok (.getfield 28, 3) := by decide +kernel
theorem dX4_readNumber_67 : decode cX4_readNumber 67 = .ok (.aload_n 0, 1) := by decide +kernel
theorem dX4_readNumber_68 : decode cX4_readNumber 68 = .ok (.getfield 32, 3) := by decide +kernel
theorem dX4_readNumber_71 : decode cX4_readNumber 71 = .ok (.iaload, 1) := by decide +kernel
theorem dX4_readNumber_72 : decode cX4_readNumber 72 = .ok (.iadd, 1) := by decide +kernel
theorem dX4_readNumber_73 : decode cX4_readNumber 73 = .ok (.bipush 48, 2) := by decide +kernel
theorem dX4_readNumber_75 : decode cX4_readNumber 75 = .ok (.isub, 1) := by decide +kernel
theorem dX4_readNumber_76 : decode cX4_readNumber 76 = .ok (.istore 5, 2) := by decide +kernel
theorem dX4_readNumber_78 : decode cX4_readNumber 78 = .ok (.aload_n 0, 1) := by decide +kernel
theorem dX4_readNumber_79 : decode cX4_readNumber 79 = .ok (.dup, 1) := by decide +kernel
theorem dX4_readNumber_80 : decode cX4_readNumber 80 = .ok (.getfield 32, 3) := by decide +kernel
theorem dX4_readNumber_83 : decode cX4_readNumber 83 = .ok (.iconst 1, 1) := by decide +kernel
theorem dX4_readNumber_84 : decode cX4_readNumber 84 = .ok (.iadd, 1) := by decide +kernel
theorem dX4_readNumber_85 : decode cX4_readNumber 85 = .ok (.putfield 32, 3) := by decide +kernel
theorem dX4_readNumber_88 : decode cX4_readNumber 88 = .ok (.goto (-67), 3) := by decide +kernel
theorem dX4_readNumber_91 : decode cX4_readNumber 91 = .ok (.aload_n 0, 1) := by decide +kernel
theorem dX4_readNumber_92 : decode cX4_readNumber 92 = .ok (.getfield 32, 3) := by decide +kernel
theorem dX4_readNumber_95 : decode cX4_readNumber 95 = .ok (.iload 4, 2) := by decide +kernel
theorem dX4_readNumber_97 : decode cX4_readNumber 97 = .ok (.if_icmp .ne 13, 3) := by decide +kernel
theorem dX4_readNumber_100 : decode cX4_readNumber 100 = .ok (.aload_n 0, 1) := by decide +kernel
theorem dX4_readNumber_101 : decode cX4_readNumber 101 = .ok (.iconst 1, 1) := by decide +kernel
theorem dX4_readNumber_102 : decode cX4_readNumber 102 = .ok (.iload 4, 2) := by decide +kernel
theorem dX4_readNumber_104 : decode cX4_readNumber 104 = .ok (.invokevirtual 60, 3) := by decide +kernel
theorem dX4_readNumber_107 : decode cX4_readNumber 107 = .ok (.goto 51, 3) := by decide +kernel
theorem dX4_readNumber_110 : decode cX4_readNumber 110 = .ok (.aload_n 0, 1) := by decide +kernel
theorem dX4_readNumber_111 : decode cX4_readNumber 111 = .ok (.getfield 32, 3) := by decide +kernel
theorem dX4_readNumber_114 : decode cX4_readNumber 114 = .ok (.iload 4, 2) := by decide +kernel
theorem dX4_readNumber_116 : decode cX4_readNumber 116 = .ok (.isub, 1) := by decide +kernel
theorem dX4_readNumber_117 : decode cX4_readNumber 117 = .ok (.iconst 3, 1) := by decide +kernel
theorem dX4_readNumber_118 : decode cX4_readNumber 118 = .ok (.if_icmp .gt 13, 3) := by decide +kernel
theorem dX4_readNumber_121 : decode cX4_readNumber 121 = .ok (.iload 5, 2) := by decide +kernel
theorem dX4_readNumber_123 : decode cX4_readNumber 123 = .ok (.iload_n 2, 1) := by decide +kernel
theorem dX4_readNumber_124 : decode cX4_readNumber 124 = .ok (.iload_n 3, 1) := by decide +kernel
theorem dX4_readNumber_125 : decode cX4_readNumber 125 = .ok (.invokestatic 91, 3) := by decide +kernel
theorem dX4_readNumber_128 : decode cX4_readNumber 128 = .ok (.ifCond .eq 13, 3) := by decide +kernel
theorem dX4_readNumber_131 : decode cX4_readNumber 131 = .ok (.aload_n 0, 1) := by decide +kernel
theorem dX4_readNumber_132 : decode cX4_readNumber 132 = .ok (.iconst 2, 1) := by decide +kernel
theorem dX4_readNumber_133 : decode cX4_readNumber 133 = .ok (.iload 4, 2) := by decide +kernel
theorem dX4_readNumber_135 : decode cX4_readNumber 135 = .ok (.invokevirtual 60, 3) := by decide +kernel
theorem dX4_readNumber_138 : decode cX4_readNumber 138 = .ok (.goto 20, 3) := by decide +kernel
theorem dX4_readNumber_141 : decode cX4_readNumber 141 = .ok (.iload_n 1, 1) := by decide +kernel
theorem dX4_readNumber_142 : decode cX4_readNumber 142 = .ok (.ifCond .lt 16, 3) := by decide +kernel
theorem dX4_readNumber_145 : decode cX4_readNumber 145 = .ok (.iload_n 1, 1) := by decide +kernel
theorem dX4_readNumber_146 : decode cX4_readNumber 146 = .ok (.iconst 5, 1) := by decide +kernel
theorem dX4_readNumber_147 : decode cX4_readNumber 147 = .ok (.if_icmp .ge 11, 3) := by decide +kernel
theorem dX4_readNumber_150 : decode cX4_readNumber 150 = .ok (.aload_n 0, 1) := by decide +kernel
theorem dX4_readNumber_151 : decode cX4_readNumber 151 = .ok (.getfield 39, 3) := by decide +kernel
theorem dX4_readNumber_154 : decode cX4_readNumber 154 = .ok (.iload_n 1, 1) := by decide +kernel
theorem dX4_readNumber_155 : decode cX4_readNumber 155 = .ok (.iload 5, 2) := by decide +kernel
theorem dX4_readNumber_157 : decode cX4_readNumber 157 = .ok (.iastore, 1) := by decide +kernel
theorem dX4_readNumber_158 : decode cX4_readNumber 158 = .ok (.return_, 1) := by decide +kernel
theorem dX4_isFigure_0 : decode cX4_isFigure 0 = .ok (.iload_n 0, 1) := by decide +kernel
theorem dX4_isFigure_1 : decode cX4_isFigure 1 = .ok (.bipush 48, 2) := by decide +kernel
theorem dX4_isFigure_3 : decode cX4_isFigure 3 = .ok (.if_icmp .lt 13, 3) := by decide +kernel
theorem dX4_isFigure_6 : decode cX4_isFigure 6 = .ok (.iload_n 0, 1) := by decide +kernel
theorem dX4_isFigure_7 : decode cX4_isFigure 7 = .ok (.bipush 57, 2) := by decide +kernel
theorem dX4_isFigure_9 : decode cX4_isFigure 9 = .ok (.if_icmp .gt 7, 3) := by decide +kernel
theorem dX4_isFigure_12 : decode cX4_isFigure 12 = .ok (.iconst 1, 1) := by decide +kernel
theorem dX4_isFigure_13 : decode cX4_isFigure 13 = .ok (.goto 4, 3) := by decide +kernel
theorem dX4_isFigure_16 : decode cX4_isFigure 16 = .ok (.iconst 0, 1) := by decide +kernel
theorem dX4_isFigure_17 : decode cX4_isFigure 17 = .ok (.ireturn, 1) := by decide +kernel
theorem dX4_readEnd_0 : decode cX4_readEnd 0 = .ok (.aload_n 0, 1) := by decide +kernel
theorem dX4_readEnd_1 : decode cX4_readEnd 1 = .ok (.invokevirtual 46, 3) := by decide +kernel
theorem dX4_readEnd_4 : decode cX4_readEnd 4 = .ok (.aload_n 0, 1) := by decide +kernel
theorem dX4_readEnd_5 : decode cX4_readEnd 5 = .ok (.invokevirtual 49, 3) := by decide +kernel
theorem dX4_readEnd_8 : decode cX4_readEnd 8 = .ok (.ifCond .ne 4, 3) := by decide +kernel
theorem dX4_readEnd_11 : decode cX4_readEnd 11 = .ok (.return_, 1) := by decide +kernel
theorem dX4_readEnd_12 : decode cX4_readEnd 12 = .ok (.aload_n 0, 1) := by decide +kernel
theorem dX4_readEnd_13 : decode cX4_readEnd 13 = .ok (.getfield 32, 3) := by decide +kernel
theorem dX4_readEnd_16 : decode cX4_readEnd 16 = .ok (.aload_n 0, 1) := by decide +kernel
theorem dX4_readEnd_17 : decode cX4_readEnd 17 = .ok (.getfield 25, 3) := by decide +kernel
theorem dX4_readEnd_20 : decode cX4_readEnd 20 = .ok (.if_icmp .ge 30, 3) := by decide +kernel
theorem dX4_readEnd_23 : decode cX4_readEnd 23 = .ok (.aload_n 0, 1) := by decide +kernel
theorem dX4_readEnd_24 : decode cX4_readEnd 24 = .ok (.getfield 28, 3) := by decide +kernel
theorem dX4_readEnd_27 : decode cX4_readEnd 27 = .ok (.aload_n 0, 1) := by decide +kernel
theorem dX4_readEnd_28 : decode cX4_readEnd 28 = .ok (.getfield 32, 3) := by decide +kernel
theorem dX4_readEnd_31 : decode cX4_readEnd 31 = .ok (.iaload, 1) := by decide +kernel
theorem dX4_readEnd_32 : decode cX4_readEnd 32 = .ok (.bipush 59, 2) := by decide +kernel
theorem dX4_readEnd_34 : decode cX4_readEnd 34 = .ok (.if_icmp .ne 16, 3) := by decide +kernel
theorem dX4_readEnd_37 : decode cX4_readEnd 37 = .ok (.aload_n 0, 1) := by decide +kernel
theorem dX4_readEnd_38 : decode cX4_readEnd 38 = .ok (.dup, 1) := by decide +kernel
theorem dX4_readEnd_39 : decode cX4_readEnd 39 = .ok (.getfield 32, 3) := by decide +kernel
theorem dX4_readEnd_42 : decode cX4_readEnd 42 = .ok (.iconst 1, 1) := by decide +kernel
theorem dX4_readEnd_43 : decode cX4_readEnd 43 = .ok (.iadd, 1) := by decide +kernel
theorem dX4_readEnd_44 : decode cX4_readEnd 44 = .ok (.putfield 32, 3) := by decide +kernel
theorem dX4_readEnd_47 : decode cX4_readEnd 47 = .ok (.goto 12, 3) := by decide +kernel
theorem dX4_readEnd_50 : decode cX4_readEnd 50 = .ok (.aload_n 0, 1) := by decide +kernel
theorem dX4_readEnd_51 : decode cX4_readEnd 51 = .ok (.iconst 1, 1) := by decide +kernel
theorem dX4_readEnd_52 : decode cX4_readEnd 52 = .ok (.aload_n 0, 1) := by decide +kernel
theorem dX4_readEnd_53 : decode cX4_readEnd 53 = .ok (.getfield 32, 3) := by decide +kernel
theorem dX4_readEnd_56 : decode cX4_readEnd 56 = .ok (.invokevirtual 60, 3) := by decide +kernel
theorem dX4_readEnd_59 : decode cX4_readEnd 59 = .ok (.return_, 1) := by decide +kernel
theorem dX4_takeClause_0 : decode cX4_takeClause 0 = .ok (.iload_n 1, 1) := by decide +kernel
theorem dX4_takeClause_1 : decode cX4_takeClause 1 = .ok (.bipush 111, 2) := by decide +kernel
theorem dX4_takeClause_3 : decode cX4_takeClause 3 = .ok (.if_icmp .ne 24, 3) := by decide +kernel
theorem dX4_takeClause_6 : decode cX4_takeClause 6 = .ok (.aload_n 0, 1) := by decide +kernel
theorem dX4_takeClause_7 : decode cX4_takeClause 7 = .ok (.iconst 1, 1) := by decide +kernel
theorem dX4_takeClause_8 : decode cX4_takeClause 8 = .ok (.putfield 35, 3) := by decide +kernel
theorem dX4_takeClause_11 : decode cX4_takeClause 11 = .ok (.aload_n 0, 1) := by decide +kernel
theorem dX4_takeClause_12 : decode cX4_takeClause 12 = .ok (.getfield 12, 3) := by decide +kernel
theorem dX4_takeClause_15 : decode cX4_takeClause 15 = .ok (.aload_n 0, 1) := by decide +kernel
theorem dX4_takeClause_16 : decode cX4_takeClause 16 = .ok (.getfield 39, 3) := by decide +kernel
theorem dX4_takeClause_19 : decode cX4_takeClause 19 = .ok (.iconst 0, 1) := by decide +kernel
theorem dX4_takeClause_20 : decode cX4_takeClause 20 = .ok (.iaload, 1) := by decide +kernel
theorem dX4_takeClause_21 : decode cX4_takeClause 21 = .ok (.putfield 95, 3) := by decide +kernel
theorem dX4_takeClause_24 : decode cX4_takeClause 24 = .ok (.goto 34, 3) := by decide +kernel
theorem dX4_takeClause_27 : decode cX4_takeClause 27 = .ok (.iload_n 1, 1) := by decide +kernel
theorem dX4_takeClause_28 : decode cX4_takeClause 28 = .ok (.bipush 108, 2) := by decide +kernel
theorem dX4_takeClause_30 : decode cX4_takeClause 30 = .ok (.if_icmp .ne 17, 3) := by decide +kernel
theorem dX4_takeClause_33 : decode cX4_takeClause 33 = .ok (.aload_n 0, 1) := by decide +kernel
theorem dX4_takeClause_34 : decode cX4_takeClause 34 = .ok (.getfield 12, 3) := by decide +kernel
theorem dX4_takeClause_37 : decode cX4_takeClause 37 = .ok (.aload_n 0, 1) := by decide +kernel
theorem dX4_takeClause_38 : decode cX4_takeClause 38 = .ok (.getfield 39, 3) := by decide +kernel
theorem dX4_takeClause_41 : decode cX4_takeClause 41 = .ok (.invokevirtual 98, 3) := by decide +kernel
theorem dX4_takeClause_44 : decode cX4_takeClause 44 = .ok (.goto 14, 3) := by decide +kernel
theorem dX4_takeClause_47 : decode cX4_takeClause 47 = .ok (.aload_n 0, 1) := by decide +kernel
theorem dX4_takeClause_48 : decode cX4_takeClause 48 = .ok (.getfield 12, 3) := by decide +kernel
theorem dX4_takeClause_51 : decode cX4_takeClause 51 = .ok (.aload_n 0, 1) := by decide +kernel
theorem dX4_takeClause_52 : decode cX4_takeClause 52 = .ok (.getfield 39, 3) := by decide +kernel
theorem dX4_takeClause_55 : decode cX4_takeClause 55 = .ok (.invokevirtual 102, 3) := by decide +kernel
theorem dX4_takeClause_58 : decode cX4_takeClause 58 = .ok (.return_, 1) := by decide +kernel
theorem dX5_init_0 : decode cX5_init 0 = .ok (.aload_n 0, 1) := by decide +kernel
theorem dX5_init_1 : decode cX5_init 1 = .ok (.invokespecial 3, 3) := by decide +kernel
theorem dX5_init_4 : decode cX5_init 4 = .ok (.aload_n 0, 1) := by decide +kernel
theorem dX5_init_5 : decode cX5_init 5 = .ok (.iconst 0, 1) := by decide +kernel
theorem dX5_init_6 : decode cX5_init 6 = .ok (.putfield 9, 3) := by decide +kernel
theorem dX5_init_9 : decode cX5_init 9 = .ok (.aload_n 0, 1) := by decide +kernel
theorem dX5_init_10 : decode cX5_init 10 = .ok (.iconst 0, 1) := by decide +kernel
theorem dX5_init_11 : decode cX5_init 11 = .ok (.putfield 15, 3) := by decide +kernel
theorem dX5_init_14 : decode cX5_init 14 = .ok (.aload_n 0, 1) := by decide +kernel
theorem dX5_init_15 : decode cX5_init 15 = .ok (.iconst 0, 1) := by decide +kernel
theorem dX5_init_16 : decode cX5_init 16 = .ok (.putfield 18, 3) := by decide +kernel
theorem dX5_init_19 : decode cX5_init 19 = .ok (.aload_n 0, 1) := by decide +kernel
theorem dX5_init_20 : decode cX5_init 20 = .ok (.bipush 8, 2) := by decide +kernel
theorem dX5_init_22 : decode cX5_init 22 = .ok (.newarray .int, 2) := by decide +kernel
theorem dX5_init_24 : decode cX5_init 24 = .ok (.putfield 21, 3) := by decide +kernel
theorem dX5_init_27 : decode cX5_init 27 = .ok (.aload_n 0, 1) := by decide +kernel
theorem dX5_init_28 : decode cX5_init 28 = .ok (.iconst 3, 1) := by decide +kernel
theorem dX5_init_29 : decode cX5_init 29 = .ok (.newarray .int, 2) := by decide +kernel
theorem dX5_init_31 : decode cX5_init 31 = .ok (.putfield 25, 3) := by decide +kernel
theorem dX5_init_34 : decode cX5_init 34 = .ok (.aload_n 0, 1) := by decide +kernel
theorem dX5_init_35 : decode cX5_init 35 = .ok (.bipush 20, 2) := by decide +kernel
theorem dX5_init_37 : decode cX5_init 37 = .ok (.newarray .int, 2) := by decide +kernel
theorem dX5_init_39 : decode cX5_init 39 = .ok (.putfield 28, 3) := by decide +kernel
theorem dX5_init_42 : decode cX5_init 42 = .ok (.return_, 1) := by decide +kernel
theorem dX5_clear_0 : decode cX5_clear 0 = .ok (.aload_n 0, 1) := by decide +kernel
theorem dX5_clear_1 : decode cX5_clear 1 = .ok (.iconst 0, 1) := by decide +kernel
theorem dX5_clear_2 : decode cX5_clear 2 = .ok (.putfield 9, 3) := by decide +kernel
theorem dX5_clear_5 : decode cX5_clear 5 = .ok (.aload_n 0, 1) := by decide +kernel
theorem dX5_clear_6 : decode cX5_clear 6 = .ok (.iconst 0, 1) := by decide +kernel
theorem dX5_clear_7 : decode cX5_clear 7 = .ok (.putfield 15, 3) := by decide +kernel
theorem dX5_clear_10 : decode cX5_clear 10 = .ok (.aload_n 0, 1) := by decide +kernel
theorem dX5_clear_11 : decode cX5_clear 11 = .ok (.iconst 0, 1) := by decide +kernel
theorem dX5_clear_12 : decode cX5_clear 12 = .ok (.putfield 18, 3) := by decide +kernel
theorem dX5_clear_15 : decode cX5_clear 15 = .ok (.return_, 1) := by decide +kernel
theorem dX5_addWitness_0 : decode cX5_addWitness 0 = .ok (.aload_n 0, 1) := by decide +kernel
theorem dX5_addWitness_1 : decode cX5_addWitness 1 = .ok (.getfield 9, 3) := by decide +kernel
theorem dX5_addWitness_4 : decode cX5_addWitness 4 = .ok (.bipush 8, 2) := by decide +kernel
theorem dX5_addWitness_6 : decode cX5_addWitness 6 = .ok (.if_icmp .lt 6, 3) := by decide +kernel
theorem dX5_addWitness_9 : decode cX5_addWitness 9 = .ok (.ldc 31, 2) := by decide +kernel
theorem dX5_addWitness_11 : decode cX5_addWitness 11 = .ok (.ireturn, 1) := by decide +kernel
theorem dX5_addWitness_12 : decode cX5_addWitness 12 = .ok (.aload_n 0, 1) := by decide +kernel
theorem dX5_addWitness_13 : decode cX5_addWitness 13 = .ok (.getfield 21, 3) := by decide +kernel
theorem dX5_addWitness_16 : decode cX5_addWitness 16 = .ok (.aload_n 0, 1) := by decide +kernel
theorem dX5_addWitness_17 : decode cX5_addWitness 17 = .ok (.getfield 9, 3) := by decide +kernel
theorem dX5_addWitness_20 : decode cX5_addWitness 20 = .ok (.iload_n 1, 1) := by decide +kernel
theorem dX5_addWitness_21 : decode cX5_addWitness 21 = .ok (.iastore, 1) := by decide +kernel
theorem dX5_addWitness_22 : decode cX5_addWitness 22 = .ok (.aload_n 0, 1) := by decide +kernel
theorem dX5_addWitness_23 : decode cX5_addWitness 23 = .ok (.dup, 1) := by decide +kernel
theorem dX5_addWitness_24 : decode cX5_addWitness 24 = .ok (.getfield 9, 3) := by decide +kernel
theorem dX5_addWitness_27 : decode cX5_addWitness 27 = .ok (.iconst 1, 1) := by decide +kernel
theorem dX5_addWitness_28 : decode cX5_addWitness 28 = .ok (.iadd, 1) := by decide +kernel
theorem dX5_addWitness_29 : decode cX5_addWitness 29 = .ok (.putfield 9, 3) := by decide +kernel
theorem dX5_addWitness_32 : decode cX5_addWitness 32 = .ok (.aload_n 0, 1) := by decide +kernel
theorem dX5_addWitness_33 : decode cX5_addWitness 33 = .ok (.getfield 9, 3) := by decide +kernel
theorem dX5_addWitness_36 : decode cX5_addWitness 36 = .ok (.ireturn, 1) := by decide +kernel
theorem dX5_addToLedger_0 : decode cX5_addToLedger 0 = .ok (.aload_n 0, 1) := by decide +kernel
theorem dX5_addToLedger_1 : decode cX5_addToLedger 1 = .ok (.getfield 15, 3) := by decide +kernel
theorem dX5_addToLedger_4 : decode cX5_addToLedger 4 = .ok (.iconst 3, 1) := by decide +kernel
theorem dX5_addToLedger_5 : decode cX5_addToLedger 5 = .ok (.if_icmp .lt 6, 3) := by decide +kernel
theorem dX5_addToLedger_8 : decode cX5_addToLedger 8 = .ok (.ldc 31, 2) := by decide +kernel
theorem dX5_addToLedger_10 : decode cX5_addToLedger 10 = .ok (.ireturn, 1) := by decide +kernel
theorem dX5_addToLedger_11 : decode cX5_addToLedger 11 = .ok (.aload_n 0, 1) := by decide +kernel
theorem dX5_addToLedger_12 : decode cX5_addToLedger 12 = .ok (.getfield 25, 3) := by decide +kernel
theorem dX5_addToLedger_15 : decode cX5_addToLedger 15 = .ok (.aload_n 0, 1) := by decide +kernel
theorem dX5_addToLedger_16 : decode cX5_addToLedger 16 = .ok (.getfield 15, 3) := by decide +kernel
theorem dX5_addToLedger_19 : decode cX5_addToLedger 19 = .ok (.iload_n 1, 1) := by decide +kernel
theorem dX5_addToLedger_20 : decode cX5_addToLedger 20 = .ok (.iastore, 1) := by decide +kernel
theorem dX5_addToLedger_21 : decode cX5_addToLedger 21 = .ok (.aload_n 0, 1) := by decide +kernel
theorem dX5_addToLedger_22 : decode cX5_addToLedger 22 = .ok (.dup, 1) := by decide +kernel
theorem dX5_addToLedger_23 : decode cX5_addToLedger 23 = .ok (.getfield 15, 3) := by decide +kernel
theorem dX5_addToLedger_26 : decode cX5_addToLedger 26 = .ok (.iconst 1, 1) := by decide +kernel
theorem dX5_addToLedger_27 : decode cX5_addToLedger 27 = .ok (.iadd, 1) := by decide +kernel
theorem dX5_addToLedger_28 : decode cX5_addToLedger 28 = .ok (.putfield 15, 3) := by decide +kernel
theorem dX5_addToLedger_31 : decode cX5_addToLedger 31 = .ok (.aload_n 0, 1) := by decide +kernel
theorem dX5_addToLedger_32 : decode cX5_addToLedger 32 = .ok (.getfield 15, 3) := by decide +kernel
theorem dX5_addToLedger_35 : decode cX5_addToLedger 35 = .ok (.ireturn, 1) := by decide +kernel
theorem dX5_addToBook_0 : decode cX5_addToBook 0 = .ok (.aload_n 0, 1) := by decide +kernel
theorem dX5_addToBook_1 : decode cX5_addToBook 1 = .ok (.getfield 18, 3) := by decide +kernel
theorem dX5_addToBook_4 : decode cX5_addToBook 4 = .ok (.bipush 20, 2) := by decide +kernel
theorem dX5_addToBook_6 : decode cX5_addToBook 6 = .ok (.if_icmp .lt 6, 3) := by decide +kernel
theorem dX5_addToBook_9 : decode cX5_addToBook 9 = .ok (.ldc 31, 2) := by decide +kernel
theorem dX5_addToBook_11 : decode cX5_addToBook 11 = .ok (.ireturn, 1) := by decide +kernel
theorem dX5_addToBook_12 : decode cX5_addToBook 12 = .ok (.aload_n 0, 1) := by decide +kernel
theorem dX5_addToBook_13 : decode cX5_addToBook 13 = .ok (.getfield 28, 3) := by decide +kernel
theorem dX5_addToBook_16 : decode cX5_addToBook 16 = .ok (.aload_n 0, 1) := by decide +kernel
theorem dX5_addToBook_17 : decode cX5_addToBook 17 = .ok (.getfield 18, 3) := by decide +kernel
theorem dX5_addToBook_20 : decode cX5_addToBook 20 = .ok (.iload_n 1, 1) := by decide +kernel
theorem dX5_addToBook_21 : decode cX5_addToBook 21 = .ok (.iastore, 1) := by decide +kernel
theorem dX5_addToBook_22 : decode cX5_addToBook 22 = .ok (.aload_n 0, 1) := by decide +kernel
theorem dX5_addToBook_23 : decode cX5_addToBook 23 = .ok (.dup, 1) := by decide +kernel
theorem dX5_addToBook_24 : decode cX5_addToBook 24 = .ok (.getfield 18, 3) := by decide +kernel
theorem dX5_addToBook_27 : decode cX5_addToBook 27 = .ok (.iconst 1, 1) := by decide +kernel
theorem dX5_addToBook_28 : decode cX5_addToBook 28 = .ok (.iadd, 1) := by decide +kernel
theorem dX5_addToBook_29 : decode cX5_addToBook 29 = .ok (.putfield 18, 3) := by decide +kernel
theorem dX5_addToBook_32 : decode cX5_addToBook 32 = .ok (.aload_n 0, 1) := by decide +kernel
theorem dX5_addToBook_33 : decode cX5_addToBook 33 = .ok (.getfield 18, 3) := by decide +kernel
theorem dX5_addToBook_36 : decode cX5_addToBook 36 = .ok (.ireturn, 1) := by decide +kernel
theorem dX5_fewestFor_0 : decode cX5_fewestFor 0 = .ok (.iconst (-1), 1) := by decide +kernel
theorem dX5_fewestFor_1 : decode cX5_fewestFor 1 = .ok (.istore_n 2, 1) := by decide +kernel
theorem dX5_fewestFor_2 : decode cX5_fewestFor 2 = .ok (.iconst 0, 1) := by decide +kernel
theorem dX5_fewestFor_3 : decode cX5_fewestFor 3 = .ok (.istore_n 3, 1) := by decide +kernel
theorem dX5_fewestFor_4 : decode cX5_fewestFor 4 = .ok (.iload_n 3, 1) := by decide +kernel
theorem dX5_fewestFor_5 : decode cX5_fewestFor 5 = .ok (.iconst 1, 1) := by decide +kernel
theorem dX5_fewestFor_6 : decode cX5_fewestFor 6 = .ok (.aload_n 0, 1) := by decide +kernel
theorem dX5_fewestFor_7 : decode cX5_fewestFor 7 = .ok (.getfield 9, 3) := by decide +kernel
theorem dX5_fewestFor_10 : decode cX5_fewestFor 10 = .ok (.ishl, 1) := by decide +kernel
theorem dX5_fewestFor_11 : decode cX5_fewestFor 11 = .ok (.if_icmp .ge 51, 3) := by decide +kernel
theorem dX5_fewestFor_14 : decode cX5_fewestFor 14 = .ok (.iload_n 2, 1) := by decide +kernel
theorem dX5_fewestFor_15 : decode cX5_fewestFor 15 = .ok (.iconst (-1), 1) := by decide +kernel
theorem dX5_fewestFor_16 : decode cX5_fewestFor 16 = .ok (.if_icmp .eq 14, 3) := by decide +kernel
theorem dX5_fewestFor_19 : decode cX5_fewestFor 19 = .ok (.iload_n 3, 1) := by decide +kernel
theorem dX5_fewestFor_20 : decode cX5_fewestFor 20 = .ok (.invokestatic 32, 3) := by decide +kernel
theorem dX5_fewestFor_23 : decode cX5_fewestFor 23 = .ok (.iload_n 2, 1) := by decide +kernel
theorem dX5_fewestFor_24 : decode cX5_fewestFor 24 = .ok (.invokestatic 32, 3) := by decide +kernel
theorem dX5_fewestFor_27 : decode cX5_fewestFor 27 = .ok (.if_icmp .ge 7, 3) := by decide +kernel
theorem dX5_fewestFor_30 : decode cX5_fewestFor 30 = .ok (.iconst 1, 1) := by decide +kernel
theorem dX5_fewestFor_31 : decode cX5_fewestFor 31 = .ok (.goto 4, 3) := by decide +kernel
theorem dX5_fewestFor_34 : decode cX5_fewestFor 34 = .ok (.iconst 0, 1) := by decide +kernel
theorem dX5_fewestFor_35 : decode cX5_fewestFor 35 = .ok (.istore 4, 2) := by decide +kernel
theorem dX5_fewestFor_37 : decode cX5_fewestFor 37 = .ok (.iload 4, 2) := by decide +kernel
theorem dX5_fewestFor_39 : decode cX5_fewestFor 39 = .ok (.ifCond .eq 17, 3) := by decide +kernel
theorem dX5_fewestFor_42 : decode cX5_fewestFor 42 = .ok (.iload_n 1, 1) := by decide +kernel
theorem dX5_fewestFor_43 : decode cX5_fewestFor 43 = .ok (.aload_n 0, 1) := by decide +kernel
theorem dX5_fewestFor_44 : decode cX5_fewestFor 44 = .ok (.iload_n 3, 1) := by decide +kernel
theorem dX5_fewestFor_45 : decode cX5_fewestFor 45 = .ok (.invokevirtual 38, 3) := by decide +kernel
theorem dX5_fewestFor_48 : decode cX5_fewestFor 48 = .ok (.iconst (-1), 1) := by decide +kernel
theorem dX5_fewestFor_49 : decode cX5_fewestFor 49 = .ok (.ixor, 1) := by decide +kernel
theorem dX5_fewestFor_50 : decode cX5_fewestFor 50 = .ok (.iand, 1) := by decide +kernel
theorem dX5_fewestFor_51 : decode cX5_fewestFor 51 = .ok (.ifCond .ne 5, 3) := by decide +kernel
theorem dX5_fewestFor_54 : decode cX5_fewestFor 54 = .ok (.iload_n 3, 1) := by decide +kernel
theorem dX5_fewestFor_55 : decode cX5_fewestFor 55 = .ok (.istore_n 2, 1) := by decide +kernel
theorem dX5_fewestFor_56 : decode cX5_fewestFor 56 = .ok (.iinc 3 1, 3) := by decide +kernel
theorem dX5_fewestFor_59 : decode cX5_fewestFor 59 = .ok (.goto (-55), 3) := by decide +kernel
theorem dX5_fewestFor_62 : decode cX5_fewestFor 62 = .ok (.iload_n 2, 1) := by decide +kernel
theorem dX5_fewestFor_63 : decode cX5_fewestFor 63 = .ok (.ireturn, 1) := by decide +kernel
theorem dX5_daysSeenBy_0 : decode cX5_daysSeenBy 0 = .ok (.iconst 0, 1) := by decide +kernel
theorem dX5_daysSeenBy_1 : decode cX5_daysSeenBy 1 = .ok (.istore_n 2, 1) := by decide +kernel
theorem dX5_daysSeenBy_2 : decode cX5_daysSeenBy 2 = .ok (.iconst 0, 1) := by decide +kernel
theorem dX5_daysSeenBy_3 : decode cX5_daysSeenBy 3 = .ok (.istore_n 3, 1) := by decide +kernel
theorem dX5_daysSeenBy_4 : decode cX5_daysSeenBy 4 = .ok (.iload_n 3, 1) := by decide +kernel
theorem dX5_daysSeenBy_5 : decode cX5_daysSeenBy 5 = .ok (.aload_n 0, 1) := by decide +kernel
theorem dX5_daysSeenBy_6 : decode cX5_daysSeenBy 6 = .ok (.getfield 9, 3) := by decide +kernel
theorem dX5_daysSeenBy_9 : decode cX5_daysSeenBy 9 = .ok (.if_icmp .ge 26, 3) := by decide +kernel
theorem dX5_daysSeenBy_12 : decode cX5_daysSeenBy 12 = .ok (.iload_n 1, 1) := by decide +kernel
theorem dX5_daysSeenBy_13 : decode cX5_daysSeenBy 13 = .ok (.iload_n 3, 1) := by decide +kernel
theorem dX5_daysSeenBy_14 : decode cX5_daysSeenBy 14 = .ok (.ishr, 1) := by decide +kernel
theorem dX5_daysSeenBy_15 : decode cX5_daysSeenBy 15 = .ok (.iconst 1, 1) := by decide +kernel
theorem dX5_daysSeenBy_16 : decode cX5_daysSeenBy 16 = .ok (.iand, 1) := by decide +kernel
theorem dX5_daysSeenBy_17 : decode cX5_daysSeenBy 17 = .ok (.ifCond .eq 12, 3) := by decide +kernel
theorem dX5_daysSeenBy_20 : decode cX5_daysSeenBy 20 = .ok (.iload_n 2, 1) := by decide +kernel
theorem dX5_daysSeenBy_21 : decode cX5_daysSeenBy 21 = .ok (.aload_n 0, 1) := by decide +kernel
theorem dX5_daysSeenBy_22 : decode cX5_daysSeenBy 22 = .ok (.getfield 21, 3) := by decide +kernel
theorem dX5_daysSeenBy_25 : decode cX5_daysSeenBy 25 = .ok (.iload_n 3, 1) := by decide +kernel
theorem dX5_daysSeenBy_26 : decode cX5_daysSeenBy 26 = .ok (.iaload, 1) := by decide +kernel
theorem dX5_daysSeenBy_27 : decode cX5_daysSeenBy 27 = .ok (.ior, 1) := by decide +kernel
theorem dX5_daysSeenBy_28 : decode cX5_daysSeenBy 28 = .ok (.istore_n 2, 1) := by decide +kernel
theorem dX5_daysSeenBy_29 : decode cX5_daysSeenBy 29 = .ok (.iinc 3 1, 3) := by decide +kernel
theorem dX5_daysSeenBy_32 : decode cX5_daysSeenBy 32 = .ok (.goto (-28), 3) := by decide +kernel
theorem dX5_daysSeenBy_35 : decode cX5_daysSeenBy 35 = .ok (.iload_n 2, 1) := by decide +kernel
theorem dX5_daysSeenBy_36 : decode cX5_daysSeenBy 36 = .ok (.ireturn, 1) := by decide +kernel
theorem dX6_init_0 : decode cX6_init 0 = .ok (.aload_n 0, 1) := by decide +kernel
theorem dX6_init_1 : decode cX6_init 1 = .ok (.invokespecial 3, 3) := by decide +kernel
theorem dX6_init_4 : decode cX6_init 4 = .ok (.aload_n 0, 1) := by decide +kernel
theorem dX6_init_5 : decode cX6_init 5 = .ok (.iconst 0, 1) := by decide +kernel
theorem dX6_init_6 : decode cX6_init 6 = .ok (.putfield 9, 3) := by decide +kernel
theorem dX6_init_9 : decode cX6_init 9 = .ok (.aload_n 0, 1) := by decide +kernel
theorem dX6_init_10 : decode cX6_init 10 = .ok (.iconst 0, 1) := by decide +kernel
theorem dX6_init_11 : decode cX6_init 11 = .ok (.putfield 15, 3) := by decide +kernel
theorem dX6_init_14 : decode cX6_init 14 = .ok (.aload_n 0, 1) := by decide +kernel
theorem dX6_init_15 : decode cX6_init 15 = .ok (.iconst 0, 1) := by decide +kernel
theorem dX6_init_16 : decode cX6_init 16 = .ok (.putfield 18, 3) := by decide +kernel
theorem dX6_init_19 : decode cX6_init 19 = .ok (.aload_n 0, 1) := by decide +kernel
theorem dX6_init_20 : decode cX6_init 20 = .ok (.iconst 0, 1) := by decide +kernel
theorem dX6_init_21 : decode cX6_init 21 = .ok (.putfield 21, 3) := by decide +kernel
theorem dX6_init_24 : decode cX6_init 24 = .ok (.aload_n 0, 1) := by decide +kernel
theorem dX6_init_25 : decode cX6_init 25 = .ok (.iconst (-1), 1) := by decide +kernel
theorem dX6_init_26 : decode cX6_init 26 = .ok (.putfield 24, 3) := by decide +kernel
theorem dX6_init_29 : decode cX6_init 29 = .ok (.aload_n 0, 1) := by decide +kernel
theorem dX6_init_30 : decode cX6_init 30 = .ok (.iconst 0, 1) := by decide +kernel
theorem dX6_init_31 : decode cX6_init 31 = .ok (.putfield 27, 3) := by decide +kernel
theorem dX6_init_34 : decode cX6_init 34 = .ok (.aload_n 0, 1) := by decide +kernel
theorem dX6_init_35 : decode cX6_init 35 = .ok (.iconst 0, 1) := by decide +kernel
theorem dX6_init_36 : decode cX6_init 36 = .ok (.putfield 30, 3) := by decide +kernel
theorem dX6_init_39 : decode cX6_init 39 = .ok (.aload_n 0, 1) := by decide +kernel
theorem dX6_init_40 : decode cX6_init 40 = .ok (.iconst 4, 1) := by decide +kernel
theorem dX6_init_41 : decode cX6_init 41 = .ok (.newarray .int, 2) := by decide +kernel
theorem dX6_init_43 : decode cX6_init 43 = .ok (.putfield 33, 3) := by decide +kernel
theorem dX6_init_46 : decode cX6_init 46 = .ok (.aload_n 0, 1) := by decide +kernel
theorem dX6_init_47 : decode cX6_init 47 = .ok (.bipush 6, 2) := by decide +kernel
theorem dX6_init_49 : decode cX6_init 49 = .ok (.newarray .int, 2) := by decide +kernel
theorem dX6_init_51 : decode cX6_init 51 = .ok (.putfield 37, 3) := by decide +kernel
theorem dX6_init_54 : decode cX6_init 54 = .ok (.return_, 1) := by decide +kernel
theorem dX6_begin_0 : decode cX6_begin 0 = .ok (.aload_n 0, 1) := by decide +kernel
theorem dX6_begin_1 : decode cX6_begin 1 = .ok (.iconst 0, 1) := by decide +kernel
theorem dX6_begin_2 : decode cX6_begin 2 = .ok (.putfield 9, 3) := by decide +kernel
theorem dX6_begin_5 : decode cX6_begin 5 = .ok (.aload_n 0, 1) := by decide +kernel
theorem dX6_begin_6 : decode cX6_begin 6 = .ok (.aload_n 1, 1) := by decide +kernel
theorem dX6_begin_7 : decode cX6_begin 7 = .ok (.getfield 40, 3) := by decide +kernel
theorem dX6_begin_10 : decode cX6_begin 10 = .ok (.putfield 15, 3) := by decide +kernel
theorem dX6_begin_13 : decode cX6_begin 13 = .ok (.aload_n 0, 1) := by decide +kernel
theorem dX6_begin_14 : decode cX6_begin 14 = .ok (.iconst 0, 1) := by decide +kernel
theorem dX6_begin_15 : decode cX6_begin 15 = .ok (.putfield 18, 3) := by decide +kernel
theorem dX6_begin_18 : decode cX6_begin 18 = .ok (.aload_n 0, 1) := by decide +kernel
theorem dX6_begin_19 : decode cX6_begin 19 = .ok (.iconst 0, 1) := by decide +kernel
theorem dX6_begin_20 : decode cX6_begin 20 = .ok (.putfield 21, 3) := by decide +kernel
theorem dX6_begin_23 : decode cX6_begin 23 = .ok (.aload_n 0, 1) := by decide +kernel
theorem dX6_begin_24 : decode cX6_begin 24 = .ok (.iconst (-1), 1) := by decide +kernel
theorem dX6_begin_25 : decode cX6_begin 25 = .ok (.putfield 24, 3) := by decide +kernel
theorem dX6_begin_28 : decode cX6_begin 28 = .ok (.aload_n 0, 1) := by decide +kernel
theorem dX6_begin_29 : decode cX6_begin 29 = .ok (.iconst 0, 1) := by decide +kernel
theorem dX6_begin_30 : decode cX6_begin 30 = .ok (.putfield 27, 3) := by decide +kernel
theorem dX6_begin_33 : decode cX6_begin 33 = .ok (.aload_n 0, 1) := by decide +kernel
theorem dX6_begin_34 : decode cX6_begin 34 = .ok (.iconst 0, 1) := by decide +kernel
theorem dX6_begin_35 : decode cX6_begin 35 = .ok (.putfield 30, 3) := by decide +kernel
theorem dX6_begin_38 : decode cX6_begin 38 = .ok (.aload_n 1, 1) := by decide +kernel
theorem dX6_begin_39 : decode cX6_begin 39 = .ok (.getfield 43, 3) := by decide +kernel
theorem dX6_begin_42 : decode cX6_begin 42 = .ok (.iconst 0, 1) := by decide +kernel
theorem dX6_begin_43 : decode cX6_begin 43 = .ok (.aload_n 0, 1) := by decide +kernel
theorem dX6_begin_44 : decode cX6_begin 44 = .ok (.getfield 33, 3) := by decide +kernel
theorem dX6_begin_47 : decode cX6_begin 47 = .ok (.iconst 0, 1) := by decide +kernel
theorem dX6_begin_48 : decode cX6_begin 48 = .ok (.iconst 4, 1) := by decide +kernel
theorem dX6_begin_49 : decode cX6_begin 49 = .ok (.invokestatic 44, 3) := by decide +kernel
theorem dX6_begin_52 : decode cX6_begin 52 = .ok (.aload_n 0, 1) := by decide +kernel
theorem dX6_begin_53 : decode cX6_begin 53 = .ok (.getfield 37, 3) := by decide +kernel
theorem dX6_begin_56 : decode cX6_begin 56 = .ok (.iconst 0, 1) := by decide +kernel
theorem dX6_begin_57 : decode cX6_begin 57 = .ok (.invokestatic 50, 3) := by decide +kernel
theorem dX6_begin_60 : decode cX6_begin 60 = .ok (.return_, 1) := by decide +kernel
theorem dX6_copyFrom_0 : decode cX6_copyFrom 0 = .ok (.aload_n 0, 1) := by decide +kernel
theorem dX6_copyFrom_1 : decode cX6_copyFrom 1 = .ok (.aload_n 1, 1) := by decide +kernel
theorem dX6_copyFrom_2 : decode cX6_copyFrom 2 = .ok (.getfield 9, 3) := by decide +kernel
theorem dX6_copyFrom_5 : decode cX6_copyFrom 5 = .ok (.putfield 9, 3) := by decide +kernel
theorem dX6_copyFrom_8 : decode cX6_copyFrom 8 = .ok (.aload_n 0, 1) := by decide +kernel
theorem dX6_copyFrom_9 : decode cX6_copyFrom 9 = .ok (.aload_n 1, 1) := by decide +kernel
theorem dX6_copyFrom_10 : decode cX6_copyFrom 10 = .ok (.getfield 15, 3) := by decide +kernel
theorem dX6_copyFrom_13 : decode cX6_copyFrom 13 = .ok (.putfield 15, 3) := by decide +kernel
theorem dX6_copyFrom_16 : decode cX6_copyFrom 16 = .ok (.aload_n 0, 1) := by decide +kernel
theorem dX6_copyFrom_17 : decode cX6_copyFrom 17 = .ok (.aload_n 1, 1) := by decide +kernel
theorem dX6_copyFrom_18 : decode cX6_copyFrom 18 = .ok (.getfield 18, 3) := by decide +kernel
theorem dX6_copyFrom_21 : decode cX6_copyFrom 21 = .ok (.putfield 18, 3) := by decide +kernel
theorem dX6_copyFrom_24 : decode cX6_copyFrom 24 = .ok (.aload_n 0, 1) := by decide +kernel
theorem dX6_copyFrom_25 : decode cX6_copyFrom 25 = .ok (.aload_n 1, 1) := by decide +kernel
theorem dX6_copyFrom_26 : decode cX6_copyFrom 26 = .ok (.getfield 21, 3) := by decide +kernel
theorem dX6_copyFrom_29 : decode cX6_copyFrom 29 = .ok (.putfield 21, 3) := by decide +kernel
theorem dX6_copyFrom_32 : decode cX6_copyFrom 32 = .ok (.aload_n 0, 1) := by decide +kernel
theorem dX6_copyFrom_33 : decode cX6_copyFrom 33 = .ok (.aload_n 1, 1) := by decide +kernel
theorem dX6_copyFrom_34 : decode cX6_copyFrom 34 = .ok (.getfield 24, 3) := by decide +kernel
theorem dX6_copyFrom_37 : decode cX6_copyFrom 37 = .ok (.putfield 24, 3) := by decide +kernel
theorem dX6_copyFrom_40 : decode cX6_copyFrom 40 = .ok (.aload_n 0, 1) := by decide +kernel
theorem dX6_copyFrom_41 : decode cX6_copyFrom 41 = .ok (.aload_n 1, 1) := by decide +kernel
theorem dX6_copyFrom_42 : decode cX6_copyFrom 42 = .ok (.getfield 27, 3) := by decide +kernel
theorem dX6_copyFrom_45 : decode cX6_copyFrom 45 = .ok (.putfield 27, 3) := by decide +kernel
theorem dX6_copyFrom_48 : decode cX6_copyFrom 48 = .ok (.aload_n 0, 1) := by decide +kernel
theorem dX6_copyFrom_49 : decode cX6_copyFrom 49 = .ok (.aload_n 1, 1) := by decide +kernel
theorem dX6_copyFrom_50 : decode cX6_copyFrom 50 = .ok (.getfield 30, 3) := by decide +kernel
theorem dX6_copyFrom_53 : decode cX6_copyFrom 53 = .ok (.putfield 30, 3) := by decide +kernel
theorem dX6_copyFrom_56 : decode cX6_copyFrom 56 = .ok (.aload_n 1, 1) := by decide +kernel
theorem dX6_copyFrom_57 : decode cX6_copyFrom 57 = .ok (.getfield 33, 3) := by decide +kernel
theorem dX6_copyFrom_60 : decode cX6_copyFrom 60 = .ok (.iconst 0, 1) := by decide +kernel
theorem dX6_copyFrom_61 : decode cX6_copyFrom 61 = .ok (.aload_n 0, 1) := by decide +kernel
theorem dX6_copyFrom_62 : decode cX6_copyFrom 62 = .ok (.getfield 33, 3) := by decide +kernel
theorem dX6_copyFrom_65 : decode cX6_copyFrom 65 = .ok (.iconst 0, 1) := by decide +kernel
theorem dX6_copyFrom_66 : decode cX6_copyFrom 66 = .ok (.iconst 4, 1) := by decide +kernel
theorem dX6_copyFrom_67 : decode cX6_copyFrom 67 = .ok (.invokestatic 44, 3) := by decide +kernel
theorem dX6_copyFrom_70 : decode cX6_copyFrom 70 = .ok (.aload_n 1, 1) := by decide +kernel
theorem dX6_copyFrom_71 : decode cX6_copyFrom 71 = .ok (.getfield 37, 3) := by decide +kernel
theorem dX6_copyFrom_74 : decode cX6_copyFrom 74 = .ok (.iconst 0, 1) := by decide +kernel
theorem dX6_copyFrom_75 : decode cX6_copyFrom 75 = .ok (.aload_n 0, 1) := by decide +kernel
theorem dX6_copyFrom_76 : decode cX6_copyFrom 76 = .ok (.getfield 37, 3) := by decide +kernel
theorem dX6_copyFrom_79 : decode cX6_copyFrom 79 = .ok (.iconst 0, 1) := by decide +kernel
theorem dX6_copyFrom_80 : decode cX6_copyFrom 80 = .ok (.bipush 6, 2) := by decide +kernel
theorem dX6_copyFrom_82 : decode cX6_copyFrom 82 = .ok (.invokestatic 44, 3) := by decide +kernel
theorem dX6_copyFrom_85 : decode cX6_copyFrom 85 = .ok (.return_, 1) := by decide +kernel
theorem dX6_hasLapsed_0 : decode cX6_hasLapsed 0 = .ok (.aload_n 0, 1) := by decide +kernel
theorem dX6_hasLapsed_1 : decode cX6_hasLapsed 1 = .ok (.getfield 27, 3) := by decide +kernel
theorem dX6_hasLapsed_4 : decode cX6_hasLapsed 4 = .ok (.iload_n 1, 1) := by decide +kernel
theorem dX6_hasLapsed_5 : decode cX6_hasLapsed 5 = .ok (.ishr, 1) := by decide +kernel
theorem dX6_hasLapsed_6 : decode cX6_hasLapsed 6 = .ok (.iconst 1, 1) := by decide +kernel
theorem dX6_hasLapsed_7 : decode cX6_hasLapsed 7 = .ok (.iand, 1) := by decide +kernel
theorem dX6_hasLapsed_8 : decode cX6_hasLapsed 8 = .ok (.ifCond .eq 7, 3) := by decide +kernel
theorem dX6_hasLapsed_11 : decode cX6_hasLapsed 11 = .ok (.iconst 1, 1) := by decide +kernel
theorem dX6_hasLapsed_12 : decode cX6_hasLapsed 12 = .ok (.goto 4, 3) := by decide +kernel
theorem dX6_hasLapsed_15 : decode cX6_hasLapsed 15 = .ok (.iconst 0, 1) := by decide +kernel
theorem dX6_hasLapsed_16 : decode cX6_hasLapsed 16 = .ok (.ireturn, 1) := by decide +kernel
theorem dX6_addFunds_0 : decode cX6_addFunds 0 = .ok (.aload_n 0, 1) := by decide +kernel
theorem dX6_addFunds_1 : decode cX6_addFunds 1 = .ok (.ldc 56, 2) := by decide +kernel
theorem dX6_addFunds_3 : decode cX6_addFunds 3 = .ok (.aload_n 0, 1) := by decide +kernel
theorem dX6_addFunds_4 : decode cX6_addFunds 4 = .ok (.getfield 15, 3) := by decide +kernel
theorem dX6_addFunds_7 : decode cX6_addFunds 7 = .ok (.iload_n 1, 1) := by decide +kernel
theorem dX6_addFunds_8 : decode cX6_addFunds 8 = .ok (.iadd, 1) := by decide +kernel
theorem dX6_addFunds_9 : decode cX6_addFunds 9 = .ok (.invokestatic 57, 3) := by decide +kernel
theorem dX6_addFunds_12 : decode cX6_addFunds 12 = .ok (.putfield 15, 3) := by decide +kernel
theorem dX6_addFunds_15 : decode cX6_addFunds 15 = .ok (.return_, 1) := by decide +kernel
theorem dX6_passDay_0 : decode cX6_passDay 0 = .ok (.aload_n 0, 1) := by decide +kernel
theorem dX6_passDay_1 : decode cX6_passDay 1 = .ok (.dup, 1) := by decide +kernel
theorem dX6_passDay_2 : decode cX6_passDay 2 = .ok (.getfield 9, 3) := by decide +kernel
theorem dX6_passDay_5 : decode cX6_passDay 5 = .ok (.iconst 1, 1) := by decide +kernel
theorem dX6_passDay_6 : decode cX6_passDay 6 = .ok (.iadd, 1) := by decide +kernel
theorem dX6_passDay_7 : decode cX6_passDay 7 = .ok (.putfield 9, 3) := by decide +kernel
theorem dX6_passDay_10 : decode cX6_passDay 10 = .ok (.iconst 0, 1) := by decide +kernel
theorem dX6_passDay_11 : decode cX6_passDay 11 = .ok (.istore_n 3, 1) := by decide +kernel
theorem dX6_passDay_12 : decode cX6_passDay 12 = .ok (.iload_n 3, 1) := by decide +kernel
theorem dX6_passDay_13 : decode cX6_passDay 13 = .ok (.aload_n 1, 1) := by decide +kernel
theorem dX6_passDay_14 : decode cX6_passDay 14 = .ok (.getfield 63, 3) := by decide +kernel
theorem dX6_passDay_17 : decode cX6_passDay 17 = .ok (.if_icmp .ge 91, 3) := by decide +kernel
theorem dX6_passDay_20 : decode cX6_passDay 20 = .ok (.aload_n 0, 1) := by decide +kernel
theorem dX6_passDay_21 : decode cX6_passDay 21 = .ok (.iload_n 3, 1) := by decide +kernel
theorem dX6_passDay_22 : decode cX6_passDay 22 = .ok (.invokevirtual 66, 3) := by decide +kernel
theorem dX6_passDay_25 : decode cX6_passDay 25 = .ok (.ifCond .eq 6, 3) := by decide +kernel
theorem dX6_passDay_28 : decode cX6_passDay 28 = .ok (.goto 74, 3) := by decide +kernel
theorem dX6_passDay_31 : decode cX6_passDay 31 = .ok (.iload_n 2, 1) := by decide +kernel
theorem dX6_passDay_32 : decode cX6_passDay 32 = .ok (.aload_n 1, 1) := by decide +kernel
theorem dX6_passDay_33 : decode cX6_passDay 33 = .ok (.getfield 70, 3) := by decide +kernel
theorem dX6_passDay_36 : decode cX6_passDay 36 = .ok (.iload_n 3, 1) := by decide +kernel
theorem dX6_passDay_37 : decode cX6_passDay 37 = .ok (.iaload, 1) := by decide +kernel
theorem dX6_passDay_38 : decode cX6_passDay 38 = .ok (.invokestatic 73, 3) := by decide +kernel
theorem dX6_passDay_41 : decode cX6_passDay 41 = .ok (.aload_n 1, 1) := by decide +kernel
theorem dX6_passDay_42 : decode cX6_passDay 42 = .ok (.getfield 76, 3) := by decide +kernel
theorem dX6_passDay_45 : decode cX6_passDay 45 = .ok (.iload_n 3, 1) := by decide +kernel
theorem dX6_passDay_46 : decode cX6_passDay 46 = .ok (.iaload, 1) := by decide +kernel
theorem dX6_passDay_47 : decode cX6_passDay 47 = .ok (.iand, 1) := by decide +kernel
theorem dX6_passDay_48 : decode cX6_passDay 48 = .ok (.ifCond .eq 38, 3) := by decide +kernel
theorem dX6_passDay_51 : decode cX6_passDay 51 = .ok (.aload_n 0, 1) := by decide +kernel
theorem dX6_passDay_52 : decode cX6_passDay 52 = .ok (.getfield 37, 3) := by decide +kernel
theorem dX6_passDay_55 : decode cX6_passDay 55 = .ok (.iload_n 3, 1) := by decide +kernel
theorem dX6_passDay_56 : decode cX6_passDay 56 = .ok (.iconst 0, 1) := by decide +kernel
theorem dX6_passDay_57 : decode cX6_passDay 57 = .ok (.iastore, 1) := by decide +kernel
theorem dX6_passDay_58 : decode cX6_passDay 58 = .ok (.aload_n 0, 1) := by decide +kernel
theorem dX6_passDay_59 : decode cX6_passDay 59 = .ok (.dup, 1) := by decide +kernel
theorem dX6_passDay_60 : decode cX6_passDay 60 = .ok (.getfield 21, 3) := by decide +kernel
theorem dX6_passDay_63 : decode cX6_passDay 63 = .ok (.aload_n 1, 1) := by decide +kernel
theorem dX6_passDay_64 : decode cX6_passDay 64 = .ok (.getfield 79, 3) := by decide +kernel
theorem dX6_passDay_67 : decode cX6_passDay 67 = .ok (.iload_n 3, 1) := by decide +kernel
theorem dX6_passDay_68 : decode cX6_passDay 68 = .ok (.iaload, 1) := by decide +kernel
theorem dX6_passDay_69 : decode cX6_passDay 69 = .ok (.iadd, 1) := by decide +kernel
theorem dX6_passDay_70 : decode cX6_passDay 70 = .ok (.putfield 21, 3) := by decide +kernel
theorem dX6_passDay_73 : decode cX6_passDay 73 = .ok (.aload_n 0, 1) := by decide +kernel
theorem dX6_passDay_74 : decode cX6_passDay 74 = .ok (.aload_n 1, 1) := by decide +kernel
theorem dX6_passDay_75 : decode cX6_passDay 75 = .ok (.getfield 79, 3) := by decide +kernel
theorem dX6_passDay_78 : decode cX6_passDay 78 = .ok (.iload_n 3, 1) := by decide +kernel
theorem dX6_passDay_79 : decode cX6_passDay 79 = .ok (.iaload, 1) := by decide +kernel
theorem dX6_passDay_80 : decode cX6_passDay 80 = .ok (.invokevirtual 82, 3) := by decide +kernel
theorem dX6_passDay_83 : decode cX6_passDay 83 = .ok (.goto 19, 3) := by decide +kernel
theorem dX6_passDay_86 : decode cX6_passDay 86 = .ok (.aload_n 0, 1) := by decide +kernel
theorem dX6_passDay_87 : decode cX6_passDay 87 = .ok (.getfield 37, 3) := by decide +kernel
theorem dX6_passDay_90 : decode cX6_passDay 90 = .ok (.iload_n 3, 1) := by decide +kernel
theorem dX6_passDay_91 : decode cX6_passDay 91 = .ok (.dup2, 1) := by decide +kernel
theorem dX6_passDay_92 : decode cX6_passDay 92 = .ok (.iaload, 1) := by decide +kernel
theorem dX6_passDay_93 : decode cX6_passDay 93 = .ok (.iconst 1, 1) := by decide +kernel
theorem dX6_passDay_94 : decode cX6_passDay 94 = .ok (.iadd, 1) := by decide +kernel
theorem dX6_passDay_95 : decode cX6_passDay 95 = .ok (.iastore, 1) := by decide +kernel
theorem dX6_passDay_96 : decode cX6_passDay 96 = .ok (.aload_n 0, 1) := by decide +kernel
theorem dX6_passDay_97 : decode cX6_passDay 97 = .ok (.aload_n 1, 1) := by decide +kernel
theorem dX6_passDay_98 : decode cX6_passDay 98 = .ok (.iload_n 3, 1) := by decide +kernel
theorem dX6_passDay_99 : decode cX6_passDay 99 = .ok (.invokevirtual 86, 3) := by decide +kernel
theorem dX6_passDay_102 : decode cX6_passDay 102 = .ok (.iinc 3 1, 3) := by decide +kernel
theorem dX6_passDay_105 : decode cX6_passDay 105 = .ok (.goto (-93), 3) := by decide +kernel
theorem dX6_passDay_108 : decode cX6_passDay 108 = .ok (.return_, 1) := by decide +kernel
theorem dX6_payIfDue_0 : decode cX6_payIfDue 0 = .ok (.aload_n 0, 1) := by decide +kernel
theorem dX6_payIfDue_1 : decode cX6_payIfDue 1 = .ok (.getfield 37, 3) := by decide +kernel
theorem dX6_payIfDue_4 : decode cX6_payIfDue 4 = .ok (.iload_n 2, 1) := by decide +kernel
theorem dX6_payIfDue_5 : decode cX6_payIfDue 5 = .ok (.iaload, 1) := by decide +kernel
theorem dX6_payIfDue_6 : decode cX6_payIfDue 6 = .ok (.aload_n 1, 1) := by decide +kernel
theorem dX6_payIfDue_7 : decode cX6_payIfDue 7 = .ok (.getfield 90, 3) := by decide +kernel
theorem dX6_payIfDue_10 : decode cX6_payIfDue 10 = .ok (.iload_n 2, 1) := by decide +kernel
theorem dX6_payIfDue_11 : decode cX6_payIfDue 11 = .ok (.iaload, 1) := by decide +kernel
theorem dX6_payIfDue_12 : decode cX6_payIfDue 12 = .ok (.if_icmp .ge 4, 3) := by decide +kernel
theorem dX6_payIfDue_15 : decode cX6_payIfDue 15 = .ok (.return_, 1) := by decide +kernel
theorem dX6_payIfDue_16 : decode cX6_payIfDue 16 = .ok (.aload_n 0, 1) := by decide +kernel
theorem dX6_payIfDue_17 : decode cX6_payIfDue 17 = .ok (.getfield 37, 3) := by decide +kernel
theorem dX6_payIfDue_20 : decode cX6_payIfDue 20 = .ok (.iload_n 2, 1) := by decide +kernel
theorem dX6_payIfDue_21 : decode cX6_payIfDue 21 = .ok (.iconst 0, 1) := by decide +kernel
theorem dX6_payIfDue_22 : decode cX6_payIfDue 22 = .ok (.iastore, 1) := by decide +kernel
theorem dX6_payIfDue_23 : decode cX6_payIfDue 23 = .ok (.aload_n 1, 1) := by decide +kernel
theorem dX6_payIfDue_24 : decode cX6_payIfDue 24 = .ok (.getfield 93, 3) := by decide +kernel
theorem dX6_payIfDue_27 : decode cX6_payIfDue 27 = .ok (.iload_n 2, 1) := by decide +kernel
theorem dX6_payIfDue_28 : decode cX6_payIfDue 28 = .ok (.iaload, 1) := by decide +kernel
theorem dX6_payIfDue_29 : decode cX6_payIfDue 29 = .ok (.istore_n 3, 1) := by decide +kernel
theorem dX6_payIfDue_30 : decode cX6_payIfDue 30 = .ok (.aload_n 0, 1) := by decide +kernel
theorem dX6_payIfDue_31 : decode cX6_payIfDue 31 = .ok (.getfield 15, 3) := by decide +kernel
theorem dX6_payIfDue_34 : decode cX6_payIfDue 34 = .ok (.iload_n 3, 1) := by decide +kernel
theorem dX6_payIfDue_35 : decode cX6_payIfDue 35 = .ok (.if_icmp .ge 19, 3) := by decide +kernel
theorem dX6_payIfDue_38 : decode cX6_payIfDue 38 = .ok (.aload_n 0, 1) := by decide +kernel
theorem dX6_payIfDue_39 : decode cX6_payIfDue 39 = .ok (.getfield 24, 3) := by decide +kernel
theorem dX6_payIfDue_42 : decode cX6_payIfDue 42 = .ok (.iconst (-1), 1) := by decide +kernel
theorem dX6_payIfDue_43 : decode cX6_payIfDue 43 = .ok (.if_icmp .ne 11, 3) := by decide +kernel
theorem dX6_payIfDue_46 : decode cX6_payIfDue 46 = .ok (.aload_n 0, 1) := by decide +kernel
theorem dX6_payIfDue_47 : decode cX6_payIfDue 47 = .ok (.aload_n 0, 1) := by decide +kernel
theorem dX6_payIfDue_48 : decode cX6_payIfDue 48 = .ok (.getfield 9, 3) := by decide +kernel
theorem dX6_payIfDue_51 : decode cX6_payIfDue 51 = .ok (.putfield 24, 3) := by decide +kernel
theorem dX6_payIfDue_54 : decode cX6_payIfDue 54 = .ok (.aload_n 0, 1) := by decide +kernel
theorem dX6_payIfDue_55 : decode cX6_payIfDue 55 = .ok (.getfield 15, 3) := by decide +kernel
theorem dX6_payIfDue_58 : decode cX6_payIfDue 58 = .ok (.iload_n 3, 1) := by decide +kernel
theorem dX6_payIfDue_59 : decode cX6_payIfDue 59 = .ok (.invokestatic 57, 3) := by decide +kernel
theorem dX6_payIfDue_62 : decode cX6_payIfDue 62 = .ok (.istore 4, 2) := by decide +kernel
theorem dX6_payIfDue_64 : decode cX6_payIfDue 64 = .ok (.aload_n 0, 1) := by decide +kernel
theorem dX6_payIfDue_65 : decode cX6_payIfDue 65 = .ok (.dup, 1) := by decide +kernel
theorem dX6_payIfDue_66 : decode cX6_payIfDue 66 = .ok (.getfield 15, 3) := by decide +kernel
theorem dX6_payIfDue_69 : decode cX6_payIfDue 69 = .ok (.iload 4, 2) := by decide +kernel
theorem dX6_payIfDue_71 : decode cX6_payIfDue 71 = .ok (.isub, 1) := by decide +kernel
theorem dX6_payIfDue_72 : decode cX6_payIfDue 72 = .ok (.putfield 15, 3) := by decide +kernel
theorem dX6_payIfDue_75 : decode cX6_payIfDue 75 = .ok (.aload_n 0, 1) := by decide +kernel
theorem dX6_payIfDue_76 : decode cX6_payIfDue 76 = .ok (.dup, 1) := by decide +kernel
theorem dX6_payIfDue_77 : decode cX6_payIfDue 77 = .ok (.getfield 18, 3) := by decide +kernel
theorem dX6_payIfDue_80 : decode cX6_payIfDue 80 = .ok (.iload 4, 2) := by decide +kernel
theorem dX6_payIfDue_82 : decode cX6_payIfDue 82 = .ok (.iadd, 1) := by decide +kernel
theorem dX6_payIfDue_83 : decode cX6_payIfDue 83 = .ok (.putfield 18, 3) := by decide +kernel
theorem dX6_payIfDue_86 : decode cX6_payIfDue 86 = .ok (.return_, 1) := by decide +kernel
theorem dX7_init_0 : decode cX7_init 0 = .ok (.aload_n 0, 1) := by decide +kernel
theorem dX7_init_1 : decode cX7_init 1 = .ok (.invokespecial 3, 3) := by decide +kernel
theorem dX7_init_4 : decode cX7_init 4 = .ok (.aload_n 0, 1) := by decide +kernel
theorem dX7_init_5 : decode cX7_init 5 = .ok (.new 9, 3) := by decide +kernel
theorem dX7_init_8 : decode cX7_init 8 = .ok (.dup, 1) := by decide +kernel
theorem dX7_init_9 : decode cX7_init 9 = .ok (.invokespecial 11, 3) := by decide +kernel
theorem dX7_init_12 : decode cX7_init 12 = .ok (.putfield 12, 3) := by decide +kernel
theorem dX7_init_15 : decode cX7_init 15 = .ok (.return_, 1) := by decide +kernel
theorem dX7_daysToRuin_0 : decode cX7_daysToRuin 0 = .ok (.aload_n 0, 1) := by decide +kernel
theorem dX7_daysToRuin_1 : decode cX7_daysToRuin 1 = .ok (.getfield 12, 3) := by decide +kernel
theorem dX7_daysToRuin_4 : decode cX7_daysToRuin 4 = .ok (.aload_n 2, 1) := by decide +kernel
theorem dX7_daysToRuin_5 : decode cX7_daysToRuin 5 = .ok (.invokevirtual 18, 3) := by decide +kernel
theorem dX7_daysToRuin_8 : decode cX7_daysToRuin 8 = .ok (.aload_n 0, 1) := by decide +kernel
theorem dX7_daysToRuin_9 : decode cX7_daysToRuin 9 = .ok (.getfield 12, 3) := by decide +kernel
theorem dX7_daysToRuin_12 : decode cX7_daysToRuin 12 = .ok (.iconst (-1), 1) := by decide +kernel
theorem dX7_daysToRuin_13 : decode cX7_daysToRuin 13 = .ok (.putfield 22, 3) := by decide +kernel
theorem dX7_daysToRuin_16 : decode cX7_daysToRuin 16 = .ok (.iconst 1, 1) := by decide +kernel
theorem dX7_daysToRuin_17 : decode cX7_daysToRuin 17 = .ok (.istore_n 3, 1) := by decide +kernel
theorem dX7_daysToRuin_18 : decode cX7_daysToRuin 18 = .ok (.iload_n 3, 1) := by decide +kernel
theorem dX7_daysToRuin_19 : decode cX7_daysToRuin 19 = .ok (.sipush 999, 3) := by decide +kernel
theorem dX7_daysToRuin_22 : decode cX7_daysToRuin 22 = .ok (.if_icmp .gt 31, 3) := by decide +kernel
theorem dX7_daysToRuin_25 : decode cX7_daysToRuin 25 = .ok (.aload_n 0, 1) := by decide +kernel
theorem dX7_daysToRuin_26 : decode cX7_daysToRuin 26 = .ok (.getfield 12, 3) := by decide +kernel
theorem dX7_daysToRuin_29 : decode cX7_daysToRuin 29 = .ok (.aload_n 1, 1) := by decide +kernel
theorem dX7_daysToRuin_30 : decode cX7_daysToRuin 30 = .ok (.iconst 0, 1) := by decide +kernel
theorem dX7_daysToRuin_31 : decode cX7_daysToRuin 31 = .ok (.invokevirtual 26, 3) := by decide +kernel
theorem dX7_daysToRuin_34 : decode cX7_daysToRuin 34 = .ok (.aload_n 0, 1) := by decide +kernel
theorem dX7_daysToRuin_35 : decode cX7_daysToRuin 35 = .ok (.getfield 12, 3) := by decide +kernel
theorem dX7_daysToRuin_38 : decode cX7_daysToRuin 38 = .ok (.getfield 22, 3) := by decide +kernel
theorem dX7_daysToRuin_41 : decode cX7_daysToRuin 41 = .ok (.iconst (-1), 1) := by decide +kernel
theorem dX7_daysToRuin_42 : decode cX7_daysToRuin 42 = .ok (.if_icmp .eq 5, 3) := by decide +kernel
theorem dX7_daysToRuin_45 : decode cX7_daysToRuin 45 = .ok (.iload_n 3, 1) := by decide +kernel
theorem dX7_daysToRuin_46 : decode cX7_daysToRuin 46 = .ok (.ireturn, 1) := by decide +kernel
theorem dX7_daysToRuin_47 : decode cX7_daysToRuin 47 = .ok (.iinc 3 1, 3) := by decide +kernel
theorem dX7_daysToRuin_50 : decode cX7_daysToRuin 50 = .ok (.goto (-32), 3) := by decide +kernel
theorem dX7_daysToRuin_53 : decode cX7_daysToRuin 53 = .ok (.iconst (-1), 1) := by decide +kernel
theorem dX7_daysToRuin_54 : decode cX7_daysToRuin 54 = .ok (.ireturn, 1) := by decide +kernel
theorem dX7_firstWrong_0 : decode cX7_firstWrong 0 = .ok (.aload_n 0, 1) := by decide +kernel
theorem dX7_firstWrong_1 : decode cX7_firstWrong 1 = .ok (.getfield 12, 3) := by decide +kernel
theorem dX7_firstWrong_4 : decode cX7_firstWrong 4 = .ok (.aload_n 2, 1) := by decide +kernel
theorem dX7_firstWrong_5 : decode cX7_firstWrong 5 = .ok (.invokevirtual 18, 3) := by decide +kernel
theorem dX7_firstWrong_8 : decode cX7_firstWrong 8 = .ok (.iconst 0, 1) := by decide +kernel
theorem dX7_firstWrong_9 : decode cX7_firstWrong 9 = .ok (.istore 4, 2) := by decide +kernel
theorem dX7_firstWrong_11 : decode cX7_firstWrong 11 = .ok (.iload 4, 2) := by decide +kernel
theorem dX7_firstWrong_13 : decode cX7_firstWrong 13 = .ok (.aload_n 3, 1) := by decide +kernel
theorem dX7_firstWrong_14 : decode cX7_firstWrong 14 = .ok (.getfield 30, 3) := by decide +kernel
theorem dX7_firstWrong_17 : decode cX7_firstWrong 17 = .ok (.if_icmp .ge 38, 3) := by decide +kernel
theorem dX7_firstWrong_20 : decode cX7_firstWrong 20 = .ok (.aload_n 0, 1) := by decide +kernel
theorem dX7_firstWrong_21 : decode cX7_firstWrong 21 = .ok (.getfield 12, 3) := by decide +kernel
theorem dX7_firstWrong_24 : decode cX7_firstWrong 24 = .ok (.aload_n 1, 1) := by decide +kernel
theorem dX7_firstWrong_25 : decode cX7_firstWrong 25 = .ok (.iconst 0, 1) := by decide +kernel
theorem dX7_firstWrong_26 : decode cX7_firstWrong 26 = .ok (.invokevirtual 26, 3) := by decide +kernel
theorem dX7_firstWrong_29 : decode cX7_firstWrong 29 = .ok (.aload_n 0, 1) := by decide +kernel
theorem dX7_firstWrong_30 : decode cX7_firstWrong 30 = .ok (.getfield 12, 3) := by decide +kernel
theorem dX7_firstWrong_33 : decode cX7_firstWrong 33 = .ok (.getfield 35, 3) := by decide +kernel
theorem dX7_firstWrong_36 : decode cX7_firstWrong 36 = .ok (.aload_n 3, 1) := by decide +kernel
theorem dX7_firstWrong_37 : decode cX7_firstWrong 37 = .ok (.getfield 38, 3) := by decide +kernel
theorem dX7_firstWrong_40 : decode cX7_firstWrong 40 = .ok (.iload 4, 2) := by decide +kernel
theorem dX7_firstWrong_42 : decode cX7_firstWrong 42 = .ok (.iaload, 1) := by decide +kernel
theorem dX7_firstWrong_43 : decode cX7_firstWrong 43 = .ok (.if_icmp .eq 6, 3) := by decide +kernel
theorem dX7_firstWrong_46 : decode cX7_firstWrong 46 = .ok (.iload 4, 2) := by decide +kernel
theorem dX7_firstWrong_48 : decode cX7_firstWrong 48 = .ok (.ireturn, 1) := by decide +kernel
theorem dX7_firstWrong_49 : decode cX7_firstWrong 49 = .ok (.iinc 4 1, 3) := by decide +kernel
theorem dX7_firstWrong_52 : decode cX7_firstWrong 52 = .ok (.goto (-41), 3) := by decide +kernel
theorem dX7_firstWrong_55 : decode cX7_firstWrong 55 = .ok (.iconst (-1), 1) := by decide +kernel
theorem dX7_firstWrong_56 : decode cX7_firstWrong 56 = .ok (.ireturn, 1) := by decide +kernel
theorem dX7_paidInQuiet_0 : decode cX7_paidInQuiet 0 = .ok (.aload_n 0, 1) := by decide +kernel
theorem dX7_paidInQuiet_1 : decode cX7_paidInQuiet 1 = .ok (.getfield 42, 3) := by decide +kernel
theorem dX7_paidInQuiet_4 : decode cX7_paidInQuiet 4 = .ok (.iload_n 2, 1) := by decide +kernel
theorem dX7_paidInQuiet_5 : decode cX7_paidInQuiet 5 = .ok (.iaload, 1) := by decide +kernel
theorem dX7_paidInQuiet_6 : decode cX7_paidInQuiet 6 = .ok (.istore 4, 2) := by decide +kernel
theorem dX7_paidInQuiet_8 : decode cX7_paidInQuiet 8 = .ok (.iload 4, 2) := by decide +kernel
theorem dX7_paidInQuiet_10 : decode cX7_paidInQuiet 10 = .ok (.iconst 1, 1) := by decide +kernel
theorem dX7_paidInQuiet_11 : decode cX7_paidInQuiet 11 = .ok (.if_icmp .ge 7, 3) := by decide +kernel
theorem dX7_paidInQuiet_14 : decode cX7_paidInQuiet 14 = .ok (.iconst 0, 1) := by decide +kernel
theorem dX7_paidInQuiet_15 : decode cX7_paidInQuiet 15 = .ok (.goto 21, 3) := by decide +kernel
theorem dX7_paidInQuiet_18 : decode cX7_paidInQuiet 18 = .ok (.aload_n 1, 1) := by decide +kernel
theorem dX7_paidInQuiet_19 : decode cX7_paidInQuiet 19 = .ok (.getfield 47, 3) := by decide +kernel
theorem dX7_paidInQuiet_22 : decode cX7_paidInQuiet 22 = .ok (.iload_n 2, 1) := by decide +kernel
theorem dX7_paidInQuiet_23 : decode cX7_paidInQuiet 23 = .ok (.iaload, 1) := by decide +kernel
theorem dX7_paidInQuiet_24 : decode cX7_paidInQuiet 24 = .ok (.iload_n 3, 1) := by decide +kernel
theorem dX7_paidInQuiet_25 : decode cX7_paidInQuiet 25 = .ok (.iadd, 1) := by decide +kernel
theorem dX7_paidInQuiet_26 : decode cX7_paidInQuiet 26 = .ok (.iload 4, 2) := by decide +kernel
theorem dX7_paidInQuiet_28 : decode cX7_paidInQuiet 28 = .ok (.idiv, 1) := by decide +kernel
theorem dX7_paidInQuiet_29 : decode cX7_paidInQuiet 29 = .ok (.aload_n 0, 1) := by decide +kernel
theorem dX7_paidInQuiet_30 : decode cX7_paidInQuiet 30 = .ok (.getfield 50, 3) := by decide +kernel
theorem dX7_paidInQuiet_33 : decode cX7_paidInQuiet 33 = .ok (.iload_n 2, 1) := by decide +kernel
theorem dX7_paidInQuiet_34 : decode cX7_paidInQuiet 34 = .ok (.iaload, 1) := by decide +kernel
theorem dX7_paidInQuiet_35 : decode cX7_paidInQuiet 35 = .ok (.imul, 1) := by decide +kernel
theorem dX7_paidInQuiet_36 : decode cX7_paidInQuiet 36 = .ok (.ireturn, 1) := by decide +kernel
theorem dX7_paidBySet_0 : decode cX7_paidBySet 0 = .ok (.iconst 0, 1) := by decide +kernel
theorem dX7_paidBySet_1 : decode cX7_paidBySet 1 = .ok (.istore 4, 2) := by decide +kernel
theorem dX7_paidBySet_3 : decode cX7_paidBySet 3 = .ok (.iconst 0, 1) := by decide +kernel
theorem dX7_paidBySet_4 : decode cX7_paidBySet 4 = .ok (.istore 5, 2) := by decide +kernel
theorem dX7_paidBySet_6 : decode cX7_paidBySet 6 = .ok (.iload 5, 2) := by decide +kernel
theorem dX7_paidBySet_8 : decode cX7_paidBySet 8 = .ok (.aload_n 0, 1) := by decide +kernel
theorem dX7_paidBySet_9 : decode cX7_paidBySet 9 = .ok (.getfield 53, 3) := by decide +kernel
theorem dX7_paidBySet_12 : decode cX7_paidBySet 12 = .ok (.if_icmp .ge 31, 3) := by decide +kernel
theorem dX7_paidBySet_15 : decode cX7_paidBySet 15 = .ok (.iload_n 2, 1) := by decide +kernel
theorem dX7_paidBySet_16 : decode cX7_paidBySet 16 = .ok (.iload 5, 2) := by decide +kernel
theorem dX7_paidBySet_18 : decode cX7_paidBySet 18 = .ok (.ishr, 1) := by decide +kernel
theorem dX7_paidBySet_19 : decode cX7_paidBySet 19 = .ok (.iconst 1, 1) := by decide +kernel
theorem dX7_paidBySet_20 : decode cX7_paidBySet 20 = .ok (.iand, 1) := by decide +kernel
theorem dX7_paidBySet_21 : decode cX7_paidBySet 21 = .ok (.ifCond .eq 16, 3) := by decide +kernel
theorem dX7_paidBySet_24 : decode cX7_paidBySet 24 = .ok (.iload 4, 2) := by decide +kernel
theorem dX7_paidBySet_26 : decode cX7_paidBySet 26 = .ok (.aload_n 0, 1) := by decide +kernel
theorem dX7_paidBySet_27 : decode cX7_paidBySet 27 = .ok (.aload_n 1, 1) := by decide +kernel
theorem dX7_paidBySet_28 : decode cX7_paidBySet 28 = .ok (.iload 5, 2) := by decide +kernel
theorem dX7_paidBySet_30 : decode cX7_paidBySet 30 = .ok (.iload_n 3, 1) := by decide +kernel
theorem dX7_paidBySet_31 : decode cX7_paidBySet 31 = .ok (.invokestatic 56, 3) := by decide +kernel
theorem dX7_paidBySet_34 : decode cX7_paidBySet 34 = .ok (.iadd, 1) := by decide +kernel
theorem dX7_paidBySet_35 : decode cX7_paidBySet 35 = .ok (.istore 4, 2) := by decide +kernel
theorem dX7_paidBySet_37 : decode cX7_paidBySet 37 = .ok (.iinc 5 1, 3) := by decide +kernel
theorem dX7_paidBySet_40 : decode cX7_paidBySet 40 = .ok (.goto (-34), 3) := by decide +kernel
theorem dX7_paidBySet_43 : decode cX7_paidBySet 43 = .ok (.iload 4, 2) := by decide +kernel
theorem dX7_paidBySet_45 : decode cX7_paidBySet 45 = .ok (.ireturn, 1) := by decide +kernel
theorem dX7_notLapsed_0 : decode cX7_notLapsed 0 = .ok (.iconst 1, 1) := by decide +kernel
theorem dX7_notLapsed_1 : decode cX7_notLapsed 1 = .ok (.aload_n 0, 1) := by decide +kernel
theorem dX7_notLapsed_2 : decode cX7_notLapsed 2 = .ok (.getfield 53, 3) := by decide +kernel
theorem dX7_notLapsed_5 : decode cX7_notLapsed 5 = .ok (.ishl, 1) := by decide +kernel
theorem dX7_notLapsed_6 : decode cX7_notLapsed 6 = .ok (.iconst 1, 1) := by decide +kernel
theorem dX7_notLapsed_7 : decode cX7_notLapsed 7 = .ok (.isub, 1) := by decide +kernel
theorem dX7_notLapsed_8 : decode cX7_notLapsed 8 = .ok (.aload_n 1, 1) := by decide +kernel
theorem dX7_notLapsed_9 : decode cX7_notLapsed 9 = .ok (.getfield 60, 3) := by decide +kernel
theorem dX7_notLapsed_12 : decode cX7_notLapsed 12 = .ok (.iconst (-1), 1) := by decide +kernel
theorem dX7_notLapsed_13 : decode cX7_notLapsed 13 = .ok (.ixor, 1) := by decide +kernel
theorem dX7_notLapsed_14 : decode cX7_notLapsed 14 = .ok (.iand, 1) := by decide +kernel
theorem dX7_notLapsed_15 : decode cX7_notLapsed 15 = .ok (.ireturn, 1) := by decide +kernel
theorem dX7_fundsNeeded_0 : decode cX7_fundsNeeded 0 = .ok (.aload_n 0, 1) := by decide +kernel
theorem dX7_fundsNeeded_1 : decode cX7_fundsNeeded 1 = .ok (.aload_n 1, 1) := by decide +kernel
theorem dX7_fundsNeeded_2 : decode cX7_fundsNeeded 2 = .ok (.aload_n 0, 1) := by decide +kernel
theorem dX7_fundsNeeded_3 : decode cX7_fundsNeeded 3 = .ok (.aload_n 1, 1) := by decide +kernel
theorem dX7_fundsNeeded_4 : decode cX7_fundsNeeded 4 = .ok (.invokestatic 63, 3) := by decide +kernel
theorem dX7_fundsNeeded_7 : decode cX7_fundsNeeded 7 = .ok (.iload_n 2, 1) := by decide +kernel
theorem dX7_fundsNeeded_8 : decode cX7_fundsNeeded 8 = .ok (.invokestatic 67, 3) := by decide +kernel
theorem dX7_fundsNeeded_11 : decode cX7_fundsNeeded 11 = .ok (.ireturn, 1) := by decide +kernel
theorem dX7_premiumsOf_0 : decode cX7_premiumsOf 0 = .ok (.iconst 0, 1) := by decide +kernel
theorem dX7_premiumsOf_1 : decode cX7_premiumsOf 1 = .ok (.istore_n 2, 1) := by decide +kernel
theorem dX7_premiumsOf_2 : decode cX7_premiumsOf 2 = .ok (.iconst 0, 1) := by decide +kernel
theorem dX7_premiumsOf_3 : decode cX7_premiumsOf 3 = .ok (.istore_n 3, 1) := by decide +kernel
theorem dX7_premiumsOf_4 : decode cX7_premiumsOf 4 = .ok (.iload_n 3, 1) := by decide +kernel
theorem dX7_premiumsOf_5 : decode cX7_premiumsOf 5 = .ok (.aload_n 0, 1) := by decide +kernel
theorem dX7_premiumsOf_6 : decode cX7_premiumsOf 6 = .ok (.getfield 53, 3) := by decide +kernel
theorem dX7_premiumsOf_9 : decode cX7_premiumsOf 9 = .ok (.if_icmp .ge 26, 3) := by decide +kernel
theorem dX7_premiumsOf_12 : decode cX7_premiumsOf 12 = .ok (.iload_n 1, 1) := by decide +kernel
theorem dX7_premiumsOf_13 : decode cX7_premiumsOf 13 = .ok (.iload_n 3, 1) := by decide +kernel
theorem dX7_premiumsOf_14 : decode cX7_premiumsOf 14 = .ok (.ishr, 1) := by decide +kernel
theorem dX7_premiumsOf_15 : decode cX7_premiumsOf 15 = .ok (.iconst 1, 1) := by decide +kernel
theorem dX7_premiumsOf_16 : decode cX7_premiumsOf 16 = .ok (.iand, 1) := by decide +kernel
theorem dX7_premiumsOf_17 : decode cX7_premiumsOf 17 = .ok (.ifCond .eq 12, 3) := by decide +kernel
theorem dX7_premiumsOf_20 : decode cX7_premiumsOf 20 = .ok (.iload_n 2, 1) := by decide +kernel
theorem dX7_premiumsOf_21 : decode cX7_premiumsOf 21 = .ok (.aload_n 0, 1) := by decide +kernel
theorem dX7_premiumsOf_22 : decode cX7_premiumsOf 22 = .ok (.getfield 70, 3) := by decide +kernel
theorem dX7_premiumsOf_25 : decode cX7_premiumsOf 25 = .ok (.iload_n 3, 1) := by decide +kernel
theorem dX7_premiumsOf_26 : decode cX7_premiumsOf 26 = .ok (.iaload, 1) := by decide +kernel
theorem dX7_premiumsOf_27 : decode cX7_premiumsOf 27 = .ok (.iadd, 1) := by decide +kernel
theorem dX7_premiumsOf_28 : decode cX7_premiumsOf 28 = .ok (.istore_n 2, 1) := by decide +kernel
theorem dX7_premiumsOf_29 : decode cX7_premiumsOf 29 = .ok (.iinc 3 1, 3) := by decide +kernel
theorem dX7_premiumsOf_32 : decode cX7_premiumsOf 32 = .ok (.goto (-28), 3) := by decide +kernel
theorem dX7_premiumsOf_35 : decode cX7_premiumsOf 35 = .ok (.iload_n 2, 1) := by decide +kernel
theorem dX7_premiumsOf_36 : decode cX7_premiumsOf 36 = .ok (.ireturn, 1) := by decide +kernel
theorem dX7_bestToKeep_0 : decode cX7_bestToKeep 0 = .ok (.aload_n 0, 1) := by decide +kernel
theorem dX7_bestToKeep_1 : decode cX7_bestToKeep 1 = .ok (.aload_n 1, 1) := by decide +kernel
theorem dX7_bestToKeep_2 : decode cX7_bestToKeep 2 = .ok (.invokestatic 63, 3) := by decide +kernel
theorem dX7_bestToKeep_5 : decode cX7_bestToKeep 5 = .ok (.istore_n 3, 1) := by decide +kernel
theorem dX7_bestToKeep_6 : decode cX7_bestToKeep 6 = .ok (.iconst 0, 1) := by decide +kernel
theorem dX7_bestToKeep_7 : decode cX7_bestToKeep 7 = .ok (.istore 4, 2) := by decide +kernel
theorem dX7_bestToKeep_9 : decode cX7_bestToKeep 9 = .ok (.iconst 1, 1) := by decide +kernel
theorem dX7_bestToKeep_10 : decode cX7_bestToKeep 10 = .ok (.istore 5, 2) := by decide +kernel
theorem dX7_bestToKeep_12 : decode cX7_bestToKeep 12 = .ok (.iload 5, 2) := by decide +kernel
theorem dX7_bestToKeep_14 : decode cX7_bestToKeep 14 = .ok (.iload_n 3, 1) := by decide +kernel
theorem dX7_bestToKeep_15 : decode cX7_bestToKeep 15 = .ok (.if_icmp .gt 48, 3) := by decide +kernel
theorem dX7_bestToKeep_18 : decode cX7_bestToKeep 18 = .ok (.iload 5, 2) := by decide +kernel
theorem dX7_bestToKeep_20 : decode cX7_bestToKeep 20 = .ok (.iload_n 3, 1) := by decide +kernel
theorem dX7_bestToKeep_21 : decode cX7_bestToKeep 21 = .ok (.iconst (-1), 1) := by decide +kernel
theorem dX7_bestToKeep_22 : decode cX7_bestToKeep 22 = .ok (.ixor, 1) := by decide +kernel
theorem dX7_bestToKeep_23 : decode cX7_bestToKeep 23 = .ok (.iand, 1) := by decide +kernel
theorem dX7_bestToKeep_24 : decode cX7_bestToKeep 24 = .ok (.ifCond .ne 33, 3) := by decide +kernel
theorem dX7_bestToKeep_27 : decode cX7_bestToKeep 27 = .ok (.aload_n 0, 1) := by decide +kernel
theorem dX7_bestToKeep_28 : decode cX7_bestToKeep 28 = .ok (.aload_n 1, 1) := by decide +kernel
theorem dX7_bestToKeep_29 : decode cX7_bestToKeep 29 = .ok (.iload 5, 2) := by decide +kernel
theorem dX7_bestToKeep_31 : decode cX7_bestToKeep 31 = .ok (.iload_n 2, 1) := by decide +kernel
theorem dX7_bestToKeep_32 : decode cX7_bestToKeep 32 = .ok (.invokestatic 67, 3) := by decide +kernel
theorem dX7_bestToKeep_35 : decode cX7_bestToKeep 35 = .ok (.aload_n 1, 1) := by decide +kernel
theorem dX7_bestToKeep_36 : decode cX7_bestToKeep 36 = .ok (.getfield 35, 3) := by decide +kernel
theorem dX7_bestToKeep_39 : decode cX7_bestToKeep 39 = .ok (.if_icmp .gt 18, 3) := by decide +kernel
theorem dX7_bestToKeep_42 : decode cX7_bestToKeep 42 = .ok (.aload_n 0, 1) := by decide +kernel
theorem dX7_bestToKeep_43 : decode cX7_bestToKeep 43 = .ok (.iload 5, 2) := by decide +kernel
theorem dX7_bestToKeep_45 : decode cX7_bestToKeep 45 = .ok (.iload 4, 2) := by decide +kernel
theorem dX7_bestToKeep_47 : decode cX7_bestToKeep 47 = .ok (.invokestatic 73, 3) := by decide +kernel
theorem dX7_bestToKeep_50 : decode cX7_bestToKeep 50 = .ok (.ifCond .eq 7, 3) := by decide +kernel
theorem dX7_bestToKeep_53 : decode cX7_bestToKeep 53 = .ok (.iload 5, 2) := by decide +kernel
theorem dX7_bestToKeep_55 : decode cX7_bestToKeep 55 = .ok (.istore 4, 2) := by decide +kernel
theorem dX7_bestToKeep_57 : decode cX7_bestToKeep 57 = .ok (.iinc 5 1, 3) := by decide +kernel
theorem dX7_bestToKeep_60 : decode cX7_bestToKeep 60 = .ok (.goto (-48), 3) := by decide +kernel
theorem dX7_bestToKeep_63 : decode cX7_bestToKeep 63 = .ok (.iload 4, 2) := by decide +kernel
theorem dX7_bestToKeep_65 : decode cX7_bestToKeep 65 = .ok (.ireturn, 1) := by decide +kernel
theorem dX7_isBetter_0 : decode cX7_isBetter 0 = .ok (.aload_n 0, 1) := by decide +kernel
theorem dX7_isBetter_1 : decode cX7_isBetter 1 = .ok (.iload_n 1, 1) := by decide +kernel
theorem dX7_isBetter_2 : decode cX7_isBetter 2 = .ok (.invokestatic 77, 3) := by decide +kernel
theorem dX7_isBetter_5 : decode cX7_isBetter 5 = .ok (.aload_n 0, 1) := by decide +kernel
theorem dX7_isBetter_6 : decode cX7_isBetter 6 = .ok (.iload_n 2, 1) := by decide +kernel
theorem dX7_isBetter_7 : decode cX7_isBetter 7 = .ok (.invokestatic 77, 3) := by decide +kernel
theorem dX7_isBetter_10 : decode cX7_isBetter 10 = .ok (.invokestatic 81, 3) := by decide +kernel
theorem dX7_isBetter_13 : decode cX7_isBetter 13 = .ok (.istore_n 3, 1) := by decide +kernel
theorem dX7_isBetter_14 : decode cX7_isBetter 14 = .ok (.iload_n 3, 1) := by decide +kernel
theorem dX7_isBetter_15 : decode cX7_isBetter 15 = .ok (.ifCond .gt 18, 3) := by decide +kernel
theorem dX7_isBetter_18 : decode cX7_isBetter 18 = .ok (.iload_n 3, 1) := by decide +kernel
theorem dX7_isBetter_19 : decode cX7_isBetter 19 = .ok (.ifCond .ne 18, 3) := by decide +kernel
theorem dX7_isBetter_22 : decode cX7_isBetter 22 = .ok (.iload_n 1, 1) := by decide +kernel
theorem dX7_isBetter_23 : decode cX7_isBetter 23 = .ok (.invokestatic 87, 3) := by decide +kernel
theorem dX7_isBetter_26 : decode cX7_isBetter 26 = .ok (.iload_n 2, 1) := by decide +kernel
theorem dX7_isBetter_27 : decode cX7_isBetter 27 = .ok (.invokestatic 87, 3) := by decide +kernel
theorem dX7_isBetter_30 : decode cX7_isBetter 30 = .ok (.if_icmp .ge 7, 3) := by decide +kernel
theorem dX7_isBetter_33 : decode cX7_isBetter 33 = .ok (.iconst 1, 1) := by decide +kernel
theorem dX7_isBetter_34 : decode cX7_isBetter 34 = .ok (.goto 4, 3) := by decide +kernel
theorem dX7_isBetter_37 : decode cX7_isBetter 37 = .ok (.iconst 0, 1) := by decide +kernel
theorem dX7_isBetter_38 : decode cX7_isBetter 38 = .ok (.ireturn, 1) := by decide +kernel
theorem dX7_isLit_0 : decode cX7_isLit 0 = .ok (.aload_n 0, 1) := by decide +kernel
theorem dX7_isLit_1 : decode cX7_isLit 1 = .ok (.getfield 91, 3) := by decide +kernel
theorem dX7_isLit_4 : decode cX7_isLit 4 = .ok (.iload_n 2, 1) := by decide +kernel
theorem dX7_isLit_5 : decode cX7_isLit 5 = .ok (.iaload, 1) := by decide +kernel
theorem dX7_isLit_6 : decode cX7_isLit 6 = .ok (.iload_n 3, 1) := by decide +kernel
theorem dX7_isLit_7 : decode cX7_isLit 7 = .ok (.if_icmp .ne 29, 3) := by decide +kernel
theorem dX7_isLit_10 : decode cX7_isLit 10 = .ok (.aload_n 0, 1) := by decide +kernel
theorem dX7_isLit_11 : decode cX7_isLit 11 = .ok (.getfield 94, 3) := by decide +kernel
theorem dX7_isLit_14 : decode cX7_isLit 14 = .ok (.iload_n 2, 1) := by decide +kernel
theorem dX7_isLit_15 : decode cX7_isLit 15 = .ok (.iaload, 1) := by decide +kernel
theorem dX7_isLit_16 : decode cX7_isLit 16 = .ok (.iload 4, 2) := by decide +kernel
theorem dX7_isLit_18 : decode cX7_isLit 18 = .ok (.ishr, 1) := by decide +kernel
theorem dX7_isLit_19 : decode cX7_isLit 19 = .ok (.iconst 1, 1) := by decide +kernel
theorem dX7_isLit_20 : decode cX7_isLit 20 = .ok (.iand, 1) := by decide +kernel
theorem dX7_isLit_21 : decode cX7_isLit 21 = .ok (.ifCond .eq 15, 3) := by decide +kernel
theorem dX7_isLit_24 : decode cX7_isLit 24 = .ok (.aload_n 1, 1) := by decide +kernel
theorem dX7_isLit_25 : decode cX7_isLit 25 = .ok (.iload_n 2, 1) := by decide +kernel
theorem dX7_isLit_26 : decode cX7_isLit 26 = .ok (.invokevirtual 97, 3) := by decide +kernel
theorem dX7_isLit_29 : decode cX7_isLit 29 = .ok (.ifCond .ne 7, 3) := by decide +kernel
theorem dX7_isLit_32 : decode cX7_isLit 32 = .ok (.iconst 1, 1) := by decide +kernel
theorem dX7_isLit_33 : decode cX7_isLit 33 = .ok (.goto 4, 3) := by decide +kernel
theorem dX7_isLit_36 : decode cX7_isLit 36 = .ok (.iconst 0, 1) := by decide +kernel
theorem dX7_isLit_37 : decode cX7_isLit 37 = .ok (.ireturn, 1) := by decide +kernel
theorem dX7_firstPayment_0 : decode cX7_firstPayment 0 = .ok (.sipush 1000, 3) := by decide +kernel
theorem dX7_firstPayment_3 : decode cX7_firstPayment 3 = .ok (.istore 4, 2) := by decide +kernel
theorem dX7_firstPayment_5 : decode cX7_firstPayment 5 = .ok (.iconst 0, 1) := by decide +kernel
theorem dX7_firstPayment_6 : decode cX7_firstPayment 6 = .ok (.istore 5, 2) := by decide +kernel
theorem dX7_firstPayment_8 : decode cX7_firstPayment 8 = .ok (.iload 5, 2) := by decide +kernel
theorem dX7_firstPayment_10 : decode cX7_firstPayment 10 = .ok (.aload_n 0, 1) := by decide +kernel
theorem dX7_firstPayment_11 : decode cX7_firstPayment 11 = .ok (.getfield 53, 3) := by decide +kernel
theorem dX7_firstPayment_14 : decode cX7_firstPayment 14 = .ok (.if_icmp .ge 43, 3) := by decide +kernel
theorem dX7_firstPayment_17 : decode cX7_firstPayment 17 = .ok (.aload_n 0, 1) := by decide +kernel
theorem dX7_firstPayment_18 : decode cX7_firstPayment 18 = .ok (.aload_n 1, 1) := by decide +kernel
theorem dX7_firstPayment_19 : decode cX7_firstPayment 19 = .ok (.iload 5, 2) := by decide +kernel
theorem dX7_firstPayment_21 : decode cX7_firstPayment 21 = .ok (.iload_n 2, 1) := by decide +kernel
theorem dX7_firstPayment_22 : decode cX7_firstPayment 22 = .ok (.iload_n 3, 1) := by decide +kernel
theorem dX7_firstPayment_23 : decode cX7_firstPayment 23 = .ok (.invokestatic 101, 3) := by decide +kernel
theorem dX7_firstPayment_26 : decode cX7_firstPayment 26 = .ok (.ifCond .eq 25, 3) := by decide +kernel
theorem dX7_firstPayment_29 : decode cX7_firstPayment 29 = .ok (.iload 4, 2) := by decide +kernel
theorem dX7_firstPayment_31 : decode cX7_firstPayment 31 = .ok (.aload_n 0, 1) := by decide +kernel
theorem dX7_firstPayment_32 : decode cX7_firstPayment 32 = .ok (.getfield 42, 3) := by decide +kernel
theorem dX7_firstPayment_35 : decode cX7_firstPayment 35 = .ok (.iload 5, 2) := by decide +kernel
theorem dX7_firstPayment_37 : decode cX7_firstPayment 37 = .ok (.iaload, 1) := by decide +kernel
theorem dX7_firstPayment_38 : decode cX7_firstPayment 38 = .ok (.aload_n 1, 1) := by decide +kernel
theorem dX7_firstPayment_39 : decode cX7_firstPayment 39 = .ok (.getfield 47, 3) := by decide +kernel
theorem dX7_firstPayment_42 : decode cX7_firstPayment 42 = .ok (.iload 5, 2) := by decide +kernel
theorem dX7_firstPayment_44 : decode cX7_firstPayment 44 = .ok (.iaload, 1) := by decide +kernel
theorem dX7_firstPayment_45 : decode cX7_firstPayment 45 = .ok (.isub, 1) := by decide +kernel
theorem dX7_firstPayment_46 : decode cX7_firstPayment 46 = .ok (.invokestatic 105, 3) := by decide +kernel
theorem dX7_firstPayment_49 : decode cX7_firstPayment 49 = .ok (.istore 4, 2) := by decide +kernel
theorem dX7_firstPayment_51 : decode cX7_firstPayment 51 = .ok (.iinc 5 1, 3) := by decide +kernel
theorem dX7_firstPayment_54 : decode cX7_firstPayment 54 = .ok (.goto (-46), 3) := by decide +kernel
theorem dX7_firstPayment_57 : decode cX7_firstPayment 57 = .ok (.iload 4, 2) := by decide +kernel
theorem dX7_firstPayment_59 : decode cX7_firstPayment 59 = .ok (.ireturn, 1) := by decide +kernel
theorem dX7_firesFrom_0 : decode cX7_firesFrom 0 = .ok (.bipush 30, 2) := by decide +kernel
theorem dX7_firesFrom_2 : decode cX7_firesFrom 2 = .ok (.istore 6, 2) := by decide +kernel
theorem dX7_firesFrom_4 : decode cX7_firesFrom 4 = .ok (.iconst 0, 1) := by decide +kernel
theorem dX7_firesFrom_5 : decode cX7_firesFrom 5 = .ok (.istore 7, 2) := by decide +kernel
theorem dX7_firesFrom_7 : decode cX7_firesFrom 7 = .ok (.iload 7, 2) := by decide +kernel
theorem dX7_firesFrom_9 : decode cX7_firesFrom 9 = .ok (.aload_n 0, 1) := by decide +kernel
theorem dX7_firesFrom_10 : decode cX7_firesFrom 10 = .ok (.getfield 53, 3) := by decide +kernel
theorem dX7_firesFrom_13 : decode cX7_firesFrom 13 = .ok (.if_icmp .ge 35, 3) := by decide +kernel
theorem dX7_firesFrom_16 : decode cX7_firesFrom 16 = .ok (.aload_n 0, 1) := by decide +kernel
theorem dX7_firesFrom_17 : decode cX7_firesFrom 17 = .ok (.aload_n 1, 1) := by decide +kernel
theorem dX7_firesFrom_18 : decode cX7_firesFrom 18 = .ok (.iload 7, 2) := by decide +kernel
theorem dX7_firesFrom_20 : decode cX7_firesFrom 20 = .ok (.iload_n 2, 1) := by decide +kernel
theorem dX7_firesFrom_21 : decode cX7_firesFrom 21 = .ok (.iload_n 3, 1) := by decide +kernel
theorem dX7_firesFrom_22 : decode cX7_firesFrom 22 = .ok (.invokestatic 101, 3) := by decide +kernel
theorem dX7_firesFrom_25 : decode cX7_firesFrom 25 = .ok (.ifCond .eq 17, 3) := by decide +kernel
theorem dX7_firesFrom_28 : decode cX7_firesFrom 28 = .ok (.iload 6, 2) := by decide +kernel
theorem dX7_firesFrom_30 : decode cX7_firesFrom 30 = .ok (.aload_n 0, 1) := by decide +kernel
theorem dX7_firesFrom_31 : decode cX7_firesFrom 31 = .ok (.getfield 42, 3) := by decide +kernel
theorem dX7_firesFrom_34 : decode cX7_firesFrom 34 = .ok (.iload 7, 2) := by decide +kernel
theorem dX7_firesFrom_36 : decode cX7_firesFrom 36 = .ok (.iaload, 1) := by decide +kernel
theorem dX7_firesFrom_37 : decode cX7_firesFrom 37 = .ok (.invokestatic 105, 3) := by decide +kernel
theorem dX7_firesFrom_40 : decode cX7_firesFrom 40 = .ok (.istore 6, 2) := by decide +kernel
theorem dX7_firesFrom_42 : decode cX7_firesFrom 42 = .ok (.iinc 7 1, 3) := by decide +kernel
theorem dX7_firesFrom_45 : decode cX7_firesFrom 45 = .ok (.goto (-38), 3) := by decide +kernel
theorem dX7_firesFrom_48 : decode cX7_firesFrom 48 = .ok (.iload 6, 2) := by decide +kernel
theorem dX7_firesFrom_50 : decode cX7_firesFrom 50 = .ok (.iconst 1, 1) := by decide +kernel
theorem dX7_firesFrom_51 : decode cX7_firesFrom 51 = .ok (.if_icmp .ge 7, 3) := by decide +kernel
theorem dX7_firesFrom_54 : decode cX7_firesFrom 54 = .ok (.iconst 0, 1) := by decide +kernel
theorem dX7_firesFrom_55 : decode cX7_firesFrom 55 = .ok (.goto 13, 3) := by decide +kernel
theorem dX7_firesFrom_58 : decode cX7_firesFrom 58 = .ok (.iconst 1, 1) := by decide +kernel
theorem dX7_firesFrom_59 : decode cX7_firesFrom 59 = .ok (.iload 5, 2) := by decide +kernel
theorem dX7_firesFrom_61 : decode cX7_firesFrom 61 = .ok (.iload 4, 2) := by decide +kernel
theorem dX7_firesFrom_63 : decode cX7_firesFrom 63 = .ok (.isub, 1) := by decide +kernel
theorem dX7_firesFrom_64 : decode cX7_firesFrom 64 = .ok (.iload 6, 2) := by decide +kernel
theorem dX7_firesFrom_66 : decode cX7_firesFrom 66 = .ok (.idiv, 1) := by decide +kernel
theorem dX7_firesFrom_67 : decode cX7_firesFrom 67 = .ok (.iadd, 1) := by decide +kernel
theorem dX7_firesFrom_68 : decode cX7_firesFrom 68 = .ok (.ireturn, 1) := by decide +kernel
theorem dX8_init_0 : decode cX8_init 0 = .ok (.aload_n 0, 1) := by decide +kernel
theorem dX8_init_1 : decode cX8_init 1 = .ok (.invokespecial 1, 3) := by decide +kernel
theorem dX8_init_4 : decode cX8_init 4 = .ok (.aload_n 0, 1) := by decide +kernel
theorem dX8_init_5 : decode cX8_init 5 = .ok (.new 7, 3) := by decide +kernel
theorem dX8_init_8 : decode cX8_init 8 = .ok (.dup, 1) := by decide +kernel
theorem dX8_init_9 : decode cX8_init 9 = .ok (.invokespecial 9, 3) := by decide +kernel
theorem dX8_init_12 : decode cX8_init 12 = .ok (.putfield 10, 3) := by decide +kernel
theorem dX8_init_15 : decode cX8_init 15 = .ok (.aload_n 0, 1) := by decide +kernel
theorem dX8_init_16 : decode cX8_init 16 = .ok (.new 16, 3) := by decide +kernel
theorem dX8_init_19 : decode cX8_init 19 = .ok (.dup, 1) := by decide +kernel
theorem dX8_init_20 : decode cX8_init 20 = .ok (.invokespecial 18, 3) := by decide +kernel
theorem dX8_init_23 : decode cX8_init 23 = .ok (.putfield 19, 3) := by decide +kernel
theorem dX8_init_26 : decode cX8_init 26 = .ok (.aload_n 0, 1) := by decide +kernel
theorem dX8_init_27 : decode cX8_init 27 = .ok (.new 23, 3) := by decide +kernel
theorem dX8_init_30 : decode cX8_init 30 = .ok (.dup, 1) := by decide +kernel
theorem dX8_init_31 : decode cX8_init 31 = .ok (.invokespecial 25, 3) := by decide +kernel
theorem dX8_init_34 : decode cX8_init 34 = .ok (.putfield 26, 3) := by decide +kernel
theorem dX8_init_37 : decode cX8_init 37 = .ok (.aload_n 0, 1) := by decide +kernel
theorem dX8_init_38 : decode cX8_init 38 = .ok (.new 30, 3) := by decide +kernel
theorem dX8_init_41 : decode cX8_init 41 = .ok (.dup, 1) := by decide +kernel
theorem dX8_init_42 : decode cX8_init 42 = .ok (.invokespecial 32, 3) := by decide +kernel
theorem dX8_init_45 : decode cX8_init 45 = .ok (.putfield 33, 3) := by decide +kernel
theorem dX8_init_48 : decode cX8_init 48 = .ok (.aload_n 0, 1) := by decide +kernel
theorem dX8_init_49 : decode cX8_init 49 = .ok (.new 37, 3) := by decide +kernel
theorem dX8_init_52 : decode cX8_init 52 = .ok (.dup, 1) := by decide +kernel
theorem dX8_init_53 : decode cX8_init 53 = .ok (.invokespecial 39, 3) := by decide +kernel
theorem dX8_init_56 : decode cX8_init 56 = .ok (.putfield 40, 3) := by decide +kernel
theorem dX8_init_59 : decode cX8_init 59 = .ok (.aload_n 0, 1) := by decide +kernel
theorem dX8_init_60 : decode cX8_init 60 = .ok (.new 44, 3) := by decide +kernel
theorem dX8_init_63 : decode cX8_init 63 = .ok (.dup, 1) := by decide +kernel
theorem dX8_init_64 : decode cX8_init 64 = .ok (.invokespecial 46, 3) := by decide +kernel
theorem dX8_init_67 : decode cX8_init 67 = .ok (.putfield 47, 3) := by decide +kernel
theorem dX8_init_70 : decode cX8_init 70 = .ok (.aload_n 0, 1) := by decide +kernel
theorem dX8_init_71 : decode cX8_init 71 = .ok (.new 51, 3) := by decide +kernel
theorem dX8_init_74 : decode cX8_init 74 = .ok (.dup, 1) := by decide +kernel
theorem dX8_init_75 : decode cX8_init 75 = .ok (.invokespecial 53, 3) := by decide +kernel
theorem dX8_init_78 : decode cX8_init 78 = .ok (.putfield 54, 3) := by decide +kernel
theorem dX8_init_81 : decode cX8_init 81 = .ok (.aload_n 0, 1) := by decide +kernel
theorem dX8_init_82 : decode cX8_init 82 = .ok (.new 58, 3) := by decide +kernel
theorem dX8_init_85 : decode cX8_init 85 = .ok (.dup, 1) := by decide +kernel
theorem dX8_init_86 : decode cX8_init 86 = .ok (.invokespecial 60, 3) := by decide +kernel
theorem dX8_init_89 : decode cX8_init 89 = .ok (.putfield 61, 3) := by decide +kernel
theorem dX8_init_92 : decode cX8_init 92 = .ok (.aload_n 0, 1) := by decide +kernel
theorem dX8_init_93 : decode cX8_init 93 = .ok (.iconst 0, 1) := by decide +kernel
theorem dX8_init_94 : decode cX8_init 94 = .ok (.putfield 65, 3) := by decide +kernel
theorem dX8_init_97 : decode cX8_init 97 = .ok (.aload_n 0, 1) := by decide +kernel
theorem dX8_init_98 : decode cX8_init 98 = .ok (.iconst 2, 1) := by decide +kernel
theorem dX8_init_99 : decode cX8_init 99 = .ok (.anewarray 23, 3) := by decide +kernel
theorem dX8_init_102 : decode cX8_init 102 = .ok (.putfield 69, 3) := by decide +kernel
theorem dX8_init_105 : decode cX8_init 105 = .ok (.aload_n 0, 1) := by decide +kernel
theorem dX8_init_106 : decode cX8_init 106 = .ok (.iconst 2, 1) := by decide +kernel
theorem dX8_init_107 : decode cX8_init 107 = .ok (.newarray .int, 2) := by decide +kernel
theorem dX8_init_109 : decode cX8_init 109 = .ok (.putfield 73, 3) := by decide +kernel
theorem dX8_init_112 : decode cX8_init 112 = .ok (.aload_n 0, 1) := by decide +kernel
theorem dX8_init_113 : decode cX8_init 113 = .ok (.iconst 0, 1) := by decide +kernel
theorem dX8_init_114 : decode cX8_init 114 = .ok (.putfield 77, 3) := by decide +kernel
theorem dX8_init_117 : decode cX8_init 117 = .ok (.return_, 1) := by decide +kernel
theorem dX8_feed_0 : decode cX8_feed 0 = .ok (.iload_n 1, 1) := by decide +kernel
theorem dX8_feed_1 : decode cX8_feed 1 = .ok (.iconst 0, 1) := by decide +kernel
theorem dX8_feed_2 : decode cX8_feed 2 = .ok (.sipush 255, 3) := by decide +kernel
theorem dX8_feed_5 : decode cX8_feed 5 = .ok (.invokestatic 80, 3) := by decide +kernel
theorem dX8_feed_8 : decode cX8_feed 8 = .ok (.ifCond .eq 6, 3) := by decide +kernel
theorem dX8_feed_11 : decode cX8_feed 11 = .ok (.ldc 84, 2) := by decide +kernel
theorem dX8_feed_13 : decode cX8_feed 13 = .ok (.ireturn, 1) := by decide +kernel
theorem dX8_feed_14 : decode cX8_feed 14 = .ok (.aload_n 0, 1) := by decide +kernel
theorem dX8_feed_15 : decode cX8_feed 15 = .ok (.getfield 10, 3) := by decide +kernel
theorem dX8_feed_18 : decode cX8_feed 18 = .ok (.iload_n 1, 1) := by decide +kernel
theorem dX8_feed_19 : decode cX8_feed 19 = .ok (.invokevirtual 85, 3) := by decide +kernel
theorem dX8_feed_22 : decode cX8_feed 22 = .ok (.ireturn, 1) := by decide +kernel
theorem dX8_office_0 : decode cX8_office 0 = .ok (.aload_n 0, 1) := by decide +kernel
theorem dX8_office_1 : decode cX8_office 1 = .ok (.getfield 10, 3) := by decide +kernel
theorem dX8_office_4 : decode cX8_office 4 = .ok (.invokevirtual 89, 3) := by decide +kernel
theorem dX8_office_7 : decode cX8_office 7 = .ok (.istore_n 1, 1) := by decide +kernel
theorem dX8_office_8 : decode cX8_office 8 = .ok (.iload_n 1, 1) := by decide +kernel
theorem dX8_office_9 : decode cX8_office 9 = .ok (.ifCond .eq 8, 3) := by decide +kernel
theorem dX8_office_12 : decode cX8_office 12 = .ok (.bipush (-10), 2) := by decide +kernel
theorem dX8_office_14 : decode cX8_office 14 = .ok (.iload_n 1, 1) := by decide +kernel
theorem dX8_office_15 : decode cX8_office 15 = .ok (.isub, 1) := by decide +kernel
theorem dX8_office_16 : decode cX8_office 16 = .ok (.ireturn, 1) := by decide +kernel
theorem dX8_office_17 : decode cX8_office 17 = .ok (.aload_n 0, 1) := by decide +kernel
theorem dX8_office_18 : decode cX8_office 18 = .ok (.getfield 19, 3) := by decide +kernel
theorem dX8_office_21 : decode cX8_office 21 = .ok (.aload_n 0, 1) := by decide +kernel
theorem dX8_office_22 : decode cX8_office 22 = .ok (.getfield 10, 3) := by decide +kernel
theorem dX8_office_25 : decode cX8_office 25 = .ok (.getfield 93, 3) := by decide +kernel
theorem dX8_office_28 : decode cX8_office 28 = .ok (.invokevirtual 94, 3) := by decide +kernel
theorem dX8_office_31 : decode cX8_office 31 = .ok (.aload_n 0, 1) := by decide +kernel
theorem dX8_office_32 : decode cX8_office 32 = .ok (.getfield 26, 3) := by decide +kernel
theorem dX8_office_35 : decode cX8_office 35 = .ok (.aload_n 0, 1) := by decide +kernel
theorem dX8_office_36 : decode cX8_office 36 = .ok (.getfield 19, 3) := by decide +kernel
theorem dX8_office_39 : decode cX8_office 39 = .ok (.invokevirtual 98, 3) := by decide +kernel
theorem dX8_office_42 : decode cX8_office 42 = .ok (.aload_n 0, 1) := by decide +kernel
theorem dX8_office_43 : decode cX8_office 43 = .ok (.getfield 54, 3) := by decide +kernel
theorem dX8_office_46 : decode cX8_office 46 = .ok (.invokevirtual 101, 3) := by decide +kernel
theorem dX8_office_49 : decode cX8_office 49 = .ok (.aload_n 0, 1) := by decide +kernel
theorem dX8_office_50 : decode cX8_office 50 = .ok (.getfield 33, 3) := by decide +kernel
theorem dX8_office_53 : decode cX8_office 53 = .ok (.invokevirtual 104, 3) := by decide +kernel
theorem dX8_office_56 : decode cX8_office 56 = .ok (.aload_n 0, 1) := by decide +kernel
theorem dX8_office_57 : decode cX8_office 57 = .ok (.iconst 0, 1) := by decide +kernel
theorem dX8_office_58 : decode cX8_office 58 = .ok (.putfield 77, 3) := by decide +kernel
theorem dX8_office_61 : decode cX8_office 61 = .ok (.aload_n 0, 1) := by decide +kernel
theorem dX8_office_62 : decode cX8_office 62 = .ok (.getfield 19, 3) := by decide +kernel
theorem dX8_office_65 : decode cX8_office 65 = .ok (.getfield 107, 3) := by decide +kernel
theorem dX8_office_68 : decode cX8_office 68 = .ok (.ireturn, 1) := by decide +kernel
theorem dX8_fault_0 : decode cX8_fault 0 = .ok (.aload_n 0, 1) := by decide +kernel
theorem dX8_fault_1 : decode cX8_fault 1 = .ok (.getfield 10, 3) := by decide +kernel
theorem dX8_fault_4 : decode cX8_fault 4 = .ok (.getfield 110, 3) := by decide +kernel
theorem dX8_fault_7 : decode cX8_fault 7 = .ok (.ireturn, 1) := by decide +kernel
theorem dX8_told_0 : decode cX8_told 0 = .ok (.iload_n 1, 1) := by decide +kernel
theorem dX8_told_1 : decode cX8_told 1 = .ok (.tableswitch 171 0 12 #[67, 75, 83, 91, 99, 107, 115, 123, 131, 139, 147, 155, 163], 67) := by decide +kernel
theorem dX8_told_68 : decode cX8_told 68 = .ok (.aload_n 0, 1) := by decide +kernel
theorem dX8_told_69 : decode cX8_told 69 = .ok (.getfield 19, 3) := by decide +kernel
theorem dX8_told_72 : decode cX8_told 72 = .ok (.getfield 113, 3) := by decide +kernel
theorem dX8_told_75 : decode cX8_told 75 = .ok (.ireturn, 1) := by decide +kernel
theorem dX8_told_76 : decode cX8_told 76 = .ok (.aload_n 0, 1) := by decide +kernel
theorem dX8_told_77 : decode cX8_told 77 = .ok (.getfield 19, 3) := by decide +kernel
theorem dX8_told_80 : decode cX8_told 80 = .ok (.getfield 107, 3) := by decide +kernel
theorem dX8_told_83 : decode cX8_told 83 = .ok (.ireturn, 1) := by decide +kernel
theorem dX8_told_84 : decode cX8_told 84 = .ok (.aload_n 0, 1) := by decide +kernel
theorem dX8_told_85 : decode cX8_told 85 = .ok (.getfield 10, 3) := by decide +kernel
theorem dX8_told_88 : decode cX8_told 88 = .ok (.getfield 116, 3) := by decide +kernel
theorem dX8_told_91 : decode cX8_told 91 = .ok (.ireturn, 1) := by decide +kernel
theorem dX8_told_92 : decode cX8_told 92 = .ok (.aload_n 0, 1) := by decide +kernel
theorem dX8_told_93 : decode cX8_told 93 = .ok (.getfield 26, 3) := by decide +kernel
theorem dX8_told_96 : decode cX8_told 96 = .ok (.getfield 119, 3) := by decide +kernel
theorem dX8_told_99 : decode cX8_told 99 = .ok (.ireturn, 1) := by decide +kernel
theorem dX8_told_100 : decode cX8_told 100 = .ok (.aload_n 0, 1) := by decide +kernel
theorem dX8_told_101 : decode cX8_told 101 = .ok (.getfield 26, 3) := by decide +kernel
theorem dX8_told_104 : decode cX8_told 104 = .ok (.getfield 122, 3) := by decide +kernel
theorem dX8_told_107 : decode cX8_told 107 = .ok (.ireturn, 1) := by decide +kernel
theorem dX8_told_108 : decode cX8_told 108 = .ok (.aload_n 0, 1) := by decide +kernel
theorem dX8_told_109 : decode cX8_told 109 = .ok (.getfield 26, 3) := by decide +kernel
theorem dX8_told_112 : decode cX8_told 112 = .ok (.getfield 125, 3) := by decide +kernel
theorem dX8_told_115 : decode cX8_told 115 = .ok (.ireturn, 1) := by decide +kernel
theorem dX8_told_116 : decode cX8_told 116 = .ok (.aload_n 0, 1) := by decide +kernel
theorem dX8_told_117 : decode cX8_told 117 = .ok (.getfield 26, 3) := by decide +kernel
theorem dX8_told_120 : decode cX8_told 120 = .ok (.getfield 128, 3) := by decide +kernel
theorem dX8_told_123 : decode cX8_told 123 = .ok (.ireturn, 1) := by decide +kernel
theorem dX8_told_124 : decode cX8_told 124 = .ok (.aload_n 0, 1) := by decide +kernel
theorem dX8_told_125 : decode cX8_told 125 = .ok (.getfield 26, 3) := by decide +kernel
theorem dX8_told_128 : decode cX8_told 128 = .ok (.getfield 131, 3) := by decide +kernel
theorem dX8_told_131 : decode cX8_told 131 = .ok (.ireturn, 1) := by decide +kernel
theorem dX8_told_132 : decode cX8_told 132 = .ok (.aload_n 0, 1) := by decide +kernel
theorem dX8_told_133 : decode cX8_told 133 = .ok (.getfield 26, 3) := by decide +kernel
theorem dX8_told_136 : decode cX8_told 136 = .ok (.getfield 134, 3) := by decide +kernel
theorem dX8_told_139 : decode cX8_told 139 = .ok (.ireturn, 1) := by decide +kernel
theorem dX8_told_140 : decode cX8_told 140 = .ok (.aload_n 0, 1) := by decide +kernel
theorem dX8_told_141 : decode cX8_told 141 = .ok (.getfield 54, 3) := by decide +kernel
theorem dX8_told_144 : decode cX8_told 144 = .ok (.getfield 137, 3) := by decide +kernel
theorem dX8_told_147 : decode cX8_told 147 = .ok (.ireturn, 1) := by decide +kernel
theorem dX8_told_148 : decode cX8_told 148 = .ok (.aload_n 0, 1) := by decide +kernel
theorem dX8_told_149 : decode cX8_told 149 = .ok (.getfield 54, 3) := by decide +kernel
theorem dX8_told_152 : decode cX8_told 152 = .ok (.getfield 140, 3) := by decide +kernel
theorem dX8_told_155 : decode cX8_told 155 = .ok (.ireturn, 1) := by decide +kernel
theorem dX8_told_156 : decode cX8_told 156 = .ok (.aload_n 0, 1) := by decide +kernel
theorem dX8_told_157 : decode cX8_told 157 = .ok (.getfield 54, 3) := by decide +kernel
theorem dX8_told_160 : decode cX8_told 160 = .ok (.getfield 143, 3) := by decide +kernel
theorem dX8_told_163 : decode cX8_told 163 = .ok (.ireturn, 1) := by decide +kernel
theorem dX8_told_164 : decode cX8_told 164 = .ok (.aload_n 0, 1) := by decide +kernel
theorem dX8_told_165 : decode cX8_told 165 = .ok (.getfield 33, 3) := by decide +kernel
theorem dX8_told_168 : decode cX8_told 168 = .ok (.getfield 146, 3) := by decide +kernel
theorem dX8_told_171 : decode cX8_told 171 = .ok (.ireturn, 1) := by decide +kernel
theorem dX8_told_172 : decode cX8_told 172 = .ok (.ldc 84, 2) := by decide +kernel
theorem dX8_told_174 : decode cX8_told 174 = .ok (.ireturn, 1) := by decide +kernel
theorem dX8_life_0 : decode cX8_life 0 = .ok (.aload_n 0, 1) := by decide +kernel
theorem dX8_life_1 : decode cX8_life 1 = .ok (.iload_n 1, 1) := by decide +kernel
theorem dX8_life_2 : decode cX8_life 2 = .ok (.invokevirtual 149, 3) := by decide +kernel
theorem dX8_life_5 : decode cX8_life 5 = .ok (.ifCond .ne 6, 3) := by decide +kernel
theorem dX8_life_8 : decode cX8_life 8 = .ok (.ldc 153, 2) := by decide +kernel
theorem dX8_life_10 : decode cX8_life 10 = .ok (.ireturn, 1) := by decide +kernel
theorem dX8_life_11 : decode cX8_life 11 = .ok (.iload_n 2, 1) := by decide +kernel
theorem dX8_life_12 : decode cX8_life 12 = .ok (.iconst 0, 1) := by decide +kernel
theorem dX8_life_13 : decode cX8_life 13 = .ok (.iconst 5, 1) := by decide +kernel
theorem dX8_life_14 : decode cX8_life 14 = .ok (.invokestatic 80, 3) := by decide +kernel
theorem dX8_life_17 : decode cX8_life 17 = .ok (.ifCond .eq 6, 3) := by decide +kernel
theorem dX8_life_20 : decode cX8_life 20 = .ok (.ldc 84, 2) := by decide +kernel
theorem dX8_life_22 : decode cX8_life 22 = .ok (.ireturn, 1) := by decide +kernel
theorem dX8_life_23 : decode cX8_life 23 = .ok (.iload_n 2, 1) := by decide +kernel
theorem dX8_life_24 : decode cX8_life 24 = .ok (.iconst 5, 1) := by decide +kernel
theorem dX8_life_25 : decode cX8_life 25 = .ok (.if_icmp .ne 15, 3) := by decide +kernel
theorem dX8_life_28 : decode cX8_life 28 = .ok (.aload_n 0, 1) := by decide +kernel
theorem dX8_life_29 : decode cX8_life 29 = .ok (.getfield 26, 3) := by decide +kernel
theorem dX8_life_32 : decode cX8_life 32 = .ok (.getfield 154, 3) := by decide +kernel
theorem dX8_life_35 : decode cX8_life 35 = .ok (.iload_n 1, 1) := by decide +kernel
theorem dX8_life_36 : decode cX8_life 36 = .ok (.invokestatic 157, 3) := by decide +kernel
theorem dX8_life_39 : decode cX8_life 39 = .ok (.ireturn, 1) := by decide +kernel
theorem dX8_life_40 : decode cX8_life 40 = .ok (.iload_n 2, 1) := by decide +kernel
theorem dX8_life_41 : decode cX8_life 41 = .ok (.iconst 4, 1) := by decide +kernel
theorem dX8_life_42 : decode cX8_life 42 = .ok (.if_icmp .ne 15, 3) := by decide +kernel
theorem dX8_life_45 : decode cX8_life 45 = .ok (.aload_n 0, 1) := by decide +kernel
theorem dX8_life_46 : decode cX8_life 46 = .ok (.getfield 26, 3) := by decide +kernel
theorem dX8_life_49 : decode cX8_life 49 = .ok (.getfield 161, 3) := by decide +kernel
theorem dX8_life_52 : decode cX8_life 52 = .ok (.iload_n 1, 1) := by decide +kernel
theorem dX8_life_53 : decode cX8_life 53 = .ok (.iaload, 1) := by decide +kernel
theorem dX8_life_54 : decode cX8_life 54 = .ok (.goto 21, 3) := by decide +kernel
theorem dX8_life_57 : decode cX8_life 57 = .ok (.aload_n 0, 1) := by decide +kernel
theorem dX8_life_58 : decode cX8_life 58 = .ok (.getfield 19, 3) := by decide +kernel
theorem dX8_life_61 : decode cX8_life 61 = .ok (.iload_n 1, 1) := by decide +kernel
theorem dX8_life_62 : decode cX8_life 62 = .ok (.iload_n 2, 1) := by decide +kernel
theorem dX8_life_63 : decode cX8_life 63 = .ok (.aload_n 0, 1) := by decide +kernel
theorem dX8_life_64 : decode cX8_life 64 = .ok (.getfield 26, 3) := by decide +kernel
theorem dX8_life_67 : decode cX8_life 67 = .ok (.getfield 161, 3) := by decide +kernel
theorem dX8_life_70 : decode cX8_life 70 = .ok (.iload_n 1, 1) := by decide +kernel
theorem dX8_life_71 : decode cX8_life 71 = .ok (.iaload, 1) := by decide +kernel
theorem dX8_life_72 : decode cX8_life 72 = .ok (.invokevirtual 164, 3) := by decide +kernel
theorem dX8_life_75 : decode cX8_life 75 = .ok (.ireturn, 1) := by decide +kernel
theorem dX8_policy_0 : decode cX8_policy 0 = .ok (.aload_n 0, 1) := by decide +kernel
theorem dX8_policy_1 : decode cX8_policy 1 = .ok (.iload_n 1, 1) := by decide +kernel
theorem dX8_policy_2 : decode cX8_policy 2 = .ok (.invokevirtual 168, 3) := by decide +kernel
theorem dX8_policy_5 : decode cX8_policy 5 = .ok (.ifCond .ne 6, 3) := by decide +kernel
theorem dX8_policy_8 : decode cX8_policy 8 = .ok (.ldc 153, 2) := by decide +kernel
theorem dX8_policy_10 : decode cX8_policy 10 = .ok (.ireturn, 1) := by decide +kernel
theorem dX8_policy_11 : decode cX8_policy 11 = .ok (.iload_n 2, 1) := by decide +kernel
theorem dX8_policy_12 : decode cX8_policy 12 = .ok (.tableswitch 100 0 5 #[40, 50, 60, 70, 80, 90], 40) := by decide +kernel
theorem dX8_policy_52 : decode cX8_policy 52 = .ok (.aload_n 0, 1) := by decide +kernel
theorem dX8_policy_53 : decode cX8_policy 53 = .ok (.getfield 19, 3) := by decide +kernel
theorem dX8_policy_56 : decode cX8_policy 56 = .ok (.getfield 171, 3) := by decide +kernel
theorem dX8_policy_59 : decode cX8_policy 59 = .ok (.iload_n 1, 1) := by decide +kernel
theorem dX8_policy_60 : decode cX8_policy 60 = .ok (.iaload, 1) := by decide +kernel
theorem dX8_policy_61 : decode cX8_policy 61 = .ok (.ireturn, 1) := by decide +kernel
theorem dX8_policy_62 : decode cX8_policy 62 = .ok (.aload_n 0, 1) := by decide +kernel
theorem dX8_policy_63 : decode cX8_policy 63 = .ok (.getfield 19, 3) := by decide +kernel
theorem dX8_policy_66 : decode cX8_policy 66 = .ok (.getfield 174, 3) := by decide +kernel
theorem dX8_policy_69 : decode cX8_policy 69 = .ok (.iload_n 1, 1) := by decide +kernel
theorem dX8_policy_70 : decode cX8_policy 70 = .ok (.iaload, 1) := by decide +kernel
theorem dX8_policy_71 : decode cX8_policy 71 = .ok (.ireturn, 1) := by decide +kernel
theorem dX8_policy_72 : decode cX8_policy 72 = .ok (.aload_n 0, 1) := by decide +kernel
theorem dX8_policy_73 : decode cX8_policy 73 = .ok (.getfield 19, 3) := by decide +kernel
theorem dX8_policy_76 : decode cX8_policy 76 = .ok (.getfield 177, 3) := by decide +kernel
theorem dX8_policy_79 : decode cX8_policy 79 = .ok (.iload_n 1, 1) := by decide +kernel
theorem dX8_policy_80 : decode cX8_policy 80 = .ok (.iaload, 1) := by decide +kernel
theorem dX8_policy_81 : decode cX8_policy 81 = .ok (.ireturn, 1) := by decide +kernel
theorem dX8_policy_82 : decode cX8_policy 82 = .ok (.aload_n 0, 1) := by decide +kernel
theorem dX8_policy_83 : decode cX8_policy 83 = .ok (.getfield 19, 3) := by decide +kernel
theorem dX8_policy_86 : decode cX8_policy 86 = .ok (.getfield 180, 3) := by decide +kernel
theorem dX8_policy_89 : decode cX8_policy 89 = .ok (.iload_n 1, 1) := by decide +kernel
theorem dX8_policy_90 : decode cX8_policy 90 = .ok (.iaload, 1) := by decide +kernel
theorem dX8_policy_91 : decode cX8_policy 91 = .ok (.ireturn, 1) := by decide +kernel
theorem dX8_policy_92 : decode cX8_policy 92 = .ok (.aload_n 0, 1) := by decide +kernel
theorem dX8_policy_93 : decode cX8_policy 93 = .ok (.getfield 19, 3) := by decide +kernel
theorem dX8_policy_96 : decode cX8_policy 96 = .ok (.getfield 183, 3) := by decide +kernel
theorem dX8_policy_99 : decode cX8_policy 99 = .ok (.iload_n 1, 1) := by decide +kernel
theorem dX8_policy_100 : decode cX8_policy 100 = .ok (.iaload, 1) := by decide +kernel
theorem dX8_policy_101 : decode cX8_policy 101 = .ok (.ireturn, 1) := by decide +kernel
theorem dX8_policy_102 : decode cX8_policy 102 = .ok (.aload_n 0, 1) := by decide +kernel
theorem dX8_policy_103 : decode cX8_policy 103 = .ok (.getfield 26, 3) := by decide +kernel
theorem dX8_policy_106 : decode cX8_policy 106 = .ok (.getfield 186, 3) := by decide +kernel
theorem dX8_policy_109 : decode cX8_policy 109 = .ok (.iload_n 1, 1) := by decide +kernel
theorem dX8_policy_110 : decode cX8_policy 110 = .ok (.iaload, 1) := by decide +kernel
theorem dX8_policy_111 : decode cX8_policy 111 = .ok (.ireturn, 1) := by decide +kernel
theorem dX8_policy_112 : decode cX8_policy 112 = .ok (.ldc 84, 2) := by decide +kernel
theorem dX8_policy_114 : decode cX8_policy 114 = .ok (.ireturn, 1) := by decide +kernel
theorem dX8_event_0 : decode cX8_event 0 = .ok (.aload_n 0, 1) := by decide +kernel
theorem dX8_event_1 : decode cX8_event 1 = .ok (.iload_n 1, 1) := by decide +kernel
theorem dX8_event_2 : decode cX8_event 2 = .ok (.invokevirtual 149, 3) := by decide +kernel
theorem dX8_event_5 : decode cX8_event 5 = .ok (.ifCond .ne 6, 3) := by decide +kernel
theorem dX8_event_8 : decode cX8_event 8 = .ok (.ldc 153, 2) := by decide +kernel
theorem dX8_event_10 : decode cX8_event 10 = .ok (.ireturn, 1) := by decide +kernel
theorem dX8_event_11 : decode cX8_event 11 = .ok (.iload_n 2, 1) := by decide +kernel
theorem dX8_event_12 : decode cX8_event 12 = .ok (.iconst 0, 1) := by decide +kernel
theorem dX8_event_13 : decode cX8_event 13 = .ok (.bipush 15, 2) := by decide +kernel
theorem dX8_event_15 : decode cX8_event 15 = .ok (.invokestatic 80, 3) := by decide +kernel
theorem dX8_event_18 : decode cX8_event 18 = .ok (.ifCond .eq 6, 3) := by decide +kernel
theorem dX8_event_21 : decode cX8_event 21 = .ok (.ldc 84, 2) := by decide +kernel
theorem dX8_event_23 : decode cX8_event 23 = .ok (.ireturn, 1) := by decide +kernel
theorem dX8_event_24 : decode cX8_event 24 = .ok (.aload_n 0, 1) := by decide +kernel
theorem dX8_event_25 : decode cX8_event 25 = .ok (.getfield 26, 3) := by decide +kernel
theorem dX8_event_28 : decode cX8_event 28 = .ok (.getfield 154, 3) := by decide +kernel
theorem dX8_event_31 : decode cX8_event 31 = .ok (.iload_n 1, 1) := by decide +kernel
theorem dX8_event_32 : decode cX8_event 32 = .ok (.invokestatic 157, 3) := by decide +kernel
theorem dX8_event_35 : decode cX8_event 35 = .ok (.istore_n 3, 1) := by decide +kernel
theorem dX8_event_36 : decode cX8_event 36 = .ok (.aload_n 0, 1) := by decide +kernel
theorem dX8_event_37 : decode cX8_event 37 = .ok (.getfield 26, 3) := by decide +kernel
theorem dX8_event_40 : decode cX8_event 40 = .ok (.aload_n 0, 1) := by decide +kernel
theorem dX8_event_41 : decode cX8_event 41 = .ok (.getfield 26, 3) := by decide +kernel
theorem dX8_event_44 : decode cX8_event 44 = .ok (.getfield 154, 3) := by decide +kernel
theorem dX8_event_47 : decode cX8_event 47 = .ok (.iload_n 1, 1) := by decide +kernel
theorem dX8_event_48 : decode cX8_event 48 = .ok (.iload_n 3, 1) := by decide +kernel
theorem dX8_event_49 : decode cX8_event 49 = .ok (.invokestatic 189, 3) := by decide +kernel
theorem dX8_event_52 : decode cX8_event 52 = .ok (.ixor, 1) := by decide +kernel
theorem dX8_event_53 : decode cX8_event 53 = .ok (.iload_n 1, 1) := by decide +kernel
theorem dX8_event_54 : decode cX8_event 54 = .ok (.iload_n 2, 1) := by decide +kernel
theorem dX8_event_55 : decode cX8_event 55 = .ok (.invokestatic 189, 3) := by decide +kernel
theorem dX8_event_58 : decode cX8_event 58 = .ok (.ixor, 1) := by decide +kernel
theorem dX8_event_59 : decode cX8_event 59 = .ok (.putfield 154, 3) := by decide +kernel
theorem dX8_event_62 : decode cX8_event 62 = .ok (.iload_n 3, 1) := by decide +kernel
theorem dX8_event_63 : decode cX8_event 63 = .ok (.ireturn, 1) := by decide +kernel
theorem dX8_day_0 : decode cX8_day 0 = .ok (.aload_n 0, 1) := by decide +kernel
theorem dX8_day_1 : decode cX8_day 1 = .ok (.iload_n 1, 1) := by decide +kernel
theorem dX8_day_2 : decode cX8_day 2 = .ok (.iconst 0, 1) := by decide +kernel
theorem dX8_day_3 : decode cX8_day 3 = .ok (.invokevirtual 192, 3) := by decide +kernel
theorem dX8_day_6 : decode cX8_day 6 = .ok (.ireturn, 1) := by decide +kernel
theorem dX8_drift_0 : decode cX8_drift 0 = .ok (.aload_n 0, 1) := by decide +kernel
theorem dX8_drift_1 : decode cX8_drift 1 = .ok (.iload_n 1, 1) := by decide +kernel
theorem dX8_drift_2 : decode cX8_drift 2 = .ok (.iconst 1, 1) := by decide +kernel
theorem dX8_drift_3 : decode cX8_drift 3 = .ok (.invokevirtual 192, 3) := by decide +kernel
theorem dX8_drift_6 : decode cX8_drift 6 = .ok (.ireturn, 1) := by decide +kernel
theorem dX8_fund_0 : decode cX8_fund 0 = .ok (.iload_n 1, 1) := by decide +kernel
theorem dX8_fund_1 : decode cX8_fund 1 = .ok (.iconst 0, 1) := by decide +kernel
theorem dX8_fund_2 : decode cX8_fund 2 = .ok (.sipush 999, 3) := by decide +kernel
theorem dX8_fund_5 : decode cX8_fund 5 = .ok (.invokestatic 80, 3) := by decide +kernel
theorem dX8_fund_8 : decode cX8_fund 8 = .ok (.ifCond .eq 6, 3) := by decide +kernel
theorem dX8_fund_11 : decode cX8_fund 11 = .ok (.ldc 84, 2) := by decide +kernel
theorem dX8_fund_13 : decode cX8_fund 13 = .ok (.ireturn, 1) := by decide +kernel
theorem dX8_fund_14 : decode cX8_fund 14 = .ok (.aload_n 0, 1) := by decide +kernel
theorem dX8_fund_15 : decode cX8_fund 15 = .ok (.getfield 26, 3) := by decide +kernel
theorem dX8_fund_18 : decode cX8_fund 18 = .ok (.iload_n 1, 1) := by decide +kernel
theorem dX8_fund_19 : decode cX8_fund 19 = .ok (.invokevirtual 196, 3) := by decide +kernel
theorem dX8_fund_22 : decode cX8_fund 22 = .ok (.aload_n 0, 1) := by decide +kernel
theorem dX8_fund_23 : decode cX8_fund 23 = .ok (.getfield 26, 3) := by decide +kernel
theorem dX8_fund_26 : decode cX8_fund 26 = .ok (.getfield 122, 3) := by decide +kernel
theorem dX8_fund_29 : decode cX8_fund 29 = .ok (.ireturn, 1) := by decide +kernel
theorem dX8_habit_0 : decode cX8_habit 0 = .ok (.aload_n 0, 1) := by decide +kernel
theorem dX8_habit_1 : decode cX8_habit 1 = .ok (.iload_n 1, 1) := by decide +kernel
theorem dX8_habit_2 : decode cX8_habit 2 = .ok (.invokevirtual 149, 3) := by decide +kernel
theorem dX8_habit_5 : decode cX8_habit 5 = .ok (.ifCond .ne 6, 3) := by decide +kernel
theorem dX8_habit_8 : decode cX8_habit 8 = .ok (.ldc 153, 2) := by decide +kernel
theorem dX8_habit_10 : decode cX8_habit 10 = .ok (.ireturn, 1) := by decide +kernel
theorem dX8_habit_11 : decode cX8_habit 11 = .ok (.iload_n 2, 1) := by decide +kernel
theorem dX8_habit_12 : decode cX8_habit 12 = .ok (.iconst 0, 1) := by decide +kernel
theorem dX8_habit_13 : decode cX8_habit 13 = .ok (.iconst 2, 1) := by decide +kernel
theorem dX8_habit_14 : decode cX8_habit 14 = .ok (.invokestatic 80, 3) := by decide +kernel
theorem dX8_habit_17 : decode cX8_habit 17 = .ok (.ifCond .eq 6, 3) := by decide +kernel
theorem dX8_habit_20 : decode cX8_habit 20 = .ok (.ldc 84, 2) := by decide +kernel
theorem dX8_habit_22 : decode cX8_habit 22 = .ok (.ireturn, 1) := by decide +kernel
theorem dX8_habit_23 : decode cX8_habit 23 = .ok (.aload_n 0, 1) := by decide +kernel
theorem dX8_habit_24 : decode cX8_habit 24 = .ok (.getfield 26, 3) := by decide +kernel
theorem dX8_habit_27 : decode cX8_habit 27 = .ok (.getfield 161, 3) := by decide +kernel
theorem dX8_habit_30 : decode cX8_habit 30 = .ok (.iload_n 1, 1) := by decide +kernel
theorem dX8_habit_31 : decode cX8_habit 31 = .ok (.iaload, 1) := by decide +kernel
theorem dX8_habit_32 : decode cX8_habit 32 = .ok (.istore_n 3, 1) := by decide +kernel
theorem dX8_habit_33 : decode cX8_habit 33 = .ok (.aload_n 0, 1) := by decide +kernel
theorem dX8_habit_34 : decode cX8_habit 34 = .ok (.getfield 26, 3) := by decide +kernel
theorem dX8_habit_37 : decode cX8_habit 37 = .ok (.getfield 161, 3) := by decide +kernel
theorem dX8_habit_40 : decode cX8_habit 40 = .ok (.iload_n 1, 1) := by decide +kernel
theorem dX8_habit_41 : decode cX8_habit 41 = .ok (.iload_n 2, 1) := by decide +kernel
theorem dX8_habit_42 : decode cX8_habit 42 = .ok (.iastore, 1) := by decide +kernel
theorem dX8_habit_43 : decode cX8_habit 43 = .ok (.iload_n 3, 1) := by decide +kernel
theorem dX8_habit_44 : decode cX8_habit 44 = .ok (.ireturn, 1) := by decide +kernel
theorem dX8_lapse_0 : decode cX8_lapse 0 = .ok (.aload_n 0, 1) := by decide +kernel
theorem dX8_lapse_1 : decode cX8_lapse 1 = .ok (.iload_n 1, 1) := by decide +kernel
theorem dX8_lapse_2 : decode cX8_lapse 2 = .ok (.invokevirtual 168, 3) := by decide +kernel
theorem dX8_lapse_5 : decode cX8_lapse 5 = .ok (.ifCond .ne 6, 3) := by decide +kernel
theorem dX8_lapse_8 : decode cX8_lapse 8 = .ok (.ldc 153, 2) := by decide +kernel
theorem dX8_lapse_10 : decode cX8_lapse 10 = .ok (.ireturn, 1) := by decide +kernel
theorem dX8_lapse_11 : decode cX8_lapse 11 = .ok (.aload_n 0, 1) := by decide +kernel
theorem dX8_lapse_12 : decode cX8_lapse 12 = .ok (.getfield 26, 3) := by decide +kernel
theorem dX8_lapse_15 : decode cX8_lapse 15 = .ok (.iload_n 1, 1) := by decide +kernel
theorem dX8_lapse_16 : decode cX8_lapse 16 = .ok (.invokevirtual 200, 3) := by decide +kernel
theorem dX8_lapse_19 : decode cX8_lapse 19 = .ok (.istore_n 3, 1) := by decide +kernel
theorem dX8_lapse_20 : decode cX8_lapse 20 = .ok (.iload_n 3, 1) := by decide +kernel
theorem dX8_lapse_21 : decode cX8_lapse 21 = .ok (.iload_n 2, 1) := by decide +kernel
theorem dX8_lapse_22 : decode cX8_lapse 22 = .ok (.if_icmp .eq 18, 3) := by decide +kernel
theorem dX8_lapse_25 : decode cX8_lapse 25 = .ok (.aload_n 0, 1) := by decide +kernel
theorem dX8_lapse_26 : decode cX8_lapse 26 = .ok (.getfield 26, 3) := by decide +kernel
theorem dX8_lapse_29 : decode cX8_lapse 29 = .ok (.dup, 1) := by decide +kernel
theorem dX8_lapse_30 : decode cX8_lapse 30 = .ok (.getfield 134, 3) := by decide +kernel
theorem dX8_lapse_33 : decode cX8_lapse 33 = .ok (.iconst 1, 1) := by decide +kernel
theorem dX8_lapse_34 : decode cX8_lapse 34 = .ok (.iload_n 1, 1) := by decide +kernel
theorem dX8_lapse_35 : decode cX8_lapse 35 = .ok (.ishl, 1) := by decide +kernel
theorem dX8_lapse_36 : decode cX8_lapse 36 = .ok (.ixor, 1) := by decide +kernel
theorem dX8_lapse_37 : decode cX8_lapse 37 = .ok (.putfield 134, 3) := by decide +kernel
theorem dX8_lapse_40 : decode cX8_lapse 40 = .ok (.iload_n 3, 1) := by decide +kernel
theorem dX8_lapse_41 : decode cX8_lapse 41 = .ok (.ifCond .eq 7, 3) := by decide +kernel
theorem dX8_lapse_44 : decode cX8_lapse 44 = .ok (.iconst 1, 1) := by decide +kernel
theorem dX8_lapse_45 : decode cX8_lapse 45 = .ok (.goto 4, 3) := by decide +kernel
theorem dX8_lapse_48 : decode cX8_lapse 48 = .ok (.iconst 0, 1) := by decide +kernel
theorem dX8_lapse_49 : decode cX8_lapse 49 = .ok (.ireturn, 1) := by decide +kernel
theorem dX8_undo_0 : decode cX8_undo 0 = .ok (.iload_n 1, 1) := by decide +kernel
theorem dX8_undo_1 : decode cX8_undo 1 = .ok (.iconst 1, 1) := by decide +kernel
theorem dX8_undo_2 : decode cX8_undo 2 = .ok (.bipush 30, 2) := by decide +kernel
theorem dX8_undo_4 : decode cX8_undo 4 = .ok (.invokestatic 80, 3) := by decide +kernel
theorem dX8_undo_7 : decode cX8_undo 7 = .ok (.ifCond .eq 6, 3) := by decide +kernel
theorem dX8_undo_10 : decode cX8_undo 10 = .ok (.ldc 84, 2) := by decide +kernel
theorem dX8_undo_12 : decode cX8_undo 12 = .ok (.ireturn, 1) := by decide +kernel
theorem dX8_undo_13 : decode cX8_undo 13 = .ok (.iload_n 1, 1) := by decide +kernel
theorem dX8_undo_14 : decode cX8_undo 14 = .ok (.aload_n 0, 1) := by decide +kernel
theorem dX8_undo_15 : decode cX8_undo 15 = .ok (.getfield 33, 3) := by decide +kernel
theorem dX8_undo_18 : decode cX8_undo 18 = .ok (.getfield 146, 3) := by decide +kernel
theorem dX8_undo_21 : decode cX8_undo 21 = .ok (.if_icmp .le 6, 3) := by decide +kernel
theorem dX8_undo_24 : decode cX8_undo 24 = .ok (.ldc 203, 2) := by decide +kernel
theorem dX8_undo_26 : decode cX8_undo 26 = .ok (.ireturn, 1) := by decide +kernel
theorem dX8_undo_27 : decode cX8_undo 27 = .ok (.aload_n 0, 1) := by decide +kernel
theorem dX8_undo_28 : decode cX8_undo 28 = .ok (.getfield 33, 3) := by decide +kernel
theorem dX8_undo_31 : decode cX8_undo 31 = .ok (.iload_n 1, 1) := by decide +kernel
theorem dX8_undo_32 : decode cX8_undo 32 = .ok (.aload_n 0, 1) := by decide +kernel
theorem dX8_undo_33 : decode cX8_undo 33 = .ok (.getfield 26, 3) := by decide +kernel
theorem dX8_undo_36 : decode cX8_undo 36 = .ok (.invokevirtual 204, 3) := by decide +kernel
theorem dX8_undo_39 : decode cX8_undo 39 = .ok (.aload_n 0, 1) := by decide +kernel
theorem dX8_undo_40 : decode cX8_undo 40 = .ok (.getfield 26, 3) := by decide +kernel
theorem dX8_undo_43 : decode cX8_undo 43 = .ok (.getfield 119, 3) := by decide +kernel
theorem dX8_undo_46 : decode cX8_undo 46 = .ok (.ireturn, 1) := by decide +kernel
theorem dX8_calm_0 : decode cX8_calm 0 = .ok (.aload_n 0, 1) := by decide +kernel
theorem dX8_calm_1 : decode cX8_calm 1 = .ok (.iload_n 1, 1) := by decide +kernel
theorem dX8_calm_2 : decode cX8_calm 2 = .ok (.invokevirtual 168, 3) := by decide +kernel
theorem dX8_calm_5 : decode cX8_calm 5 = .ok (.ifCond .ne 6, 3) := by decide +kernel
theorem dX8_calm_8 : decode cX8_calm 8 = .ok (.ldc 153, 2) := by decide +kernel
theorem dX8_calm_10 : decode cX8_calm 10 = .ok (.ireturn, 1) := by decide +kernel
theorem dX8_calm_11 : decode cX8_calm 11 = .ok (.iload_n 2, 1) := by decide +kernel
theorem dX8_calm_12 : decode cX8_calm 12 = .ok (.iconst 0, 1) := by decide +kernel
theorem dX8_calm_13 : decode cX8_calm 13 = .ok (.bipush 99, 2) := by decide +kernel
theorem dX8_calm_15 : decode cX8_calm 15 = .ok (.invokestatic 80, 3) := by decide +kernel
theorem dX8_calm_18 : decode cX8_calm 18 = .ok (.ifCond .eq 6, 3) := by decide +kernel
theorem dX8_calm_21 : decode cX8_calm 21 = .ok (.ldc 84, 2) := by decide +kernel
theorem dX8_calm_23 : decode cX8_calm 23 = .ok (.ireturn, 1) := by decide +kernel
theorem dX8_calm_24 : decode cX8_calm 24 = .ok (.aload_n 0, 1) := by decide +kernel
theorem dX8_calm_25 : decode cX8_calm 25 = .ok (.getfield 19, 3) := by decide +kernel
theorem dX8_calm_28 : decode cX8_calm 28 = .ok (.aload_n 0, 1) := by decide +kernel
theorem dX8_calm_29 : decode cX8_calm 29 = .ok (.getfield 26, 3) := by decide +kernel
theorem dX8_calm_32 : decode cX8_calm 32 = .ok (.iload_n 1, 1) := by decide +kernel
theorem dX8_calm_33 : decode cX8_calm 33 = .ok (.iload_n 2, 1) := by decide +kernel
theorem dX8_calm_34 : decode cX8_calm 34 = .ok (.invokestatic 208, 3) := by decide +kernel
theorem dX8_calm_37 : decode cX8_calm 37 = .ok (.ireturn, 1) := by decide +kernel
theorem dX8_fair_0 : decode cX8_fair 0 = .ok (.aload_n 0, 1) := by decide +kernel
theorem dX8_fair_1 : decode cX8_fair 1 = .ok (.iload_n 1, 1) := by decide +kernel
theorem dX8_fair_2 : decode cX8_fair 2 = .ok (.invokevirtual 168, 3) := by decide +kernel
theorem dX8_fair_5 : decode cX8_fair 5 = .ok (.ifCond .eq 18, 3) := by decide +kernel
theorem dX8_fair_8 : decode cX8_fair 8 = .ok (.aload_n 0, 1) := by decide +kernel
theorem dX8_fair_9 : decode cX8_fair 9 = .ok (.getfield 19, 3) := by decide +kernel
theorem dX8_fair_12 : decode cX8_fair 12 = .ok (.aload_n 0, 1) := by decide +kernel
theorem dX8_fair_13 : decode cX8_fair 13 = .ok (.getfield 26, 3) := by decide +kernel
theorem dX8_fair_16 : decode cX8_fair 16 = .ok (.iload_n 1, 1) := by decide +kernel
theorem dX8_fair_17 : decode cX8_fair 17 = .ok (.invokestatic 212, 3) := by decide +kernel
theorem dX8_fair_20 : decode cX8_fair 20 = .ok (.goto 5, 3) := by decide +kernel
theorem dX8_fair_23 : decode cX8_fair 23 = .ok (.ldc 153, 2) := by decide +kernel
theorem dX8_fair_25 : decode cX8_fair 25 = .ok (.ireturn, 1) := by decide +kernel
theorem dX8_pays_0 : decode cX8_pays 0 = .ok (.aload_n 0, 1) := by decide +kernel
theorem dX8_pays_1 : decode cX8_pays 1 = .ok (.iload_n 1, 1) := by decide +kernel
theorem dX8_pays_2 : decode cX8_pays 2 = .ok (.invokevirtual 168, 3) := by decide +kernel
theorem dX8_pays_5 : decode cX8_pays 5 = .ok (.ifCond .ne 6, 3) := by decide +kernel
theorem dX8_pays_8 : decode cX8_pays 8 = .ok (.ldc 153, 2) := by decide +kernel
theorem dX8_pays_10 : decode cX8_pays 10 = .ok (.ireturn, 1) := by decide +kernel
theorem dX8_pays_11 : decode cX8_pays 11 = .ok (.iload_n 2, 1) := by decide +kernel
theorem dX8_pays_12 : decode cX8_pays 12 = .ok (.iconst 1, 1) := by decide +kernel
theorem dX8_pays_13 : decode cX8_pays 13 = .ok (.bipush 60, 2) := by decide +kernel
theorem dX8_pays_15 : decode cX8_pays 15 = .ok (.invokestatic 80, 3) := by decide +kernel
theorem dX8_pays_18 : decode cX8_pays 18 = .ok (.ifCond .eq 6, 3) := by decide +kernel
theorem dX8_pays_21 : decode cX8_pays 21 = .ok (.ldc 84, 2) := by decide +kernel
theorem dX8_pays_23 : decode cX8_pays 23 = .ok (.ireturn, 1) := by decide +kernel
theorem dX8_pays_24 : decode cX8_pays 24 = .ok (.aload_n 0, 1) := by decide +kernel
theorem dX8_pays_25 : decode cX8_pays 25 = .ok (.getfield 26, 3) := by decide +kernel
theorem dX8_pays_28 : decode cX8_pays 28 = .ok (.iload_n 1, 1) := by decide +kernel
theorem dX8_pays_29 : decode cX8_pays 29 = .ok (.invokevirtual 200, 3) := by decide +kernel
theorem dX8_pays_32 : decode cX8_pays 32 = .ok (.ifCond .eq 8, 3) := by decide +kernel
theorem dX8_pays_35 : decode cX8_pays 35 = .ok (.ldc 203, 2) := by decide +kernel
theorem dX8_pays_37 : decode cX8_pays 37 = .ok (.goto 20, 3) := by decide +kernel
theorem dX8_pays_40 : decode cX8_pays 40 = .ok (.aload_n 0, 1) := by decide +kernel
theorem dX8_pays_41 : decode cX8_pays 41 = .ok (.getfield 40, 3) := by decide +kernel
theorem dX8_pays_44 : decode cX8_pays 44 = .ok (.aload_n 0, 1) := by decide +kernel
theorem dX8_pays_45 : decode cX8_pays 45 = .ok (.getfield 19, 3) := by decide +kernel
theorem dX8_pays_48 : decode cX8_pays 48 = .ok (.aload_n 0, 1) := by decide +kernel
theorem dX8_pays_49 : decode cX8_pays 49 = .ok (.getfield 26, 3) := by decide +kernel
theorem dX8_pays_52 : decode cX8_pays 52 = .ok (.iload_n 1, 1) := by decide +kernel
theorem dX8_pays_53 : decode cX8_pays 53 = .ok (.iload_n 2, 1) := by decide +kernel
theorem dX8_pays_54 : decode cX8_pays 54 = .ok (.invokevirtual 216, 3) := by decide +kernel
theorem dX8_pays_57 : decode cX8_pays 57 = .ok (.ireturn, 1) := by decide +kernel
theorem dX8_soonest_0 : decode cX8_soonest 0 = .ok (.aload_n 0, 1) := by decide +kernel
theorem dX8_soonest_1 : decode cX8_soonest 1 = .ok (.getfield 47, 3) := by decide +kernel
theorem dX8_soonest_4 : decode cX8_soonest 4 = .ok (.aload_n 0, 1) := by decide +kernel
theorem dX8_soonest_5 : decode cX8_soonest 5 = .ok (.getfield 19, 3) := by decide +kernel
theorem dX8_soonest_8 : decode cX8_soonest 8 = .ok (.aload_n 0, 1) := by decide +kernel
theorem dX8_soonest_9 : decode cX8_soonest 9 = .ok (.getfield 26, 3) := by decide +kernel
theorem dX8_soonest_12 : decode cX8_soonest 12 = .ok (.invokevirtual 219, 3) := by decide +kernel
theorem dX8_soonest_15 : decode cX8_soonest 15 = .ok (.ireturn, 1) := by decide +kernel
theorem dX8_needs_0 : decode cX8_needs 0 = .ok (.iload_n 1, 1) := by decide +kernel
theorem dX8_needs_1 : decode cX8_needs 1 = .ok (.iconst 1, 1) := by decide +kernel
theorem dX8_needs_2 : decode cX8_needs 2 = .ok (.bipush 99, 2) := by decide +kernel
theorem dX8_needs_4 : decode cX8_needs 4 = .ok (.invokestatic 80, 3) := by decide +kernel
theorem dX8_needs_7 : decode cX8_needs 7 = .ok (.ifCond .eq 8, 3) := by decide +kernel
theorem dX8_needs_10 : decode cX8_needs 10 = .ok (.ldc 84, 2) := by decide +kernel
theorem dX8_needs_12 : decode cX8_needs 12 = .ok (.goto 15, 3) := by decide +kernel
theorem dX8_needs_15 : decode cX8_needs 15 = .ok (.aload_n 0, 1) := by decide +kernel
theorem dX8_needs_16 : decode cX8_needs 16 = .ok (.getfield 19, 3) := by decide +kernel
theorem dX8_needs_19 : decode cX8_needs 19 = .ok (.aload_n 0, 1) := by decide +kernel
theorem dX8_needs_20 : decode cX8_needs 20 = .ok (.getfield 26, 3) := by decide +kernel
theorem dX8_needs_23 : decode cX8_needs 23 = .ok (.iload_n 1, 1) := by decide +kernel
theorem dX8_needs_24 : decode cX8_needs 24 = .ok (.invokestatic 223, 3) := by decide +kernel
theorem dX8_needs_27 : decode cX8_needs 27 = .ok (.ireturn, 1) := by decide +kernel
theorem dX8_keepWhich_0 : decode cX8_keepWhich 0 = .ok (.iload_n 1, 1) := by decide +kernel
theorem dX8_keepWhich_1 : decode cX8_keepWhich 1 = .ok (.iconst 1, 1) := by decide +kernel
theorem dX8_keepWhich_2 : decode cX8_keepWhich 2 = .ok (.bipush 60, 2) := by decide +kernel
theorem dX8_keepWhich_4 : decode cX8_keepWhich 4 = .ok (.invokestatic 80, 3) := by decide +kernel
theorem dX8_keepWhich_7 : decode cX8_keepWhich 7 = .ok (.ifCond .ne 12, 3) := by decide +kernel
theorem dX8_keepWhich_10 : decode cX8_keepWhich 10 = .ok (.iload_n 2, 1) := by decide +kernel
theorem dX8_keepWhich_11 : decode cX8_keepWhich 11 = .ok (.iconst 0, 1) := by decide +kernel
theorem dX8_keepWhich_12 : decode cX8_keepWhich 12 = .ok (.iconst 1, 1) := by decide +kernel
theorem dX8_keepWhich_13 : decode cX8_keepWhich 13 = .ok (.invokestatic 80, 3) := by decide +kernel
theorem dX8_keepWhich_16 : decode cX8_keepWhich 16 = .ok (.ifCond .eq 6, 3) := by decide +kernel
theorem dX8_keepWhich_19 : decode cX8_keepWhich 19 = .ok (.ldc 84, 2) := by decide +kernel
theorem dX8_keepWhich_21 : decode cX8_keepWhich 21 = .ok (.ireturn, 1) := by decide +kernel
theorem dX8_keepWhich_22 : decode cX8_keepWhich 22 = .ok (.aload_n 0, 1) := by decide +kernel
theorem dX8_keepWhich_23 : decode cX8_keepWhich 23 = .ok (.getfield 19, 3) := by decide +kernel
theorem dX8_keepWhich_26 : decode cX8_keepWhich 26 = .ok (.aload_n 0, 1) := by decide +kernel
theorem dX8_keepWhich_27 : decode cX8_keepWhich 27 = .ok (.getfield 26, 3) := by decide +kernel
theorem dX8_keepWhich_30 : decode cX8_keepWhich 30 = .ok (.iload_n 1, 1) := by decide +kernel
theorem dX8_keepWhich_31 : decode cX8_keepWhich 31 = .ok (.invokestatic 226, 3) := by decide +kernel
theorem dX8_keepWhich_34 : decode cX8_keepWhich 34 = .ok (.istore_n 3, 1) := by decide +kernel
theorem dX8_keepWhich_35 : decode cX8_keepWhich 35 = .ok (.iload_n 2, 1) := by decide +kernel
theorem dX8_keepWhich_36 : decode cX8_keepWhich 36 = .ok (.ifCond .ne 14, 3) := by decide +kernel
theorem dX8_keepWhich_39 : decode cX8_keepWhich 39 = .ok (.aload_n 0, 1) := by decide +kernel
theorem dX8_keepWhich_40 : decode cX8_keepWhich 40 = .ok (.getfield 19, 3) := by decide +kernel
theorem dX8_keepWhich_43 : decode cX8_keepWhich 43 = .ok (.iload_n 3, 1) := by decide +kernel
theorem dX8_keepWhich_44 : decode cX8_keepWhich 44 = .ok (.invokestatic 229, 3) := by decide +kernel
theorem dX8_keepWhich_47 : decode cX8_keepWhich 47 = .ok (.goto 4, 3) := by decide +kernel
theorem dX8_keepWhich_50 : decode cX8_keepWhich 50 = .ok (.iload_n 3, 1) := by decide +kernel
theorem dX8_keepWhich_51 : decode cX8_keepWhich 51 = .ok (.ireturn, 1) := by decide +kernel
theorem dX8_choose_0 : decode cX8_choose 0 = .ok (.aload_n 0, 1) := by decide +kernel
theorem dX8_choose_1 : decode cX8_choose 1 = .ok (.iload_n 1, 1) := by decide +kernel
theorem dX8_choose_2 : decode cX8_choose 2 = .ok (.invokevirtual 149, 3) := by decide +kernel
theorem dX8_choose_5 : decode cX8_choose 5 = .ok (.ifCond .eq 18, 3) := by decide +kernel
theorem dX8_choose_8 : decode cX8_choose 8 = .ok (.aload_n 0, 1) := by decide +kernel
theorem dX8_choose_9 : decode cX8_choose 9 = .ok (.getfield 19, 3) := by decide +kernel
theorem dX8_choose_12 : decode cX8_choose 12 = .ok (.aload_n 0, 1) := by decide +kernel
theorem dX8_choose_13 : decode cX8_choose 13 = .ok (.getfield 26, 3) := by decide +kernel
theorem dX8_choose_16 : decode cX8_choose 16 = .ok (.iload_n 1, 1) := by decide +kernel
theorem dX8_choose_17 : decode cX8_choose 17 = .ok (.invokestatic 233, 3) := by decide +kernel
theorem dX8_choose_20 : decode cX8_choose 20 = .ok (.goto 5, 3) := by decide +kernel
theorem dX8_choose_23 : decode cX8_choose 23 = .ok (.ldc 153, 2) := by decide +kernel
theorem dX8_choose_25 : decode cX8_choose 25 = .ok (.ireturn, 1) := by decide +kernel
theorem dX8_fires_0 : decode cX8_fires 0 = .ok (.aload_n 0, 1) := by decide +kernel
theorem dX8_fires_1 : decode cX8_fires 1 = .ok (.iload_n 1, 1) := by decide +kernel
theorem dX8_fires_2 : decode cX8_fires 2 = .ok (.invokevirtual 149, 3) := by decide +kernel
theorem dX8_fires_5 : decode cX8_fires 5 = .ok (.ifCond .ne 6, 3) := by decide +kernel
theorem dX8_fires_8 : decode cX8_fires 8 = .ok (.ldc 153, 2) := by decide +kernel
theorem dX8_fires_10 : decode cX8_fires 10 = .ok (.ireturn, 1) := by decide +kernel
theorem dX8_fires_11 : decode cX8_fires 11 = .ok (.iload_n 2, 1) := by decide +kernel
theorem dX8_fires_12 : decode cX8_fires 12 = .ok (.iconst 0, 1) := by decide +kernel
theorem dX8_fires_13 : decode cX8_fires 13 = .ok (.iconst 3, 1) := by decide +kernel
theorem dX8_fires_14 : decode cX8_fires 14 = .ok (.invokestatic 80, 3) := by decide +kernel
theorem dX8_fires_17 : decode cX8_fires 17 = .ok (.ifCond .ne 23, 3) := by decide +kernel
theorem dX8_fires_20 : decode cX8_fires 20 = .ok (.iload_n 3, 1) := by decide +kernel
theorem dX8_fires_21 : decode cX8_fires 21 = .ok (.iconst 1, 1) := by decide +kernel
theorem dX8_fires_22 : decode cX8_fires 22 = .ok (.bipush 99, 2) := by decide +kernel
theorem dX8_fires_24 : decode cX8_fires 24 = .ok (.invokestatic 80, 3) := by decide +kernel
theorem dX8_fires_27 : decode cX8_fires 27 = .ok (.ifCond .ne 13, 3) := by decide +kernel
theorem dX8_fires_30 : decode cX8_fires 30 = .ok (.iload 4, 2) := by decide +kernel
theorem dX8_fires_32 : decode cX8_fires 32 = .ok (.iconst 0, 1) := by decide +kernel
theorem dX8_fires_33 : decode cX8_fires 33 = .ok (.iconst 1, 1) := by decide +kernel
theorem dX8_fires_34 : decode cX8_fires 34 = .ok (.invokestatic 80, 3) := by decide +kernel
theorem dX8_fires_37 : decode cX8_fires 37 = .ok (.ifCond .eq 6, 3) := by decide +kernel
theorem dX8_fires_40 : decode cX8_fires 40 = .ok (.ldc 84, 2) := by decide +kernel
theorem dX8_fires_42 : decode cX8_fires 42 = .ok (.ireturn, 1) := by decide +kernel
theorem dX8_fires_43 : decode cX8_fires 43 = .ok (.aload_n 0, 1) := by decide +kernel
theorem dX8_fires_44 : decode cX8_fires 44 = .ok (.getfield 19, 3) := by decide +kernel
theorem dX8_fires_47 : decode cX8_fires 47 = .ok (.aload_n 0, 1) := by decide +kernel
theorem dX8_fires_48 : decode cX8_fires 48 = .ok (.getfield 26, 3) := by decide +kernel
theorem dX8_fires_51 : decode cX8_fires 51 = .ok (.iload_n 1, 1) := by decide +kernel
theorem dX8_fires_52 : decode cX8_fires 52 = .ok (.iload_n 2, 1) := by decide +kernel
theorem dX8_fires_53 : decode cX8_fires 53 = .ok (.invokestatic 236, 3) := by decide +kernel
theorem dX8_fires_56 : decode cX8_fires 56 = .ok (.istore 5, 2) := by decide +kernel
theorem dX8_fires_58 : decode cX8_fires 58 = .ok (.iload 5, 2) := by decide +kernel
theorem dX8_fires_60 : decode cX8_fires 60 = .ok (.iload_n 3, 1) := by decide +kernel
theorem dX8_fires_61 : decode cX8_fires 61 = .ok (.if_icmp .le 14, 3) := by decide +kernel
theorem dX8_fires_64 : decode cX8_fires 64 = .ok (.iload 4, 2) := by decide +kernel
theorem dX8_fires_66 : decode cX8_fires 66 = .ok (.ifCond .ne 7, 3) := by decide +kernel
theorem dX8_fires_69 : decode cX8_fires 69 = .ok (.iconst 0, 1) := by decide +kernel
theorem dX8_fires_70 : decode cX8_fires 70 = .ok (.goto 4, 3) := by decide +kernel
theorem dX8_fires_73 : decode cX8_fires 73 = .ok (.iconst (-1), 1) := by decide +kernel
theorem dX8_fires_74 : decode cX8_fires 74 = .ok (.ireturn, 1) := by decide +kernel
theorem dX8_fires_75 : decode cX8_fires 75 = .ok (.iload 4, 2) := by decide +kernel
theorem dX8_fires_77 : decode cX8_fires 77 = .ok (.ifCond .ne 22, 3) := by decide +kernel
theorem dX8_fires_80 : decode cX8_fires 80 = .ok (.aload_n 0, 1) := by decide +kernel
theorem dX8_fires_81 : decode cX8_fires 81 = .ok (.getfield 19, 3) := by decide +kernel
theorem dX8_fires_84 : decode cX8_fires 84 = .ok (.aload_n 0, 1) := by decide +kernel
theorem dX8_fires_85 : decode cX8_fires 85 = .ok (.getfield 26, 3) := by decide +kernel
theorem dX8_fires_88 : decode cX8_fires 88 = .ok (.iload_n 1, 1) := by decide +kernel
theorem dX8_fires_89 : decode cX8_fires 89 = .ok (.iload_n 2, 1) := by decide +kernel
theorem dX8_fires_90 : decode cX8_fires 90 = .ok (.iload 5, 2) := by decide +kernel
theorem dX8_fires_92 : decode cX8_fires 92 = .ok (.iload_n 3, 1) := by decide +kernel
theorem dX8_fires_93 : decode cX8_fires 93 = .ok (.invokestatic 239, 3) := by decide +kernel
theorem dX8_fires_96 : decode cX8_fires 96 = .ok (.goto 5, 3) := by decide +kernel
theorem dX8_fires_99 : decode cX8_fires 99 = .ok (.iload 5, 2) := by decide +kernel
theorem dX8_fires_101 : decode cX8_fires 101 = .ok (.ireturn, 1) := by decide +kernel
theorem dX8_struck_0 : decode cX8_struck 0 = .ok (.iload_n 1, 1) := by decide +kernel
theorem dX8_struck_1 : decode cX8_struck 1 = .ok (.iconst 0, 1) := by decide +kernel
theorem dX8_struck_2 : decode cX8_struck 2 = .ok (.iconst 3, 1) := by decide +kernel
theorem dX8_struck_3 : decode cX8_struck 3 = .ok (.invokestatic 80, 3) := by decide +kernel
theorem dX8_struck_6 : decode cX8_struck 6 = .ok (.ifCond .ne 12, 3) := by decide +kernel
theorem dX8_struck_9 : decode cX8_struck 9 = .ok (.iload_n 2, 1) := by decide +kernel
theorem dX8_struck_10 : decode cX8_struck 10 = .ok (.iconst 0, 1) := by decide +kernel
theorem dX8_struck_11 : decode cX8_struck 11 = .ok (.iconst 2, 1) := by decide +kernel
theorem dX8_struck_12 : decode cX8_struck 12 = .ok (.invokestatic 80, 3) := by decide +kernel
theorem dX8_struck_15 : decode cX8_struck 15 = .ok (.ifCond .eq 6, 3) := by decide +kernel
theorem dX8_struck_18 : decode cX8_struck 18 = .ok (.ldc 84, 2) := by decide +kernel
theorem dX8_struck_20 : decode cX8_struck 20 = .ok (.ireturn, 1) := by decide +kernel
theorem dX8_struck_21 : decode cX8_struck 21 = .ok (.iload_n 2, 1) := by decide +kernel
theorem dX8_struck_22 : decode cX8_struck 22 = .ok (.iconst 2, 1) := by decide +kernel
theorem dX8_struck_23 : decode cX8_struck 23 = .ok (.if_icmp .ne 16, 3) := by decide +kernel
theorem dX8_struck_26 : decode cX8_struck 26 = .ok (.aload_n 0, 1) := by decide +kernel
theorem dX8_struck_27 : decode cX8_struck 27 = .ok (.getfield 19, 3) := by decide +kernel
theorem dX8_struck_30 : decode cX8_struck 30 = .ok (.aload_n 0, 1) := by decide +kernel
theorem dX8_struck_31 : decode cX8_struck 31 = .ok (.getfield 26, 3) := by decide +kernel
theorem dX8_struck_34 : decode cX8_struck 34 = .ok (.iload_n 1, 1) := by decide +kernel
theorem dX8_struck_35 : decode cX8_struck 35 = .ok (.invokestatic 243, 3) := by decide +kernel
theorem dX8_struck_38 : decode cX8_struck 38 = .ok (.ireturn, 1) := by decide +kernel
theorem dX8_struck_39 : decode cX8_struck 39 = .ok (.aload_n 0, 1) := by decide +kernel
theorem dX8_struck_40 : decode cX8_struck 40 = .ok (.getfield 19, 3) := by decide +kernel
theorem dX8_struck_43 : decode cX8_struck 43 = .ok (.aload_n 0, 1) := by decide +kernel
theorem dX8_struck_44 : decode cX8_struck 44 = .ok (.getfield 26, 3) := by decide +kernel
theorem dX8_struck_47 : decode cX8_struck 47 = .ok (.iload_n 1, 1) := by decide +kernel
theorem dX8_struck_48 : decode cX8_struck 48 = .ok (.invokestatic 246, 3) := by decide +kernel
theorem dX8_struck_51 : decode cX8_struck 51 = .ok (.istore_n 3, 1) := by decide +kernel
theorem dX8_struck_52 : decode cX8_struck 52 = .ok (.iload_n 3, 1) := by decide +kernel
theorem dX8_struck_53 : decode cX8_struck 53 = .ok (.iconst (-1), 1) := by decide +kernel
theorem dX8_struck_54 : decode cX8_struck 54 = .ok (.if_icmp .eq 8, 3) := by decide +kernel
theorem dX8_struck_57 : decode cX8_struck 57 = .ok (.iload_n 2, 1) := by decide +kernel
theorem dX8_struck_58 : decode cX8_struck 58 = .ok (.iconst 1, 1) := by decide +kernel
theorem dX8_struck_59 : decode cX8_struck 59 = .ok (.if_icmp .ne 5, 3) := by decide +kernel
theorem dX8_struck_62 : decode cX8_struck 62 = .ok (.iload_n 3, 1) := by decide +kernel
theorem dX8_struck_63 : decode cX8_struck 63 = .ok (.ireturn, 1) := by decide +kernel
theorem dX8_struck_64 : decode cX8_struck 64 = .ok (.aload_n 0, 1) := by decide +kernel
theorem dX8_struck_65 : decode cX8_struck 65 = .ok (.getfield 19, 3) := by decide +kernel
theorem dX8_struck_68 : decode cX8_struck 68 = .ok (.aload_n 0, 1) := by decide +kernel
theorem dX8_struck_69 : decode cX8_struck 69 = .ok (.getfield 26, 3) := by decide +kernel
theorem dX8_struck_72 : decode cX8_struck 72 = .ok (.iload_n 3, 1) := by decide +kernel
theorem dX8_struck_73 : decode cX8_struck 73 = .ok (.iload_n 1, 1) := by decide +kernel
theorem dX8_struck_74 : decode cX8_struck 74 = .ok (.invokestatic 249, 3) := by decide +kernel
theorem dX8_struck_77 : decode cX8_struck 77 = .ok (.ireturn, 1) := by decide +kernel
theorem dX8_witness_0 : decode cX8_witness 0 = .ok (.iload_n 1, 1) := by decide +kernel
theorem dX8_witness_1 : decode cX8_witness 1 = .ok (.iconst 0, 1) := by decide +kernel
theorem dX8_witness_2 : decode cX8_witness 2 = .ok (.ldc 252, 2) := by decide +kernel
theorem dX8_witness_4 : decode cX8_witness 4 = .ok (.invokestatic 80, 3) := by decide +kernel
theorem dX8_witness_7 : decode cX8_witness 7 = .ok (.ifCond .eq 6, 3) := by decide +kernel
theorem dX8_witness_10 : decode cX8_witness 10 = .ok (.ldc 84, 2) := by decide +kernel
theorem dX8_witness_12 : decode cX8_witness 12 = .ok (.ireturn, 1) := by decide +kernel
theorem dX8_witness_13 : decode cX8_witness 13 = .ok (.aload_n 0, 1) := by decide +kernel
theorem dX8_witness_14 : decode cX8_witness 14 = .ok (.getfield 54, 3) := by decide +kernel
theorem dX8_witness_17 : decode cX8_witness 17 = .ok (.iload_n 1, 1) := by decide +kernel
theorem dX8_witness_18 : decode cX8_witness 18 = .ok (.invokevirtual 253, 3) := by decide +kernel
theorem dX8_witness_21 : decode cX8_witness 21 = .ok (.ireturn, 1) := by decide +kernel
theorem dX8_fewest_0 : decode cX8_fewest 0 = .ok (.iload_n 1, 1) := by decide +kernel
theorem dX8_fewest_1 : decode cX8_fewest 1 = .ok (.iconst 0, 1) := by decide +kernel
theorem dX8_fewest_2 : decode cX8_fewest 2 = .ok (.ldc 252, 2) := by decide +kernel
theorem dX8_fewest_4 : decode cX8_fewest 4 = .ok (.invokestatic 80, 3) := by decide +kernel
theorem dX8_fewest_7 : decode cX8_fewest 7 = .ok (.ifCond .ne 12, 3) := by decide +kernel
theorem dX8_fewest_10 : decode cX8_fewest 10 = .ok (.iload_n 2, 1) := by decide +kernel
theorem dX8_fewest_11 : decode cX8_fewest 11 = .ok (.iconst 0, 1) := by decide +kernel
theorem dX8_fewest_12 : decode cX8_fewest 12 = .ok (.iconst 1, 1) := by decide +kernel
theorem dX8_fewest_13 : decode cX8_fewest 13 = .ok (.invokestatic 80, 3) := by decide +kernel
theorem dX8_fewest_16 : decode cX8_fewest 16 = .ok (.ifCond .eq 6, 3) := by decide +kernel
theorem dX8_fewest_19 : decode cX8_fewest 19 = .ok (.ldc 84, 2) := by decide +kernel
theorem dX8_fewest_21 : decode cX8_fewest 21 = .ok (.ireturn, 1) := by decide +kernel
theorem dX8_fewest_22 : decode cX8_fewest 22 = .ok (.aload_n 0, 1) := by decide +kernel
theorem dX8_fewest_23 : decode cX8_fewest 23 = .ok (.getfield 54, 3) := by decide +kernel
theorem dX8_fewest_26 : decode cX8_fewest 26 = .ok (.iload_n 1, 1) := by decide +kernel
theorem dX8_fewest_27 : decode cX8_fewest 27 = .ok (.invokevirtual 256, 3) := by decide +kernel
theorem dX8_fewest_30 : decode cX8_fewest 30 = .ok (.istore_n 3, 1) := by decide +kernel
theorem dX8_fewest_31 : decode cX8_fewest 31 = .ok (.iload_n 3, 1) := by decide +kernel
theorem dX8_fewest_32 : decode cX8_fewest 32 = .ok (.iconst (-1), 1) := by decide +kernel
theorem dX8_fewest_33 : decode cX8_fewest 33 = .ok (.if_icmp .eq 8, 3) := by decide +kernel
theorem dX8_fewest_36 : decode cX8_fewest 36 = .ok (.iload_n 2, 1) := by decide +kernel
theorem dX8_fewest_37 : decode cX8_fewest 37 = .ok (.iconst 1, 1) := by decide +kernel
theorem dX8_fewest_38 : decode cX8_fewest 38 = .ok (.if_icmp .ne 7, 3) := by decide +kernel
theorem dX8_fewest_41 : decode cX8_fewest 41 = .ok (.iload_n 3, 1) := by decide +kernel
theorem dX8_fewest_42 : decode cX8_fewest 42 = .ok (.goto 7, 3) := by decide +kernel
theorem dX8_fewest_45 : decode cX8_fewest 45 = .ok (.iload_n 3, 1) := by decide +kernel
theorem dX8_fewest_46 : decode cX8_fewest 46 = .ok (.invokestatic 259, 3) := by decide +kernel
theorem dX8_fewest_49 : decode cX8_fewest 49 = .ok (.ireturn, 1) := by decide +kernel
theorem dX8_ledger_0 : decode cX8_ledger 0 = .ok (.iload_n 1, 1) := by decide +kernel
theorem dX8_ledger_1 : decode cX8_ledger 1 = .ok (.iconst 0, 1) := by decide +kernel
theorem dX8_ledger_2 : decode cX8_ledger 2 = .ok (.ldc_w 264, 3) := by decide +kernel
theorem dX8_ledger_5 : decode cX8_ledger 5 = .ok (.invokestatic 80, 3) := by decide +kernel
theorem dX8_ledger_8 : decode cX8_ledger 8 = .ok (.ifCond .eq 6, 3) := by decide +kernel
theorem dX8_ledger_11 : decode cX8_ledger 11 = .ok (.ldc 84, 2) := by decide +kernel
theorem dX8_ledger_13 : decode cX8_ledger 13 = .ok (.ireturn, 1) := by decide +kernel
theorem dX8_ledger_14 : decode cX8_ledger 14 = .ok (.aload_n 0, 1) := by decide +kernel
theorem dX8_ledger_15 : decode cX8_ledger 15 = .ok (.getfield 54, 3) := by decide +kernel
theorem dX8_ledger_18 : decode cX8_ledger 18 = .ok (.iload_n 1, 1) := by decide +kernel
theorem dX8_ledger_19 : decode cX8_ledger 19 = .ok (.invokevirtual 265, 3) := by decide +kernel
theorem dX8_ledger_22 : decode cX8_ledger 22 = .ok (.ireturn, 1) := by decide +kernel
theorem dX8_befell_0 : decode cX8_befell 0 = .ok (.aload_n 0, 1) := by decide +kernel
theorem dX8_befell_1 : decode cX8_befell 1 = .ok (.iload_n 1, 1) := by decide +kernel
theorem dX8_befell_2 : decode cX8_befell 2 = .ok (.invokevirtual 149, 3) := by decide +kernel
theorem dX8_befell_5 : decode cX8_befell 5 = .ok (.ifCond .ne 6, 3) := by decide +kernel
theorem dX8_befell_8 : decode cX8_befell 8 = .ok (.ldc 153, 2) := by decide +kernel
theorem dX8_befell_10 : decode cX8_befell 10 = .ok (.ireturn, 1) := by decide +kernel
theorem dX8_befell_11 : decode cX8_befell 11 = .ok (.aload_n 0, 1) := by decide +kernel
theorem dX8_befell_12 : decode cX8_befell 12 = .ok (.getfield 61, 3) := by decide +kernel
theorem dX8_befell_15 : decode cX8_befell 15 = .ok (.aload_n 0, 1) := by decide +kernel
theorem dX8_befell_16 : decode cX8_befell 16 = .ok (.getfield 19, 3) := by decide +kernel
theorem dX8_befell_19 : decode cX8_befell 19 = .ok (.aload_n 0, 1) := by decide +kernel
theorem dX8_befell_20 : decode cX8_befell 20 = .ok (.getfield 26, 3) := by decide +kernel
theorem dX8_befell_23 : decode cX8_befell 23 = .ok (.aload_n 0, 1) := by decide +kernel
theorem dX8_befell_24 : decode cX8_befell 24 = .ok (.getfield 54, 3) := by decide +kernel
theorem dX8_befell_27 : decode cX8_befell 27 = .ok (.iload_n 1, 1) := by decide +kernel
theorem dX8_befell_28 : decode cX8_befell 28 = .ok (.invokevirtual 268, 3) := by decide +kernel
theorem dX8_befell_31 : decode cX8_befell 31 = .ok (.iload_n 2, 1) := by decide +kernel
theorem dX8_befell_32 : decode cX8_befell 32 = .ok (.iconst (-1), 1) := by decide +kernel
theorem dX8_befell_33 : decode cX8_befell 33 = .ok (.if_icmp .ne 11, 3) := by decide +kernel
theorem dX8_befell_36 : decode cX8_befell 36 = .ok (.aload_n 0, 1) := by decide +kernel
theorem dX8_befell_37 : decode cX8_befell 37 = .ok (.getfield 61, 3) := by decide +kernel
theorem dX8_befell_40 : decode cX8_befell 40 = .ok (.getfield 272, 3) := by decide +kernel
theorem dX8_befell_43 : decode cX8_befell 43 = .ok (.ireturn, 1) := by decide +kernel
theorem dX8_befell_44 : decode cX8_befell 44 = .ok (.aload_n 0, 1) := by decide +kernel
theorem dX8_befell_45 : decode cX8_befell 45 = .ok (.getfield 61, 3) := by decide +kernel
theorem dX8_befell_48 : decode cX8_befell 48 = .ok (.getfield 275, 3) := by decide +kernel
theorem dX8_befell_51 : decode cX8_befell 51 = .ok (.iconst (-1), 1) := by decide +kernel
theorem dX8_befell_52 : decode cX8_befell 52 = .ok (.if_icmp .eq 20, 3) := by decide +kernel
theorem dX8_befell_55 : decode cX8_befell 55 = .ok (.iload_n 2, 1) := by decide +kernel
theorem dX8_befell_56 : decode cX8_befell 56 = .ok (.iconst 0, 1) := by decide +kernel
theorem dX8_befell_57 : decode cX8_befell 57 = .ok (.aload_n 0, 1) := by decide +kernel
theorem dX8_befell_58 : decode cX8_befell 58 = .ok (.getfield 54, 3) := by decide +kernel
theorem dX8_befell_61 : decode cX8_befell 61 = .ok (.getfield 140, 3) := by decide +kernel
theorem dX8_befell_64 : decode cX8_befell 64 = .ok (.iconst 1, 1) := by decide +kernel
theorem dX8_befell_65 : decode cX8_befell 65 = .ok (.isub, 1) := by decide +kernel
theorem dX8_befell_66 : decode cX8_befell 66 = .ok (.invokestatic 80, 3) := by decide +kernel
theorem dX8_befell_69 : decode cX8_befell 69 = .ok (.ifCond .eq 5, 3) := by decide +kernel
theorem dX8_befell_72 : decode cX8_befell 72 = .ok (.iconst (-1), 1) := by decide +kernel
theorem dX8_befell_73 : decode cX8_befell 73 = .ok (.ireturn, 1) := by decide +kernel
theorem dX8_befell_74 : decode cX8_befell 74 = .ok (.aload_n 0, 1) := by decide +kernel
theorem dX8_befell_75 : decode cX8_befell 75 = .ok (.getfield 61, 3) := by decide +kernel
theorem dX8_befell_78 : decode cX8_befell 78 = .ok (.getfield 275, 3) := by decide +kernel
theorem dX8_befell_81 : decode cX8_befell 81 = .ok (.iload_n 2, 1) := by decide +kernel
theorem dX8_befell_82 : decode cX8_befell 82 = .ok (.aload_n 0, 1) := by decide +kernel
theorem dX8_befell_83 : decode cX8_befell 83 = .ok (.getfield 54, 3) := by decide +kernel
theorem dX8_befell_86 : decode cX8_befell 86 = .ok (.getfield 140, 3) := by decide +kernel
theorem dX8_befell_89 : decode cX8_befell 89 = .ok (.invokestatic 278, 3) := by decide +kernel
theorem dX8_befell_92 : decode cX8_befell 92 = .ok (.ireturn, 1) := by decide +kernel
theorem dX8_sure_0 : decode cX8_sure 0 = .ok (.aload_n 0, 1) := by decide +kernel
theorem dX8_sure_1 : decode cX8_sure 1 = .ok (.iload_n 1, 1) := by decide +kernel
theorem dX8_sure_2 : decode cX8_sure 2 = .ok (.invokevirtual 149, 3) := by decide +kernel
theorem dX8_sure_5 : decode cX8_sure 5 = .ok (.ifCond .ne 6, 3) := by decide +kernel
theorem dX8_sure_8 : decode cX8_sure 8 = .ok (.ldc 153, 2) := by decide +kernel
theorem dX8_sure_10 : decode cX8_sure 10 = .ok (.ireturn, 1) := by decide +kernel
theorem dX8_sure_11 : decode cX8_sure 11 = .ok (.aload_n 0, 1) := by decide +kernel
theorem dX8_sure_12 : decode cX8_sure 12 = .ok (.getfield 61, 3) := by decide +kernel
theorem dX8_sure_15 : decode cX8_sure 15 = .ok (.aload_n 0, 1) := by decide +kernel
theorem dX8_sure_16 : decode cX8_sure 16 = .ok (.getfield 19, 3) := by decide +kernel
theorem dX8_sure_19 : decode cX8_sure 19 = .ok (.aload_n 0, 1) := by decide +kernel
theorem dX8_sure_20 : decode cX8_sure 20 = .ok (.getfield 26, 3) := by decide +kernel
theorem dX8_sure_23 : decode cX8_sure 23 = .ok (.aload_n 0, 1) := by decide +kernel
theorem dX8_sure_24 : decode cX8_sure 24 = .ok (.getfield 54, 3) := by decide +kernel
theorem dX8_sure_27 : decode cX8_sure 27 = .ok (.iload_n 1, 1) := by decide +kernel
theorem dX8_sure_28 : decode cX8_sure 28 = .ok (.invokevirtual 268, 3) := by decide +kernel
theorem dX8_sure_31 : decode cX8_sure 31 = .ok (.aload_n 0, 1) := by decide +kernel
theorem dX8_sure_32 : decode cX8_sure 32 = .ok (.getfield 61, 3) := by decide +kernel
theorem dX8_sure_35 : decode cX8_sure 35 = .ok (.getfield 281, 3) := by decide +kernel
theorem dX8_sure_38 : decode cX8_sure 38 = .ok (.ireturn, 1) := by decide +kernel
theorem dX8_write_0 : decode cX8_write 0 = .ok (.iload_n 1, 1) := by decide +kernel
theorem dX8_write_1 : decode cX8_write 1 = .ok (.iconst 0, 1) := by decide +kernel
theorem dX8_write_2 : decode cX8_write 2 = .ok (.ldc_w 264, 3) := by decide +kernel
theorem dX8_write_5 : decode cX8_write 5 = .ok (.invokestatic 80, 3) := by decide +kernel
theorem dX8_write_8 : decode cX8_write 8 = .ok (.ifCond .eq 6, 3) := by decide +kernel
theorem dX8_write_11 : decode cX8_write 11 = .ok (.ldc 84, 2) := by decide +kernel
theorem dX8_write_13 : decode cX8_write 13 = .ok (.ireturn, 1) := by decide +kernel
theorem dX8_write_14 : decode cX8_write 14 = .ok (.aload_n 0, 1) := by decide +kernel
theorem dX8_write_15 : decode cX8_write 15 = .ok (.getfield 54, 3) := by decide +kernel
theorem dX8_write_18 : decode cX8_write 18 = .ok (.iload_n 1, 1) := by decide +kernel
theorem dX8_write_19 : decode cX8_write 19 = .ok (.invokevirtual 284, 3) := by decide +kernel
theorem dX8_write_22 : decode cX8_write 22 = .ok (.ireturn, 1) := by decide +kernel
theorem dX8_judge_0 : decode cX8_judge 0 = .ok (.aload_n 0, 1) := by decide +kernel
theorem dX8_judge_1 : decode cX8_judge 1 = .ok (.getfield 47, 3) := by decide +kernel
theorem dX8_judge_4 : decode cX8_judge 4 = .ok (.aload_n 0, 1) := by decide +kernel
theorem dX8_judge_5 : decode cX8_judge 5 = .ok (.getfield 19, 3) := by decide +kernel
theorem dX8_judge_8 : decode cX8_judge 8 = .ok (.aload_n 0, 1) := by decide +kernel
theorem dX8_judge_9 : decode cX8_judge 9 = .ok (.getfield 26, 3) := by decide +kernel
theorem dX8_judge_12 : decode cX8_judge 12 = .ok (.aload_n 0, 1) := by decide +kernel
theorem dX8_judge_13 : decode cX8_judge 13 = .ok (.getfield 54, 3) := by decide +kernel
theorem dX8_judge_16 : decode cX8_judge 16 = .ok (.invokevirtual 287, 3) := by decide +kernel
theorem dX8_judge_19 : decode cX8_judge 19 = .ok (.ireturn, 1) := by decide +kernel
theorem dX8_tear_0 : decode cX8_tear 0 = .ok (.aload_n 0, 1) := by decide +kernel
theorem dX8_tear_1 : decode cX8_tear 1 = .ok (.getfield 54, 3) := by decide +kernel
theorem dX8_tear_4 : decode cX8_tear 4 = .ok (.getfield 137, 3) := by decide +kernel
theorem dX8_tear_7 : decode cX8_tear 7 = .ok (.aload_n 0, 1) := by decide +kernel
theorem dX8_tear_8 : decode cX8_tear 8 = .ok (.getfield 54, 3) := by decide +kernel
theorem dX8_tear_11 : decode cX8_tear 11 = .ok (.getfield 140, 3) := by decide +kernel
theorem dX8_tear_14 : decode cX8_tear 14 = .ok (.iadd, 1) := by decide +kernel
theorem dX8_tear_15 : decode cX8_tear 15 = .ok (.aload_n 0, 1) := by decide +kernel
theorem dX8_tear_16 : decode cX8_tear 16 = .ok (.getfield 54, 3) := by decide +kernel
theorem dX8_tear_19 : decode cX8_tear 19 = .ok (.getfield 143, 3) := by decide +kernel
theorem dX8_tear_22 : decode cX8_tear 22 = .ok (.iadd, 1) := by decide +kernel
theorem dX8_tear_23 : decode cX8_tear 23 = .ok (.istore_n 1, 1) := by decide +kernel
theorem dX8_tear_24 : decode cX8_tear 24 = .ok (.aload_n 0, 1) := by decide +kernel
theorem dX8_tear_25 : decode cX8_tear 25 = .ok (.getfield 54, 3) := by decide +kernel
theorem dX8_tear_28 : decode cX8_tear 28 = .ok (.invokevirtual 101, 3) := by decide +kernel
theorem dX8_tear_31 : decode cX8_tear 31 = .ok (.iload_n 1, 1) := by decide +kernel
theorem dX8_tear_32 : decode cX8_tear 32 = .ok (.ireturn, 1) := by decide +kernel
theorem dX8_seed_0 : decode cX8_seed 0 = .ok (.iload_n 1, 1) := by decide +kernel
theorem dX8_seed_1 : decode cX8_seed 1 = .ok (.ifCond .ge 6, 3) := by decide +kernel
theorem dX8_seed_4 : decode cX8_seed 4 = .ok (.ldc 84, 2) := by decide +kernel
theorem dX8_seed_6 : decode cX8_seed 6 = .ok (.ireturn, 1) := by decide +kernel
theorem dX8_seed_7 : decode cX8_seed 7 = .ok (.aload_n 0, 1) := by decide +kernel
theorem dX8_seed_8 : decode cX8_seed 8 = .ok (.getfield 65, 3) := by decide +kernel
theorem dX8_seed_11 : decode cX8_seed 11 = .ok (.istore_n 2, 1) := by decide +kernel
theorem dX8_seed_12 : decode cX8_seed 12 = .ok (.aload_n 0, 1) := by decide +kernel
theorem dX8_seed_13 : decode cX8_seed 13 = .ok (.iload_n 1, 1) := by decide +kernel
theorem dX8_seed_14 : decode cX8_seed 14 = .ok (.putfield 65, 3) := by decide +kernel
theorem dX8_seed_17 : decode cX8_seed 17 = .ok (.iload_n 2, 1) := by decide +kernel
theorem dX8_seed_18 : decode cX8_seed 18 = .ok (.ireturn, 1) := by decide +kernel
theorem dX8_keep_0 : decode cX8_keep 0 = .ok (.iload_n 1, 1) := by decide +kernel
theorem dX8_keep_1 : decode cX8_keep 1 = .ok (.iconst 0, 1) := by decide +kernel
theorem dX8_keep_2 : decode cX8_keep 2 = .ok (.iconst 1, 1) := by decide +kernel
theorem dX8_keep_3 : decode cX8_keep 3 = .ok (.invokestatic 80, 3) := by decide +kernel
theorem dX8_keep_6 : decode cX8_keep 6 = .ok (.ifCond .eq 6, 3) := by decide +kernel
theorem dX8_keep_9 : decode cX8_keep 9 = .ok (.ldc 153, 2) := by decide +kernel
theorem dX8_keep_11 : decode cX8_keep 11 = .ok (.ireturn, 1) := by decide +kernel
theorem dX8_keep_12 : decode cX8_keep 12 = .ok (.aload_n 0, 1) := by decide +kernel
theorem dX8_keep_13 : decode cX8_keep 13 = .ok (.getfield 69, 3) := by decide +kernel
theorem dX8_keep_16 : decode cX8_keep 16 = .ok (.iload_n 1, 1) := by decide +kernel
theorem dX8_keep_17 : decode cX8_keep 17 = .ok (.aaload, 1) := by decide +kernel
theorem dX8_keep_18 : decode cX8_keep 18 = .ok (.ifnonnull 16, 3) := by decide +kernel
theorem dX8_keep_21 : decode cX8_keep 21 = .ok (.aload_n 0, 1) := by decide +kernel
theorem dX8_keep_22 : decode cX8_keep 22 = .ok (.getfield 69, 3) := by decide +kernel
theorem dX8_keep_25 : decode cX8_keep 25 = .ok (.iload_n 1, 1) := by decide +kernel
theorem dX8_keep_26 : decode cX8_keep 26 = .ok (.new 23, 3) := by decide +kernel
theorem dX8_keep_29 : decode cX8_keep 29 = .ok (.dup, 1) := by decide +kernel
theorem dX8_keep_30 : decode cX8_keep 30 = .ok (.invokespecial 25, 3) := by decide +kernel
theorem dX8_keep_33 : decode cX8_keep 33 = .ok (.aastore, 1) := by decide +kernel
theorem dX8_keep_34 : decode cX8_keep 34 = .ok (.aload_n 0, 1) := by decide +kernel
theorem dX8_keep_35 : decode cX8_keep 35 = .ok (.getfield 69, 3) := by decide +kernel
theorem dX8_keep_38 : decode cX8_keep 38 = .ok (.iload_n 1, 1) := by decide +kernel
theorem dX8_keep_39 : decode cX8_keep 39 = .ok (.aaload, 1) := by decide +kernel
theorem dX8_keep_40 : decode cX8_keep 40 = .ok (.aload_n 0, 1) := by decide +kernel
theorem dX8_keep_41 : decode cX8_keep 41 = .ok (.getfield 26, 3) := by decide +kernel
theorem dX8_keep_44 : decode cX8_keep 44 = .ok (.invokevirtual 291, 3) := by decide +kernel
theorem dX8_keep_47 : decode cX8_keep 47 = .ok (.aload_n 0, 1) := by decide +kernel
theorem dX8_keep_48 : decode cX8_keep 48 = .ok (.getfield 73, 3) := by decide +kernel
theorem dX8_keep_51 : decode cX8_keep 51 = .ok (.iload_n 1, 1) := by decide +kernel
theorem dX8_keep_52 : decode cX8_keep 52 = .ok (.aload_n 0, 1) := by decide +kernel
theorem dX8_keep_53 : decode cX8_keep 53 = .ok (.getfield 65, 3) := by decide +kernel
theorem dX8_keep_56 : decode cX8_keep 56 = .ok (.iastore, 1) := by decide +kernel
theorem dX8_keep_57 : decode cX8_keep 57 = .ok (.aload_n 0, 1) := by decide +kernel
theorem dX8_keep_58 : decode cX8_keep 58 = .ok (.dup, 1) := by decide +kernel
theorem dX8_keep_59 : decode cX8_keep 59 = .ok (.getfield 77, 3) := by decide +kernel
theorem dX8_keep_62 : decode cX8_keep 62 = .ok (.iconst 1, 1) := by decide +kernel
theorem dX8_keep_63 : decode cX8_keep 63 = .ok (.iload_n 1, 1) := by decide +kernel
theorem dX8_keep_64 : decode cX8_keep 64 = .ok (.ishl, 1) := by decide +kernel
theorem dX8_keep_65 : decode cX8_keep 65 = .ok (.ior, 1) := by decide +kernel
theorem dX8_keep_66 : decode cX8_keep 66 = .ok (.putfield 77, 3) := by decide +kernel
theorem dX8_keep_69 : decode cX8_keep 69 = .ok (.aload_n 0, 1) := by decide +kernel
theorem dX8_keep_70 : decode cX8_keep 70 = .ok (.getfield 33, 3) := by decide +kernel
theorem dX8_keep_73 : decode cX8_keep 73 = .ok (.invokevirtual 104, 3) := by decide +kernel
theorem dX8_keep_76 : decode cX8_keep 76 = .ok (.iconst 1, 1) := by decide +kernel
theorem dX8_keep_77 : decode cX8_keep 77 = .ok (.ireturn, 1) := by decide +kernel
theorem dX8_goBack_0 : decode cX8_goBack 0 = .ok (.iload_n 1, 1) := by decide +kernel
theorem dX8_goBack_1 : decode cX8_goBack 1 = .ok (.iconst 0, 1) := by decide +kernel
theorem dX8_goBack_2 : decode cX8_goBack 2 = .ok (.iconst 1, 1) := by decide +kernel
theorem dX8_goBack_3 : decode cX8_goBack 3 = .ok (.invokestatic 80, 3) := by decide +kernel
theorem dX8_goBack_6 : decode cX8_goBack 6 = .ok (.ifCond .eq 6, 3) := by decide +kernel
theorem dX8_goBack_9 : decode cX8_goBack 9 = .ok (.ldc 153, 2) := by decide +kernel
theorem dX8_goBack_11 : decode cX8_goBack 11 = .ok (.ireturn, 1) := by decide +kernel
theorem dX8_goBack_12 : decode cX8_goBack 12 = .ok (.aload_n 0, 1) := by decide +kernel
theorem dX8_goBack_13 : decode cX8_goBack 13 = .ok (.getfield 77, 3) := by decide +kernel
theorem dX8_goBack_16 : decode cX8_goBack 16 = .ok (.iload_n 1, 1) := by decide +kernel
theorem dX8_goBack_17 : decode cX8_goBack 17 = .ok (.ishr, 1) := by decide +kernel
theorem dX8_goBack_18 : decode cX8_goBack 18 = .ok (.iconst 1, 1) := by decide +kernel
theorem dX8_goBack_19 : decode cX8_goBack 19 = .ok (.iand, 1) := by decide +kernel
theorem dX8_goBack_20 : decode cX8_goBack 20 = .ok (.ifCond .eq 12, 3) := by decide +kernel
theorem dX8_goBack_23 : decode cX8_goBack 23 = .ok (.aload_n 0, 1) := by decide +kernel
theorem dX8_goBack_24 : decode cX8_goBack 24 = .ok (.getfield 69, 3) := by decide +kernel
theorem dX8_goBack_27 : decode cX8_goBack 27 = .ok (.iload_n 1, 1) := by decide +kernel
theorem dX8_goBack_28 : decode cX8_goBack 28 = .ok (.aaload, 1) := by decide +kernel
theorem dX8_goBack_29 : decode cX8_goBack 29 = .ok (.ifnonnull 6, 3) := by decide +kernel
theorem dX8_goBack_32 : decode cX8_goBack 32 = .ok (.ldc 203, 2) := by decide +kernel
theorem dX8_goBack_34 : decode cX8_goBack 34 = .ok (.ireturn, 1) := by decide +kernel
theorem dX8_goBack_35 : decode cX8_goBack 35 = .ok (.aload_n 0, 1) := by decide +kernel
theorem dX8_goBack_36 : decode cX8_goBack 36 = .ok (.getfield 26, 3) := by decide +kernel
theorem dX8_goBack_39 : decode cX8_goBack 39 = .ok (.aload_n 0, 1) := by decide +kernel
theorem dX8_goBack_40 : decode cX8_goBack 40 = .ok (.getfield 69, 3) := by decide +kernel
theorem dX8_goBack_43 : decode cX8_goBack 43 = .ok (.iload_n 1, 1) := by decide +kernel
theorem dX8_goBack_44 : decode cX8_goBack 44 = .ok (.aaload, 1) := by decide +kernel
theorem dX8_goBack_45 : decode cX8_goBack 45 = .ok (.invokevirtual 291, 3) := by decide +kernel
theorem dX8_goBack_48 : decode cX8_goBack 48 = .ok (.aload_n 0, 1) := by decide +kernel
theorem dX8_goBack_49 : decode cX8_goBack 49 = .ok (.aload_n 0, 1) := by decide +kernel
theorem dX8_goBack_50 : decode cX8_goBack 50 = .ok (.getfield 73, 3) := by decide +kernel
theorem dX8_goBack_53 : decode cX8_goBack 53 = .ok (.iload_n 1, 1) := by decide +kernel
theorem dX8_goBack_54 : decode cX8_goBack 54 = .ok (.iaload, 1) := by decide +kernel
theorem dX8_goBack_55 : decode cX8_goBack 55 = .ok (.putfield 65, 3) := by decide +kernel
theorem dX8_goBack_58 : decode cX8_goBack 58 = .ok (.aload_n 0, 1) := by decide +kernel
theorem dX8_goBack_59 : decode cX8_goBack 59 = .ok (.getfield 33, 3) := by decide +kernel
theorem dX8_goBack_62 : decode cX8_goBack 62 = .ok (.invokevirtual 104, 3) := by decide +kernel
theorem dX8_goBack_65 : decode cX8_goBack 65 = .ok (.iconst 1, 1) := by decide +kernel
theorem dX8_goBack_66 : decode cX8_goBack 66 = .ok (.ireturn, 1) := by decide +kernel
theorem dX8_isOutside_0 : decode cX8_isOutside 0 = .ok (.iload_n 0, 1) := by decide +kernel
theorem dX8_isOutside_1 : decode cX8_isOutside 1 = .ok (.iload_n 1, 1) := by decide +kernel
theorem dX8_isOutside_2 : decode cX8_isOutside 2 = .ok (.if_icmp .lt 8, 3) := by decide +kernel
theorem dX8_isOutside_5 : decode cX8_isOutside 5 = .ok (.iload_n 0, 1) := by decide +kernel
theorem dX8_isOutside_6 : decode cX8_isOutside 6 = .ok (.iload_n 2, 1) := by decide +kernel
theorem dX8_isOutside_7 : decode cX8_isOutside 7 = .ok (.if_icmp .le 7, 3) := by decide +kernel
theorem dX8_isOutside_10 : decode cX8_isOutside 10 = .ok (.iconst 1, 1) := by decide +kernel
theorem dX8_isOutside_11 : decode cX8_isOutside 11 = .ok (.goto 4, 3) := by decide +kernel
theorem dX8_isOutside_14 : decode cX8_isOutside 14 = .ok (.iconst 0, 1) := by decide +kernel
theorem dX8_isOutside_15 : decode cX8_isOutside 15 = .ok (.ireturn, 1) := by decide +kernel
theorem dX8_isLife_0 : decode cX8_isLife 0 = .ok (.iload_n 1, 1) := by decide +kernel
theorem dX8_isLife_1 : decode cX8_isLife 1 = .ok (.ifCond .lt 18, 3) := by decide +kernel
theorem dX8_isLife_4 : decode cX8_isLife 4 = .ok (.iload_n 1, 1) := by decide +kernel
theorem dX8_isLife_5 : decode cX8_isLife 5 = .ok (.aload_n 0, 1) := by decide +kernel
theorem dX8_isLife_6 : decode cX8_isLife 6 = .ok (.getfield 19, 3) := by decide +kernel
theorem dX8_isLife_9 : decode cX8_isLife 9 = .ok (.getfield 113, 3) := by decide +kernel
theorem dX8_isLife_12 : decode cX8_isLife 12 = .ok (.if_icmp .ge 7, 3) := by decide +kernel
theorem dX8_isLife_15 : decode cX8_isLife 15 = .ok (.iconst 1, 1) := by decide +kernel
theorem dX8_isLife_16 : decode cX8_isLife 16 = .ok (.goto 4, 3) := by decide +kernel
theorem dX8_isLife_19 : decode cX8_isLife 19 = .ok (.iconst 0, 1) := by decide +kernel
theorem dX8_isLife_20 : decode cX8_isLife 20 = .ok (.ireturn, 1) := by decide +kernel
theorem dX8_isPolicy_0 : decode cX8_isPolicy 0 = .ok (.iload_n 1, 1) := by decide +kernel
theorem dX8_isPolicy_1 : decode cX8_isPolicy 1 = .ok (.ifCond .lt 18, 3) := by decide +kernel
theorem dX8_isPolicy_4 : decode cX8_isPolicy 4 = .ok (.iload_n 1, 1) := by decide +kernel
theorem dX8_isPolicy_5 : decode cX8_isPolicy 5 = .ok (.aload_n 0, 1) := by decide +kernel
theorem dX8_isPolicy_6 : decode cX8_isPolicy 6 = .ok (.getfield 19, 3) := by decide +kernel
theorem dX8_isPolicy_9 : decode cX8_isPolicy 9 = .ok (.getfield 107, 3) := by decide +kernel
theorem dX8_isPolicy_12 : decode cX8_isPolicy 12 = .ok (.if_icmp .ge 7, 3) := by decide +kernel
theorem dX8_isPolicy_15 : decode cX8_isPolicy 15 = .ok (.iconst 1, 1) := by decide +kernel
theorem dX8_isPolicy_16 : decode cX8_isPolicy 16 = .ok (.goto 4, 3) := by decide +kernel
theorem dX8_isPolicy_19 : decode cX8_isPolicy 19 = .ok (.iconst 0, 1) := by decide +kernel
theorem dX8_isPolicy_20 : decode cX8_isPolicy 20 = .ok (.ireturn, 1) := by decide +kernel
theorem dX8_onLife_0 : decode cX8_onLife 0 = .ok (.iload_n 1, 1) := by decide +kernel
theorem dX8_onLife_1 : decode cX8_onLife 1 = .ok (.iconst 4, 1) := by decide +kernel
theorem dX8_onLife_2 : decode cX8_onLife 2 = .ok (.iload_n 0, 1) := by decide +kernel
theorem dX8_onLife_3 : decode cX8_onLife 3 = .ok (.imul, 1) := by decide +kernel
theorem dX8_onLife_4 : decode cX8_onLife 4 = .ok (.ishl, 1) := by decide +kernel
theorem dX8_onLife_5 : decode cX8_onLife 5 = .ok (.ireturn, 1) := by decide +kernel
theorem dX8_setOf_0 : decode cX8_setOf 0 = .ok (.iload_n 0, 1) := by decide +kernel
theorem dX8_setOf_1 : decode cX8_setOf 1 = .ok (.iconst 4, 1) := by decide +kernel
theorem dX8_setOf_2 : decode cX8_setOf 2 = .ok (.iload_n 1, 1) := by decide +kernel
theorem dX8_setOf_3 : decode cX8_setOf 3 = .ok (.imul, 1) := by decide +kernel
theorem dX8_setOf_4 : decode cX8_setOf 4 = .ok (.ishr, 1) := by decide +kernel
theorem dX8_setOf_5 : decode cX8_setOf 5 = .ok (.bipush 15, 2) := by decide +kernel
theorem dX8_setOf_7 : decode cX8_setOf 7 = .ok (.iand, 1) := by decide +kernel
theorem dX8_setOf_8 : decode cX8_setOf 8 = .ok (.ireturn, 1) := by decide +kernel
theorem dX8_passDays_0 : decode cX8_passDays 0 = .ok (.iload_n 1, 1) := by decide +kernel
theorem dX8_passDays_1 : decode cX8_passDays 1 = .ok (.iconst 1, 1) := by decide +kernel
theorem dX8_passDays_2 : decode cX8_passDays 2 = .ok (.bipush 99, 2) := by decide +kernel
theorem dX8_passDays_4 : decode cX8_passDays 4 = .ok (.invokestatic 80, 3) := by decide +kernel
theorem dX8_passDays_7 : decode cX8_passDays 7 = .ok (.ifCond .eq 6, 3) := by decide +kernel
theorem dX8_passDays_10 : decode cX8_passDays 10 = .ok (.ldc 84, 2) := by decide +kernel
theorem dX8_passDays_12 : decode cX8_passDays 12 = .ok (.ireturn, 1) := by decide +kernel
theorem dX8_passDays_13 : decode cX8_passDays 13 = .ok (.aload_n 0, 1) := by decide +kernel
theorem dX8_passDays_14 : decode cX8_passDays 14 = .ok (.getfield 26, 3) := by decide +kernel
theorem dX8_passDays_17 : decode cX8_passDays 17 = .ok (.getfield 119, 3) := by decide +kernel
theorem dX8_passDays_20 : decode cX8_passDays 20 = .ok (.ldc_w 294, 3) := by decide +kernel
theorem dX8_passDays_23 : decode cX8_passDays 23 = .ok (.if_icmp .le 7, 3) := by decide +kernel
theorem dX8_passDays_26 : decode cX8_passDays 26 = .ok (.ldc_w 295, 3) := by decide +kernel
theorem dX8_passDays_29 : decode cX8_passDays 29 = .ok (.ireturn, 1) := by decide +kernel
theorem dX8_passDays_30 : decode cX8_passDays 30 = .ok (.iconst 0, 1) := by decide +kernel
theorem dX8_passDays_31 : decode cX8_passDays 31 = .ok (.istore_n 3, 1) := by decide +kernel
theorem dX8_passDays_32 : decode cX8_passDays 32 = .ok (.iload_n 3, 1) := by decide +kernel
theorem dX8_passDays_33 : decode cX8_passDays 33 = .ok (.iload_n 1, 1) := by decide +kernel
theorem dX8_passDays_34 : decode cX8_passDays 34 = .ok (.if_icmp .ge 63, 3) := by decide +kernel
theorem dX8_passDays_37 : decode cX8_passDays 37 = .ok (.aload_n 0, 1) := by decide +kernel
theorem dX8_passDays_38 : decode cX8_passDays 38 = .ok (.getfield 33, 3) := by decide +kernel
theorem dX8_passDays_41 : decode cX8_passDays 41 = .ok (.aload_n 0, 1) := by decide +kernel
theorem dX8_passDays_42 : decode cX8_passDays 42 = .ok (.getfield 26, 3) := by decide +kernel
theorem dX8_passDays_45 : decode cX8_passDays 45 = .ok (.invokevirtual 296, 3) := by decide +kernel
theorem dX8_passDays_48 : decode cX8_passDays 48 = .ok (.aload_n 0, 1) := by decide +kernel
theorem dX8_passDays_49 : decode cX8_passDays 49 = .ok (.getfield 26, 3) := by decide +kernel
theorem dX8_passDays_52 : decode cX8_passDays 52 = .ok (.getfield 154, 3) := by decide +kernel
theorem dX8_passDays_55 : decode cX8_passDays 55 = .ok (.iload_n 2, 1) := by decide +kernel
theorem dX8_passDays_56 : decode cX8_passDays 56 = .ok (.ifCond .eq 10, 3) := by decide +kernel
theorem dX8_passDays_59 : decode cX8_passDays 59 = .ok (.aload_n 0, 1) := by decide +kernel
theorem dX8_passDays_60 : decode cX8_passDays 60 = .ok (.invokevirtual 299, 3) := by decide +kernel
theorem dX8_passDays_63 : decode cX8_passDays 63 = .ok (.goto 4, 3) := by decide +kernel
theorem dX8_passDays_66 : decode cX8_passDays 66 = .ok (.iconst 0, 1) := by decide +kernel
theorem dX8_passDays_67 : decode cX8_passDays 67 = .ok (.ior, 1) := by decide +kernel
theorem dX8_passDays_68 : decode cX8_passDays 68 = .ok (.istore 4, 2) := by decide +kernel
theorem dX8_passDays_70 : decode cX8_passDays 70 = .ok (.aload_n 0, 1) := by decide +kernel
theorem dX8_passDays_71 : decode cX8_passDays 71 = .ok (.getfield 26, 3) := by decide +kernel
theorem dX8_passDays_74 : decode cX8_passDays 74 = .ok (.iconst 0, 1) := by decide +kernel
theorem dX8_passDays_75 : decode cX8_passDays 75 = .ok (.putfield 154, 3) := by decide +kernel
theorem dX8_passDays_78 : decode cX8_passDays 78 = .ok (.aload_n 0, 1) := by decide +kernel
theorem dX8_passDays_79 : decode cX8_passDays 79 = .ok (.getfield 26, 3) := by decide +kernel
theorem dX8_passDays_82 : decode cX8_passDays 82 = .ok (.aload_n 0, 1) := by decide +kernel
theorem dX8_passDays_83 : decode cX8_passDays 83 = .ok (.getfield 19, 3) := by decide +kernel
theorem dX8_passDays_86 : decode cX8_passDays 86 = .ok (.iload 4, 2) := by decide +kernel
theorem dX8_passDays_88 : decode cX8_passDays 88 = .ok (.invokevirtual 302, 3) := by decide +kernel
theorem dX8_passDays_91 : decode cX8_passDays 91 = .ok (.iinc 3 1, 3) := by decide +kernel
theorem dX8_passDays_94 : decode cX8_passDays 94 = .ok (.goto (-62), 3) := by decide +kernel
theorem dX8_passDays_97 : decode cX8_passDays 97 = .ok (.aload_n 0, 1) := by decide +kernel
theorem dX8_passDays_98 : decode cX8_passDays 98 = .ok (.getfield 26, 3) := by decide +kernel
theorem dX8_passDays_101 : decode cX8_passDays 101 = .ok (.getfield 122, 3) := by decide +kernel
theorem dX8_passDays_104 : decode cX8_passDays 104 = .ok (.ireturn, 1) := by decide +kernel
theorem dX8_drawnEvents_0 : decode cX8_drawnEvents 0 = .ok (.iconst 0, 1) := by decide +kernel
theorem dX8_drawnEvents_1 : decode cX8_drawnEvents 1 = .ok (.istore_n 1, 1) := by decide +kernel
theorem dX8_drawnEvents_2 : decode cX8_drawnEvents 2 = .ok (.iconst 0, 1) := by decide +kernel
theorem dX8_drawnEvents_3 : decode cX8_drawnEvents 3 = .ok (.istore_n 2, 1) := by decide +kernel
theorem dX8_drawnEvents_4 : decode cX8_drawnEvents 4 = .ok (.iload_n 2, 1) := by decide +kernel
theorem dX8_drawnEvents_5 : decode cX8_drawnEvents 5 = .ok (.aload_n 0, 1) := by decide +kernel
theorem dX8_drawnEvents_6 : decode cX8_drawnEvents 6 = .ok (.getfield 19, 3) := by decide +kernel
theorem dX8_drawnEvents_9 : decode cX8_drawnEvents 9 = .ok (.getfield 113, 3) := by decide +kernel
theorem dX8_drawnEvents_12 : decode cX8_drawnEvents 12 = .ok (.if_icmp .ge 57, 3) := by decide +kernel
theorem dX8_drawnEvents_15 : decode cX8_drawnEvents 15 = .ok (.iconst 0, 1) := by decide +kernel
theorem dX8_drawnEvents_16 : decode cX8_drawnEvents 16 = .ok (.istore_n 3, 1) := by decide +kernel
theorem dX8_drawnEvents_17 : decode cX8_drawnEvents 17 = .ok (.iload_n 3, 1) := by decide +kernel
theorem dX8_drawnEvents_18 : decode cX8_drawnEvents 18 = .ok (.iconst 4, 1) := by decide +kernel
theorem dX8_drawnEvents_19 : decode cX8_drawnEvents 19 = .ok (.if_icmp .ge 44, 3) := by decide +kernel
theorem dX8_drawnEvents_22 : decode cX8_drawnEvents 22 = .ok (.aload_n 0, 1) := by decide +kernel
theorem dX8_drawnEvents_23 : decode cX8_drawnEvents 23 = .ok (.invokevirtual 306, 3) := by decide +kernel
theorem dX8_drawnEvents_26 : decode cX8_drawnEvents 26 = .ok (.aload_n 0, 1) := by decide +kernel
theorem dX8_drawnEvents_27 : decode cX8_drawnEvents 27 = .ok (.getfield 19, 3) := by decide +kernel
theorem dX8_drawnEvents_30 : decode cX8_drawnEvents 30 = .ok (.iload_n 2, 1) := by decide +kernel
theorem dX8_drawnEvents_31 : decode cX8_drawnEvents 31 = .ok (.iload_n 3, 1) := by decide +kernel
theorem dX8_drawnEvents_32 : decode cX8_drawnEvents 32 = .ok (.aload_n 0, 1) := by decide +kernel
theorem dX8_drawnEvents_33 : decode cX8_drawnEvents 33 = .ok (.getfield 26, 3) := by decide +kernel
theorem dX8_drawnEvents_36 : decode cX8_drawnEvents 36 = .ok (.getfield 161, 3) := by decide +kernel
theorem dX8_drawnEvents_39 : decode cX8_drawnEvents 39 = .ok (.iload_n 2, 1) := by decide +kernel
theorem dX8_drawnEvents_40 : decode cX8_drawnEvents 40 = .ok (.iaload, 1) := by decide +kernel
theorem dX8_drawnEvents_41 : decode cX8_drawnEvents 41 = .ok (.invokevirtual 164, 3) := by decide +kernel
theorem dX8_drawnEvents_44 : decode cX8_drawnEvents 44 = .ok (.if_icmp .ge 13, 3) := by decide +kernel
theorem dX8_drawnEvents_47 : decode cX8_drawnEvents 47 = .ok (.iload_n 1, 1) := by decide +kernel
theorem dX8_drawnEvents_48 : decode cX8_drawnEvents 48 = .ok (.iload_n 2, 1) := by decide +kernel
theorem dX8_drawnEvents_49 : decode cX8_drawnEvents 49 = .ok (.iconst 1, 1) := by decide +kernel
theorem dX8_drawnEvents_50 : decode cX8_drawnEvents 50 = .ok (.iload_n 3, 1) := by decide +kernel
theorem dX8_drawnEvents_51 : decode cX8_drawnEvents 51 = .ok (.ishl, 1) := by decide +kernel
theorem dX8_drawnEvents_52 : decode cX8_drawnEvents 52 = .ok (.invokestatic 189, 3) := by decide +kernel
theorem dX8_drawnEvents_55 : decode cX8_drawnEvents 55 = .ok (.ior, 1) := by decide +kernel
theorem dX8_drawnEvents_56 : decode cX8_drawnEvents 56 = .ok (.istore_n 1, 1) := by decide +kernel
theorem dX8_drawnEvents_57 : decode cX8_drawnEvents 57 = .ok (.iinc 3 1, 3) := by decide +kernel
theorem dX8_drawnEvents_60 : decode cX8_drawnEvents 60 = .ok (.goto (-43), 3) := by decide +kernel
theorem dX8_drawnEvents_63 : decode cX8_drawnEvents 63 = .ok (.iinc 2 1, 3) := by decide +kernel
theorem dX8_drawnEvents_66 : decode cX8_drawnEvents 66 = .ok (.goto (-62), 3) := by decide +kernel
theorem dX8_drawnEvents_69 : decode cX8_drawnEvents 69 = .ok (.iload_n 1, 1) := by decide +kernel
theorem dX8_drawnEvents_70 : decode cX8_drawnEvents 70 = .ok (.ireturn, 1) := by decide +kernel
theorem dX8_drawOfThousand_0 : decode cX8_drawOfThousand 0 = .ok (.aload_n 0, 1) := by decide +kernel
theorem dX8_drawOfThousand_1 : decode cX8_drawOfThousand 1 = .ok (.aload_n 0, 1) := by decide +kernel
theorem dX8_drawOfThousand_2 : decode cX8_drawOfThousand 2 = .ok (.getfield 65, 3) := by decide +kernel
theorem dX8_drawOfThousand_5 : decode cX8_drawOfThousand 5 = .ok (.i2l, 1) := by decide +kernel
theorem dX8_drawOfThousand_6 : decode cX8_drawOfThousand 6 = .ok (.ldc2_w 309, 3) := by decide +kernel
theorem dX8_drawOfThousand_9 : decode cX8_drawOfThousand 9 = .ok (.lmul, 1) := by decide +kernel
theorem dX8_drawOfThousand_10 : decode cX8_drawOfThousand 10 = .ok (.ldc2_w 311, 3) := by decide +kernel
theorem dX8_drawOfThousand_13 : decode cX8_drawOfThousand 13 = .ok (.ladd, 1) := by decide +kernel
theorem dX8_drawOfThousand_14 : decode cX8_drawOfThousand 14 = .ok (.ldc2_w 313, 3) := by decide +kernel
theorem dX8_drawOfThousand_17 : decode cX8_drawOfThousand 17 = .ok (.land, 1) := by decide +kernel
theorem dX8_drawOfThousand_18 : decode cX8_drawOfThousand 18 = .ok (.l2i, 1) := by decide +kernel
theorem dX8_drawOfThousand_19 : decode cX8_drawOfThousand 19 = .ok (.putfield 65, 3) := by decide +kernel
theorem dX8_drawOfThousand_22 : decode cX8_drawOfThousand 22 = .ok (.aload_n 0, 1) := by decide +kernel
theorem dX8_drawOfThousand_23 : decode cX8_drawOfThousand 23 = .ok (.getfield 65, 3) := by decide +kernel
theorem dX8_drawOfThousand_26 : decode cX8_drawOfThousand 26 = .ok (.ldc_w 315, 3) := by decide +kernel
theorem dX8_drawOfThousand_29 : decode cX8_drawOfThousand 29 = .ok (.idiv, 1) := by decide +kernel
theorem dX8_drawOfThousand_30 : decode cX8_drawOfThousand 30 = .ok (.sipush 1000, 3) := by decide +kernel
theorem dX8_drawOfThousand_33 : decode cX8_drawOfThousand 33 = .ok (.irem, 1) := by decide +kernel
theorem dX8_drawOfThousand_34 : decode cX8_drawOfThousand 34 = .ok (.ireturn, 1) := by decide +kernel
theorem dJ6_compare_7cf53_0 : decode cJ6_compare_7cf53 0 = .ok (.iload_n 0, 1) := by decide +kernel
theorem dJ6_compare_7cf53_1 : decode cJ6_compare_7cf53 1 = .ok (.iload_n 1, 1) := by decide +kernel
theorem dJ6_compare_7cf53_2 : decode cJ6_compare_7cf53 2 = .ok (.if_icmp .ge 7, 3) := by decide +kernel
theorem dJ6_compare_7cf53_5 : decode cJ6_compare_7cf53 5 = .ok (.iconst (-1), 1) := by decide +kernel
theorem dJ6_compare_7cf53_6 : decode cJ6_compare_7cf53 6 = .ok (.goto 13, 3) := by decide +kernel
theorem dJ6_compare_7cf53_9 : decode cJ6_compare_7cf53 9 = .ok (.iload_n 0, 1) := by decide +kernel
theorem dJ6_compare_7cf53_10 : decode cJ6_compare_7cf53 10 = .ok (.iload_n 1, 1) := by decide +kernel
theorem dJ6_compare_7cf53_11 : decode cJ6_compare_7cf53 11 = .ok (.if_icmp .ne 7, 3) := by decide +kernel
theorem dJ6_compare_7cf53_14 : decode cJ6_compare_7cf53 14 = .ok (.iconst 0, 1) := by decide +kernel
theorem dJ6_compare_7cf53_15 : decode cJ6_compare_7cf53 15 = .ok (.goto 4, 3) := by decide +kernel
theorem dJ6_compare_7cf53_18 : decode cJ6_compare_7cf53 18 = .ok (.iconst 1, 1) := by decide +kernel
theorem dJ6_compare_7cf53_19 : decode cJ6_compare_7cf53 19 = .ok (.ireturn, 1) := by decide +kernel
theorem dJ6_bitCount_0f7a4_0 : decode cJ6_bitCount_0f7a4 0 = .ok (.iload_n 0, 1) := by decide +kernel
theorem dJ6_bitCount_0f7a4_1 : decode cJ6_bitCount_0f7a4 1 = .ok (.iload_n 0, 1) := by decide +kernel
theorem dJ6_bitCount_0f7a4_2 : decode cJ6_bitCount_0f7a4 2 = .ok (.iconst 1, 1) := by decide +kernel
theorem dJ6_bitCount_0f7a4_3 : decode cJ6_bitCount_0f7a4 3 = .ok (.iushr, 1) := by decide +kernel
theorem dJ6_bitCount_0f7a4_4 : decode cJ6_bitCount_0f7a4 4 = .ok (.ldc_w 265, 3) := by decide +kernel
theorem dJ6_bitCount_0f7a4_7 : decode cJ6_bitCount_0f7a4 7 = .ok (.iand, 1) := by decide +kernel
theorem dJ6_bitCount_0f7a4_8 : decode cJ6_bitCount_0f7a4 8 = .ok (.isub, 1) := by decide +kernel
theorem dJ6_bitCount_0f7a4_9 : decode cJ6_bitCount_0f7a4 9 = .ok (.istore_n 0, 1) := by decide +kernel
theorem dJ6_bitCount_0f7a4_10 : decode cJ6_bitCount_0f7a4 10 = .ok (.iload_n 0, 1) := by decide +kernel
theorem dJ6_bitCount_0f7a4_11 : decode cJ6_bitCount_0f7a4 11 = .ok (.ldc_w 266, 3) := by decide +kernel
theorem dJ6_bitCount_0f7a4_14 : decode cJ6_bitCount_0f7a4 14 = .ok (.iand, 1) := by decide +kernel
theorem dJ6_bitCount_0f7a4_15 : decode cJ6_bitCount_0f7a4 15 = .ok (.iload_n 0, 1) := by decide +kernel
theorem dJ6_bitCount_0f7a4_16 : decode cJ6_bitCount_0f7a4 16 = .ok (.iconst 2, 1) := by decide +kernel
theorem dJ6_bitCount_0f7a4_17 : decode cJ6_bitCount_0f7a4 17 = .ok (.iushr, 1) := by decide +kernel
theorem dJ6_bitCount_0f7a4_18 : decode cJ6_bitCount_0f7a4 18 = .ok (.ldc_w 266, 3) := by decide +kernel
theorem dJ6_bitCount_0f7a4_21 : decode cJ6_bitCount_0f7a4 21 = .ok (.iand, 1) := by decide +kernel
theorem dJ6_bitCount_0f7a4_22 : decode cJ6_bitCount_0f7a4 22 = .ok (.iadd, 1) := by decide +kernel
theorem dJ6_bitCount_0f7a4_23 : decode cJ6_bitCount_0f7a4 23 = .ok (.istore_n 0, 1) := by decide +kernel
theorem dJ6_bitCount_0f7a4_24 : decode cJ6_bitCount_0f7a4 24 = .ok (.iload_n 0, 1) := by decide +kernel
theorem dJ6_bitCount_0f7a4_25 : decode cJ6_bitCount_0f7a4 25 = .ok (.iload_n 0, 1) := by decide +kernel
theorem dJ6_bitCount_0f7a4_26 : decode cJ6_bitCount_0f7a4 26 = .ok (.iconst 4, 1) := by decide +kernel
theorem dJ6_bitCount_0f7a4_27 : decode cJ6_bitCount_0f7a4 27 = .ok (.iushr, 1) := by decide +kernel
theorem dJ6_bitCount_0f7a4_28 : decode cJ6_bitCount_0f7a4 28 = .ok (.iadd, 1) := by decide +kernel
theorem dJ6_bitCount_0f7a4_29 : decode cJ6_bitCount_0f7a4 29 = .ok (.ldc_w 267, 3) := by decide +kernel
theorem dJ6_bitCount_0f7a4_32 : decode cJ6_bitCount_0f7a4 32 = .ok (.iand, 1) := by decide +kernel
theorem dJ6_bitCount_0f7a4_33 : decode cJ6_bitCount_0f7a4 33 = .ok (.istore_n 0, 1) := by decide +kernel
theorem dJ6_bitCount_0f7a4_34 : decode cJ6_bitCount_0f7a4 34 = .ok (.iload_n 0, 1) := by decide +kernel
theorem dJ6_bitCount_0f7a4_35 : decode cJ6_bitCount_0f7a4 35 = .ok (.iload_n 0, 1) := by decide +kernel
theorem dJ6_bitCount_0f7a4_36 : decode cJ6_bitCount_0f7a4 36 = .ok (.bipush 8, 2) := by decide +kernel
theorem dJ6_bitCount_0f7a4_38 : decode cJ6_bitCount_0f7a4 38 = .ok (.iushr, 1) := by decide +kernel
theorem dJ6_bitCount_0f7a4_39 : decode cJ6_bitCount_0f7a4 39 = .ok (.iadd, 1) := by decide +kernel
theorem dJ6_bitCount_0f7a4_40 : decode cJ6_bitCount_0f7a4 40 = .ok (.istore_n 0, 1) := by decide +kernel
theorem dJ6_bitCount_0f7a4_41 : decode cJ6_bitCount_0f7a4 41 = .ok (.iload_n 0, 1) := by decide +kernel
theorem dJ6_bitCount_0f7a4_42 : decode cJ6_bitCount_0f7a4 42 = .ok (.iload_n 0, 1) := by decide +kernel
theorem dJ6_bitCount_0f7a4_43 : decode cJ6_bitCount_0f7a4 43 = .ok (.bipush 16, 2) := by decide +kernel
theorem dJ6_bitCount_0f7a4_45 : decode cJ6_bitCount_0f7a4 45 = .ok (.iushr, 1) := by decide +kernel
theorem dJ6_bitCount_0f7a4_46 : decode cJ6_bitCount_0f7a4 46 = .ok (.iadd, 1) := by decide +kernel
theorem dJ6_bitCount_0f7a4_47 : decode cJ6_bitCount_0f7a4 47 = .ok (.istore_n 0, 1) := by decide +kernel
theorem dJ6_bitCount_0f7a4_48 : decode cJ6_bitCount_0f7a4 48 = .ok (.iload_n 0, 1) := by decide +kernel
theorem dJ6_bitCount_0f7a4_49 : decode cJ6_bitCount_0f7a4 49 = .ok (.bipush 63, 2) := by decide +kernel
theorem dJ6_bitCount_0f7a4_51 : decode cJ6_bitCount_0f7a4 51 = .ok (.iand, 1) := by decide +kernel
theorem dJ6_bitCount_0f7a4_52 : decode cJ6_bitCount_0f7a4 52 = .ok (.ireturn, 1) := by decide +kernel
theorem dJ9_min_7cf53_0 : decode cJ9_min_7cf53 0 = .ok (.iload_n 0, 1) := by decide +kernel
theorem dJ9_min_7cf53_1 : decode cJ9_min_7cf53 1 = .ok (.iload_n 1, 1) := by decide +kernel
theorem dJ9_min_7cf53_2 : decode cJ9_min_7cf53 2 = .ok (.if_icmp .gt 7, 3) := by decide +kernel
theorem dJ9_min_7cf53_5 : decode cJ9_min_7cf53 5 = .ok (.iload_n 0, 1) := by decide +kernel
theorem dJ9_min_7cf53_6 : decode cJ9_min_7cf53 6 = .ok (.goto 4, 3) := by decide +kernel
theorem dJ9_min_7cf53_9 : decode cJ9_min_7cf53 9 = .ok (.iload_n 1, 1) := by decide +kernel
theorem dJ9_min_7cf53_10 : decode cJ9_min_7cf53 10 = .ok (.ireturn, 1) := by decide +kernel
theorem dJ7_fill_53178_0 : decode cJ7_fill_53178 0 = .ok (.iconst 0, 1) := by decide +kernel
theorem dJ7_fill_53178_1 : decode cJ7_fill_53178 1 = .ok (.istore_n 2, 1) := by decide +kernel
theorem dJ7_fill_53178_2 : decode cJ7_fill_53178 2 = .ok (.aload_n 0, 1) := by decide +kernel
theorem dJ7_fill_53178_3 : decode cJ7_fill_53178 3 = .ok (.arraylength, 1) := by decide +kernel
theorem dJ7_fill_53178_4 : decode cJ7_fill_53178 4 = .ok (.istore_n 3, 1) := by decide +kernel
theorem dJ7_fill_53178_5 : decode cJ7_fill_53178 5 = .ok (.iload_n 2, 1) := by decide +kernel
theorem dJ7_fill_53178_6 : decode cJ7_fill_53178 6 = .ok (.iload_n 3, 1) := by decide +kernel
theorem dJ7_fill_53178_7 : decode cJ7_fill_53178 7 = .ok (.if_icmp .ge 13, 3) := by decide +kernel
theorem dJ7_fill_53178_10 : decode cJ7_fill_53178 10 = .ok (.aload_n 0, 1) := by decide +kernel
theorem dJ7_fill_53178_11 : decode cJ7_fill_53178 11 = .ok (.iload_n 2, 1) := by decide +kernel
theorem dJ7_fill_53178_12 : decode cJ7_fill_53178 12 = .ok (.iload_n 1, 1) := by decide +kernel
theorem dJ7_fill_53178_13 : decode cJ7_fill_53178 13 = .ok (.iastore, 1) := by decide +kernel
theorem dJ7_fill_53178_14 : decode cJ7_fill_53178 14 = .ok (.iinc 2 1, 3) := by decide +kernel
theorem dJ7_fill_53178_17 : decode cJ7_fill_53178 17 = .ok (.goto (-12), 3) := by decide +kernel
theorem dJ7_fill_53178_20 : decode cJ7_fill_53178 20 = .ok (.return_, 1) := by decide +kernel
