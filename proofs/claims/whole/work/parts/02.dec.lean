theorem dX0_init_0 : decode cX0_init 0 = .ok (.aload_n 0, 1) := by decide +kernel
theorem dX0_init_1 : decode cX0_init 1 = .ok (.invokespecial 3, 3) := by decide +kernel
theorem dX0_init_4 : decode cX0_init 4 = .ok (.aload_n 0, 1) := by decide +kernel
theorem dX0_init_5 : decode cX0_init 5 = .ok (.sipush 256, 3) := by decide +kernel
theorem dX0_init_8 : decode cX0_init 8 = .ok (.newarray .int, 2) := by decide +kernel
theorem dX0_init_10 : decode cX0_init 10 = .ok (.putfield 9, 3) := by decide +kernel
theorem dX0_init_13 : decode cX0_init 13 = .ok (.return_, 1) := by decide +kernel
theorem dX0_clear_0 : decode cX0_clear 0 = .ok (.aload_n 0, 1) := by decide +kernel
theorem dX0_clear_1 : decode cX0_clear 1 = .ok (.getfield 9, 3) := by decide +kernel
theorem dX0_clear_4 : decode cX0_clear 4 = .ok (.ldc 15, 2) := by decide +kernel
theorem dX0_clear_6 : decode cX0_clear 6 = .ok (.invokestatic 16, 3) := by decide +kernel
theorem dX0_clear_9 : decode cX0_clear 9 = .ok (.iconst 0, 1) := by decide +kernel
theorem dX0_clear_10 : decode cX0_clear 10 = .ok (.istore_n 1, 1) := by decide +kernel
theorem dX0_clear_11 : decode cX0_clear 11 = .ok (.iload_n 1, 1) := by decide +kernel
theorem dX0_clear_12 : decode cX0_clear 12 = .ok (.bipush 16, 2) := by decide +kernel
theorem dX0_clear_14 : decode cX0_clear 14 = .ok (.if_icmp .ge 21, 3) := by decide +kernel
theorem dX0_clear_17 : decode cX0_clear 17 = .ok (.aload_n 0, 1) := by decide +kernel
theorem dX0_clear_18 : decode cX0_clear 18 = .ok (.getfield 9, 3) := by decide +kernel
theorem dX0_clear_21 : decode cX0_clear 21 = .ok (.iload_n 1, 1) := by decide +kernel
theorem dX0_clear_22 : decode cX0_clear 22 = .ok (.bipush 16, 2) := by decide +kernel
theorem dX0_clear_24 : decode cX0_clear 24 = .ok (.imul, 1) := by decide +kernel
theorem dX0_clear_25 : decode cX0_clear 25 = .ok (.iload_n 1, 1) := by decide +kernel
theorem dX0_clear_26 : decode cX0_clear 26 = .ok (.iadd, 1) := by decide +kernel
theorem dX0_clear_27 : decode cX0_clear 27 = .ok (.iconst 0, 1) := by decide +kernel
theorem dX0_clear_28 : decode cX0_clear 28 = .ok (.iastore, 1) := by decide +kernel
theorem dX0_clear_29 : decode cX0_clear 29 = .ok (.iinc 1 1, 3) := by decide +kernel
theorem dX0_clear_32 : decode cX0_clear 32 = .ok (.goto (-21), 3) := by decide +kernel
theorem dX0_clear_35 : decode cX0_clear 35 = .ok (.return_, 1) := by decide +kernel
theorem dX0_greatest_0 : decode cX0_greatest 0 = .ok (.aload_n 0, 1) := by decide +kernel
theorem dX0_greatest_1 : decode cX0_greatest 1 = .ok (.getfield 9, 3) := by decide +kernel
theorem dX0_greatest_4 : decode cX0_greatest 4 = .ok (.iload_n 1, 1) := by decide +kernel
theorem dX0_greatest_5 : decode cX0_greatest 5 = .ok (.bipush 16, 2) := by decide +kernel
theorem dX0_greatest_7 : decode cX0_greatest 7 = .ok (.imul, 1) := by decide +kernel
theorem dX0_greatest_8 : decode cX0_greatest 8 = .ok (.iload_n 2, 1) := by decide +kernel
theorem dX0_greatest_9 : decode cX0_greatest 9 = .ok (.iadd, 1) := by decide +kernel
theorem dX0_greatest_10 : decode cX0_greatest 10 = .ok (.iaload, 1) := by decide +kernel
theorem dX0_greatest_11 : decode cX0_greatest 11 = .ok (.istore_n 3, 1) := by decide +kernel
theorem dX0_greatest_12 : decode cX0_greatest 12 = .ok (.iload_n 3, 1) := by decide +kernel
theorem dX0_greatest_13 : decode cX0_greatest 13 = .ok (.ldc 15, 2) := by decide +kernel
theorem dX0_greatest_15 : decode cX0_greatest 15 = .ok (.if_icmp .ne 8, 3) := by decide +kernel
theorem dX0_greatest_18 : decode cX0_greatest 18 = .ok (.ldc 22, 2) := by decide +kernel
theorem dX0_greatest_20 : decode cX0_greatest 20 = .ok (.goto 4, 3) := by decide +kernel
theorem dX0_greatest_23 : decode cX0_greatest 23 = .ok (.iload_n 3, 1) := by decide +kernel
theorem dX0_greatest_24 : decode cX0_greatest 24 = .ok (.ireturn, 1) := by decide +kernel
theorem dX0_least_0 : decode cX0_least 0 = .ok (.aload_n 0, 1) := by decide +kernel
theorem dX0_least_1 : decode cX0_least 1 = .ok (.getfield 9, 3) := by decide +kernel
theorem dX0_least_4 : decode cX0_least 4 = .ok (.iload_n 2, 1) := by decide +kernel
theorem dX0_least_5 : decode cX0_least 5 = .ok (.bipush 16, 2) := by decide +kernel
theorem dX0_least_7 : decode cX0_least 7 = .ok (.imul, 1) := by decide +kernel
theorem dX0_least_8 : decode cX0_least 8 = .ok (.iload_n 1, 1) := by decide +kernel
theorem dX0_least_9 : decode cX0_least 9 = .ok (.iadd, 1) := by decide +kernel
theorem dX0_least_10 : decode cX0_least 10 = .ok (.iaload, 1) := by decide +kernel
theorem dX0_least_11 : decode cX0_least 11 = .ok (.istore_n 3, 1) := by decide +kernel
theorem dX0_least_12 : decode cX0_least 12 = .ok (.iload_n 3, 1) := by decide +kernel
theorem dX0_least_13 : decode cX0_least 13 = .ok (.ldc 15, 2) := by decide +kernel
theorem dX0_least_15 : decode cX0_least 15 = .ok (.if_icmp .ne 8, 3) := by decide +kernel
theorem dX0_least_18 : decode cX0_least 18 = .ok (.ldc 22, 2) := by decide +kernel
theorem dX0_least_20 : decode cX0_least 20 = .ok (.goto 5, 3) := by decide +kernel
theorem dX0_least_23 : decode cX0_least 23 = .ok (.iload_n 3, 1) := by decide +kernel
theorem dX0_least_24 : decode cX0_least 24 = .ok (.ineg, 1) := by decide +kernel
theorem dX0_least_25 : decode cX0_least 25 = .ok (.ireturn, 1) := by decide +kernel
theorem dX0_narrow_0 : decode cX0_narrow 0 = .ok (.iload_n 3, 1) := by decide +kernel
theorem dX0_narrow_1 : decode cX0_narrow 1 = .ok (.aload_n 0, 1) := by decide +kernel
theorem dX0_narrow_2 : decode cX0_narrow 2 = .ok (.getfield 9, 3) := by decide +kernel
theorem dX0_narrow_5 : decode cX0_narrow 5 = .ok (.iload_n 1, 1) := by decide +kernel
theorem dX0_narrow_6 : decode cX0_narrow 6 = .ok (.bipush 16, 2) := by decide +kernel
theorem dX0_narrow_8 : decode cX0_narrow 8 = .ok (.imul, 1) := by decide +kernel
theorem dX0_narrow_9 : decode cX0_narrow 9 = .ok (.iload_n 2, 1) := by decide +kernel
theorem dX0_narrow_10 : decode cX0_narrow 10 = .ok (.iadd, 1) := by decide +kernel
theorem dX0_narrow_11 : decode cX0_narrow 11 = .ok (.iaload, 1) := by decide +kernel
theorem dX0_narrow_12 : decode cX0_narrow 12 = .ok (.if_icmp .gt 20, 3) := by decide +kernel
theorem dX0_narrow_15 : decode cX0_narrow 15 = .ok (.iload 4, 2) := by decide +kernel
theorem dX0_narrow_17 : decode cX0_narrow 17 = .ok (.aload_n 0, 1) := by decide +kernel
theorem dX0_narrow_18 : decode cX0_narrow 18 = .ok (.getfield 9, 3) := by decide +kernel
theorem dX0_narrow_21 : decode cX0_narrow 21 = .ok (.iload_n 2, 1) := by decide +kernel
theorem dX0_narrow_22 : decode cX0_narrow 22 = .ok (.bipush 16, 2) := by decide +kernel
theorem dX0_narrow_24 : decode cX0_narrow 24 = .ok (.imul, 1) := by decide +kernel
theorem dX0_narrow_25 : decode cX0_narrow 25 = .ok (.iload_n 1, 1) := by decide +kernel
theorem dX0_narrow_26 : decode cX0_narrow 26 = .ok (.iadd, 1) := by decide +kernel
theorem dX0_narrow_27 : decode cX0_narrow 27 = .ok (.iaload, 1) := by decide +kernel
theorem dX0_narrow_28 : decode cX0_narrow 28 = .ok (.ineg, 1) := by decide +kernel
theorem dX0_narrow_29 : decode cX0_narrow 29 = .ok (.if_icmp .ge 5, 3) := by decide +kernel
theorem dX0_narrow_32 : decode cX0_narrow 32 = .ok (.iconst 0, 1) := by decide +kernel
theorem dX0_narrow_33 : decode cX0_narrow 33 = .ok (.ireturn, 1) := by decide +kernel
theorem dX0_narrow_34 : decode cX0_narrow 34 = .ok (.aload_n 0, 1) := by decide +kernel
theorem dX0_narrow_35 : decode cX0_narrow 35 = .ok (.iload_n 1, 1) := by decide +kernel
theorem dX0_narrow_36 : decode cX0_narrow 36 = .ok (.iload_n 2, 1) := by decide +kernel
theorem dX0_narrow_37 : decode cX0_narrow 37 = .ok (.iload 4, 2) := by decide +kernel
theorem dX0_narrow_39 : decode cX0_narrow 39 = .ok (.invokevirtual 23, 3) := by decide +kernel
theorem dX0_narrow_42 : decode cX0_narrow 42 = .ok (.aload_n 0, 1) := by decide +kernel
theorem dX0_narrow_43 : decode cX0_narrow 43 = .ok (.iload_n 2, 1) := by decide +kernel
theorem dX0_narrow_44 : decode cX0_narrow 44 = .ok (.iload_n 1, 1) := by decide +kernel
theorem dX0_narrow_45 : decode cX0_narrow 45 = .ok (.iload_n 3, 1) := by decide +kernel
theorem dX0_narrow_46 : decode cX0_narrow 46 = .ok (.ineg, 1) := by decide +kernel
theorem dX0_narrow_47 : decode cX0_narrow 47 = .ok (.invokevirtual 23, 3) := by decide +kernel
theorem dX0_narrow_50 : decode cX0_narrow 50 = .ok (.iconst 1, 1) := by decide +kernel
theorem dX0_narrow_51 : decode cX0_narrow 51 = .ok (.ireturn, 1) := by decide +kernel
theorem dX0_limit_0 : decode cX0_limit 0 = .ok (.iload_n 3, 1) := by decide +kernel
theorem dX0_limit_1 : decode cX0_limit 1 = .ok (.aload_n 0, 1) := by decide +kernel
theorem dX0_limit_2 : decode cX0_limit 2 = .ok (.getfield 9, 3) := by decide +kernel
theorem dX0_limit_5 : decode cX0_limit 5 = .ok (.iload_n 1, 1) := by decide +kernel
theorem dX0_limit_6 : decode cX0_limit 6 = .ok (.bipush 16, 2) := by decide +kernel
theorem dX0_limit_8 : decode cX0_limit 8 = .ok (.imul, 1) := by decide +kernel
theorem dX0_limit_9 : decode cX0_limit 9 = .ok (.iload_n 2, 1) := by decide +kernel
theorem dX0_limit_10 : decode cX0_limit 10 = .ok (.iadd, 1) := by decide +kernel
theorem dX0_limit_11 : decode cX0_limit 11 = .ok (.iaload, 1) := by decide +kernel
theorem dX0_limit_12 : decode cX0_limit 12 = .ok (.if_icmp .lt 4, 3) := by decide +kernel
theorem dX0_limit_15 : decode cX0_limit 15 = .ok (.return_, 1) := by decide +kernel
theorem dX0_limit_16 : decode cX0_limit 16 = .ok (.iconst 0, 1) := by decide +kernel
theorem dX0_limit_17 : decode cX0_limit 17 = .ok (.istore 4, 2) := by decide +kernel
theorem dX0_limit_19 : decode cX0_limit 19 = .ok (.iload 4, 2) := by decide +kernel
theorem dX0_limit_21 : decode cX0_limit 21 = .ok (.bipush 16, 2) := by decide +kernel
theorem dX0_limit_23 : decode cX0_limit 23 = .ok (.if_icmp .ge 110, 3) := by decide +kernel
theorem dX0_limit_26 : decode cX0_limit 26 = .ok (.aload_n 0, 1) := by decide +kernel
theorem dX0_limit_27 : decode cX0_limit 27 = .ok (.getfield 9, 3) := by decide +kernel
theorem dX0_limit_30 : decode cX0_limit 30 = .ok (.iload 4, 2) := by decide +kernel
theorem dX0_limit_32 : decode cX0_limit 32 = .ok (.bipush 16, 2) := by decide +kernel
theorem dX0_limit_34 : decode cX0_limit 34 = .ok (.imul, 1) := by decide +kernel
theorem dX0_limit_35 : decode cX0_limit 35 = .ok (.iload_n 1, 1) := by decide +kernel
theorem dX0_limit_36 : decode cX0_limit 36 = .ok (.iadd, 1) := by decide +kernel
theorem dX0_limit_37 : decode cX0_limit 37 = .ok (.iaload, 1) := by decide +kernel
theorem dX0_limit_38 : decode cX0_limit 38 = .ok (.istore 5, 2) := by decide +kernel
theorem dX0_limit_40 : decode cX0_limit 40 = .ok (.iconst 0, 1) := by decide +kernel
theorem dX0_limit_41 : decode cX0_limit 41 = .ok (.istore 6, 2) := by decide +kernel
theorem dX0_limit_43 : decode cX0_limit 43 = .ok (.iload 6, 2) := by decide +kernel
theorem dX0_limit_45 : decode cX0_limit 45 = .ok (.bipush 16, 2) := by decide +kernel
theorem dX0_limit_47 : decode cX0_limit 47 = .ok (.if_icmp .ge 80, 3) := by decide +kernel
theorem dX0_limit_50 : decode cX0_limit 50 = .ok (.iload 5, 2) := by decide +kernel
theorem dX0_limit_52 : decode cX0_limit 52 = .ok (.ldc 15, 2) := by decide +kernel
theorem dX0_limit_54 : decode cX0_limit 54 = .ok (.if_icmp .eq 73, 3) := by decide +kernel
theorem dX0_limit_57 : decode cX0_limit 57 = .ok (.aload_n 0, 1) := by decide +kernel
theorem dX0_limit_58 : decode cX0_limit 58 = .ok (.getfield 9, 3) := by decide +kernel
theorem dX0_limit_61 : decode cX0_limit 61 = .ok (.iload_n 2, 1) := by decide +kernel
theorem dX0_limit_62 : decode cX0_limit 62 = .ok (.bipush 16, 2) := by decide +kernel
theorem dX0_limit_64 : decode cX0_limit 64 = .ok (.imul, 1) := by decide +kernel
theorem dX0_limit_65 : decode cX0_limit 65 = .ok (.iload 6, 2) := by decide +kernel
theorem dX0_limit_67 : decode cX0_limit 67 = .ok (.iadd, 1) := by decide +kernel
theorem dX0_limit_68 : decode cX0_limit 68 = .ok (.iaload, 1) := by decide +kernel
theorem dX0_limit_69 : decode cX0_limit 69 = .ok (.istore 7, 2) := by decide +kernel
theorem dX0_limit_71 : decode cX0_limit 71 = .ok (.iload 7, 2) := by decide +kernel
theorem dX0_limit_73 : decode cX0_limit 73 = .ok (.ldc 15, 2) := by decide +kernel
theorem dX0_limit_75 : decode cX0_limit 75 = .ok (.if_icmp .eq 46, 3) := by decide +kernel
theorem dX0_limit_78 : decode cX0_limit 78 = .ok (.iload 5, 2) := by decide +kernel
theorem dX0_limit_80 : decode cX0_limit 80 = .ok (.iload_n 3, 1) := by decide +kernel
theorem dX0_limit_81 : decode cX0_limit 81 = .ok (.iadd, 1) := by decide +kernel
theorem dX0_limit_82 : decode cX0_limit 82 = .ok (.iload 7, 2) := by decide +kernel
theorem dX0_limit_84 : decode cX0_limit 84 = .ok (.iadd, 1) := by decide +kernel
theorem dX0_limit_85 : decode cX0_limit 85 = .ok (.aload_n 0, 1) := by decide +kernel
theorem dX0_limit_86 : decode cX0_limit 86 = .ok (.getfield 9, 3) := by decide +kernel
theorem dX0_limit_89 : decode cX0_limit 89 = .ok (.iload 4, 2) := by decide +kernel
theorem dX0_limit_91 : decode cX0_limit 91 = .ok (.bipush 16, 2) := by decide +kernel
theorem dX0_limit_93 : decode cX0_limit 93 = .ok (.imul, 1) := by decide +kernel
theorem dX0_limit_94 : decode cX0_limit 94 = .ok (.iload 6, 2) := by decide +kernel
theorem dX0_limit_96 : decode cX0_limit 96 = .ok (.iadd, 1) := by decide +kernel
theorem dX0_limit_97 : decode cX0_limit 97 = .ok (.iaload, 1) := by decide +kernel
theorem dX0_limit_98 : decode cX0_limit 98 = .ok (.if_icmp .ge 23, 3) := by decide +kernel
theorem dX0_limit_101 : decode cX0_limit 101 = .ok (.aload_n 0, 1) := by decide +kernel
theorem dX0_limit_102 : decode cX0_limit 102 = .ok (.getfield 9, 3) := by decide +kernel
theorem dX0_limit_105 : decode cX0_limit 105 = .ok (.iload 4, 2) := by decide +kernel
theorem dX0_limit_107 : decode cX0_limit 107 = .ok (.bipush 16, 2) := by decide +kernel
theorem dX0_limit_109 : decode cX0_limit 109 = .ok (.imul, 1) := by decide +kernel
theorem dX0_limit_110 : decode cX0_limit 110 = .ok (.iload 6, 2) := by decide +kernel
theorem dX0_limit_112 : decode cX0_limit 112 = .ok (.iadd, 1) := by decide +kernel
theorem dX0_limit_113 : decode cX0_limit 113 = .ok (.iload 5, 2) := by decide +kernel
theorem dX0_limit_115 : decode cX0_limit 115 = .ok (.iload_n 3, 1) := by decide +kernel
theorem dX0_limit_116 : decode cX0_limit 116 = .ok (.iadd, 1) := by decide +kernel
theorem dX0_limit_117 : decode cX0_limit 117 = .ok (.iload 7, 2) := by decide +kernel
theorem dX0_limit_119 : decode cX0_limit 119 = .ok (.iadd, 1) := by decide +kernel
theorem dX0_limit_120 : decode cX0_limit 120 = .ok (.iastore, 1) := by decide +kernel
theorem dX0_limit_121 : decode cX0_limit 121 = .ok (.iinc 6 1, 3) := by decide +kernel
theorem dX0_limit_124 : decode cX0_limit 124 = .ok (.goto (-81), 3) := by decide +kernel
theorem dX0_limit_127 : decode cX0_limit 127 = .ok (.iinc 4 1, 3) := by decide +kernel
theorem dX0_limit_130 : decode cX0_limit 130 = .ok (.goto (-111), 3) := by decide +kernel
theorem dX0_limit_133 : decode cX0_limit 133 = .ok (.return_, 1) := by decide +kernel
theorem dX1_init_0 : decode cX1_init 0 = .ok (.aload_n 0, 1) := by decide +kernel
theorem dX1_init_1 : decode cX1_init 1 = .ok (.invokespecial 3, 3) := by decide +kernel
theorem dX1_init_4 : decode cX1_init 4 = .ok (.aload_n 0, 1) := by decide +kernel
theorem dX1_init_5 : decode cX1_init 5 = .ok (.bipush 40, 2) := by decide +kernel
theorem dX1_init_7 : decode cX1_init 7 = .ok (.newarray .int, 2) := by decide +kernel
theorem dX1_init_9 : decode cX1_init 9 = .ok (.putfield 9, 3) := by decide +kernel
theorem dX1_init_12 : decode cX1_init 12 = .ok (.aload_n 0, 1) := by decide +kernel
theorem dX1_init_13 : decode cX1_init 13 = .ok (.bipush 40, 2) := by decide +kernel
theorem dX1_init_15 : decode cX1_init 15 = .ok (.newarray .int, 2) := by decide +kernel
theorem dX1_init_17 : decode cX1_init 17 = .ok (.putfield 15, 3) := by decide +kernel
theorem dX1_init_20 : decode cX1_init 20 = .ok (.aload_n 0, 1) := by decide +kernel
theorem dX1_init_21 : decode cX1_init 21 = .ok (.new 18, 3) := by decide +kernel
theorem dX1_init_24 : decode cX1_init 24 = .ok (.dup, 1) := by decide +kernel
theorem dX1_init_25 : decode cX1_init 25 = .ok (.bipush 40, 2) := by decide +kernel
theorem dX1_init_27 : decode cX1_init 27 = .ok (.invokespecial 20, 3) := by decide +kernel
theorem dX1_init_30 : decode cX1_init 30 = .ok (.putfield 23, 3) := by decide +kernel
theorem dX1_init_33 : decode cX1_init 33 = .ok (.aload_n 0, 1) := by decide +kernel
theorem dX1_init_34 : decode cX1_init 34 = .ok (.new 18, 3) := by decide +kernel
theorem dX1_init_37 : decode cX1_init 37 = .ok (.dup, 1) := by decide +kernel
theorem dX1_init_38 : decode cX1_init 38 = .ok (.bipush 40, 2) := by decide +kernel
theorem dX1_init_40 : decode cX1_init 40 = .ok (.invokespecial 20, 3) := by decide +kernel
theorem dX1_init_43 : decode cX1_init 43 = .ok (.putfield 27, 3) := by decide +kernel
theorem dX1_init_46 : decode cX1_init 46 = .ok (.return_, 1) := by decide +kernel
theorem dX1_add_0 : decode cX1_add 0 = .ok (.aload_n 0, 1) := by decide +kernel
theorem dX1_add_1 : decode cX1_add 1 = .ok (.getfield 30, 3) := by decide +kernel
theorem dX1_add_4 : decode cX1_add 4 = .ok (.bipush 40, 2) := by decide +kernel
theorem dX1_add_6 : decode cX1_add 6 = .ok (.if_icmp .lt 5, 3) := by decide +kernel
theorem dX1_add_9 : decode cX1_add 9 = .ok (.iconst (-1), 1) := by decide +kernel
theorem dX1_add_10 : decode cX1_add 10 = .ok (.ireturn, 1) := by decide +kernel
theorem dX1_add_11 : decode cX1_add 11 = .ok (.aload_n 0, 1) := by decide +kernel
theorem dX1_add_12 : decode cX1_add 12 = .ok (.getfield 9, 3) := by decide +kernel
theorem dX1_add_15 : decode cX1_add 15 = .ok (.aload_n 0, 1) := by decide +kernel
theorem dX1_add_16 : decode cX1_add 16 = .ok (.getfield 30, 3) := by decide +kernel
theorem dX1_add_19 : decode cX1_add 19 = .ok (.iload_n 1, 1) := by decide +kernel
theorem dX1_add_20 : decode cX1_add 20 = .ok (.iastore, 1) := by decide +kernel
theorem dX1_add_21 : decode cX1_add 21 = .ok (.aload_n 0, 1) := by decide +kernel
theorem dX1_add_22 : decode cX1_add 22 = .ok (.getfield 15, 3) := by decide +kernel
theorem dX1_add_25 : decode cX1_add 25 = .ok (.aload_n 0, 1) := by decide +kernel
theorem dX1_add_26 : decode cX1_add 26 = .ok (.getfield 30, 3) := by decide +kernel
theorem dX1_add_29 : decode cX1_add 29 = .ok (.iload_n 2, 1) := by decide +kernel
theorem dX1_add_30 : decode cX1_add 30 = .ok (.iastore, 1) := by decide +kernel
theorem dX1_add_31 : decode cX1_add 31 = .ok (.aload_n 0, 1) := by decide +kernel
theorem dX1_add_32 : decode cX1_add 32 = .ok (.getfield 23, 3) := by decide +kernel
theorem dX1_add_35 : decode cX1_add 35 = .ok (.aload_n 0, 1) := by decide +kernel
theorem dX1_add_36 : decode cX1_add 36 = .ok (.getfield 30, 3) := by decide +kernel
theorem dX1_add_39 : decode cX1_add 39 = .ok (.iload_n 3, 1) := by decide +kernel
theorem dX1_add_40 : decode cX1_add 40 = .ok (.iload 4, 2) := by decide +kernel
theorem dX1_add_42 : decode cX1_add 42 = .ok (.invokevirtual 34, 3) := by decide +kernel
theorem dX1_add_45 : decode cX1_add 45 = .ok (.aload_n 0, 1) := by decide +kernel
theorem dX1_add_46 : decode cX1_add 46 = .ok (.dup, 1) := by decide +kernel
theorem dX1_add_47 : decode cX1_add 47 = .ok (.getfield 30, 3) := by decide +kernel
theorem dX1_add_50 : decode cX1_add 50 = .ok (.iconst 1, 1) := by decide +kernel
theorem dX1_add_51 : decode cX1_add 51 = .ok (.iadd, 1) := by decide +kernel
theorem dX1_add_52 : decode cX1_add 52 = .ok (.putfield 30, 3) := by decide +kernel
theorem dX1_add_55 : decode cX1_add 55 = .ok (.aload_n 0, 1) := by decide +kernel
theorem dX1_add_56 : decode cX1_add 56 = .ok (.getfield 30, 3) := by decide +kernel
theorem dX1_add_59 : decode cX1_add 59 = .ok (.iconst 1, 1) := by decide +kernel
theorem dX1_add_60 : decode cX1_add 60 = .ok (.isub, 1) := by decide +kernel
theorem dX1_add_61 : decode cX1_add 61 = .ok (.ireturn, 1) := by decide +kernel
theorem dX1_setOverruled_0 : decode cX1_setOverruled 0 = .ok (.iload_n 1, 1) := by decide +kernel
theorem dX1_setOverruled_1 : decode cX1_setOverruled 1 = .ok (.iconst 0, 1) := by decide +kernel
theorem dX1_setOverruled_2 : decode cX1_setOverruled 2 = .ok (.aload_n 0, 1) := by decide +kernel
theorem dX1_setOverruled_3 : decode cX1_setOverruled 3 = .ok (.getfield 30, 3) := by decide +kernel
theorem dX1_setOverruled_6 : decode cX1_setOverruled 6 = .ok (.iconst 1, 1) := by decide +kernel
theorem dX1_setOverruled_7 : decode cX1_setOverruled 7 = .ok (.isub, 1) := by decide +kernel
theorem dX1_setOverruled_8 : decode cX1_setOverruled 8 = .ok (.invokestatic 38, 3) := by decide +kernel
theorem dX1_setOverruled_11 : decode cX1_setOverruled 11 = .ok (.ifCond .eq 14, 3) := by decide +kernel
theorem dX1_setOverruled_14 : decode cX1_setOverruled 14 = .ok (.aload_n 0, 1) := by decide +kernel
theorem dX1_setOverruled_15 : decode cX1_setOverruled 15 = .ok (.getfield 27, 3) := by decide +kernel
theorem dX1_setOverruled_18 : decode cX1_setOverruled 18 = .ok (.iload_n 1, 1) := by decide +kernel
theorem dX1_setOverruled_19 : decode cX1_setOverruled 19 = .ok (.invokevirtual 42, 3) := by decide +kernel
theorem dX1_setOverruled_22 : decode cX1_setOverruled 22 = .ok (.ifCond .eq 5, 3) := by decide +kernel
theorem dX1_setOverruled_25 : decode cX1_setOverruled 25 = .ok (.iconst 0, 1) := by decide +kernel
theorem dX1_setOverruled_26 : decode cX1_setOverruled 26 = .ok (.ireturn, 1) := by decide +kernel
theorem dX1_setOverruled_27 : decode cX1_setOverruled 27 = .ok (.aload_n 0, 1) := by decide +kernel
theorem dX1_setOverruled_28 : decode cX1_setOverruled 28 = .ok (.getfield 27, 3) := by decide +kernel
theorem dX1_setOverruled_31 : decode cX1_setOverruled 31 = .ok (.iload_n 1, 1) := by decide +kernel
theorem dX1_setOverruled_32 : decode cX1_setOverruled 32 = .ok (.iload_n 2, 1) := by decide +kernel
theorem dX1_setOverruled_33 : decode cX1_setOverruled 33 = .ok (.iload_n 3, 1) := by decide +kernel
theorem dX1_setOverruled_34 : decode cX1_setOverruled 34 = .ok (.invokevirtual 34, 3) := by decide +kernel
theorem dX1_setOverruled_37 : decode cX1_setOverruled 37 = .ok (.iconst 1, 1) := by decide +kernel
theorem dX1_setOverruled_38 : decode cX1_setOverruled 38 = .ok (.ireturn, 1) := by decide +kernel
theorem dX1_findLike_0 : decode cX1_findLike 0 = .ok (.iconst 0, 1) := by decide +kernel
theorem dX1_findLike_1 : decode cX1_findLike 1 = .ok (.istore 6, 2) := by decide +kernel
theorem dX1_findLike_3 : decode cX1_findLike 3 = .ok (.iconst 0, 1) := by decide +kernel
theorem dX1_findLike_4 : decode cX1_findLike 4 = .ok (.istore 7, 2) := by decide +kernel
theorem dX1_findLike_6 : decode cX1_findLike 6 = .ok (.iload 7, 2) := by decide +kernel
theorem dX1_findLike_8 : decode cX1_findLike 8 = .ok (.aload_n 0, 1) := by decide +kernel
theorem dX1_findLike_9 : decode cX1_findLike 9 = .ok (.getfield 30, 3) := by decide +kernel
theorem dX1_findLike_12 : decode cX1_findLike 12 = .ok (.if_icmp .ge 88, 3) := by decide +kernel
theorem dX1_findLike_15 : decode cX1_findLike 15 = .ok (.iload 6, 2) := by decide +kernel
theorem dX1_findLike_17 : decode cX1_findLike 17 = .ok (.aload 5, 2) := by decide +kernel
theorem dX1_findLike_19 : decode cX1_findLike 19 = .ok (.arraylength, 1) := by decide +kernel
theorem dX1_findLike_20 : decode cX1_findLike 20 = .ok (.if_icmp .ge 80, 3) := by decide +kernel
theorem dX1_findLike_23 : decode cX1_findLike 23 = .ok (.aload_n 0, 1) := by decide +kernel
theorem dX1_findLike_24 : decode cX1_findLike 24 = .ok (.getfield 23, 3) := by decide +kernel
theorem dX1_findLike_27 : decode cX1_findLike 27 = .ok (.iload 7, 2) := by decide +kernel
theorem dX1_findLike_29 : decode cX1_findLike 29 = .ok (.iload_n 3, 1) := by decide +kernel
theorem dX1_findLike_30 : decode cX1_findLike 30 = .ok (.iload 4, 2) := by decide +kernel
theorem dX1_findLike_32 : decode cX1_findLike 32 = .ok (.invokevirtual 46, 3) := by decide +kernel
theorem dX1_findLike_35 : decode cX1_findLike 35 = .ok (.ifCond .eq 22, 3) := by decide +kernel
theorem dX1_findLike_38 : decode cX1_findLike 38 = .ok (.aload_n 0, 1) := by decide +kernel
theorem dX1_findLike_39 : decode cX1_findLike 39 = .ok (.getfield 27, 3) := by decide +kernel
theorem dX1_findLike_42 : decode cX1_findLike 42 = .ok (.iload 7, 2) := by decide +kernel
theorem dX1_findLike_44 : decode cX1_findLike 44 = .ok (.iload_n 3, 1) := by decide +kernel
theorem dX1_findLike_45 : decode cX1_findLike 45 = .ok (.iload 4, 2) := by decide +kernel
theorem dX1_findLike_47 : decode cX1_findLike 47 = .ok (.invokevirtual 46, 3) := by decide +kernel
theorem dX1_findLike_50 : decode cX1_findLike 50 = .ok (.ifCond .ne 7, 3) := by decide +kernel
theorem dX1_findLike_53 : decode cX1_findLike 53 = .ok (.iconst 1, 1) := by decide +kernel
theorem dX1_findLike_54 : decode cX1_findLike 54 = .ok (.goto 4, 3) := by decide +kernel
theorem dX1_findLike_57 : decode cX1_findLike 57 = .ok (.iconst 0, 1) := by decide +kernel
theorem dX1_findLike_58 : decode cX1_findLike 58 = .ok (.istore 8, 2) := by decide +kernel
theorem dX1_findLike_60 : decode cX1_findLike 60 = .ok (.iload 8, 2) := by decide +kernel
theorem dX1_findLike_62 : decode cX1_findLike 62 = .ok (.ifCond .eq 32, 3) := by decide +kernel
theorem dX1_findLike_65 : decode cX1_findLike 65 = .ok (.aload_n 1, 1) := by decide +kernel
theorem dX1_findLike_66 : decode cX1_findLike 66 = .ok (.aload_n 0, 1) := by decide +kernel
theorem dX1_findLike_67 : decode cX1_findLike 67 = .ok (.getfield 9, 3) := by decide +kernel
theorem dX1_findLike_70 : decode cX1_findLike 70 = .ok (.iload 7, 2) := by decide +kernel
theorem dX1_findLike_72 : decode cX1_findLike 72 = .ok (.iaload, 1) := by decide +kernel
theorem dX1_findLike_73 : decode cX1_findLike 73 = .ok (.iload_n 2, 1) := by decide +kernel
theorem dX1_findLike_74 : decode cX1_findLike 74 = .ok (.invokevirtual 49, 3) := by decide +kernel
theorem dX1_findLike_77 : decode cX1_findLike 77 = .ok (.aload_n 1, 1) := by decide +kernel
theorem dX1_findLike_78 : decode cX1_findLike 78 = .ok (.getfield 55, 3) := by decide +kernel
theorem dX1_findLike_81 : decode cX1_findLike 81 = .ok (.if_icmp .gt 13, 3) := by decide +kernel
theorem dX1_findLike_84 : decode cX1_findLike 84 = .ok (.aload 5, 2) := by decide +kernel
theorem dX1_findLike_86 : decode cX1_findLike 86 = .ok (.iload 6, 2) := by decide +kernel
theorem dX1_findLike_88 : decode cX1_findLike 88 = .ok (.iload 7, 2) := by decide +kernel
theorem dX1_findLike_90 : decode cX1_findLike 90 = .ok (.iastore, 1) := by decide +kernel
theorem dX1_findLike_91 : decode cX1_findLike 91 = .ok (.iinc 6 1, 3) := by decide +kernel
theorem dX1_findLike_94 : decode cX1_findLike 94 = .ok (.iinc 7 1, 3) := by decide +kernel
theorem dX1_findLike_97 : decode cX1_findLike 97 = .ok (.goto (-91), 3) := by decide +kernel
theorem dX1_findLike_100 : decode cX1_findLike 100 = .ok (.iload 6, 2) := by decide +kernel
theorem dX1_findLike_102 : decode cX1_findLike 102 = .ok (.ireturn, 1) := by decide +kernel
theorem dX1_sortAwards_0 : decode cX1_sortAwards 0 = .ok (.iconst 0, 1) := by decide +kernel
theorem dX1_sortAwards_1 : decode cX1_sortAwards 1 = .ok (.istore 4, 2) := by decide +kernel
theorem dX1_sortAwards_3 : decode cX1_sortAwards 3 = .ok (.iload 4, 2) := by decide +kernel
theorem dX1_sortAwards_5 : decode cX1_sortAwards 5 = .ok (.iload_n 2, 1) := by decide +kernel
theorem dX1_sortAwards_6 : decode cX1_sortAwards 6 = .ok (.if_icmp .ge 69, 3) := by decide +kernel
theorem dX1_sortAwards_9 : decode cX1_sortAwards 9 = .ok (.iload 4, 2) := by decide +kernel
theorem dX1_sortAwards_11 : decode cX1_sortAwards 11 = .ok (.aload_n 3, 1) := by decide +kernel
theorem dX1_sortAwards_12 : decode cX1_sortAwards 12 = .ok (.arraylength, 1) := by decide +kernel
theorem dX1_sortAwards_13 : decode cX1_sortAwards 13 = .ok (.if_icmp .ge 62, 3) := by decide +kernel
theorem dX1_sortAwards_16 : decode cX1_sortAwards 16 = .ok (.aload_n 0, 1) := by decide +kernel
theorem dX1_sortAwards_17 : decode cX1_sortAwards 17 = .ok (.getfield 15, 3) := by decide +kernel
theorem dX1_sortAwards_20 : decode cX1_sortAwards 20 = .ok (.aload_n 1, 1) := by decide +kernel
theorem dX1_sortAwards_21 : decode cX1_sortAwards 21 = .ok (.iload 4, 2) := by decide +kernel
theorem dX1_sortAwards_23 : decode cX1_sortAwards 23 = .ok (.iaload, 1) := by decide +kernel
theorem dX1_sortAwards_24 : decode cX1_sortAwards 24 = .ok (.iaload, 1) := by decide +kernel
theorem dX1_sortAwards_25 : decode cX1_sortAwards 25 = .ok (.istore 5, 2) := by decide +kernel
theorem dX1_sortAwards_27 : decode cX1_sortAwards 27 = .ok (.iload 4, 2) := by decide +kernel
theorem dX1_sortAwards_29 : decode cX1_sortAwards 29 = .ok (.istore 6, 2) := by decide +kernel
theorem dX1_sortAwards_31 : decode cX1_sortAwards 31 = .ok (.iload 6, 2) := by decide +kernel
theorem dX1_sortAwards_33 : decode cX1_sortAwards 33 = .ok (.ifCond .le 30, 3) := by decide +kernel
theorem dX1_sortAwards_36 : decode cX1_sortAwards 36 = .ok (.aload_n 3, 1) := by decide +kernel
theorem dX1_sortAwards_37 : decode cX1_sortAwards 37 = .ok (.iload 6, 2) := by decide +kernel
theorem dX1_sortAwards_39 : decode cX1_sortAwards 39 = .ok (.iconst 1, 1) := by decide +kernel
theorem dX1_sortAwards_40 : decode cX1_sortAwards 40 = .ok (.isub, 1) := by decide +kernel
theorem dX1_sortAwards_41 : decode cX1_sortAwards 41 = .ok (.iaload, 1) := by decide +kernel
theorem dX1_sortAwards_42 : decode cX1_sortAwards 42 = .ok (.iload 5, 2) := by decide +kernel
theorem dX1_sortAwards_44 : decode cX1_sortAwards 44 = .ok (.if_icmp .le 19, 3) := by decide +kernel
theorem dX1_sortAwards_47 : decode cX1_sortAwards 47 = .ok (.aload_n 3, 1) := by decide +kernel
theorem dX1_sortAwards_48 : decode cX1_sortAwards 48 = .ok (.iload 6, 2) := by decide +kernel
theorem dX1_sortAwards_50 : decode cX1_sortAwards 50 = .ok (.aload_n 3, 1) := by decide +kernel
theorem dX1_sortAwards_51 : decode cX1_sortAwards 51 = .ok (.iload 6, 2) := by decide +kernel
theorem dX1_sortAwards_53 : decode cX1_sortAwards 53 = .ok (.iconst 1, 1) := by decide +kernel
theorem dX1_sortAwards_54 : decode cX1_sortAwards 54 = .ok (.isub, 1) := by decide +kernel
theorem dX1_sortAwards_55 : decode cX1_sortAwards 55 = .ok (.iaload, 1) := by decide +kernel
theorem dX1_sortAwards_56 : decode cX1_sortAwards 56 = .ok (.iastore, 1) := by decide +kernel
theorem dX1_sortAwards_57 : decode cX1_sortAwards 57 = .ok (.iinc 6 (-1), 3) := by decide +kernel
theorem dX1_sortAwards_60 : decode cX1_sortAwards 60 = .ok (.goto (-29), 3) := by decide +kernel
theorem dX1_sortAwards_63 : decode cX1_sortAwards 63 = .ok (.aload_n 3, 1) := by decide +kernel
theorem dX1_sortAwards_64 : decode cX1_sortAwards 64 = .ok (.iload 6, 2) := by decide +kernel
theorem dX1_sortAwards_66 : decode cX1_sortAwards 66 = .ok (.iload 5, 2) := by decide +kernel
theorem dX1_sortAwards_68 : decode cX1_sortAwards 68 = .ok (.iastore, 1) := by decide +kernel
theorem dX1_sortAwards_69 : decode cX1_sortAwards 69 = .ok (.iinc 4 1, 3) := by decide +kernel
theorem dX1_sortAwards_72 : decode cX1_sortAwards 72 = .ok (.goto (-69), 3) := by decide +kernel
theorem dX1_sortAwards_75 : decode cX1_sortAwards 75 = .ok (.return_, 1) := by decide +kernel
theorem dX2_init_0 : decode cX2_init 0 = .ok (.aload_n 0, 1) := by decide +kernel
theorem dX2_init_1 : decode cX2_init 1 = .ok (.invokespecial 3, 3) := by decide +kernel
theorem dX2_init_4 : decode cX2_init 4 = .ok (.aload_n 0, 1) := by decide +kernel
theorem dX2_init_5 : decode cX2_init 5 = .ok (.bipush 60, 2) := by decide +kernel
theorem dX2_init_7 : decode cX2_init 7 = .ok (.newarray .int, 2) := by decide +kernel
theorem dX2_init_9 : decode cX2_init 9 = .ok (.putfield 9, 3) := by decide +kernel
theorem dX2_init_12 : decode cX2_init 12 = .ok (.return_, 1) := by decide +kernel
theorem dX2_clear_0 : decode cX2_clear 0 = .ok (.aload_n 0, 1) := by decide +kernel
theorem dX2_clear_1 : decode cX2_clear 1 = .ok (.iconst 0, 1) := by decide +kernel
theorem dX2_clear_2 : decode cX2_clear 2 = .ok (.putfield 15, 3) := by decide +kernel
theorem dX2_clear_5 : decode cX2_clear 5 = .ok (.aload_n 0, 1) := by decide +kernel
theorem dX2_clear_6 : decode cX2_clear 6 = .ok (.iconst 0, 1) := by decide +kernel
theorem dX2_clear_7 : decode cX2_clear 7 = .ok (.putfield 19, 3) := by decide +kernel
theorem dX2_clear_10 : decode cX2_clear 10 = .ok (.return_, 1) := by decide +kernel
theorem dX2_add_0 : decode cX2_add 0 = .ok (.aload_n 0, 1) := by decide +kernel
theorem dX2_add_1 : decode cX2_add 1 = .ok (.getfield 15, 3) := by decide +kernel
theorem dX2_add_4 : decode cX2_add 4 = .ok (.bipush 60, 2) := by decide +kernel
theorem dX2_add_6 : decode cX2_add 6 = .ok (.if_icmp .ge 33, 3) := by decide +kernel
theorem dX2_add_9 : decode cX2_add 9 = .ok (.aload_n 0, 1) := by decide +kernel
theorem dX2_add_10 : decode cX2_add 10 = .ok (.getfield 9, 3) := by decide +kernel
theorem dX2_add_13 : decode cX2_add 13 = .ok (.aload_n 0, 1) := by decide +kernel
theorem dX2_add_14 : decode cX2_add 14 = .ok (.getfield 15, 3) := by decide +kernel
theorem dX2_add_17 : decode cX2_add 17 = .ok (.iload_n 1, 1) := by decide +kernel
theorem dX2_add_18 : decode cX2_add 18 = .ok (.iastore, 1) := by decide +kernel
theorem dX2_add_19 : decode cX2_add 19 = .ok (.aload_n 0, 1) := by decide +kernel
theorem dX2_add_20 : decode cX2_add 20 = .ok (.dup, 1) := by decide +kernel
theorem dX2_add_21 : decode cX2_add 21 = .ok (.getfield 15, 3) := by decide +kernel
theorem dX2_add_24 : decode cX2_add 24 = .ok (.iconst 1, 1) := by decide +kernel
theorem dX2_add_25 : decode cX2_add 25 = .ok (.iadd, 1) := by decide +kernel
theorem dX2_add_26 : decode cX2_add 26 = .ok (.putfield 15, 3) := by decide +kernel
theorem dX2_add_29 : decode cX2_add 29 = .ok (.aload_n 0, 1) := by decide +kernel
theorem dX2_add_30 : decode cX2_add 30 = .ok (.dup, 1) := by decide +kernel
theorem dX2_add_31 : decode cX2_add 31 = .ok (.getfield 19, 3) := by decide +kernel
theorem dX2_add_34 : decode cX2_add 34 = .ok (.iload_n 1, 1) := by decide +kernel
theorem dX2_add_35 : decode cX2_add 35 = .ok (.iadd, 1) := by decide +kernel
theorem dX2_add_36 : decode cX2_add 36 = .ok (.putfield 19, 3) := by decide +kernel
theorem dX2_add_39 : decode cX2_add 39 = .ok (.return_, 1) := by decide +kernel
theorem dX2_copy_0 : decode cX2_copy 0 = .ok (.aload_n 0, 1) := by decide +kernel
theorem dX2_copy_1 : decode cX2_copy 1 = .ok (.invokevirtual 22, 3) := by decide +kernel
theorem dX2_copy_4 : decode cX2_copy 4 = .ok (.iconst 0, 1) := by decide +kernel
theorem dX2_copy_5 : decode cX2_copy 5 = .ok (.istore_n 2, 1) := by decide +kernel
theorem dX2_copy_6 : decode cX2_copy 6 = .ok (.iload_n 2, 1) := by decide +kernel
theorem dX2_copy_7 : decode cX2_copy 7 = .ok (.aload_n 1, 1) := by decide +kernel
theorem dX2_copy_8 : decode cX2_copy 8 = .ok (.getfield 15, 3) := by decide +kernel
theorem dX2_copy_11 : decode cX2_copy 11 = .ok (.if_icmp .ge 19, 3) := by decide +kernel
theorem dX2_copy_14 : decode cX2_copy 14 = .ok (.aload_n 0, 1) := by decide +kernel
theorem dX2_copy_15 : decode cX2_copy 15 = .ok (.aload_n 1, 1) := by decide +kernel
theorem dX2_copy_16 : decode cX2_copy 16 = .ok (.getfield 9, 3) := by decide +kernel
theorem dX2_copy_19 : decode cX2_copy 19 = .ok (.iload_n 2, 1) := by decide +kernel
theorem dX2_copy_20 : decode cX2_copy 20 = .ok (.iaload, 1) := by decide +kernel
theorem dX2_copy_21 : decode cX2_copy 21 = .ok (.invokevirtual 25, 3) := by decide +kernel
theorem dX2_copy_24 : decode cX2_copy 24 = .ok (.iinc 2 1, 3) := by decide +kernel
theorem dX2_copy_27 : decode cX2_copy 27 = .ok (.goto (-21), 3) := by decide +kernel
theorem dX2_copy_30 : decode cX2_copy 30 = .ok (.return_, 1) := by decide +kernel
theorem dX3_init_0 : decode cX3_init 0 = .ok (.aload_n 0, 1) := by decide +kernel
theorem dX3_init_1 : decode cX3_init 1 = .ok (.invokespecial 3, 3) := by decide +kernel
theorem dX3_init_4 : decode cX3_init 4 = .ok (.aload_n 0, 1) := by decide +kernel
theorem dX3_init_5 : decode cX3_init 5 = .ok (.bipush 60, 2) := by decide +kernel
theorem dX3_init_7 : decode cX3_init 7 = .ok (.newarray .int, 2) := by decide +kernel
theorem dX3_init_9 : decode cX3_init 9 = .ok (.putfield 9, 3) := by decide +kernel
theorem dX3_init_12 : decode cX3_init 12 = .ok (.aload_n 0, 1) := by decide +kernel
theorem dX3_init_13 : decode cX3_init 13 = .ok (.bipush 60, 2) := by decide +kernel
theorem dX3_init_15 : decode cX3_init 15 = .ok (.newarray .int, 2) := by decide +kernel
theorem dX3_init_17 : decode cX3_init 17 = .ok (.putfield 15, 3) := by decide +kernel
theorem dX3_init_20 : decode cX3_init 20 = .ok (.aload_n 0, 1) := by decide +kernel
theorem dX3_init_21 : decode cX3_init 21 = .ok (.new 18, 3) := by decide +kernel
theorem dX3_init_24 : decode cX3_init 24 = .ok (.dup, 1) := by decide +kernel
theorem dX3_init_25 : decode cX3_init 25 = .ok (.bipush 60, 2) := by decide +kernel
theorem dX3_init_27 : decode cX3_init 27 = .ok (.invokespecial 20, 3) := by decide +kernel
theorem dX3_init_30 : decode cX3_init 30 = .ok (.putfield 23, 3) := by decide +kernel
theorem dX3_init_33 : decode cX3_init 33 = .ok (.return_, 1) := by decide +kernel
theorem dX3_add_0 : decode cX3_add 0 = .ok (.aload_n 0, 1) := by decide +kernel
theorem dX3_add_1 : decode cX3_add 1 = .ok (.getfield 27, 3) := by decide +kernel
theorem dX3_add_4 : decode cX3_add 4 = .ok (.bipush 60, 2) := by decide +kernel
theorem dX3_add_6 : decode cX3_add 6 = .ok (.if_icmp .lt 5, 3) := by decide +kernel
theorem dX3_add_9 : decode cX3_add 9 = .ok (.iconst (-1), 1) := by decide +kernel
theorem dX3_add_10 : decode cX3_add 10 = .ok (.ireturn, 1) := by decide +kernel
theorem dX3_add_11 : decode cX3_add 11 = .ok (.aload_n 0, 1) := by decide +kernel
theorem dX3_add_12 : decode cX3_add 12 = .ok (.getfield 9, 3) := by decide +kernel
theorem dX3_add_15 : decode cX3_add 15 = .ok (.aload_n 0, 1) := by decide +kernel
theorem dX3_add_16 : decode cX3_add 16 = .ok (.getfield 27, 3) := by decide +kernel
theorem dX3_add_19 : decode cX3_add 19 = .ok (.iload_n 1, 1) := by decide +kernel
theorem dX3_add_20 : decode cX3_add 20 = .ok (.iastore, 1) := by decide +kernel
theorem dX3_add_21 : decode cX3_add 21 = .ok (.aload_n 0, 1) := by decide +kernel
theorem dX3_add_22 : decode cX3_add 22 = .ok (.getfield 15, 3) := by decide +kernel
theorem dX3_add_25 : decode cX3_add 25 = .ok (.aload_n 0, 1) := by decide +kernel
theorem dX3_add_26 : decode cX3_add 26 = .ok (.getfield 27, 3) := by decide +kernel
theorem dX3_add_29 : decode cX3_add 29 = .ok (.iload_n 2, 1) := by decide +kernel
theorem dX3_add_30 : decode cX3_add 30 = .ok (.iastore, 1) := by decide +kernel
theorem dX3_add_31 : decode cX3_add 31 = .ok (.aload_n 0, 1) := by decide +kernel
theorem dX3_add_32 : decode cX3_add 32 = .ok (.getfield 23, 3) := by decide +kernel
theorem dX3_add_35 : decode cX3_add 35 = .ok (.aload_n 0, 1) := by decide +kernel
theorem dX3_add_36 : decode cX3_add 36 = .ok (.getfield 27, 3) := by decide +kernel
theorem dX3_add_39 : decode cX3_add 39 = .ok (.iload_n 3, 1) := by decide +kernel
theorem dX3_add_40 : decode cX3_add 40 = .ok (.iload 4, 2) := by decide +kernel
theorem dX3_add_42 : decode cX3_add 42 = .ok (.invokevirtual 31, 3) := by decide +kernel
theorem dX3_add_45 : decode cX3_add 45 = .ok (.aload_n 0, 1) := by decide +kernel
theorem dX3_add_46 : decode cX3_add 46 = .ok (.dup, 1) := by decide +kernel
theorem dX3_add_47 : decode cX3_add 47 = .ok (.getfield 27, 3) := by decide +kernel
theorem dX3_add_50 : decode cX3_add 50 = .ok (.iconst 1, 1) := by decide +kernel
theorem dX3_add_51 : decode cX3_add 51 = .ok (.iadd, 1) := by decide +kernel
theorem dX3_add_52 : decode cX3_add 52 = .ok (.putfield 27, 3) := by decide +kernel
theorem dX3_add_55 : decode cX3_add 55 = .ok (.aload_n 0, 1) := by decide +kernel
theorem dX3_add_56 : decode cX3_add 56 = .ok (.getfield 27, 3) := by decide +kernel
theorem dX3_add_59 : decode cX3_add 59 = .ok (.ireturn, 1) := by decide +kernel
theorem dX3_worthOf_0 : decode cX3_worthOf 0 = .ok (.iconst (-1), 1) := by decide +kernel
theorem dX3_worthOf_1 : decode cX3_worthOf 1 = .ok (.istore 4, 2) := by decide +kernel
theorem dX3_worthOf_3 : decode cX3_worthOf 3 = .ok (.iconst 0, 1) := by decide +kernel
theorem dX3_worthOf_4 : decode cX3_worthOf 4 = .ok (.istore 5, 2) := by decide +kernel
theorem dX3_worthOf_6 : decode cX3_worthOf 6 = .ok (.iload 5, 2) := by decide +kernel
theorem dX3_worthOf_8 : decode cX3_worthOf 8 = .ok (.aload_n 0, 1) := by decide +kernel
theorem dX3_worthOf_9 : decode cX3_worthOf 9 = .ok (.getfield 27, 3) := by decide +kernel
theorem dX3_worthOf_12 : decode cX3_worthOf 12 = .ok (.if_icmp .ge 69, 3) := by decide +kernel
theorem dX3_worthOf_15 : decode cX3_worthOf 15 = .ok (.aload_n 0, 1) := by decide +kernel
theorem dX3_worthOf_16 : decode cX3_worthOf 16 = .ok (.getfield 9, 3) := by decide +kernel
theorem dX3_worthOf_19 : decode cX3_worthOf 19 = .ok (.iload 5, 2) := by decide +kernel
theorem dX3_worthOf_21 : decode cX3_worthOf 21 = .ok (.iaload, 1) := by decide +kernel
theorem dX3_worthOf_22 : decode cX3_worthOf 22 = .ok (.iload_n 1, 1) := by decide +kernel
theorem dX3_worthOf_23 : decode cX3_worthOf 23 = .ok (.if_icmp .ne 21, 3) := by decide +kernel
theorem dX3_worthOf_26 : decode cX3_worthOf 26 = .ok (.aload_n 0, 1) := by decide +kernel
theorem dX3_worthOf_27 : decode cX3_worthOf 27 = .ok (.getfield 23, 3) := by decide +kernel
theorem dX3_worthOf_30 : decode cX3_worthOf 30 = .ok (.iload 5, 2) := by decide +kernel
theorem dX3_worthOf_32 : decode cX3_worthOf 32 = .ok (.iload_n 2, 1) := by decide +kernel
theorem dX3_worthOf_33 : decode cX3_worthOf 33 = .ok (.iload_n 3, 1) := by decide +kernel
theorem dX3_worthOf_34 : decode cX3_worthOf 34 = .ok (.invokevirtual 35, 3) := by decide +kernel
theorem dX3_worthOf_37 : decode cX3_worthOf 37 = .ok (.ifCond .eq 7, 3) := by decide +kernel
theorem dX3_worthOf_40 : decode cX3_worthOf 40 = .ok (.iconst 1, 1) := by decide +kernel
theorem dX3_worthOf_41 : decode cX3_worthOf 41 = .ok (.goto 4, 3) := by decide +kernel
theorem dX3_worthOf_44 : decode cX3_worthOf 44 = .ok (.iconst 0, 1) := by decide +kernel
theorem dX3_worthOf_45 : decode cX3_worthOf 45 = .ok (.istore 6, 2) := by decide +kernel
theorem dX3_worthOf_47 : decode cX3_worthOf 47 = .ok (.iload 6, 2) := by decide +kernel
theorem dX3_worthOf_49 : decode cX3_worthOf 49 = .ok (.ifCond .eq 26, 3) := by decide +kernel
theorem dX3_worthOf_52 : decode cX3_worthOf 52 = .ok (.iload 4, 2) := by decide +kernel
theorem dX3_worthOf_54 : decode cX3_worthOf 54 = .ok (.ifCond .lt 17, 3) := by decide +kernel
theorem dX3_worthOf_57 : decode cX3_worthOf 57 = .ok (.aload_n 0, 1) := by decide +kernel
theorem dX3_worthOf_58 : decode cX3_worthOf 58 = .ok (.getfield 23, 3) := by decide +kernel
theorem dX3_worthOf_61 : decode cX3_worthOf 61 = .ok (.iload 5, 2) := by decide +kernel
theorem dX3_worthOf_63 : decode cX3_worthOf 63 = .ok (.iload 4, 2) := by decide +kernel
theorem dX3_worthOf_65 : decode cX3_worthOf 65 = .ok (.invokevirtual 39, 3) := by decide +kernel
theorem dX3_worthOf_68 : decode cX3_worthOf 68 = .ok (.ifCond .eq 7, 3) := by decide +kernel
theorem dX3_worthOf_71 : decode cX3_worthOf 71 = .ok (.iload 5, 2) := by decide +kernel
theorem dX3_worthOf_73 : decode cX3_worthOf 73 = .ok (.istore 4, 2) := by decide +kernel
theorem dX3_worthOf_75 : decode cX3_worthOf 75 = .ok (.iinc 5 1, 3) := by decide +kernel
theorem dX3_worthOf_78 : decode cX3_worthOf 78 = .ok (.goto (-72), 3) := by decide +kernel
theorem dX3_worthOf_81 : decode cX3_worthOf 81 = .ok (.iload 4, 2) := by decide +kernel
theorem dX3_worthOf_83 : decode cX3_worthOf 83 = .ok (.ifCond .ge 7, 3) := by decide +kernel
theorem dX3_worthOf_86 : decode cX3_worthOf 86 = .ok (.iconst 0, 1) := by decide +kernel
theorem dX3_worthOf_87 : decode cX3_worthOf 87 = .ok (.goto 10, 3) := by decide +kernel
theorem dX3_worthOf_90 : decode cX3_worthOf 90 = .ok (.aload_n 0, 1) := by decide +kernel
theorem dX3_worthOf_91 : decode cX3_worthOf 91 = .ok (.getfield 15, 3) := by decide +kernel
theorem dX3_worthOf_94 : decode cX3_worthOf 94 = .ok (.iload 4, 2) := by decide +kernel
theorem dX3_worthOf_96 : decode cX3_worthOf 96 = .ok (.iaload, 1) := by decide +kernel
theorem dX3_worthOf_97 : decode cX3_worthOf 97 = .ok (.ireturn, 1) := by decide +kernel
theorem dX3_worthOfAll_0 : decode cX3_worthOfAll 0 = .ok (.lconst 0, 1) := by decide +kernel
theorem dX3_worthOfAll_1 : decode cX3_worthOfAll 1 = .ok (.lstore_n 3, 1) := by decide +kernel
theorem dX3_worthOfAll_2 : decode cX3_worthOfAll 2 = .ok (.iconst 0, 1) := by decide +kernel
theorem dX3_worthOfAll_3 : decode cX3_worthOfAll 3 = .ok (.istore 5, 2) := by decide +kernel
theorem dX3_worthOfAll_5 : decode cX3_worthOfAll 5 = .ok (.iload 5, 2) := by decide +kernel
theorem dX3_worthOfAll_7 : decode cX3_worthOfAll 7 = .ok (.bipush 10, 2) := by decide +kernel
theorem dX3_worthOfAll_9 : decode cX3_worthOfAll 9 = .ok (.if_icmp .ge 21, 3) := by decide +kernel
theorem dX3_worthOfAll_12 : decode cX3_worthOfAll 12 = .ok (.lload_n 3, 1) := by decide +kernel
theorem dX3_worthOfAll_13 : decode cX3_worthOfAll 13 = .ok (.aload_n 0, 1) := by decide +kernel
theorem dX3_worthOfAll_14 : decode cX3_worthOfAll 14 = .ok (.iload 5, 2) := by decide +kernel
theorem dX3_worthOfAll_16 : decode cX3_worthOfAll 16 = .ok (.iload_n 1, 1) := by decide +kernel
theorem dX3_worthOfAll_17 : decode cX3_worthOfAll 17 = .ok (.iload_n 2, 1) := by decide +kernel
theorem dX3_worthOfAll_18 : decode cX3_worthOfAll 18 = .ok (.invokevirtual 43, 3) := by decide +kernel
theorem dX3_worthOfAll_21 : decode cX3_worthOfAll 21 = .ok (.i2l, 1) := by decide +kernel
theorem dX3_worthOfAll_22 : decode cX3_worthOfAll 22 = .ok (.ladd, 1) := by decide +kernel
theorem dX3_worthOfAll_23 : decode cX3_worthOfAll 23 = .ok (.lstore_n 3, 1) := by decide +kernel
theorem dX3_worthOfAll_24 : decode cX3_worthOfAll 24 = .ok (.iinc 5 1, 3) := by decide +kernel
theorem dX3_worthOfAll_27 : decode cX3_worthOfAll 27 = .ok (.goto (-22), 3) := by decide +kernel
theorem dX3_worthOfAll_30 : decode cX3_worthOfAll 30 = .ok (.lload_n 3, 1) := by decide +kernel
theorem dX3_worthOfAll_31 : decode cX3_worthOfAll 31 = .ok (.lreturn, 1) := by decide +kernel
theorem dX4_init_0 : decode cX4_init 0 = .ok (.aload_n 0, 1) := by decide +kernel
theorem dX4_init_1 : decode cX4_init 1 = .ok (.invokespecial 3, 3) := by decide +kernel
theorem dX4_init_4 : decode cX4_init 4 = .ok (.aload_n 0, 1) := by decide +kernel
theorem dX4_init_5 : decode cX4_init 5 = .ok (.bipush 40, 2) := by decide +kernel
theorem dX4_init_7 : decode cX4_init 7 = .ok (.newarray .int, 2) := by decide +kernel
theorem dX4_init_9 : decode cX4_init 9 = .ok (.putfield 9, 3) := by decide +kernel
theorem dX4_init_12 : decode cX4_init 12 = .ok (.aload_n 0, 1) := by decide +kernel
theorem dX4_init_13 : decode cX4_init 13 = .ok (.bipush 40, 2) := by decide +kernel
theorem dX4_init_15 : decode cX4_init 15 = .ok (.newarray .int, 2) := by decide +kernel
theorem dX4_init_17 : decode cX4_init 17 = .ok (.putfield 15, 3) := by decide +kernel
theorem dX4_init_20 : decode cX4_init 20 = .ok (.aload_n 0, 1) := by decide +kernel
theorem dX4_init_21 : decode cX4_init 21 = .ok (.bipush 8, 2) := by decide +kernel
theorem dX4_init_23 : decode cX4_init 23 = .ok (.anewarray 18, 3) := by decide +kernel
theorem dX4_init_26 : decode cX4_init 26 = .ok (.putfield 20, 3) := by decide +kernel
theorem dX4_init_29 : decode cX4_init 29 = .ok (.aload_n 0, 1) := by decide +kernel
theorem dX4_init_30 : decode cX4_init 30 = .ok (.iconst (-1), 1) := by decide +kernel
theorem dX4_init_31 : decode cX4_init 31 = .ok (.putfield 24, 3) := by decide +kernel
theorem dX4_init_34 : decode cX4_init 34 = .ok (.iconst 0, 1) := by decide +kernel
theorem dX4_init_35 : decode cX4_init 35 = .ok (.istore_n 1, 1) := by decide +kernel
theorem dX4_init_36 : decode cX4_init 36 = .ok (.iload_n 1, 1) := by decide +kernel
theorem dX4_init_37 : decode cX4_init 37 = .ok (.bipush 8, 2) := by decide +kernel
theorem dX4_init_39 : decode cX4_init 39 = .ok (.if_icmp .ge 22, 3) := by decide +kernel
theorem dX4_init_42 : decode cX4_init 42 = .ok (.aload_n 0, 1) := by decide +kernel
theorem dX4_init_43 : decode cX4_init 43 = .ok (.getfield 20, 3) := by decide +kernel
theorem dX4_init_46 : decode cX4_init 46 = .ok (.iload_n 1, 1) := by decide +kernel
theorem dX4_init_47 : decode cX4_init 47 = .ok (.new 18, 3) := by decide +kernel
theorem dX4_init_50 : decode cX4_init 50 = .ok (.dup, 1) := by decide +kernel
theorem dX4_init_51 : decode cX4_init 51 = .ok (.invokespecial 28, 3) := by decide +kernel
theorem dX4_init_54 : decode cX4_init 54 = .ok (.aastore, 1) := by decide +kernel
theorem dX4_init_55 : decode cX4_init 55 = .ok (.iinc 1 1, 3) := by decide +kernel
theorem dX4_init_58 : decode cX4_init 58 = .ok (.goto (-22), 3) := by decide +kernel
theorem dX4_init_61 : decode cX4_init 61 = .ok (.return_, 1) := by decide +kernel
theorem dX4_weighShips_0 : decode cX4_weighShips 0 = .ok (.aload_n 0, 1) := by decide +kernel
theorem dX4_weighShips_1 : decode cX4_weighShips 1 = .ok (.iload_n 2, 1) := by decide +kernel
theorem dX4_weighShips_2 : decode cX4_weighShips 2 = .ok (.putfield 29, 3) := by decide +kernel
theorem dX4_weighShips_5 : decode cX4_weighShips 5 = .ok (.aload_n 0, 1) := by decide +kernel
theorem dX4_weighShips_6 : decode cX4_weighShips 6 = .ok (.lconst 0, 1) := by decide +kernel
theorem dX4_weighShips_7 : decode cX4_weighShips 7 = .ok (.putfield 32, 3) := by decide +kernel
theorem dX4_weighShips_10 : decode cX4_weighShips 10 = .ok (.iconst 0, 1) := by decide +kernel
theorem dX4_weighShips_11 : decode cX4_weighShips 11 = .ok (.istore 4, 2) := by decide +kernel
theorem dX4_weighShips_13 : decode cX4_weighShips 13 = .ok (.iload 4, 2) := by decide +kernel
theorem dX4_weighShips_15 : decode cX4_weighShips 15 = .ok (.aload_n 0, 1) := by decide +kernel
theorem dX4_weighShips_16 : decode cX4_weighShips 16 = .ok (.getfield 29, 3) := by decide +kernel
theorem dX4_weighShips_19 : decode cX4_weighShips 19 = .ok (.if_icmp .ge 90, 3) := by decide +kernel
theorem dX4_weighShips_22 : decode cX4_weighShips 22 = .ok (.aload_n 0, 1) := by decide +kernel
theorem dX4_weighShips_23 : decode cX4_weighShips 23 = .ok (.getfield 20, 3) := by decide +kernel
theorem dX4_weighShips_26 : decode cX4_weighShips 26 = .ok (.iload 4, 2) := by decide +kernel
theorem dX4_weighShips_28 : decode cX4_weighShips 28 = .ok (.aaload, 1) := by decide +kernel
theorem dX4_weighShips_29 : decode cX4_weighShips 29 = .ok (.iconst 0, 1) := by decide +kernel
theorem dX4_weighShips_30 : decode cX4_weighShips 30 = .ok (.aload_n 3, 1) := by decide +kernel
theorem dX4_weighShips_31 : decode cX4_weighShips 31 = .ok (.aload_n 1, 1) := by decide +kernel
theorem dX4_weighShips_32 : decode cX4_weighShips 32 = .ok (.iload 4, 2) := by decide +kernel
theorem dX4_weighShips_34 : decode cX4_weighShips 34 = .ok (.aaload, 1) := by decide +kernel
theorem dX4_weighShips_35 : decode cX4_weighShips 35 = .ok (.getfield 36, 3) := by decide +kernel
theorem dX4_weighShips_38 : decode cX4_weighShips 38 = .ok (.aload_n 1, 1) := by decide +kernel
theorem dX4_weighShips_39 : decode cX4_weighShips 39 = .ok (.iload 4, 2) := by decide +kernel
theorem dX4_weighShips_41 : decode cX4_weighShips 41 = .ok (.aaload, 1) := by decide +kernel
theorem dX4_weighShips_42 : decode cX4_weighShips 42 = .ok (.getfield 41, 3) := by decide +kernel
theorem dX4_weighShips_45 : decode cX4_weighShips 45 = .ok (.invokevirtual 44, 3) := by decide +kernel
theorem dX4_weighShips_48 : decode cX4_weighShips 48 = .ok (.invokestatic 50, 3) := by decide +kernel
theorem dX4_weighShips_51 : decode cX4_weighShips 51 = .ok (.i2l, 1) := by decide +kernel
theorem dX4_weighShips_52 : decode cX4_weighShips 52 = .ok (.putfield 55, 3) := by decide +kernel
theorem dX4_weighShips_55 : decode cX4_weighShips 55 = .ok (.aload_n 0, 1) := by decide +kernel
theorem dX4_weighShips_56 : decode cX4_weighShips 56 = .ok (.getfield 20, 3) := by decide +kernel
theorem dX4_weighShips_59 : decode cX4_weighShips 59 = .ok (.iload 4, 2) := by decide +kernel
theorem dX4_weighShips_61 : decode cX4_weighShips 61 = .ok (.aaload, 1) := by decide +kernel
theorem dX4_weighShips_62 : decode cX4_weighShips 62 = .ok (.aload_n 1, 1) := by decide +kernel
theorem dX4_weighShips_63 : decode cX4_weighShips 63 = .ok (.iload 4, 2) := by decide +kernel
theorem dX4_weighShips_65 : decode cX4_weighShips 65 = .ok (.aaload, 1) := by decide +kernel
theorem dX4_weighShips_66 : decode cX4_weighShips 66 = .ok (.getfield 58, 3) := by decide +kernel
theorem dX4_weighShips_69 : decode cX4_weighShips 69 = .ok (.i2l, 1) := by decide +kernel
theorem dX4_weighShips_70 : decode cX4_weighShips 70 = .ok (.aload_n 0, 1) := by decide +kernel
theorem dX4_weighShips_71 : decode cX4_weighShips 71 = .ok (.getfield 20, 3) := by decide +kernel
theorem dX4_weighShips_74 : decode cX4_weighShips 74 = .ok (.iload 4, 2) := by decide +kernel
theorem dX4_weighShips_76 : decode cX4_weighShips 76 = .ok (.aaload, 1) := by decide +kernel
theorem dX4_weighShips_77 : decode cX4_weighShips 77 = .ok (.getfield 55, 3) := by decide +kernel
theorem dX4_weighShips_80 : decode cX4_weighShips 80 = .ok (.lmul, 1) := by decide +kernel
theorem dX4_weighShips_81 : decode cX4_weighShips 81 = .ok (.putfield 61, 3) := by decide +kernel
theorem dX4_weighShips_84 : decode cX4_weighShips 84 = .ok (.aload_n 0, 1) := by decide +kernel
theorem dX4_weighShips_85 : decode cX4_weighShips 85 = .ok (.dup, 1) := by decide +kernel
theorem dX4_weighShips_86 : decode cX4_weighShips 86 = .ok (.getfield 32, 3) := by decide +kernel
theorem dX4_weighShips_89 : decode cX4_weighShips 89 = .ok (.aload_n 0, 1) := by decide +kernel
theorem dX4_weighShips_90 : decode cX4_weighShips 90 = .ok (.getfield 20, 3) := by decide +kernel
theorem dX4_weighShips_93 : decode cX4_weighShips 93 = .ok (.iload 4, 2) := by decide +kernel
theorem dX4_weighShips_95 : decode cX4_weighShips 95 = .ok (.aaload, 1) := by decide +kernel
theorem dX4_weighShips_96 : decode cX4_weighShips 96 = .ok (.getfield 61, 3) := by decide +kernel
theorem dX4_weighShips_99 : decode cX4_weighShips 99 = .ok (.ladd, 1) := by decide +kernel
theorem dX4_weighShips_100 : decode cX4_weighShips 100 = .ok (.putfield 32, 3) := by decide +kernel
theorem dX4_weighShips_103 : decode cX4_weighShips 103 = .ok (.iinc 4 1, 3) := by decide +kernel
theorem dX4_weighShips_106 : decode cX4_weighShips 106 = .ok (.goto (-93), 3) := by decide +kernel
theorem dX4_weighShips_109 : decode cX4_weighShips 109 = .ok (.return_, 1) := by decide +kernel
theorem dX4_partAmongShips_0 : decode cX4_partAmongShips 0 = .ok (.aload_n 0, 1) := by decide +kernel
theorem dX4_partAmongShips_1 : decode cX4_partAmongShips 1 = .ok (.aload_n 0, 1) := by decide +kernel
theorem dX4_partAmongShips_2 : decode cX4_partAmongShips 2 = .ok (.getfield 32, 3) := by decide +kernel
theorem dX4_partAmongShips_5 : decode cX4_partAmongShips 5 = .ok (.lconst 0, 1) := by decide +kernel
theorem dX4_partAmongShips_6 : decode cX4_partAmongShips 6 = .ok (.lcmp, 1) := by decide +kernel
theorem dX4_partAmongShips_7 : decode cX4_partAmongShips 7 = .ok (.ifCond .le 20, 3) := by decide +kernel
theorem dX4_partAmongShips_10 : decode cX4_partAmongShips 10 = .ok (.aload_n 0, 1) := by decide +kernel
theorem dX4_partAmongShips_11 : decode cX4_partAmongShips 11 = .ok (.getfield 64, 3) := by decide +kernel
theorem dX4_partAmongShips_14 : decode cX4_partAmongShips 14 = .ok (.aload_n 0, 1) := by decide +kernel
theorem dX4_partAmongShips_15 : decode cX4_partAmongShips 15 = .ok (.getfield 67, 3) := by decide +kernel
theorem dX4_partAmongShips_18 : decode cX4_partAmongShips 18 = .ok (.i2l, 1) := by decide +kernel
theorem dX4_partAmongShips_19 : decode cX4_partAmongShips 19 = .ok (.lmul, 1) := by decide +kernel
theorem dX4_partAmongShips_20 : decode cX4_partAmongShips 20 = .ok (.ldc2_w 70, 3) := by decide +kernel
theorem dX4_partAmongShips_23 : decode cX4_partAmongShips 23 = .ok (.ldiv, 1) := by decide +kernel
theorem dX4_partAmongShips_24 : decode cX4_partAmongShips 24 = .ok (.goto 4, 3) := by decide +kernel
theorem dX4_partAmongShips_27 : decode cX4_partAmongShips 27 = .ok (.lconst 0, 1) := by decide +kernel
theorem dX4_partAmongShips_28 : decode cX4_partAmongShips 28 = .ok (.putfield 72, 3) := by decide +kernel
theorem dX4_partAmongShips_31 : decode cX4_partAmongShips 31 = .ok (.aload_n 0, 1) := by decide +kernel
theorem dX4_partAmongShips_32 : decode cX4_partAmongShips 32 = .ok (.getfield 72, 3) := by decide +kernel
theorem dX4_partAmongShips_35 : decode cX4_partAmongShips 35 = .ok (.lstore_n 1, 1) := by decide +kernel
theorem dX4_partAmongShips_36 : decode cX4_partAmongShips 36 = .ok (.iconst 0, 1) := by decide +kernel
theorem dX4_partAmongShips_37 : decode cX4_partAmongShips 37 = .ok (.istore_n 3, 1) := by decide +kernel
theorem dX4_partAmongShips_38 : decode cX4_partAmongShips 38 = .ok (.iload_n 3, 1) := by decide +kernel
theorem dX4_partAmongShips_39 : decode cX4_partAmongShips 39 = .ok (.aload_n 0, 1) := by decide +kernel
theorem dX4_partAmongShips_40 : decode cX4_partAmongShips 40 = .ok (.getfield 29, 3) := by decide +kernel
theorem dX4_partAmongShips_43 : decode cX4_partAmongShips 43 = .ok (.if_icmp .ge 84, 3) := by decide +kernel
theorem dX4_partAmongShips_46 : decode cX4_partAmongShips 46 = .ok (.aload_n 0, 1) := by decide +kernel
theorem dX4_partAmongShips_47 : decode cX4_partAmongShips 47 = .ok (.getfield 20, 3) := by decide +kernel
theorem dX4_partAmongShips_50 : decode cX4_partAmongShips 50 = .ok (.iload_n 3, 1) := by decide +kernel
theorem dX4_partAmongShips_51 : decode cX4_partAmongShips 51 = .ok (.aaload, 1) := by decide +kernel
theorem dX4_partAmongShips_52 : decode cX4_partAmongShips 52 = .ok (.astore 4, 2) := by decide +kernel
theorem dX4_partAmongShips_54 : decode cX4_partAmongShips 54 = .ok (.aload 4, 2) := by decide +kernel
theorem dX4_partAmongShips_56 : decode cX4_partAmongShips 56 = .ok (.aload_n 0, 1) := by decide +kernel
theorem dX4_partAmongShips_57 : decode cX4_partAmongShips 57 = .ok (.getfield 32, 3) := by decide +kernel
theorem dX4_partAmongShips_60 : decode cX4_partAmongShips 60 = .ok (.lconst 0, 1) := by decide +kernel
theorem dX4_partAmongShips_61 : decode cX4_partAmongShips 61 = .ok (.lcmp, 1) := by decide +kernel
theorem dX4_partAmongShips_62 : decode cX4_partAmongShips 62 = .ok (.ifCond .le 21, 3) := by decide +kernel
theorem dX4_partAmongShips_65 : decode cX4_partAmongShips 65 = .ok (.aload_n 0, 1) := by decide +kernel
theorem dX4_partAmongShips_66 : decode cX4_partAmongShips 66 = .ok (.getfield 72, 3) := by decide +kernel
theorem dX4_partAmongShips_69 : decode cX4_partAmongShips 69 = .ok (.aload 4, 2) := by decide +kernel
theorem dX4_partAmongShips_71 : decode cX4_partAmongShips 71 = .ok (.getfield 61, 3) := by decide +kernel
theorem dX4_partAmongShips_74 : decode cX4_partAmongShips 74 = .ok (.lmul, 1) := by decide +kernel
theorem dX4_partAmongShips_75 : decode cX4_partAmongShips 75 = .ok (.aload_n 0, 1) := by decide +kernel
theorem dX4_partAmongShips_76 : decode cX4_partAmongShips 76 = .ok (.getfield 32, 3) := by decide +kernel
theorem dX4_partAmongShips_79 : decode cX4_partAmongShips 79 = .ok (.ldiv, 1) := by decide +kernel
theorem dX4_partAmongShips_80 : decode cX4_partAmongShips 80 = .ok (.goto 4, 3) := by decide +kernel
theorem dX4_partAmongShips_83 : decode cX4_partAmongShips 83 = .ok (.lconst 0, 1) := by decide +kernel
theorem dX4_partAmongShips_84 : decode cX4_partAmongShips 84 = .ok (.putfield 75, 3) := by decide +kernel
theorem dX4_partAmongShips_87 : decode cX4_partAmongShips 87 = .ok (.aload 4, 2) := by decide +kernel
theorem dX4_partAmongShips_89 : decode cX4_partAmongShips 89 = .ok (.aload_n 0, 1) := by decide +kernel
theorem dX4_partAmongShips_90 : decode cX4_partAmongShips 90 = .ok (.getfield 72, 3) := by decide +kernel
theorem dX4_partAmongShips_93 : decode cX4_partAmongShips 93 = .ok (.aload 4, 2) := by decide +kernel
theorem dX4_partAmongShips_95 : decode cX4_partAmongShips 95 = .ok (.getfield 61, 3) := by decide +kernel
theorem dX4_partAmongShips_98 : decode cX4_partAmongShips 98 = .ok (.lmul, 1) := by decide +kernel
theorem dX4_partAmongShips_99 : decode cX4_partAmongShips 99 = .ok (.aload 4, 2) := by decide +kernel
theorem dX4_partAmongShips_101 : decode cX4_partAmongShips 101 = .ok (.getfield 75, 3) := by decide +kernel
theorem dX4_partAmongShips_104 : decode cX4_partAmongShips 104 = .ok (.aload_n 0, 1) := by decide +kernel
theorem dX4_partAmongShips_105 : decode cX4_partAmongShips 105 = .ok (.getfield 32, 3) := by decide +kernel
theorem dX4_partAmongShips_108 : decode cX4_partAmongShips 108 = .ok (.lmul, 1) := by decide +kernel
theorem dX4_partAmongShips_109 : decode cX4_partAmongShips 109 = .ok (.lsub, 1) := by decide +kernel
theorem dX4_partAmongShips_110 : decode cX4_partAmongShips 110 = .ok (.putfield 78, 3) := by decide +kernel
theorem dX4_partAmongShips_113 : decode cX4_partAmongShips 113 = .ok (.lload_n 1, 1) := by decide +kernel
theorem dX4_partAmongShips_114 : decode cX4_partAmongShips 114 = .ok (.aload 4, 2) := by decide +kernel
theorem dX4_partAmongShips_116 : decode cX4_partAmongShips 116 = .ok (.getfield 75, 3) := by decide +kernel
theorem dX4_partAmongShips_119 : decode cX4_partAmongShips 119 = .ok (.lsub, 1) := by decide +kernel
theorem dX4_partAmongShips_120 : decode cX4_partAmongShips 120 = .ok (.lstore_n 1, 1) := by decide +kernel
theorem dX4_partAmongShips_121 : decode cX4_partAmongShips 121 = .ok (.iinc 3 1, 3) := by decide +kernel
theorem dX4_partAmongShips_124 : decode cX4_partAmongShips 124 = .ok (.goto (-86), 3) := by decide +kernel
theorem dX4_partAmongShips_127 : decode cX4_partAmongShips 127 = .ok (.iconst 0, 1) := by decide +kernel
theorem dX4_partAmongShips_128 : decode cX4_partAmongShips 128 = .ok (.istore_n 3, 1) := by decide +kernel
theorem dX4_partAmongShips_129 : decode cX4_partAmongShips 129 = .ok (.iload_n 3, 1) := by decide +kernel
theorem dX4_partAmongShips_130 : decode cX4_partAmongShips 130 = .ok (.aload_n 0, 1) := by decide +kernel
theorem dX4_partAmongShips_131 : decode cX4_partAmongShips 131 = .ok (.getfield 29, 3) := by decide +kernel
theorem dX4_partAmongShips_134 : decode cX4_partAmongShips 134 = .ok (.if_icmp .ge 46, 3) := by decide +kernel
theorem dX4_partAmongShips_137 : decode cX4_partAmongShips 137 = .ok (.iload_n 3, 1) := by decide +kernel
theorem dX4_partAmongShips_138 : decode cX4_partAmongShips 138 = .ok (.i2l, 1) := by decide +kernel
theorem dX4_partAmongShips_139 : decode cX4_partAmongShips 139 = .ok (.lload_n 1, 1) := by decide +kernel
theorem dX4_partAmongShips_140 : decode cX4_partAmongShips 140 = .ok (.lcmp, 1) := by decide +kernel
theorem dX4_partAmongShips_141 : decode cX4_partAmongShips 141 = .ok (.ifCond .ge 39, 3) := by decide +kernel
theorem dX4_partAmongShips_144 : decode cX4_partAmongShips 144 = .ok (.aload_n 0, 1) := by decide +kernel
theorem dX4_partAmongShips_145 : decode cX4_partAmongShips 145 = .ok (.getfield 20, 3) := by decide +kernel
theorem dX4_partAmongShips_148 : decode cX4_partAmongShips 148 = .ok (.aload_n 0, 1) := by decide +kernel
theorem dX4_partAmongShips_149 : decode cX4_partAmongShips 149 = .ok (.invokevirtual 81, 3) := by decide +kernel
theorem dX4_partAmongShips_152 : decode cX4_partAmongShips 152 = .ok (.aaload, 1) := by decide +kernel
theorem dX4_partAmongShips_153 : decode cX4_partAmongShips 153 = .ok (.astore 4, 2) := by decide +kernel
theorem dX4_partAmongShips_155 : decode cX4_partAmongShips 155 = .ok (.aload 4, 2) := by decide +kernel
theorem dX4_partAmongShips_157 : decode cX4_partAmongShips 157 = .ok (.dup, 1) := by decide +kernel
theorem dX4_partAmongShips_158 : decode cX4_partAmongShips 158 = .ok (.getfield 75, 3) := by decide +kernel
theorem dX4_partAmongShips_161 : decode cX4_partAmongShips 161 = .ok (.lconst 1, 1) := by decide +kernel
theorem dX4_partAmongShips_162 : decode cX4_partAmongShips 162 = .ok (.ladd, 1) := by decide +kernel
theorem dX4_partAmongShips_163 : decode cX4_partAmongShips 163 = .ok (.putfield 75, 3) := by decide +kernel
theorem dX4_partAmongShips_166 : decode cX4_partAmongShips 166 = .ok (.aload 4, 2) := by decide +kernel
theorem dX4_partAmongShips_168 : decode cX4_partAmongShips 168 = .ok (.ldc2_w 85, 3) := by decide +kernel
theorem dX4_partAmongShips_171 : decode cX4_partAmongShips 171 = .ok (.putfield 78, 3) := by decide +kernel
theorem dX4_partAmongShips_174 : decode cX4_partAmongShips 174 = .ok (.iinc 3 1, 3) := by decide +kernel
theorem dX4_partAmongShips_177 : decode cX4_partAmongShips 177 = .ok (.goto (-48), 3) := by decide +kernel
theorem dX4_partAmongShips_180 : decode cX4_partAmongShips 180 = .ok (.return_, 1) := by decide +kernel
theorem dX4_greatestRest_0 : decode cX4_greatestRest 0 = .ok (.iconst 0, 1) := by decide +kernel
theorem dX4_greatestRest_1 : decode cX4_greatestRest 1 = .ok (.istore_n 1, 1) := by decide +kernel
theorem dX4_greatestRest_2 : decode cX4_greatestRest 2 = .ok (.iconst 1, 1) := by decide +kernel
theorem dX4_greatestRest_3 : decode cX4_greatestRest 3 = .ok (.istore_n 2, 1) := by decide +kernel
theorem dX4_greatestRest_4 : decode cX4_greatestRest 4 = .ok (.iload_n 2, 1) := by decide +kernel
theorem dX4_greatestRest_5 : decode cX4_greatestRest 5 = .ok (.aload_n 0, 1) := by decide +kernel
theorem dX4_greatestRest_6 : decode cX4_greatestRest 6 = .ok (.getfield 29, 3) := by decide +kernel
theorem dX4_greatestRest_9 : decode cX4_greatestRest 9 = .ok (.if_icmp .ge 33, 3) := by decide +kernel
theorem dX4_greatestRest_12 : decode cX4_greatestRest 12 = .ok (.aload_n 0, 1) := by decide +kernel
theorem dX4_greatestRest_13 : decode cX4_greatestRest 13 = .ok (.getfield 20, 3) := by decide +kernel
theorem dX4_greatestRest_16 : decode cX4_greatestRest 16 = .ok (.iload_n 2, 1) := by decide +kernel
theorem dX4_greatestRest_17 : decode cX4_greatestRest 17 = .ok (.aaload, 1) := by decide +kernel
theorem dX4_greatestRest_18 : decode cX4_greatestRest 18 = .ok (.getfield 78, 3) := by decide +kernel
theorem dX4_greatestRest_21 : decode cX4_greatestRest 21 = .ok (.aload_n 0, 1) := by decide +kernel
theorem dX4_greatestRest_22 : decode cX4_greatestRest 22 = .ok (.getfield 20, 3) := by decide +kernel
theorem dX4_greatestRest_25 : decode cX4_greatestRest 25 = .ok (.iload_n 1, 1) := by decide +kernel
theorem dX4_greatestRest_26 : decode cX4_greatestRest 26 = .ok (.aaload, 1) := by decide +kernel
theorem dX4_greatestRest_27 : decode cX4_greatestRest 27 = .ok (.getfield 78, 3) := by decide +kernel
theorem dX4_greatestRest_30 : decode cX4_greatestRest 30 = .ok (.lcmp, 1) := by decide +kernel
theorem dX4_greatestRest_31 : decode cX4_greatestRest 31 = .ok (.ifCond .le 5, 3) := by decide +kernel
theorem dX4_greatestRest_34 : decode cX4_greatestRest 34 = .ok (.iload_n 2, 1) := by decide +kernel
theorem dX4_greatestRest_35 : decode cX4_greatestRest 35 = .ok (.istore_n 1, 1) := by decide +kernel
theorem dX4_greatestRest_36 : decode cX4_greatestRest 36 = .ok (.iinc 2 1, 3) := by decide +kernel
theorem dX4_greatestRest_39 : decode cX4_greatestRest 39 = .ok (.goto (-35), 3) := by decide +kernel
theorem dX4_greatestRest_42 : decode cX4_greatestRest 42 = .ok (.iload_n 1, 1) := by decide +kernel
theorem dX4_greatestRest_43 : decode cX4_greatestRest 43 = .ok (.ireturn, 1) := by decide +kernel
theorem dX4_settle_0 : decode cX4_settle 0 = .ok (.aload_n 0, 1) := by decide +kernel
theorem dX4_settle_1 : decode cX4_settle 1 = .ok (.lconst 0, 1) := by decide +kernel
theorem dX4_settle_2 : decode cX4_settle 2 = .ok (.putfield 87, 3) := by decide +kernel
theorem dX4_settle_5 : decode cX4_settle 5 = .ok (.iconst 0, 1) := by decide +kernel
theorem dX4_settle_6 : decode cX4_settle 6 = .ok (.istore_n 3, 1) := by decide +kernel
theorem dX4_settle_7 : decode cX4_settle 7 = .ok (.iload_n 3, 1) := by decide +kernel
theorem dX4_settle_8 : decode cX4_settle 8 = .ok (.aload_n 0, 1) := by decide +kernel
theorem dX4_settle_9 : decode cX4_settle 9 = .ok (.getfield 29, 3) := by decide +kernel
theorem dX4_settle_12 : decode cX4_settle 12 = .ok (.if_icmp .ge 55, 3) := by decide +kernel
theorem dX4_settle_15 : decode cX4_settle 15 = .ok (.aload_n 0, 1) := by decide +kernel
theorem dX4_settle_16 : decode cX4_settle 16 = .ok (.getfield 20, 3) := by decide +kernel
theorem dX4_settle_19 : decode cX4_settle 19 = .ok (.iload_n 3, 1) := by decide +kernel
theorem dX4_settle_20 : decode cX4_settle 20 = .ok (.aaload, 1) := by decide +kernel
theorem dX4_settle_21 : decode cX4_settle 21 = .ok (.aload_n 1, 1) := by decide +kernel
theorem dX4_settle_22 : decode cX4_settle 22 = .ok (.iload_n 3, 1) := by decide +kernel
theorem dX4_settle_23 : decode cX4_settle 23 = .ok (.aaload, 1) := by decide +kernel
theorem dX4_settle_24 : decode cX4_settle 24 = .ok (.getfield 90, 3) := by decide +kernel
theorem dX4_settle_27 : decode cX4_settle 27 = .ok (.aload_n 2, 1) := by decide +kernel
theorem dX4_settle_28 : decode cX4_settle 28 = .ok (.invokevirtual 93, 3) := by decide +kernel
theorem dX4_settle_31 : decode cX4_settle 31 = .ok (.aload_n 0, 1) := by decide +kernel
theorem dX4_settle_32 : decode cX4_settle 32 = .ok (.dup, 1) := by decide +kernel
theorem dX4_settle_33 : decode cX4_settle 33 = .ok (.getfield 87, 3) := by decide +kernel
theorem dX4_settle_36 : decode cX4_settle 36 = .ok (.aload_n 0, 1) := by decide +kernel
theorem dX4_settle_37 : decode cX4_settle 37 = .ok (.getfield 20, 3) := by decide +kernel
theorem dX4_settle_40 : decode cX4_settle 40 = .ok (.iload_n 3, 1) := by decide +kernel
theorem dX4_settle_41 : decode cX4_settle 41 = .ok (.aaload, 1) := by decide +kernel
theorem dX4_settle_42 : decode cX4_settle 42 = .ok (.getfield 97, 3) := by decide +kernel
theorem dX4_settle_45 : decode cX4_settle 45 = .ok (.ladd, 1) := by decide +kernel
theorem dX4_settle_46 : decode cX4_settle 46 = .ok (.putfield 87, 3) := by decide +kernel
theorem dX4_settle_49 : decode cX4_settle 49 = .ok (.aload_n 0, 1) := by decide +kernel
theorem dX4_settle_50 : decode cX4_settle 50 = .ok (.getfield 20, 3) := by decide +kernel
theorem dX4_settle_53 : decode cX4_settle 53 = .ok (.iload_n 3, 1) := by decide +kernel
theorem dX4_settle_54 : decode cX4_settle 54 = .ok (.aaload, 1) := by decide +kernel
theorem dX4_settle_55 : decode cX4_settle 55 = .ok (.aload_n 1, 1) := by decide +kernel
theorem dX4_settle_56 : decode cX4_settle 56 = .ok (.iload_n 3, 1) := by decide +kernel
theorem dX4_settle_57 : decode cX4_settle 57 = .ok (.aaload, 1) := by decide +kernel
theorem dX4_settle_58 : decode cX4_settle 58 = .ok (.invokevirtual 100, 3) := by decide +kernel
theorem dX4_settle_61 : decode cX4_settle 61 = .ok (.iinc 3 1, 3) := by decide +kernel
theorem dX4_settle_64 : decode cX4_settle 64 = .ok (.goto (-57), 3) := by decide +kernel
theorem dX4_settle_67 : decode cX4_settle 67 = .ok (.return_, 1) := by decide +kernel
theorem dX5_init_0 : decode cX5_init 0 = .ok (.aload_n 0, 1) := by decide +kernel
theorem dX5_init_1 : decode cX5_init 1 = .ok (.invokespecial 3, 3) := by decide +kernel
theorem dX5_init_4 : decode cX5_init 4 = .ok (.aload_n 0, 1) := by decide +kernel
theorem dX5_init_5 : decode cX5_init 5 = .ok (.iconst 5, 1) := by decide +kernel
theorem dX5_init_6 : decode cX5_init 6 = .ok (.newarray .int, 2) := by decide +kernel
theorem dX5_init_8 : decode cX5_init 8 = .ok (.putfield 9, 3) := by decide +kernel
theorem dX5_init_11 : decode cX5_init 11 = .ok (.return_, 1) := by decide +kernel
theorem dX5_clear_0 : decode cX5_clear 0 = .ok (.aload_n 0, 1) := by decide +kernel
theorem dX5_clear_1 : decode cX5_clear 1 = .ok (.getfield 9, 3) := by decide +kernel
theorem dX5_clear_4 : decode cX5_clear 4 = .ok (.iconst 0, 1) := by decide +kernel
theorem dX5_clear_5 : decode cX5_clear 5 = .ok (.invokestatic 15, 3) := by decide +kernel
theorem dX5_clear_8 : decode cX5_clear 8 = .ok (.aload_n 0, 1) := by decide +kernel
theorem dX5_clear_9 : decode cX5_clear 9 = .ok (.iconst 0, 1) := by decide +kernel
theorem dX5_clear_10 : decode cX5_clear 10 = .ok (.putfield 21, 3) := by decide +kernel
theorem dX5_clear_13 : decode cX5_clear 13 = .ok (.aload_n 0, 1) := by decide +kernel
theorem dX5_clear_14 : decode cX5_clear 14 = .ok (.iconst 0, 1) := by decide +kernel
theorem dX5_clear_15 : decode cX5_clear 15 = .ok (.putfield 25, 3) := by decide +kernel
theorem dX5_clear_18 : decode cX5_clear 18 = .ok (.aload_n 0, 1) := by decide +kernel
theorem dX5_clear_19 : decode cX5_clear 19 = .ok (.bipush 100, 2) := by decide +kernel
theorem dX5_clear_21 : decode cX5_clear 21 = .ok (.putfield 28, 3) := by decide +kernel
theorem dX5_clear_24 : decode cX5_clear 24 = .ok (.aload_n 0, 1) := by decide +kernel
theorem dX5_clear_25 : decode cX5_clear 25 = .ok (.iconst 0, 1) := by decide +kernel
theorem dX5_clear_26 : decode cX5_clear 26 = .ok (.putfield 31, 3) := by decide +kernel
theorem dX5_clear_29 : decode cX5_clear 29 = .ok (.aload_n 0, 1) := by decide +kernel
theorem dX5_clear_30 : decode cX5_clear 30 = .ok (.iconst 0, 1) := by decide +kernel
theorem dX5_clear_31 : decode cX5_clear 31 = .ok (.putfield 34, 3) := by decide +kernel
theorem dX5_clear_34 : decode cX5_clear 34 = .ok (.aload_n 0, 1) := by decide +kernel
theorem dX5_clear_35 : decode cX5_clear 35 = .ok (.iconst 0, 1) := by decide +kernel
theorem dX5_clear_36 : decode cX5_clear 36 = .ok (.putfield 37, 3) := by decide +kernel
theorem dX5_clear_39 : decode cX5_clear 39 = .ok (.return_, 1) := by decide +kernel
theorem dX5_distance_0 : decode cX5_distance 0 = .ok (.iload_n 1, 1) := by decide +kernel
theorem dX5_distance_1 : decode cX5_distance 1 = .ok (.istore_n 3, 1) := by decide +kernel
theorem dX5_distance_2 : decode cX5_distance 2 = .ok (.iload_n 2, 1) := by decide +kernel
theorem dX5_distance_3 : decode cX5_distance 3 = .ok (.istore 4, 2) := by decide +kernel
theorem dX5_distance_5 : decode cX5_distance 5 = .ok (.iconst 0, 1) := by decide +kernel
theorem dX5_distance_6 : decode cX5_distance 6 = .ok (.istore 5, 2) := by decide +kernel
theorem dX5_distance_8 : decode cX5_distance 8 = .ok (.iconst 4, 1) := by decide +kernel
theorem dX5_distance_9 : decode cX5_distance 9 = .ok (.istore 6, 2) := by decide +kernel
theorem dX5_distance_11 : decode cX5_distance 11 = .ok (.iload 6, 2) := by decide +kernel
theorem dX5_distance_13 : decode cX5_distance 13 = .ok (.ifCond .lt 47, 3) := by decide +kernel
theorem dX5_distance_16 : decode cX5_distance 16 = .ok (.iload 5, 2) := by decide +kernel
theorem dX5_distance_18 : decode cX5_distance 18 = .ok (.aload_n 0, 1) := by decide +kernel
theorem dX5_distance_19 : decode cX5_distance 19 = .ok (.getfield 9, 3) := by decide +kernel
theorem dX5_distance_22 : decode cX5_distance 22 = .ok (.iload 6, 2) := by decide +kernel
theorem dX5_distance_24 : decode cX5_distance 24 = .ok (.iaload, 1) := by decide +kernel
theorem dX5_distance_25 : decode cX5_distance 25 = .ok (.iload_n 3, 1) := by decide +kernel
theorem dX5_distance_26 : decode cX5_distance 26 = .ok (.bipush 10, 2) := by decide +kernel
theorem dX5_distance_28 : decode cX5_distance 28 = .ok (.irem, 1) := by decide +kernel
theorem dX5_distance_29 : decode cX5_distance 29 = .ok (.iload 4, 2) := by decide +kernel
theorem dX5_distance_31 : decode cX5_distance 31 = .ok (.bipush 10, 2) := by decide +kernel
theorem dX5_distance_33 : decode cX5_distance 33 = .ok (.irem, 1) := by decide +kernel
theorem dX5_distance_34 : decode cX5_distance 34 = .ok (.isub, 1) := by decide +kernel
theorem dX5_distance_35 : decode cX5_distance 35 = .ok (.invokestatic 40, 3) := by decide +kernel
theorem dX5_distance_38 : decode cX5_distance 38 = .ok (.imul, 1) := by decide +kernel
theorem dX5_distance_39 : decode cX5_distance 39 = .ok (.iadd, 1) := by decide +kernel
theorem dX5_distance_40 : decode cX5_distance 40 = .ok (.istore 5, 2) := by decide +kernel
theorem dX5_distance_42 : decode cX5_distance 42 = .ok (.iload_n 3, 1) := by decide +kernel
theorem dX5_distance_43 : decode cX5_distance 43 = .ok (.bipush 10, 2) := by decide +kernel
theorem dX5_distance_45 : decode cX5_distance 45 = .ok (.idiv, 1) := by decide +kernel
theorem dX5_distance_46 : decode cX5_distance 46 = .ok (.istore_n 3, 1) := by decide +kernel
theorem dX5_distance_47 : decode cX5_distance 47 = .ok (.iload 4, 2) := by decide +kernel
theorem dX5_distance_49 : decode cX5_distance 49 = .ok (.bipush 10, 2) := by decide +kernel
theorem dX5_distance_51 : decode cX5_distance 51 = .ok (.idiv, 1) := by decide +kernel
theorem dX5_distance_52 : decode cX5_distance 52 = .ok (.istore 4, 2) := by decide +kernel
theorem dX5_distance_54 : decode cX5_distance 54 = .ok (.iinc 6 (-1), 3) := by decide +kernel
theorem dX5_distance_57 : decode cX5_distance 57 = .ok (.goto (-46), 3) := by decide +kernel
theorem dX5_distance_60 : decode cX5_distance 60 = .ok (.iload 5, 2) := by decide +kernel
theorem dX5_distance_62 : decode cX5_distance 62 = .ok (.ireturn, 1) := by decide +kernel
theorem dX5_rateOf_0 : decode cX5_rateOf 0 = .ok (.iload_n 2, 1) := by decide +kernel
theorem dX5_rateOf_1 : decode cX5_rateOf 1 = .ok (.ifCond .gt 10, 3) := by decide +kernel
theorem dX5_rateOf_4 : decode cX5_rateOf 4 = .ok (.aload_n 0, 1) := by decide +kernel
theorem dX5_rateOf_5 : decode cX5_rateOf 5 = .ok (.getfield 28, 3) := by decide +kernel
theorem dX5_rateOf_8 : decode cX5_rateOf 8 = .ok (.goto 9, 3) := by decide +kernel
theorem dX5_rateOf_11 : decode cX5_rateOf 11 = .ok (.aload_n 0, 1) := by decide +kernel
theorem dX5_rateOf_12 : decode cX5_rateOf 12 = .ok (.aload_n 1, 1) := by decide +kernel
theorem dX5_rateOf_13 : decode cX5_rateOf 13 = .ok (.iload_n 2, 1) := by decide +kernel
theorem dX5_rateOf_14 : decode cX5_rateOf 14 = .ok (.invokevirtual 46, 3) := by decide +kernel
theorem dX5_rateOf_17 : decode cX5_rateOf 17 = .ok (.istore 4, 2) := by decide +kernel
theorem dX5_rateOf_19 : decode cX5_rateOf 19 = .ok (.sipush 1000, 3) := by decide +kernel
theorem dX5_rateOf_22 : decode cX5_rateOf 22 = .ok (.iload 4, 2) := by decide +kernel
theorem dX5_rateOf_24 : decode cX5_rateOf 24 = .ok (.aload_n 0, 1) := by decide +kernel
theorem dX5_rateOf_25 : decode cX5_rateOf 25 = .ok (.getfield 31, 3) := by decide +kernel
theorem dX5_rateOf_28 : decode cX5_rateOf 28 = .ok (.iload_n 3, 1) := by decide +kernel
theorem dX5_rateOf_29 : decode cX5_rateOf 29 = .ok (.imul, 1) := by decide +kernel
theorem dX5_rateOf_30 : decode cX5_rateOf 30 = .ok (.iadd, 1) := by decide +kernel
theorem dX5_rateOf_31 : decode cX5_rateOf 31 = .ok (.invokestatic 50, 3) := by decide +kernel
theorem dX5_rateOf_34 : decode cX5_rateOf 34 = .ok (.ireturn, 1) := by decide +kernel
theorem dX5_givenOf_0 : decode cX5_givenOf 0 = .ok (.aload_n 0, 1) := by decide +kernel
theorem dX5_givenOf_1 : decode cX5_givenOf 1 = .ok (.getfield 25, 3) := by decide +kernel
theorem dX5_givenOf_4 : decode cX5_givenOf 4 = .ok (.tableswitch 46 0 2 #[28, 32, 40], 28) := by decide +kernel
theorem dX5_givenOf_32 : decode cX5_givenOf 32 = .ok (.aload_n 1, 1) := by decide +kernel
theorem dX5_givenOf_33 : decode cX5_givenOf 33 = .ok (.iconst 0, 1) := by decide +kernel
theorem dX5_givenOf_34 : decode cX5_givenOf 34 = .ok (.iaload, 1) := by decide +kernel
theorem dX5_givenOf_35 : decode cX5_givenOf 35 = .ok (.ireturn, 1) := by decide +kernel
theorem dX5_givenOf_36 : decode cX5_givenOf 36 = .ok (.aload_n 1, 1) := by decide +kernel
theorem dX5_givenOf_37 : decode cX5_givenOf 37 = .ok (.iload_n 2, 1) := by decide +kernel
theorem dX5_givenOf_38 : decode cX5_givenOf 38 = .ok (.iconst 1, 1) := by decide +kernel
theorem dX5_givenOf_39 : decode cX5_givenOf 39 = .ok (.isub, 1) := by decide +kernel
theorem dX5_givenOf_40 : decode cX5_givenOf 40 = .ok (.iconst 2, 1) := by decide +kernel
theorem dX5_givenOf_41 : decode cX5_givenOf 41 = .ok (.idiv, 1) := by decide +kernel
theorem dX5_givenOf_42 : decode cX5_givenOf 42 = .ok (.iaload, 1) := by decide +kernel
theorem dX5_givenOf_43 : decode cX5_givenOf 43 = .ok (.ireturn, 1) := by decide +kernel
theorem dX5_givenOf_44 : decode cX5_givenOf 44 = .ok (.aload_n 1, 1) := by decide +kernel
theorem dX5_givenOf_45 : decode cX5_givenOf 45 = .ok (.iload_n 2, 1) := by decide +kernel
theorem dX5_givenOf_46 : decode cX5_givenOf 46 = .ok (.iconst 1, 1) := by decide +kernel
theorem dX5_givenOf_47 : decode cX5_givenOf 47 = .ok (.isub, 1) := by decide +kernel
theorem dX5_givenOf_48 : decode cX5_givenOf 48 = .ok (.iaload, 1) := by decide +kernel
theorem dX5_givenOf_49 : decode cX5_givenOf 49 = .ok (.ireturn, 1) := by decide +kernel
theorem dX5_givenOf_50 : decode cX5_givenOf 50 = .ok (.aload_n 1, 1) := by decide +kernel
theorem dX5_givenOf_51 : decode cX5_givenOf 51 = .ok (.iload_n 2, 1) := by decide +kernel
theorem dX5_givenOf_52 : decode cX5_givenOf 52 = .ok (.invokestatic 54, 3) := by decide +kernel
theorem dX5_givenOf_55 : decode cX5_givenOf 55 = .ok (.ireturn, 1) := by decide +kernel
theorem dX5_mean_0 : decode cX5_mean 0 = .ok (.iconst 0, 1) := by decide +kernel
theorem dX5_mean_1 : decode cX5_mean 1 = .ok (.istore_n 2, 1) := by decide +kernel
theorem dX5_mean_2 : decode cX5_mean 2 = .ok (.iconst 0, 1) := by decide +kernel
theorem dX5_mean_3 : decode cX5_mean 3 = .ok (.istore_n 3, 1) := by decide +kernel
theorem dX5_mean_4 : decode cX5_mean 4 = .ok (.iload_n 3, 1) := by decide +kernel
theorem dX5_mean_5 : decode cX5_mean 5 = .ok (.iload_n 1, 1) := by decide +kernel
theorem dX5_mean_6 : decode cX5_mean 6 = .ok (.if_icmp .ge 15, 3) := by decide +kernel
theorem dX5_mean_9 : decode cX5_mean 9 = .ok (.iload_n 2, 1) := by decide +kernel
theorem dX5_mean_10 : decode cX5_mean 10 = .ok (.aload_n 0, 1) := by decide +kernel
theorem dX5_mean_11 : decode cX5_mean 11 = .ok (.iload_n 3, 1) := by decide +kernel
theorem dX5_mean_12 : decode cX5_mean 12 = .ok (.iaload, 1) := by decide +kernel
theorem dX5_mean_13 : decode cX5_mean 13 = .ok (.iadd, 1) := by decide +kernel
theorem dX5_mean_14 : decode cX5_mean 14 = .ok (.istore_n 2, 1) := by decide +kernel
theorem dX5_mean_15 : decode cX5_mean 15 = .ok (.iinc 3 1, 3) := by decide +kernel
theorem dX5_mean_18 : decode cX5_mean 18 = .ok (.goto (-14), 3) := by decide +kernel
theorem dX5_mean_21 : decode cX5_mean 21 = .ok (.iload_n 1, 1) := by decide +kernel
theorem dX5_mean_22 : decode cX5_mean 22 = .ok (.ifCond .le 9, 3) := by decide +kernel
theorem dX5_mean_25 : decode cX5_mean 25 = .ok (.iload_n 2, 1) := by decide +kernel
theorem dX5_mean_26 : decode cX5_mean 26 = .ok (.iload_n 1, 1) := by decide +kernel
theorem dX5_mean_27 : decode cX5_mean 27 = .ok (.idiv, 1) := by decide +kernel
theorem dX5_mean_28 : decode cX5_mean 28 = .ok (.goto 4, 3) := by decide +kernel
theorem dX5_mean_31 : decode cX5_mean 31 = .ok (.iconst 0, 1) := by decide +kernel
theorem dX5_mean_32 : decode cX5_mean 32 = .ok (.ireturn, 1) := by decide +kernel
theorem dX6_init_0 : decode cX6_init 0 = .ok (.aload_n 0, 1) := by decide +kernel
theorem dX6_init_1 : decode cX6_init 1 = .ok (.invokespecial 3, 3) := by decide +kernel
theorem dX6_init_4 : decode cX6_init 4 = .ok (.aload_n 0, 1) := by decide +kernel
theorem dX6_init_5 : decode cX6_init 5 = .ok (.bipush 60, 2) := by decide +kernel
theorem dX6_init_7 : decode cX6_init 7 = .ok (.newarray .long, 2) := by decide +kernel
theorem dX6_init_9 : decode cX6_init 9 = .ok (.putfield 9, 3) := by decide +kernel
theorem dX6_init_12 : decode cX6_init 12 = .ok (.return_, 1) := by decide +kernel
theorem dX6_loseLate_0 : decode cX6_loseLate 0 = .ok (.iconst 0, 1) := by decide +kernel
theorem dX6_loseLate_1 : decode cX6_loseLate 1 = .ok (.iload_n 1, 1) := by decide +kernel
theorem dX6_loseLate_2 : decode cX6_loseLate 2 = .ok (.aload_n 2, 1) := by decide +kernel
theorem dX6_loseLate_3 : decode cX6_loseLate 3 = .ok (.getfield 15, 3) := by decide +kernel
theorem dX6_loseLate_6 : decode cX6_loseLate 6 = .ok (.isub, 1) := by decide +kernel
theorem dX6_loseLate_7 : decode cX6_loseLate 7 = .ok (.invokestatic 21, 3) := by decide +kernel
theorem dX6_loseLate_10 : decode cX6_loseLate 10 = .ok (.bipush 30, 2) := by decide +kernel
theorem dX6_loseLate_12 : decode cX6_loseLate 12 = .ok (.idiv, 1) := by decide +kernel
theorem dX6_loseLate_13 : decode cX6_loseLate 13 = .ok (.i2l, 1) := by decide +kernel
theorem dX6_loseLate_14 : decode cX6_loseLate 14 = .ok (.lstore_n 3, 1) := by decide +kernel
theorem dX6_loseLate_15 : decode cX6_loseLate 15 = .ok (.aload_n 0, 1) := by decide +kernel
theorem dX6_loseLate_16 : decode cX6_loseLate 16 = .ok (.aload_n 0, 1) := by decide +kernel
theorem dX6_loseLate_17 : decode cX6_loseLate 17 = .ok (.getfield 27, 3) := by decide +kernel
theorem dX6_loseLate_20 : decode cX6_loseLate 20 = .ok (.ldc2_w 31, 3) := by decide +kernel
theorem dX6_loseLate_23 : decode cX6_loseLate 23 = .ok (.lload_n 3, 1) := by decide +kernel
theorem dX6_loseLate_24 : decode cX6_loseLate 24 = .ok (.aload_n 2, 1) := by decide +kernel
theorem dX6_loseLate_25 : decode cX6_loseLate 25 = .ok (.getfield 33, 3) := by decide +kernel
theorem dX6_loseLate_28 : decode cX6_loseLate 28 = .ok (.i2l, 1) := by decide +kernel
theorem dX6_loseLate_29 : decode cX6_loseLate 29 = .ok (.lmul, 1) := by decide +kernel
theorem dX6_loseLate_30 : decode cX6_loseLate 30 = .ok (.invokestatic 36, 3) := by decide +kernel
theorem dX6_loseLate_33 : decode cX6_loseLate 33 = .ok (.lmul, 1) := by decide +kernel
theorem dX6_loseLate_34 : decode cX6_loseLate 34 = .ok (.ldc2_w 31, 3) := by decide +kernel
theorem dX6_loseLate_37 : decode cX6_loseLate 37 = .ok (.ldiv, 1) := by decide +kernel
theorem dX6_loseLate_38 : decode cX6_loseLate 38 = .ok (.putfield 40, 3) := by decide +kernel
theorem dX6_loseLate_41 : decode cX6_loseLate 41 = .ok (.aload_n 0, 1) := by decide +kernel
theorem dX6_loseLate_42 : decode cX6_loseLate 42 = .ok (.dup, 1) := by decide +kernel
theorem dX6_loseLate_43 : decode cX6_loseLate 43 = .ok (.getfield 27, 3) := by decide +kernel
theorem dX6_loseLate_46 : decode cX6_loseLate 46 = .ok (.aload_n 0, 1) := by decide +kernel
theorem dX6_loseLate_47 : decode cX6_loseLate 47 = .ok (.getfield 40, 3) := by decide +kernel
theorem dX6_loseLate_50 : decode cX6_loseLate 50 = .ok (.lsub, 1) := by decide +kernel
theorem dX6_loseLate_51 : decode cX6_loseLate 51 = .ok (.putfield 27, 3) := by decide +kernel
theorem dX6_loseLate_54 : decode cX6_loseLate 54 = .ok (.return_, 1) := by decide +kernel
theorem dX6_pay_0 : decode cX6_pay 0 = .ok (.aload_n 0, 1) := by decide +kernel
theorem dX6_pay_1 : decode cX6_pay 1 = .ok (.aload_n 0, 1) := by decide +kernel
theorem dX6_pay_2 : decode cX6_pay 2 = .ok (.getfield 27, 3) := by decide +kernel
theorem dX6_pay_5 : decode cX6_pay 5 = .ok (.aload_n 1, 1) := by decide +kernel
theorem dX6_pay_6 : decode cX6_pay 6 = .ok (.getfield 43, 3) := by decide +kernel
theorem dX6_pay_9 : decode cX6_pay 9 = .ok (.i2l, 1) := by decide +kernel
theorem dX6_pay_10 : decode cX6_pay 10 = .ok (.lmul, 1) := by decide +kernel
theorem dX6_pay_11 : decode cX6_pay 11 = .ok (.ldc2_w 48, 3) := by decide +kernel
theorem dX6_pay_14 : decode cX6_pay 14 = .ok (.ldiv, 1) := by decide +kernel
theorem dX6_pay_15 : decode cX6_pay 15 = .ok (.putfield 50, 3) := by decide +kernel
theorem dX6_pay_18 : decode cX6_pay 18 = .ok (.aload_n 0, 1) := by decide +kernel
theorem dX6_pay_19 : decode cX6_pay 19 = .ok (.aload_n 0, 1) := by decide +kernel
theorem dX6_pay_20 : decode cX6_pay 20 = .ok (.getfield 27, 3) := by decide +kernel
theorem dX6_pay_23 : decode cX6_pay 23 = .ok (.aload_n 1, 1) := by decide +kernel
theorem dX6_pay_24 : decode cX6_pay 24 = .ok (.getfield 52, 3) := by decide +kernel
theorem dX6_pay_27 : decode cX6_pay 27 = .ok (.i2l, 1) := by decide +kernel
theorem dX6_pay_28 : decode cX6_pay 28 = .ok (.lmul, 1) := by decide +kernel
theorem dX6_pay_29 : decode cX6_pay 29 = .ok (.ldc2_w 48, 3) := by decide +kernel
theorem dX6_pay_32 : decode cX6_pay 32 = .ok (.ldiv, 1) := by decide +kernel
theorem dX6_pay_33 : decode cX6_pay 33 = .ok (.putfield 55, 3) := by decide +kernel
theorem dX6_pay_36 : decode cX6_pay 36 = .ok (.aload_n 0, 1) := by decide +kernel
theorem dX6_pay_37 : decode cX6_pay 37 = .ok (.aload_n 0, 1) := by decide +kernel
theorem dX6_pay_38 : decode cX6_pay 38 = .ok (.getfield 27, 3) := by decide +kernel
theorem dX6_pay_41 : decode cX6_pay 41 = .ok (.aload_n 0, 1) := by decide +kernel
theorem dX6_pay_42 : decode cX6_pay 42 = .ok (.getfield 50, 3) := by decide +kernel
theorem dX6_pay_45 : decode cX6_pay 45 = .ok (.lsub, 1) := by decide +kernel
theorem dX6_pay_46 : decode cX6_pay 46 = .ok (.aload_n 0, 1) := by decide +kernel
theorem dX6_pay_47 : decode cX6_pay 47 = .ok (.getfield 55, 3) := by decide +kernel
theorem dX6_pay_50 : decode cX6_pay 50 = .ok (.lsub, 1) := by decide +kernel
theorem dX6_pay_51 : decode cX6_pay 51 = .ok (.putfield 57, 3) := by decide +kernel
theorem dX6_pay_54 : decode cX6_pay 54 = .ok (.aload_n 0, 1) := by decide +kernel
theorem dX6_pay_55 : decode cX6_pay 55 = .ok (.aload_n 1, 1) := by decide +kernel
theorem dX6_pay_56 : decode cX6_pay 56 = .ok (.getfield 60, 3) := by decide +kernel
theorem dX6_pay_59 : decode cX6_pay 59 = .ok (.invokevirtual 63, 3) := by decide +kernel
theorem dX6_pay_62 : decode cX6_pay 62 = .ok (.return_, 1) := by decide +kernel
theorem dX6_payHands_0 : decode cX6_payHands 0 = .ok (.aload_n 0, 1) := by decide +kernel
theorem dX6_payHands_1 : decode cX6_payHands 1 = .ok (.aload_n 1, 1) := by decide +kernel
theorem dX6_payHands_2 : decode cX6_payHands 2 = .ok (.getfield 67, 3) := by decide +kernel
theorem dX6_payHands_5 : decode cX6_payHands 5 = .ok (.putfield 72, 3) := by decide +kernel
theorem dX6_payHands_8 : decode cX6_payHands 8 = .ok (.aload_n 1, 1) := by decide +kernel
theorem dX6_payHands_9 : decode cX6_payHands 9 = .ok (.getfield 73, 3) := by decide +kernel
theorem dX6_payHands_12 : decode cX6_payHands 12 = .ok (.ifCond .gt 4, 3) := by decide +kernel
theorem dX6_payHands_15 : decode cX6_payHands 15 = .ok (.return_, 1) := by decide +kernel
theorem dX6_payHands_16 : decode cX6_payHands 16 = .ok (.aload_n 0, 1) := by decide +kernel
theorem dX6_payHands_17 : decode cX6_payHands 17 = .ok (.getfield 57, 3) := by decide +kernel
theorem dX6_payHands_20 : decode cX6_payHands 20 = .ok (.lstore_n 2, 1) := by decide +kernel
theorem dX6_payHands_21 : decode cX6_payHands 21 = .ok (.iconst 0, 1) := by decide +kernel
theorem dX6_payHands_22 : decode cX6_payHands 22 = .ok (.istore 4, 2) := by decide +kernel
theorem dX6_payHands_24 : decode cX6_payHands 24 = .ok (.iload 4, 2) := by decide +kernel
theorem dX6_payHands_26 : decode cX6_payHands 26 = .ok (.aload_n 0, 1) := by decide +kernel
theorem dX6_payHands_27 : decode cX6_payHands 27 = .ok (.getfield 72, 3) := by decide +kernel
theorem dX6_payHands_30 : decode cX6_payHands 30 = .ok (.if_icmp .ge 45, 3) := by decide +kernel
theorem dX6_payHands_33 : decode cX6_payHands 33 = .ok (.aload_n 0, 1) := by decide +kernel
theorem dX6_payHands_34 : decode cX6_payHands 34 = .ok (.getfield 9, 3) := by decide +kernel
theorem dX6_payHands_37 : decode cX6_payHands 37 = .ok (.iload 4, 2) := by decide +kernel
theorem dX6_payHands_39 : decode cX6_payHands 39 = .ok (.aload_n 0, 1) := by decide +kernel
theorem dX6_payHands_40 : decode cX6_payHands 40 = .ok (.getfield 57, 3) := by decide +kernel
theorem dX6_payHands_43 : decode cX6_payHands 43 = .ok (.aload_n 1, 1) := by decide +kernel
theorem dX6_payHands_44 : decode cX6_payHands 44 = .ok (.getfield 76, 3) := by decide +kernel
theorem dX6_payHands_47 : decode cX6_payHands 47 = .ok (.iload 4, 2) := by decide +kernel
theorem dX6_payHands_49 : decode cX6_payHands 49 = .ok (.iaload, 1) := by decide +kernel
theorem dX6_payHands_50 : decode cX6_payHands 50 = .ok (.i2l, 1) := by decide +kernel
theorem dX6_payHands_51 : decode cX6_payHands 51 = .ok (.lmul, 1) := by decide +kernel
theorem dX6_payHands_52 : decode cX6_payHands 52 = .ok (.aload_n 1, 1) := by decide +kernel
theorem dX6_payHands_53 : decode cX6_payHands 53 = .ok (.getfield 73, 3) := by decide +kernel
theorem dX6_payHands_56 : decode cX6_payHands 56 = .ok (.i2l, 1) := by decide +kernel
theorem dX6_payHands_57 : decode cX6_payHands 57 = .ok (.ldiv, 1) := by decide +kernel
theorem dX6_payHands_58 : decode cX6_payHands 58 = .ok (.lastore, 1) := by decide +kernel
theorem dX6_payHands_59 : decode cX6_payHands 59 = .ok (.lload_n 2, 1) := by decide +kernel
theorem dX6_payHands_60 : decode cX6_payHands 60 = .ok (.aload_n 0, 1) := by decide +kernel
theorem dX6_payHands_61 : decode cX6_payHands 61 = .ok (.getfield 9, 3) := by decide +kernel
theorem dX6_payHands_64 : decode cX6_payHands 64 = .ok (.iload 4, 2) := by decide +kernel
theorem dX6_payHands_66 : decode cX6_payHands 66 = .ok (.laload, 1) := by decide +kernel
theorem dX6_payHands_67 : decode cX6_payHands 67 = .ok (.lsub, 1) := by decide +kernel
theorem dX6_payHands_68 : decode cX6_payHands 68 = .ok (.lstore_n 2, 1) := by decide +kernel
theorem dX6_payHands_69 : decode cX6_payHands 69 = .ok (.iinc 4 1, 3) := by decide +kernel
theorem dX6_payHands_72 : decode cX6_payHands 72 = .ok (.goto (-48), 3) := by decide +kernel
theorem dX6_payHands_75 : decode cX6_payHands 75 = .ok (.iconst 0, 1) := by decide +kernel
theorem dX6_payHands_76 : decode cX6_payHands 76 = .ok (.istore 4, 2) := by decide +kernel
theorem dX6_payHands_78 : decode cX6_payHands 78 = .ok (.iload 4, 2) := by decide +kernel
theorem dX6_payHands_80 : decode cX6_payHands 80 = .ok (.aload_n 0, 1) := by decide +kernel
theorem dX6_payHands_81 : decode cX6_payHands 81 = .ok (.getfield 72, 3) := by decide +kernel
theorem dX6_payHands_84 : decode cX6_payHands 84 = .ok (.if_icmp .ge 28, 3) := by decide +kernel
theorem dX6_payHands_87 : decode cX6_payHands 87 = .ok (.iload 4, 2) := by decide +kernel
theorem dX6_payHands_89 : decode cX6_payHands 89 = .ok (.i2l, 1) := by decide +kernel
theorem dX6_payHands_90 : decode cX6_payHands 90 = .ok (.lload_n 2, 1) := by decide +kernel
theorem dX6_payHands_91 : decode cX6_payHands 91 = .ok (.lcmp, 1) := by decide +kernel
theorem dX6_payHands_92 : decode cX6_payHands 92 = .ok (.ifCond .ge 20, 3) := by decide +kernel
theorem dX6_payHands_95 : decode cX6_payHands 95 = .ok (.aload_n 0, 1) := by decide +kernel
theorem dX6_payHands_96 : decode cX6_payHands 96 = .ok (.getfield 9, 3) := by decide +kernel
theorem dX6_payHands_99 : decode cX6_payHands 99 = .ok (.iload 4, 2) := by decide +kernel
theorem dX6_payHands_101 : decode cX6_payHands 101 = .ok (.dup2, 1) := by decide +kernel
theorem dX6_payHands_102 : decode cX6_payHands 102 = .ok (.laload, 1) := by decide +kernel
theorem dX6_payHands_103 : decode cX6_payHands 103 = .ok (.lconst 1, 1) := by decide +kernel
theorem dX6_payHands_104 : decode cX6_payHands 104 = .ok (.ladd, 1) := by decide +kernel
theorem dX6_payHands_105 : decode cX6_payHands 105 = .ok (.lastore, 1) := by decide +kernel
theorem dX6_payHands_106 : decode cX6_payHands 106 = .ok (.iinc 4 1, 3) := by decide +kernel
theorem dX6_payHands_109 : decode cX6_payHands 109 = .ok (.goto (-31), 3) := by decide +kernel
theorem dX6_payHands_112 : decode cX6_payHands 112 = .ok (.return_, 1) := by decide +kernel
theorem dX7_init_0 : decode cX7_init 0 = .ok (.aload_n 0, 1) := by decide +kernel
theorem dX7_init_1 : decode cX7_init 1 = .ok (.invokespecial 1, 3) := by decide +kernel
theorem dX7_init_4 : decode cX7_init 4 = .ok (.aload_n 0, 1) := by decide +kernel
theorem dX7_init_5 : decode cX7_init 5 = .ok (.new 7, 3) := by decide +kernel
theorem dX7_init_8 : decode cX7_init 8 = .ok (.dup, 1) := by decide +kernel
theorem dX7_init_9 : decode cX7_init 9 = .ok (.invokespecial 9, 3) := by decide +kernel
theorem dX7_init_12 : decode cX7_init 12 = .ok (.putfield 10, 3) := by decide +kernel
theorem dX7_init_15 : decode cX7_init 15 = .ok (.return_, 1) := by decide +kernel
theorem dX8_init_0 : decode cX8_init 0 = .ok (.aload_n 0, 1) := by decide +kernel
theorem dX8_init_1 : decode cX8_init 1 = .ok (.invokespecial 3, 3) := by decide +kernel
theorem dX8_init_4 : decode cX8_init 4 = .ok (.aload_n 0, 1) := by decide +kernel
theorem dX8_init_5 : decode cX8_init 5 = .ok (.bipush 6, 2) := by decide +kernel
theorem dX8_init_7 : decode cX8_init 7 = .ok (.newarray .int, 2) := by decide +kernel
theorem dX8_init_9 : decode cX8_init 9 = .ok (.putfield 9, 3) := by decide +kernel
theorem dX8_init_12 : decode cX8_init 12 = .ok (.aload_n 0, 1) := by decide +kernel
theorem dX8_init_13 : decode cX8_init 13 = .ok (.bipush 40, 2) := by decide +kernel
theorem dX8_init_15 : decode cX8_init 15 = .ok (.newarray .int, 2) := by decide +kernel
theorem dX8_init_17 : decode cX8_init 17 = .ok (.putfield 15, 3) := by decide +kernel
theorem dX8_init_20 : decode cX8_init 20 = .ok (.aload_n 0, 1) := by decide +kernel
theorem dX8_init_21 : decode cX8_init 21 = .ok (.bipush 40, 2) := by decide +kernel
theorem dX8_init_23 : decode cX8_init 23 = .ok (.newarray .int, 2) := by decide +kernel
theorem dX8_init_25 : decode cX8_init 25 = .ok (.putfield 18, 3) := by decide +kernel
theorem dX8_init_28 : decode cX8_init 28 = .ok (.aload_n 0, 1) := by decide +kernel
theorem dX8_init_29 : decode cX8_init 29 = .ok (.bipush 40, 2) := by decide +kernel
theorem dX8_init_31 : decode cX8_init 31 = .ok (.newarray .int, 2) := by decide +kernel
theorem dX8_init_33 : decode cX8_init 33 = .ok (.putfield 21, 3) := by decide +kernel
theorem dX8_init_36 : decode cX8_init 36 = .ok (.aload_n 0, 1) := by decide +kernel
theorem dX8_init_37 : decode cX8_init 37 = .ok (.bipush 40, 2) := by decide +kernel
theorem dX8_init_39 : decode cX8_init 39 = .ok (.newarray .int, 2) := by decide +kernel
theorem dX8_init_41 : decode cX8_init 41 = .ok (.putfield 24, 3) := by decide +kernel
theorem dX8_init_44 : decode cX8_init 44 = .ok (.aload_n 0, 1) := by decide +kernel
theorem dX8_init_45 : decode cX8_init 45 = .ok (.bipush 40, 2) := by decide +kernel
theorem dX8_init_47 : decode cX8_init 47 = .ok (.newarray .int, 2) := by decide +kernel
theorem dX8_init_49 : decode cX8_init 49 = .ok (.putfield 27, 3) := by decide +kernel
theorem dX8_init_52 : decode cX8_init 52 = .ok (.aload_n 0, 1) := by decide +kernel
theorem dX8_init_53 : decode cX8_init 53 = .ok (.new 30, 3) := by decide +kernel
theorem dX8_init_56 : decode cX8_init 56 = .ok (.dup, 1) := by decide +kernel
theorem dX8_init_57 : decode cX8_init 57 = .ok (.invokespecial 32, 3) := by decide +kernel
theorem dX8_init_60 : decode cX8_init 60 = .ok (.putfield 33, 3) := by decide +kernel
theorem dX8_init_63 : decode cX8_init 63 = .ok (.aload_n 0, 1) := by decide +kernel
theorem dX8_init_64 : decode cX8_init 64 = .ok (.bipush 40, 2) := by decide +kernel
theorem dX8_init_66 : decode cX8_init 66 = .ok (.newarray .boolean, 2) := by decide +kernel
theorem dX8_init_68 : decode cX8_init 68 = .ok (.putfield 37, 3) := by decide +kernel
theorem dX8_init_71 : decode cX8_init 71 = .ok (.aload_n 0, 1) := by decide +kernel
theorem dX8_init_72 : decode cX8_init 72 = .ok (.new 30, 3) := by decide +kernel
theorem dX8_init_75 : decode cX8_init 75 = .ok (.dup, 1) := by decide +kernel
theorem dX8_init_76 : decode cX8_init 76 = .ok (.invokespecial 32, 3) := by decide +kernel
theorem dX8_init_79 : decode cX8_init 79 = .ok (.putfield 41, 3) := by decide +kernel
theorem dX8_init_82 : decode cX8_init 82 = .ok (.aload_n 0, 1) := by decide +kernel
theorem dX8_init_83 : decode cX8_init 83 = .ok (.bipush 40, 2) := by decide +kernel
theorem dX8_init_85 : decode cX8_init 85 = .ok (.newarray .boolean, 2) := by decide +kernel
theorem dX8_init_87 : decode cX8_init 87 = .ok (.putfield 44, 3) := by decide +kernel
theorem dX8_init_90 : decode cX8_init 90 = .ok (.aload_n 0, 1) := by decide +kernel
theorem dX8_init_91 : decode cX8_init 91 = .ok (.getfield 9, 3) := by decide +kernel
theorem dX8_init_94 : decode cX8_init 94 = .ok (.iconst 5, 1) := by decide +kernel
theorem dX8_init_95 : decode cX8_init 95 = .ok (.invokestatic 47, 3) := by decide +kernel
theorem dX8_init_98 : decode cX8_init 98 = .ok (.return_, 1) := by decide +kernel
theorem dX8_setTrust_0 : decode cX8_setTrust 0 = .ok (.aload_n 0, 1) := by decide +kernel
theorem dX8_setTrust_1 : decode cX8_setTrust 1 = .ok (.getfield 9, 3) := by decide +kernel
theorem dX8_setTrust_4 : decode cX8_setTrust 4 = .ok (.iload_n 1, 1) := by decide +kernel
theorem dX8_setTrust_5 : decode cX8_setTrust 5 = .ok (.iaload, 1) := by decide +kernel
theorem dX8_setTrust_6 : decode cX8_setTrust 6 = .ok (.istore_n 3, 1) := by decide +kernel
theorem dX8_setTrust_7 : decode cX8_setTrust 7 = .ok (.aload_n 0, 1) := by decide +kernel
theorem dX8_setTrust_8 : decode cX8_setTrust 8 = .ok (.getfield 9, 3) := by decide +kernel
theorem dX8_setTrust_11 : decode cX8_setTrust 11 = .ok (.iload_n 1, 1) := by decide +kernel
theorem dX8_setTrust_12 : decode cX8_setTrust 12 = .ok (.iload_n 2, 1) := by decide +kernel
theorem dX8_setTrust_13 : decode cX8_setTrust 13 = .ok (.iastore, 1) := by decide +kernel
theorem dX8_setTrust_14 : decode cX8_setTrust 14 = .ok (.aload_n 0, 1) := by decide +kernel
theorem dX8_setTrust_15 : decode cX8_setTrust 15 = .ok (.aload_n 0, 1) := by decide +kernel
theorem dX8_setTrust_16 : decode cX8_setTrust 16 = .ok (.getfield 53, 3) := by decide +kernel
theorem dX8_setTrust_19 : decode cX8_setTrust 19 = .ok (.ifCond .eq 12, 3) := by decide +kernel
theorem dX8_setTrust_22 : decode cX8_setTrust 22 = .ok (.iload_n 3, 1) := by decide +kernel
theorem dX8_setTrust_23 : decode cX8_setTrust 23 = .ok (.iload_n 2, 1) := by decide +kernel
theorem dX8_setTrust_24 : decode cX8_setTrust 24 = .ok (.if_icmp .ne 7, 3) := by decide +kernel
theorem dX8_setTrust_27 : decode cX8_setTrust 27 = .ok (.iconst 1, 1) := by decide +kernel
theorem dX8_setTrust_28 : decode cX8_setTrust 28 = .ok (.goto 4, 3) := by decide +kernel
theorem dX8_setTrust_31 : decode cX8_setTrust 31 = .ok (.iconst 0, 1) := by decide +kernel
theorem dX8_setTrust_32 : decode cX8_setTrust 32 = .ok (.putfield 53, 3) := by decide +kernel
theorem dX8_setTrust_35 : decode cX8_setTrust 35 = .ok (.iload_n 3, 1) := by decide +kernel
theorem dX8_setTrust_36 : decode cX8_setTrust 36 = .ok (.ireturn, 1) := by decide +kernel
theorem dX8_add_0 : decode cX8_add 0 = .ok (.aload_n 0, 1) := by decide +kernel
theorem dX8_add_1 : decode cX8_add 1 = .ok (.getfield 57, 3) := by decide +kernel
theorem dX8_add_4 : decode cX8_add 4 = .ok (.bipush 40, 2) := by decide +kernel
theorem dX8_add_6 : decode cX8_add 6 = .ok (.if_icmp .lt 5, 3) := by decide +kernel
theorem dX8_add_9 : decode cX8_add 9 = .ok (.iconst (-1), 1) := by decide +kernel
theorem dX8_add_10 : decode cX8_add 10 = .ok (.ireturn, 1) := by decide +kernel
theorem dX8_add_11 : decode cX8_add 11 = .ok (.aload_n 0, 1) := by decide +kernel
theorem dX8_add_12 : decode cX8_add 12 = .ok (.getfield 15, 3) := by decide +kernel
theorem dX8_add_15 : decode cX8_add 15 = .ok (.aload_n 0, 1) := by decide +kernel
theorem dX8_add_16 : decode cX8_add 16 = .ok (.getfield 57, 3) := by decide +kernel
theorem dX8_add_19 : decode cX8_add 19 = .ok (.iload_n 1, 1) := by decide +kernel
theorem dX8_add_20 : decode cX8_add 20 = .ok (.iastore, 1) := by decide +kernel
theorem dX8_add_21 : decode cX8_add 21 = .ok (.aload_n 0, 1) := by decide +kernel
theorem dX8_add_22 : decode cX8_add 22 = .ok (.getfield 18, 3) := by decide +kernel
theorem dX8_add_25 : decode cX8_add 25 = .ok (.aload_n 0, 1) := by decide +kernel
theorem dX8_add_26 : decode cX8_add 26 = .ok (.getfield 57, 3) := by decide +kernel
theorem dX8_add_29 : decode cX8_add 29 = .ok (.iload_n 2, 1) := by decide +kernel
theorem dX8_add_30 : decode cX8_add 30 = .ok (.iastore, 1) := by decide +kernel
theorem dX8_add_31 : decode cX8_add 31 = .ok (.aload_n 0, 1) := by decide +kernel
theorem dX8_add_32 : decode cX8_add 32 = .ok (.getfield 21, 3) := by decide +kernel
theorem dX8_add_35 : decode cX8_add 35 = .ok (.aload_n 0, 1) := by decide +kernel
theorem dX8_add_36 : decode cX8_add 36 = .ok (.getfield 57, 3) := by decide +kernel
theorem dX8_add_39 : decode cX8_add 39 = .ok (.iload_n 3, 1) := by decide +kernel
theorem dX8_add_40 : decode cX8_add 40 = .ok (.iastore, 1) := by decide +kernel
theorem dX8_add_41 : decode cX8_add 41 = .ok (.aload_n 0, 1) := by decide +kernel
theorem dX8_add_42 : decode cX8_add 42 = .ok (.getfield 24, 3) := by decide +kernel
theorem dX8_add_45 : decode cX8_add 45 = .ok (.aload_n 0, 1) := by decide +kernel
theorem dX8_add_46 : decode cX8_add 46 = .ok (.getfield 57, 3) := by decide +kernel
theorem dX8_add_49 : decode cX8_add 49 = .ok (.iload 4, 2) := by decide +kernel
theorem dX8_add_51 : decode cX8_add 51 = .ok (.iastore, 1) := by decide +kernel
theorem dX8_add_52 : decode cX8_add 52 = .ok (.aload_n 0, 1) := by decide +kernel
theorem dX8_add_53 : decode cX8_add 53 = .ok (.getfield 27, 3) := by decide +kernel
theorem dX8_add_56 : decode cX8_add 56 = .ok (.aload_n 0, 1) := by decide +kernel
theorem dX8_add_57 : decode cX8_add 57 = .ok (.getfield 57, 3) := by decide +kernel
theorem dX8_add_60 : decode cX8_add 60 = .ok (.iload 5, 2) := by decide +kernel
theorem dX8_add_62 : decode cX8_add 62 = .ok (.iastore, 1) := by decide +kernel
theorem dX8_add_63 : decode cX8_add 63 = .ok (.aload_n 0, 1) := by decide +kernel
theorem dX8_add_64 : decode cX8_add 64 = .ok (.dup, 1) := by decide +kernel
theorem dX8_add_65 : decode cX8_add 65 = .ok (.getfield 57, 3) := by decide +kernel
theorem dX8_add_68 : decode cX8_add 68 = .ok (.iconst 1, 1) := by decide +kernel
theorem dX8_add_69 : decode cX8_add 69 = .ok (.iadd, 1) := by decide +kernel
theorem dX8_add_70 : decode cX8_add 70 = .ok (.putfield 57, 3) := by decide +kernel
theorem dX8_add_73 : decode cX8_add 73 = .ok (.aload_n 0, 1) := by decide +kernel
theorem dX8_add_74 : decode cX8_add 74 = .ok (.iconst 0, 1) := by decide +kernel
theorem dX8_add_75 : decode cX8_add 75 = .ok (.putfield 53, 3) := by decide +kernel
theorem dX8_add_78 : decode cX8_add 78 = .ok (.aload_n 0, 1) := by decide +kernel
theorem dX8_add_79 : decode cX8_add 79 = .ok (.iconst 0, 1) := by decide +kernel
theorem dX8_add_80 : decode cX8_add 80 = .ok (.putfield 61, 3) := by decide +kernel
theorem dX8_add_83 : decode cX8_add 83 = .ok (.aload_n 0, 1) := by decide +kernel
theorem dX8_add_84 : decode cX8_add 84 = .ok (.getfield 57, 3) := by decide +kernel
theorem dX8_add_87 : decode cX8_add 87 = .ok (.iconst 1, 1) := by decide +kernel
theorem dX8_add_88 : decode cX8_add 88 = .ok (.isub, 1) := by decide +kernel
theorem dX8_add_89 : decode cX8_add 89 = .ok (.ireturn, 1) := by decide +kernel
theorem dX8_has_0 : decode cX8_has 0 = .ok (.iload_n 1, 1) := by decide +kernel
theorem dX8_has_1 : decode cX8_has 1 = .ok (.iconst 0, 1) := by decide +kernel
theorem dX8_has_2 : decode cX8_has 2 = .ok (.aload_n 0, 1) := by decide +kernel
theorem dX8_has_3 : decode cX8_has 3 = .ok (.getfield 57, 3) := by decide +kernel
theorem dX8_has_6 : decode cX8_has 6 = .ok (.iconst 1, 1) := by decide +kernel
theorem dX8_has_7 : decode cX8_has 7 = .ok (.isub, 1) := by decide +kernel
theorem dX8_has_8 : decode cX8_has 8 = .ok (.invokestatic 64, 3) := by decide +kernel
theorem dX8_has_11 : decode cX8_has 11 = .ok (.ireturn, 1) := by decide +kernel
theorem dX8_believes_0 : decode cX8_believes 0 = .ok (.aload_n 0, 1) := by decide +kernel
theorem dX8_believes_1 : decode cX8_believes 1 = .ok (.invokevirtual 68, 3) := by decide +kernel
theorem dX8_believes_4 : decode cX8_believes 4 = .ok (.aload_n 0, 1) := by decide +kernel
theorem dX8_believes_5 : decode cX8_believes 5 = .ok (.getfield 37, 3) := by decide +kernel
theorem dX8_believes_8 : decode cX8_believes 8 = .ok (.iload_n 1, 1) := by decide +kernel
theorem dX8_believes_9 : decode cX8_believes 9 = .ok (.baload, 1) := by decide +kernel
theorem dX8_believes_10 : decode cX8_believes 10 = .ok (.ireturn, 1) := by decide +kernel
theorem dX8_howManyBelieved_0 : decode cX8_howManyBelieved 0 = .ok (.aload_n 0, 1) := by decide +kernel
theorem dX8_howManyBelieved_1 : decode cX8_howManyBelieved 1 = .ok (.invokevirtual 68, 3) := by decide +kernel
theorem dX8_howManyBelieved_4 : decode cX8_howManyBelieved 4 = .ok (.aload_n 0, 1) := by decide +kernel
theorem dX8_howManyBelieved_5 : decode cX8_howManyBelieved 5 = .ok (.getfield 71, 3) := by decide +kernel
theorem dX8_howManyBelieved_8 : decode cX8_howManyBelieved 8 = .ok (.ireturn, 1) := by decide +kernel
theorem dX8_leastSpan_0 : decode cX8_leastSpan 0 = .ok (.aload_n 0, 1) := by decide +kernel
theorem dX8_leastSpan_1 : decode cX8_leastSpan 1 = .ok (.invokevirtual 68, 3) := by decide +kernel
theorem dX8_leastSpan_4 : decode cX8_leastSpan 4 = .ok (.aload_n 0, 1) := by decide +kernel
theorem dX8_leastSpan_5 : decode cX8_leastSpan 5 = .ok (.getfield 33, 3) := by decide +kernel
theorem dX8_leastSpan_8 : decode cX8_leastSpan 8 = .ok (.iload_n 1, 1) := by decide +kernel
theorem dX8_leastSpan_9 : decode cX8_leastSpan 9 = .ok (.iload_n 2, 1) := by decide +kernel
theorem dX8_leastSpan_10 : decode cX8_leastSpan 10 = .ok (.invokevirtual 74, 3) := by decide +kernel
theorem dX8_leastSpan_13 : decode cX8_leastSpan 13 = .ok (.ireturn, 1) := by decide +kernel
theorem dX8_greatestSpan_0 : decode cX8_greatestSpan 0 = .ok (.aload_n 0, 1) := by decide +kernel
theorem dX8_greatestSpan_1 : decode cX8_greatestSpan 1 = .ok (.invokevirtual 68, 3) := by decide +kernel
theorem dX8_greatestSpan_4 : decode cX8_greatestSpan 4 = .ok (.aload_n 0, 1) := by decide +kernel
theorem dX8_greatestSpan_5 : decode cX8_greatestSpan 5 = .ok (.getfield 33, 3) := by decide +kernel
theorem dX8_greatestSpan_8 : decode cX8_greatestSpan 8 = .ok (.iload_n 1, 1) := by decide +kernel
theorem dX8_greatestSpan_9 : decode cX8_greatestSpan 9 = .ok (.iload_n 2, 1) := by decide +kernel
theorem dX8_greatestSpan_10 : decode cX8_greatestSpan 10 = .ok (.invokevirtual 78, 3) := by decide +kernel
theorem dX8_greatestSpan_13 : decode cX8_greatestSpan 13 = .ok (.ireturn, 1) := by decide +kernel
theorem dX8_quarrelSize_0 : decode cX8_quarrelSize 0 = .ok (.aload_n 0, 1) := by decide +kernel
theorem dX8_quarrelSize_1 : decode cX8_quarrelSize 1 = .ok (.invokevirtual 81, 3) := by decide +kernel
theorem dX8_quarrelSize_4 : decode cX8_quarrelSize 4 = .ok (.aload_n 0, 1) := by decide +kernel
theorem dX8_quarrelSize_5 : decode cX8_quarrelSize 5 = .ok (.getfield 84, 3) := by decide +kernel
theorem dX8_quarrelSize_8 : decode cX8_quarrelSize 8 = .ok (.ireturn, 1) := by decide +kernel
theorem dX8_quarrelling_0 : decode cX8_quarrelling 0 = .ok (.aload_n 0, 1) := by decide +kernel
theorem dX8_quarrelling_1 : decode cX8_quarrelling 1 = .ok (.invokevirtual 81, 3) := by decide +kernel
theorem dX8_quarrelling_4 : decode cX8_quarrelling 4 = .ok (.iconst 0, 1) := by decide +kernel
theorem dX8_quarrelling_5 : decode cX8_quarrelling 5 = .ok (.istore_n 2, 1) := by decide +kernel
theorem dX8_quarrelling_6 : decode cX8_quarrelling 6 = .ok (.iconst 0, 1) := by decide +kernel
theorem dX8_quarrelling_7 : decode cX8_quarrelling 7 = .ok (.istore_n 3, 1) := by decide +kernel
theorem dX8_quarrelling_8 : decode cX8_quarrelling 8 = .ok (.iload_n 3, 1) := by decide +kernel
theorem dX8_quarrelling_9 : decode cX8_quarrelling 9 = .ok (.aload_n 0, 1) := by decide +kernel
theorem dX8_quarrelling_10 : decode cX8_quarrelling 10 = .ok (.getfield 57, 3) := by decide +kernel
theorem dX8_quarrelling_13 : decode cX8_quarrelling 13 = .ok (.if_icmp .ge 28, 3) := by decide +kernel
theorem dX8_quarrelling_16 : decode cX8_quarrelling 16 = .ok (.aload_n 0, 1) := by decide +kernel
theorem dX8_quarrelling_17 : decode cX8_quarrelling 17 = .ok (.getfield 44, 3) := by decide +kernel
theorem dX8_quarrelling_20 : decode cX8_quarrelling 20 = .ok (.iload_n 3, 1) := by decide +kernel
theorem dX8_quarrelling_21 : decode cX8_quarrelling 21 = .ok (.baload, 1) := by decide +kernel
theorem dX8_quarrelling_22 : decode cX8_quarrelling 22 = .ok (.ifCond .eq 13, 3) := by decide +kernel
theorem dX8_quarrelling_25 : decode cX8_quarrelling 25 = .ok (.iload_n 2, 1) := by decide +kernel
theorem dX8_quarrelling_26 : decode cX8_quarrelling 26 = .ok (.iload_n 1, 1) := by decide +kernel
theorem dX8_quarrelling_27 : decode cX8_quarrelling 27 = .ok (.if_icmp .ne 5, 3) := by decide +kernel
theorem dX8_quarrelling_30 : decode cX8_quarrelling 30 = .ok (.iload_n 3, 1) := by decide +kernel
theorem dX8_quarrelling_31 : decode cX8_quarrelling 31 = .ok (.ireturn, 1) := by decide +kernel
theorem dX8_quarrelling_32 : decode cX8_quarrelling 32 = .ok (.iinc 2 1, 3) := by decide +kernel
theorem dX8_quarrelling_35 : decode cX8_quarrelling 35 = .ok (.iinc 3 1, 3) := by decide +kernel
theorem dX8_quarrelling_38 : decode cX8_quarrelling 38 = .ok (.goto (-30), 3) := by decide +kernel
theorem dX8_quarrelling_41 : decode cX8_quarrelling 41 = .ok (.iconst (-1), 1) := by decide +kernel
theorem dX8_quarrelling_42 : decode cX8_quarrelling 42 = .ok (.ireturn, 1) := by decide +kernel
theorem dX8_settleBelief_0 : decode cX8_settleBelief 0 = .ok (.aload_n 0, 1) := by decide +kernel
theorem dX8_settleBelief_1 : decode cX8_settleBelief 1 = .ok (.getfield 53, 3) := by decide +kernel
theorem dX8_settleBelief_4 : decode cX8_settleBelief 4 = .ok (.ifCond .eq 4, 3) := by decide +kernel
theorem dX8_settleBelief_7 : decode cX8_settleBelief 7 = .ok (.return_, 1) := by decide +kernel
theorem dX8_settleBelief_8 : decode cX8_settleBelief 8 = .ok (.aload_n 0, 1) := by decide +kernel
theorem dX8_settleBelief_9 : decode cX8_settleBelief 9 = .ok (.getfield 33, 3) := by decide +kernel
theorem dX8_settleBelief_12 : decode cX8_settleBelief 12 = .ok (.invokevirtual 87, 3) := by decide +kernel
theorem dX8_settleBelief_15 : decode cX8_settleBelief 15 = .ok (.aload_n 0, 1) := by decide +kernel
theorem dX8_settleBelief_16 : decode cX8_settleBelief 16 = .ok (.iconst 0, 1) := by decide +kernel
theorem dX8_settleBelief_17 : decode cX8_settleBelief 17 = .ok (.putfield 71, 3) := by decide +kernel
theorem dX8_settleBelief_20 : decode cX8_settleBelief 20 = .ok (.bipush 9, 2) := by decide +kernel
theorem dX8_settleBelief_22 : decode cX8_settleBelief 22 = .ok (.istore_n 1, 1) := by decide +kernel
theorem dX8_settleBelief_23 : decode cX8_settleBelief 23 = .ok (.iload_n 1, 1) := by decide +kernel
theorem dX8_settleBelief_24 : decode cX8_settleBelief 24 = .ok (.ifCond .lt 78, 3) := by decide +kernel
theorem dX8_settleBelief_27 : decode cX8_settleBelief 27 = .ok (.iconst 0, 1) := by decide +kernel
theorem dX8_settleBelief_28 : decode cX8_settleBelief 28 = .ok (.istore_n 2, 1) := by decide +kernel
theorem dX8_settleBelief_29 : decode cX8_settleBelief 29 = .ok (.iload_n 2, 1) := by decide +kernel
theorem dX8_settleBelief_30 : decode cX8_settleBelief 30 = .ok (.aload_n 0, 1) := by decide +kernel
theorem dX8_settleBelief_31 : decode cX8_settleBelief 31 = .ok (.getfield 57, 3) := by decide +kernel
theorem dX8_settleBelief_34 : decode cX8_settleBelief 34 = .ok (.if_icmp .ge 62, 3) := by decide +kernel
theorem dX8_settleBelief_37 : decode cX8_settleBelief 37 = .ok (.aload_n 0, 1) := by decide +kernel
theorem dX8_settleBelief_38 : decode cX8_settleBelief 38 = .ok (.getfield 9, 3) := by decide +kernel
theorem dX8_settleBelief_41 : decode cX8_settleBelief 41 = .ok (.aload_n 0, 1) := by decide +kernel
theorem dX8_settleBelief_42 : decode cX8_settleBelief 42 = .ok (.getfield 15, 3) := by decide +kernel
theorem dX8_settleBelief_45 : decode cX8_settleBelief 45 = .ok (.iload_n 2, 1) := by decide +kernel
theorem dX8_settleBelief_46 : decode cX8_settleBelief 46 = .ok (.iaload, 1) := by decide +kernel
theorem dX8_settleBelief_47 : decode cX8_settleBelief 47 = .ok (.iaload, 1) := by decide +kernel
theorem dX8_settleBelief_48 : decode cX8_settleBelief 48 = .ok (.iload_n 1, 1) := by decide +kernel
theorem dX8_settleBelief_49 : decode cX8_settleBelief 49 = .ok (.if_icmp .ne 41, 3) := by decide +kernel
theorem dX8_settleBelief_52 : decode cX8_settleBelief 52 = .ok (.aload_n 0, 1) := by decide +kernel
theorem dX8_settleBelief_53 : decode cX8_settleBelief 53 = .ok (.getfield 37, 3) := by decide +kernel
theorem dX8_settleBelief_56 : decode cX8_settleBelief 56 = .ok (.iload_n 2, 1) := by decide +kernel
theorem dX8_settleBelief_57 : decode cX8_settleBelief 57 = .ok (.aload_n 0, 1) := by decide +kernel
theorem dX8_settleBelief_58 : decode cX8_settleBelief 58 = .ok (.aload_n 0, 1) := by decide +kernel
theorem dX8_settleBelief_59 : decode cX8_settleBelief 59 = .ok (.getfield 33, 3) := by decide +kernel
theorem dX8_settleBelief_62 : decode cX8_settleBelief 62 = .ok (.iload_n 2, 1) := by decide +kernel
theorem dX8_settleBelief_63 : decode cX8_settleBelief 63 = .ok (.invokevirtual 90, 3) := by decide +kernel
theorem dX8_settleBelief_66 : decode cX8_settleBelief 66 = .ok (.bastore, 1) := by decide +kernel
theorem dX8_settleBelief_67 : decode cX8_settleBelief 67 = .ok (.aload_n 0, 1) := by decide +kernel
theorem dX8_settleBelief_68 : decode cX8_settleBelief 68 = .ok (.dup, 1) := by decide +kernel
theorem dX8_settleBelief_69 : decode cX8_settleBelief 69 = .ok (.getfield 71, 3) := by decide +kernel
theorem dX8_settleBelief_72 : decode cX8_settleBelief 72 = .ok (.aload_n 0, 1) := by decide +kernel
theorem dX8_settleBelief_73 : decode cX8_settleBelief 73 = .ok (.getfield 37, 3) := by decide +kernel
theorem dX8_settleBelief_76 : decode cX8_settleBelief 76 = .ok (.iload_n 2, 1) := by decide +kernel
theorem dX8_settleBelief_77 : decode cX8_settleBelief 77 = .ok (.baload, 1) := by decide +kernel
theorem dX8_settleBelief_78 : decode cX8_settleBelief 78 = .ok (.ifCond .eq 7, 3) := by decide +kernel
theorem dX8_settleBelief_81 : decode cX8_settleBelief 81 = .ok (.iconst 1, 1) := by decide +kernel
theorem dX8_settleBelief_82 : decode cX8_settleBelief 82 = .ok (.goto 4, 3) := by decide +kernel
theorem dX8_settleBelief_85 : decode cX8_settleBelief 85 = .ok (.iconst 0, 1) := by decide +kernel
theorem dX8_settleBelief_86 : decode cX8_settleBelief 86 = .ok (.iadd, 1) := by decide +kernel
theorem dX8_settleBelief_87 : decode cX8_settleBelief 87 = .ok (.putfield 71, 3) := by decide +kernel
theorem dX8_settleBelief_90 : decode cX8_settleBelief 90 = .ok (.iinc 2 1, 3) := by decide +kernel
theorem dX8_settleBelief_93 : decode cX8_settleBelief 93 = .ok (.goto (-64), 3) := by decide +kernel
theorem dX8_settleBelief_96 : decode cX8_settleBelief 96 = .ok (.iinc 1 (-1), 3) := by decide +kernel
theorem dX8_settleBelief_99 : decode cX8_settleBelief 99 = .ok (.goto (-76), 3) := by decide +kernel
theorem dX8_settleBelief_102 : decode cX8_settleBelief 102 = .ok (.aload_n 0, 1) := by decide +kernel
theorem dX8_settleBelief_103 : decode cX8_settleBelief 103 = .ok (.iconst 1, 1) := by decide +kernel
theorem dX8_settleBelief_104 : decode cX8_settleBelief 104 = .ok (.putfield 53, 3) := by decide +kernel
theorem dX8_settleBelief_107 : decode cX8_settleBelief 107 = .ok (.return_, 1) := by decide +kernel
theorem dX8_settleQuarrel_0 : decode cX8_settleQuarrel 0 = .ok (.aload_n 0, 1) := by decide +kernel
theorem dX8_settleQuarrel_1 : decode cX8_settleQuarrel 1 = .ok (.getfield 61, 3) := by decide +kernel
theorem dX8_settleQuarrel_4 : decode cX8_settleQuarrel 4 = .ok (.ifCond .eq 4, 3) := by decide +kernel
theorem dX8_settleQuarrel_7 : decode cX8_settleQuarrel 7 = .ok (.return_, 1) := by decide +kernel
theorem dX8_settleQuarrel_8 : decode cX8_settleQuarrel 8 = .ok (.iconst 0, 1) := by decide +kernel
theorem dX8_settleQuarrel_9 : decode cX8_settleQuarrel 9 = .ok (.istore_n 1, 1) := by decide +kernel
theorem dX8_settleQuarrel_10 : decode cX8_settleQuarrel 10 = .ok (.iload_n 1, 1) := by decide +kernel
theorem dX8_settleQuarrel_11 : decode cX8_settleQuarrel 11 = .ok (.aload_n 0, 1) := by decide +kernel
theorem dX8_settleQuarrel_12 : decode cX8_settleQuarrel 12 = .ok (.getfield 57, 3) := by decide +kernel
theorem dX8_settleQuarrel_15 : decode cX8_settleQuarrel 15 = .ok (.if_icmp .ge 16, 3) := by decide +kernel
theorem dX8_settleQuarrel_18 : decode cX8_settleQuarrel 18 = .ok (.aload_n 0, 1) := by decide +kernel
theorem dX8_settleQuarrel_19 : decode cX8_settleQuarrel 19 = .ok (.getfield 44, 3) := by decide +kernel
theorem dX8_settleQuarrel_22 : decode cX8_settleQuarrel 22 = .ok (.iload_n 1, 1) := by decide +kernel
theorem dX8_settleQuarrel_23 : decode cX8_settleQuarrel 23 = .ok (.iconst 0, 1) := by decide +kernel
theorem dX8_settleQuarrel_24 : decode cX8_settleQuarrel 24 = .ok (.bastore, 1) := by decide +kernel
theorem dX8_settleQuarrel_25 : decode cX8_settleQuarrel 25 = .ok (.iinc 1 1, 3) := by decide +kernel
theorem dX8_settleQuarrel_28 : decode cX8_settleQuarrel 28 = .ok (.goto (-18), 3) := by decide +kernel
theorem dX8_settleQuarrel_31 : decode cX8_settleQuarrel 31 = .ok (.aload_n 0, 1) := by decide +kernel
theorem dX8_settleQuarrel_32 : decode cX8_settleQuarrel 32 = .ok (.iconst 0, 1) := by decide +kernel
theorem dX8_settleQuarrel_33 : decode cX8_settleQuarrel 33 = .ok (.putfield 84, 3) := by decide +kernel
theorem dX8_settleQuarrel_36 : decode cX8_settleQuarrel 36 = .ok (.aload_n 0, 1) := by decide +kernel
theorem dX8_settleQuarrel_37 : decode cX8_settleQuarrel 37 = .ok (.aload_n 0, 1) := by decide +kernel
theorem dX8_settleQuarrel_38 : decode cX8_settleQuarrel 38 = .ok (.getfield 57, 3) := by decide +kernel
theorem dX8_settleQuarrel_41 : decode cX8_settleQuarrel 41 = .ok (.invokevirtual 94, 3) := by decide +kernel
theorem dX8_settleQuarrel_44 : decode cX8_settleQuarrel 44 = .ok (.istore_n 1, 1) := by decide +kernel
theorem dX8_settleQuarrel_45 : decode cX8_settleQuarrel 45 = .ok (.iconst 0, 1) := by decide +kernel
theorem dX8_settleQuarrel_46 : decode cX8_settleQuarrel 46 = .ok (.istore_n 2, 1) := by decide +kernel
theorem dX8_settleQuarrel_47 : decode cX8_settleQuarrel 47 = .ok (.iload_n 2, 1) := by decide +kernel
theorem dX8_settleQuarrel_48 : decode cX8_settleQuarrel 48 = .ok (.bipush 40, 2) := by decide +kernel
theorem dX8_settleQuarrel_50 : decode cX8_settleQuarrel 50 = .ok (.if_icmp .ge 36, 3) := by decide +kernel
theorem dX8_settleQuarrel_53 : decode cX8_settleQuarrel 53 = .ok (.iload_n 1, 1) := by decide +kernel
theorem dX8_settleQuarrel_54 : decode cX8_settleQuarrel 54 = .ok (.ifCond .lt 32, 3) := by decide +kernel
theorem dX8_settleQuarrel_57 : decode cX8_settleQuarrel 57 = .ok (.aload_n 0, 1) := by decide +kernel
theorem dX8_settleQuarrel_58 : decode cX8_settleQuarrel 58 = .ok (.getfield 44, 3) := by decide +kernel
theorem dX8_settleQuarrel_61 : decode cX8_settleQuarrel 61 = .ok (.iload_n 1, 1) := by decide +kernel
theorem dX8_settleQuarrel_62 : decode cX8_settleQuarrel 62 = .ok (.iconst 1, 1) := by decide +kernel
theorem dX8_settleQuarrel_63 : decode cX8_settleQuarrel 63 = .ok (.bastore, 1) := by decide +kernel
theorem dX8_settleQuarrel_64 : decode cX8_settleQuarrel 64 = .ok (.aload_n 0, 1) := by decide +kernel
theorem dX8_settleQuarrel_65 : decode cX8_settleQuarrel 65 = .ok (.dup, 1) := by decide +kernel
theorem dX8_settleQuarrel_66 : decode cX8_settleQuarrel 66 = .ok (.getfield 84, 3) := by decide +kernel
theorem dX8_settleQuarrel_69 : decode cX8_settleQuarrel 69 = .ok (.iconst 1, 1) := by decide +kernel
theorem dX8_settleQuarrel_70 : decode cX8_settleQuarrel 70 = .ok (.iadd, 1) := by decide +kernel
theorem dX8_settleQuarrel_71 : decode cX8_settleQuarrel 71 = .ok (.putfield 84, 3) := by decide +kernel
theorem dX8_settleQuarrel_74 : decode cX8_settleQuarrel 74 = .ok (.aload_n 0, 1) := by decide +kernel
theorem dX8_settleQuarrel_75 : decode cX8_settleQuarrel 75 = .ok (.iload_n 1, 1) := by decide +kernel
theorem dX8_settleQuarrel_76 : decode cX8_settleQuarrel 76 = .ok (.invokevirtual 94, 3) := by decide +kernel
theorem dX8_settleQuarrel_79 : decode cX8_settleQuarrel 79 = .ok (.istore_n 1, 1) := by decide +kernel
theorem dX8_settleQuarrel_80 : decode cX8_settleQuarrel 80 = .ok (.iinc 2 1, 3) := by decide +kernel
theorem dX8_settleQuarrel_83 : decode cX8_settleQuarrel 83 = .ok (.goto (-36), 3) := by decide +kernel
theorem dX8_settleQuarrel_86 : decode cX8_settleQuarrel 86 = .ok (.aload_n 0, 1) := by decide +kernel
theorem dX8_settleQuarrel_87 : decode cX8_settleQuarrel 87 = .ok (.iconst 1, 1) := by decide +kernel
theorem dX8_settleQuarrel_88 : decode cX8_settleQuarrel 88 = .ok (.putfield 61, 3) := by decide +kernel
theorem dX8_settleQuarrel_91 : decode cX8_settleQuarrel 91 = .ok (.return_, 1) := by decide +kernel
theorem dX8_firstToBreak_0 : decode cX8_firstToBreak 0 = .ok (.aload_n 0, 1) := by decide +kernel
theorem dX8_firstToBreak_1 : decode cX8_firstToBreak 1 = .ok (.getfield 41, 3) := by decide +kernel
theorem dX8_firstToBreak_4 : decode cX8_firstToBreak 4 = .ok (.invokevirtual 87, 3) := by decide +kernel
theorem dX8_firstToBreak_7 : decode cX8_firstToBreak 7 = .ok (.iload_n 1, 1) := by decide +kernel
theorem dX8_firstToBreak_8 : decode cX8_firstToBreak 8 = .ok (.istore_n 2, 1) := by decide +kernel
theorem dX8_firstToBreak_9 : decode cX8_firstToBreak 9 = .ok (.iload_n 2, 1) := by decide +kernel
theorem dX8_firstToBreak_10 : decode cX8_firstToBreak 10 = .ok (.aload_n 0, 1) := by decide +kernel
theorem dX8_firstToBreak_11 : decode cX8_firstToBreak 11 = .ok (.getfield 57, 3) := by decide +kernel
theorem dX8_firstToBreak_14 : decode cX8_firstToBreak 14 = .ok (.if_icmp .ge 32, 3) := by decide +kernel
theorem dX8_firstToBreak_17 : decode cX8_firstToBreak 17 = .ok (.aload_n 0, 1) := by decide +kernel
theorem dX8_firstToBreak_18 : decode cX8_firstToBreak 18 = .ok (.getfield 44, 3) := by decide +kernel
theorem dX8_firstToBreak_21 : decode cX8_firstToBreak 21 = .ok (.iload_n 2, 1) := by decide +kernel
theorem dX8_firstToBreak_22 : decode cX8_firstToBreak 22 = .ok (.baload, 1) := by decide +kernel
theorem dX8_firstToBreak_23 : decode cX8_firstToBreak 23 = .ok (.ifCond .eq 17, 3) := by decide +kernel
theorem dX8_firstToBreak_26 : decode cX8_firstToBreak 26 = .ok (.aload_n 0, 1) := by decide +kernel
theorem dX8_firstToBreak_27 : decode cX8_firstToBreak 27 = .ok (.aload_n 0, 1) := by decide +kernel
theorem dX8_firstToBreak_28 : decode cX8_firstToBreak 28 = .ok (.getfield 41, 3) := by decide +kernel
theorem dX8_firstToBreak_31 : decode cX8_firstToBreak 31 = .ok (.iload_n 2, 1) := by decide +kernel
theorem dX8_firstToBreak_32 : decode cX8_firstToBreak 32 = .ok (.invokevirtual 90, 3) := by decide +kernel
theorem dX8_firstToBreak_35 : decode cX8_firstToBreak 35 = .ok (.ifCond .ne 5, 3) := by decide +kernel
theorem dX8_firstToBreak_38 : decode cX8_firstToBreak 38 = .ok (.iconst (-1), 1) := by decide +kernel
theorem dX8_firstToBreak_39 : decode cX8_firstToBreak 39 = .ok (.ireturn, 1) := by decide +kernel
theorem dX8_firstToBreak_40 : decode cX8_firstToBreak 40 = .ok (.iinc 2 1, 3) := by decide +kernel
theorem dX8_firstToBreak_43 : decode cX8_firstToBreak 43 = .ok (.goto (-34), 3) := by decide +kernel
theorem dX8_firstToBreak_46 : decode cX8_firstToBreak 46 = .ok (.iconst 0, 1) := by decide +kernel
theorem dX8_firstToBreak_47 : decode cX8_firstToBreak 47 = .ok (.istore_n 2, 1) := by decide +kernel
theorem dX8_firstToBreak_48 : decode cX8_firstToBreak 48 = .ok (.iload_n 2, 1) := by decide +kernel
theorem dX8_firstToBreak_49 : decode cX8_firstToBreak 49 = .ok (.iload_n 1, 1) := by decide +kernel
theorem dX8_firstToBreak_50 : decode cX8_firstToBreak 50 = .ok (.if_icmp .ge 23, 3) := by decide +kernel
theorem dX8_firstToBreak_53 : decode cX8_firstToBreak 53 = .ok (.aload_n 0, 1) := by decide +kernel
theorem dX8_firstToBreak_54 : decode cX8_firstToBreak 54 = .ok (.aload_n 0, 1) := by decide +kernel
theorem dX8_firstToBreak_55 : decode cX8_firstToBreak 55 = .ok (.getfield 41, 3) := by decide +kernel
theorem dX8_firstToBreak_58 : decode cX8_firstToBreak 58 = .ok (.iload_n 2, 1) := by decide +kernel
theorem dX8_firstToBreak_59 : decode cX8_firstToBreak 59 = .ok (.invokevirtual 90, 3) := by decide +kernel
theorem dX8_firstToBreak_62 : decode cX8_firstToBreak 62 = .ok (.ifCond .ne 5, 3) := by decide +kernel
theorem dX8_firstToBreak_65 : decode cX8_firstToBreak 65 = .ok (.iload_n 2, 1) := by decide +kernel
theorem dX8_firstToBreak_66 : decode cX8_firstToBreak 66 = .ok (.ireturn, 1) := by decide +kernel
theorem dX8_firstToBreak_67 : decode cX8_firstToBreak 67 = .ok (.iinc 2 1, 3) := by decide +kernel
theorem dX8_firstToBreak_70 : decode cX8_firstToBreak 70 = .ok (.goto (-22), 3) := by decide +kernel
theorem dX8_firstToBreak_73 : decode cX8_firstToBreak 73 = .ok (.iconst (-1), 1) := by decide +kernel
theorem dX8_firstToBreak_74 : decode cX8_firstToBreak 74 = .ok (.ireturn, 1) := by decide +kernel
theorem dX8_takes_0 : decode cX8_takes 0 = .ok (.aload_n 1, 1) := by decide +kernel
theorem dX8_takes_1 : decode cX8_takes 1 = .ok (.aload_n 0, 1) := by decide +kernel
theorem dX8_takes_2 : decode cX8_takes 2 = .ok (.getfield 18, 3) := by decide +kernel
theorem dX8_takes_5 : decode cX8_takes 5 = .ok (.iload_n 2, 1) := by decide +kernel
theorem dX8_takes_6 : decode cX8_takes 6 = .ok (.iaload, 1) := by decide +kernel
theorem dX8_takes_7 : decode cX8_takes 7 = .ok (.aload_n 0, 1) := by decide +kernel
theorem dX8_takes_8 : decode cX8_takes 8 = .ok (.getfield 21, 3) := by decide +kernel
theorem dX8_takes_11 : decode cX8_takes 11 = .ok (.iload_n 2, 1) := by decide +kernel
theorem dX8_takes_12 : decode cX8_takes 12 = .ok (.iaload, 1) := by decide +kernel
theorem dX8_takes_13 : decode cX8_takes 13 = .ok (.aload_n 0, 1) := by decide +kernel
theorem dX8_takes_14 : decode cX8_takes 14 = .ok (.getfield 24, 3) := by decide +kernel
theorem dX8_takes_17 : decode cX8_takes 17 = .ok (.iload_n 2, 1) := by decide +kernel
theorem dX8_takes_18 : decode cX8_takes 18 = .ok (.iaload, 1) := by decide +kernel
theorem dX8_takes_19 : decode cX8_takes 19 = .ok (.aload_n 0, 1) := by decide +kernel
theorem dX8_takes_20 : decode cX8_takes 20 = .ok (.getfield 27, 3) := by decide +kernel
theorem dX8_takes_23 : decode cX8_takes 23 = .ok (.iload_n 2, 1) := by decide +kernel
theorem dX8_takes_24 : decode cX8_takes 24 = .ok (.iaload, 1) := by decide +kernel
theorem dX8_takes_25 : decode cX8_takes 25 = .ok (.invokevirtual 98, 3) := by decide +kernel
theorem dX8_takes_28 : decode cX8_takes 28 = .ok (.ireturn, 1) := by decide +kernel
theorem dX9_init_0 : decode cX9_init 0 = .ok (.aload_n 0, 1) := by decide +kernel
theorem dX9_init_1 : decode cX9_init 1 = .ok (.invokespecial 3, 3) := by decide +kernel
theorem dX9_init_4 : decode cX9_init 4 = .ok (.aload_n 0, 1) := by decide +kernel
theorem dX9_init_5 : decode cX9_init 5 = .ok (.sipush 300, 3) := by decide +kernel
theorem dX9_init_8 : decode cX9_init 8 = .ok (.newarray .byte, 2) := by decide +kernel
theorem dX9_init_10 : decode cX9_init 10 = .ok (.putfield 9, 3) := by decide +kernel
theorem dX9_init_13 : decode cX9_init 13 = .ok (.return_, 1) := by decide +kernel
theorem dX9_append_0 : decode cX9_append 0 = .ok (.bipush 24, 2) := by decide +kernel
theorem dX9_append_2 : decode cX9_append 2 = .ok (.istore_n 2, 1) := by decide +kernel
theorem dX9_append_3 : decode cX9_append 3 = .ok (.iload_n 2, 1) := by decide +kernel
theorem dX9_append_4 : decode cX9_append 4 = .ok (.ifCond .lt 42, 3) := by decide +kernel
theorem dX9_append_7 : decode cX9_append 7 = .ok (.aload_n 0, 1) := by decide +kernel
theorem dX9_append_8 : decode cX9_append 8 = .ok (.getfield 15, 3) := by decide +kernel
theorem dX9_append_11 : decode cX9_append 11 = .ok (.sipush 300, 3) := by decide +kernel
theorem dX9_append_14 : decode cX9_append 14 = .ok (.if_icmp .ge 32, 3) := by decide +kernel
theorem dX9_append_17 : decode cX9_append 17 = .ok (.aload_n 0, 1) := by decide +kernel
theorem dX9_append_18 : decode cX9_append 18 = .ok (.getfield 9, 3) := by decide +kernel
theorem dX9_append_21 : decode cX9_append 21 = .ok (.aload_n 0, 1) := by decide +kernel
theorem dX9_append_22 : decode cX9_append 22 = .ok (.getfield 15, 3) := by decide +kernel
theorem dX9_append_25 : decode cX9_append 25 = .ok (.iload_n 1, 1) := by decide +kernel
theorem dX9_append_26 : decode cX9_append 26 = .ok (.iload_n 2, 1) := by decide +kernel
theorem dX9_append_27 : decode cX9_append 27 = .ok (.iushr, 1) := by decide +kernel
theorem dX9_append_28 : decode cX9_append 28 = .ok (.i2b, 1) := by decide +kernel
theorem dX9_append_29 : decode cX9_append 29 = .ok (.bastore, 1) := by decide +kernel
theorem dX9_append_30 : decode cX9_append 30 = .ok (.aload_n 0, 1) := by decide +kernel
theorem dX9_append_31 : decode cX9_append 31 = .ok (.dup, 1) := by decide +kernel
theorem dX9_append_32 : decode cX9_append 32 = .ok (.getfield 15, 3) := by decide +kernel
theorem dX9_append_35 : decode cX9_append 35 = .ok (.iconst 1, 1) := by decide +kernel
theorem dX9_append_36 : decode cX9_append 36 = .ok (.iadd, 1) := by decide +kernel
theorem dX9_append_37 : decode cX9_append 37 = .ok (.putfield 15, 3) := by decide +kernel
theorem dX9_append_40 : decode cX9_append 40 = .ok (.iinc 2 (-8), 3) := by decide +kernel
theorem dX9_append_43 : decode cX9_append 43 = .ok (.goto (-40), 3) := by decide +kernel
theorem dX9_append_46 : decode cX9_append 46 = .ok (.return_, 1) := by decide +kernel
theorem dX9_readInto_0 : decode cX9_readInto 0 = .ok (.aload_n 1, 1) := by decide +kernel
theorem dX9_readInto_1 : decode cX9_readInto 1 = .ok (.invokevirtual 19, 3) := by decide +kernel
theorem dX9_readInto_4 : decode cX9_readInto 4 = .ok (.aload_n 0, 1) := by decide +kernel
theorem dX9_readInto_5 : decode cX9_readInto 5 = .ok (.iconst 0, 1) := by decide +kernel
theorem dX9_readInto_6 : decode cX9_readInto 6 = .ok (.putfield 24, 3) := by decide +kernel
theorem dX9_readInto_9 : decode cX9_readInto 9 = .ok (.aload_n 0, 1) := by decide +kernel
theorem dX9_readInto_10 : decode cX9_readInto 10 = .ok (.iconst 0, 1) := by decide +kernel
theorem dX9_readInto_11 : decode cX9_readInto 11 = .ok (.putfield 27, 3) := by decide +kernel
theorem dX9_readInto_14 : decode cX9_readInto 14 = .ok (.aload_n 0, 1) := by decide +kernel
theorem dX9_readInto_15 : decode cX9_readInto 15 = .ok (.iconst 0, 1) := by decide +kernel
theorem dX9_readInto_16 : decode cX9_readInto 16 = .ok (.putfield 30, 3) := by decide +kernel
theorem dX9_readInto_19 : decode cX9_readInto 19 = .ok (.aload_n 0, 1) := by decide +kernel
theorem dX9_readInto_20 : decode cX9_readInto 20 = .ok (.invokevirtual 33, 3) := by decide +kernel
theorem dX9_readInto_23 : decode cX9_readInto 23 = .ok (.iconst 0, 1) := by decide +kernel
theorem dX9_readInto_24 : decode cX9_readInto 24 = .ok (.istore_n 2, 1) := by decide +kernel
theorem dX9_readInto_25 : decode cX9_readInto 25 = .ok (.iload_n 2, 1) := by decide +kernel
theorem dX9_readInto_26 : decode cX9_readInto 26 = .ok (.sipush 300, 3) := by decide +kernel
theorem dX9_readInto_29 : decode cX9_readInto 29 = .ok (.if_icmp .ge 36, 3) := by decide +kernel
theorem dX9_readInto_32 : decode cX9_readInto 32 = .ok (.aload_n 0, 1) := by decide +kernel
theorem dX9_readInto_33 : decode cX9_readInto 33 = .ok (.getfield 24, 3) := by decide +kernel
theorem dX9_readInto_36 : decode cX9_readInto 36 = .ok (.aload_n 0, 1) := by decide +kernel
theorem dX9_readInto_37 : decode cX9_readInto 37 = .ok (.getfield 15, 3) := by decide +kernel
theorem dX9_readInto_40 : decode cX9_readInto 40 = .ok (.if_icmp .ge 25, 3) := by decide +kernel
theorem dX9_readInto_43 : decode cX9_readInto 43 = .ok (.aload_n 0, 1) := by decide +kernel
theorem dX9_readInto_44 : decode cX9_readInto 44 = .ok (.getfield 30, 3) := by decide +kernel
theorem dX9_readInto_47 : decode cX9_readInto 47 = .ok (.ifCond .ne 18, 3) := by decide +kernel
theorem dX9_readInto_50 : decode cX9_readInto 50 = .ok (.aload_n 0, 1) := by decide +kernel
theorem dX9_readInto_51 : decode cX9_readInto 51 = .ok (.aload_n 1, 1) := by decide +kernel
theorem dX9_readInto_52 : decode cX9_readInto 52 = .ok (.invokevirtual 36, 3) := by decide +kernel
theorem dX9_readInto_55 : decode cX9_readInto 55 = .ok (.aload_n 0, 1) := by decide +kernel
theorem dX9_readInto_56 : decode cX9_readInto 56 = .ok (.invokevirtual 33, 3) := by decide +kernel
theorem dX9_readInto_59 : decode cX9_readInto 59 = .ok (.iinc 2 1, 3) := by decide +kernel
theorem dX9_readInto_62 : decode cX9_readInto 62 = .ok (.goto (-37), 3) := by decide +kernel
theorem dX9_readInto_65 : decode cX9_readInto 65 = .ok (.aload_n 0, 1) := by decide +kernel
theorem dX9_readInto_66 : decode cX9_readInto 66 = .ok (.getfield 27, 3) := by decide +kernel
theorem dX9_readInto_69 : decode cX9_readInto 69 = .ok (.iconst 4, 1) := by decide +kernel
theorem dX9_readInto_70 : decode cX9_readInto 70 = .ok (.iand, 1) := by decide +kernel
theorem dX9_readInto_71 : decode cX9_readInto 71 = .ok (.ifCond .ne 12, 3) := by decide +kernel
theorem dX9_readInto_74 : decode cX9_readInto 74 = .ok (.aload_n 0, 1) := by decide +kernel
theorem dX9_readInto_75 : decode cX9_readInto 75 = .ok (.iconst 4, 1) := by decide +kernel
theorem dX9_readInto_76 : decode cX9_readInto 76 = .ok (.aload_n 0, 1) := by decide +kernel
theorem dX9_readInto_77 : decode cX9_readInto 77 = .ok (.getfield 15, 3) := by decide +kernel
theorem dX9_readInto_80 : decode cX9_readInto 80 = .ok (.invokevirtual 40, 3) := by decide +kernel
theorem dX9_readInto_83 : decode cX9_readInto 83 = .ok (.aload_n 0, 1) := by decide +kernel
theorem dX9_readInto_84 : decode cX9_readInto 84 = .ok (.getfield 30, 3) := by decide +kernel
theorem dX9_readInto_87 : decode cX9_readInto 87 = .ok (.ireturn, 1) := by decide +kernel
theorem dX9_readClause_0 : decode cX9_readClause 0 = .ok (.aload_n 0, 1) := by decide +kernel
theorem dX9_readClause_1 : decode cX9_readClause 1 = .ok (.ldc 44, 2) := by decide +kernel
theorem dX9_readClause_3 : decode cX9_readClause 3 = .ok (.invokevirtual 46, 3) := by decide +kernel
theorem dX9_readClause_6 : decode cX9_readClause 6 = .ok (.istore_n 2, 1) := by decide +kernel
theorem dX9_readClause_7 : decode cX9_readClause 7 = .ok (.iload_n 2, 1) := by decide +kernel
theorem dX9_readClause_8 : decode cX9_readClause 8 = .ok (.ifCond .eq 8, 3) := by decide +kernel
theorem dX9_readClause_11 : decode cX9_readClause 11 = .ok (.aload_n 0, 1) := by decide +kernel
theorem dX9_readClause_12 : decode cX9_readClause 12 = .ok (.iload_n 2, 1) := by decide +kernel
theorem dX9_readClause_13 : decode cX9_readClause 13 = .ok (.invokevirtual 50, 3) := by decide +kernel
theorem dX9_readClause_16 : decode cX9_readClause 16 = .ok (.iload_n 2, 1) := by decide +kernel
theorem dX9_readClause_17 : decode cX9_readClause 17 = .ok (.tableswitch 133 0 5 #[39, 47, 61, 74, 88, 101], 39) := by decide +kernel
theorem dX9_readClause_56 : decode cX9_readClause 56 = .ok (.aload_n 0, 1) := by decide +kernel
theorem dX9_readClause_57 : decode cX9_readClause 57 = .ok (.aload_n 1, 1) := by decide +kernel
theorem dX9_readClause_58 : decode cX9_readClause 58 = .ok (.invokevirtual 54, 3) := by decide +kernel
theorem dX9_readClause_61 : decode cX9_readClause 61 = .ok (.goto 89, 3) := by decide +kernel
theorem dX9_readClause_64 : decode cX9_readClause 64 = .ok (.aload_n 1, 1) := by decide +kernel
theorem dX9_readClause_65 : decode cX9_readClause 65 = .ok (.aload_n 0, 1) := by decide +kernel
theorem dX9_readClause_66 : decode cX9_readClause 66 = .ok (.sipush 9999, 3) := by decide +kernel
theorem dX9_readClause_69 : decode cX9_readClause 69 = .ok (.invokevirtual 57, 3) := by decide +kernel
theorem dX9_readClause_72 : decode cX9_readClause 72 = .ok (.putfield 61, 3) := by decide +kernel
theorem dX9_readClause_75 : decode cX9_readClause 75 = .ok (.goto 75, 3) := by decide +kernel
theorem dX9_readClause_78 : decode cX9_readClause 78 = .ok (.aload_n 1, 1) := by decide +kernel
theorem dX9_readClause_79 : decode cX9_readClause 79 = .ok (.aload_n 0, 1) := by decide +kernel
theorem dX9_readClause_80 : decode cX9_readClause 80 = .ok (.ldc 64, 2) := by decide +kernel
theorem dX9_readClause_82 : decode cX9_readClause 82 = .ok (.invokevirtual 46, 3) := by decide +kernel
theorem dX9_readClause_85 : decode cX9_readClause 85 = .ok (.putfield 66, 3) := by decide +kernel
theorem dX9_readClause_88 : decode cX9_readClause 88 = .ok (.goto 62, 3) := by decide +kernel
theorem dX9_readClause_91 : decode cX9_readClause 91 = .ok (.aload_n 1, 1) := by decide +kernel
theorem dX9_readClause_92 : decode cX9_readClause 92 = .ok (.aload_n 0, 1) := by decide +kernel
theorem dX9_readClause_93 : decode cX9_readClause 93 = .ok (.sipush 1000, 3) := by decide +kernel
theorem dX9_readClause_96 : decode cX9_readClause 96 = .ok (.invokevirtual 57, 3) := by decide +kernel
theorem dX9_readClause_99 : decode cX9_readClause 99 = .ok (.putfield 69, 3) := by decide +kernel
theorem dX9_readClause_102 : decode cX9_readClause 102 = .ok (.goto 48, 3) := by decide +kernel
theorem dX9_readClause_105 : decode cX9_readClause 105 = .ok (.aload_n 1, 1) := by decide +kernel
theorem dX9_readClause_106 : decode cX9_readClause 106 = .ok (.aload_n 0, 1) := by decide +kernel
theorem dX9_readClause_107 : decode cX9_readClause 107 = .ok (.bipush 100, 2) := by decide +kernel
theorem dX9_readClause_109 : decode cX9_readClause 109 = .ok (.invokevirtual 57, 3) := by decide +kernel
theorem dX9_readClause_112 : decode cX9_readClause 112 = .ok (.putfield 72, 3) := by decide +kernel
theorem dX9_readClause_115 : decode cX9_readClause 115 = .ok (.goto 35, 3) := by decide +kernel
theorem dX9_readClause_118 : decode cX9_readClause 118 = .ok (.aload_n 1, 1) := by decide +kernel
theorem dX9_readClause_119 : decode cX9_readClause 119 = .ok (.aload_n 0, 1) := by decide +kernel
theorem dX9_readClause_120 : decode cX9_readClause 120 = .ok (.sipush 1000, 3) := by decide +kernel
theorem dX9_readClause_123 : decode cX9_readClause 123 = .ok (.invokevirtual 57, 3) := by decide +kernel
theorem dX9_readClause_126 : decode cX9_readClause 126 = .ok (.putfield 75, 3) := by decide +kernel
theorem dX9_readClause_129 : decode cX9_readClause 129 = .ok (.aload_n 0, 1) := by decide +kernel
theorem dX9_readClause_130 : decode cX9_readClause 130 = .ok (.ldc 78, 2) := by decide +kernel
theorem dX9_readClause_132 : decode cX9_readClause 132 = .ok (.invokevirtual 46, 3) := by decide +kernel
theorem dX9_readClause_135 : decode cX9_readClause 135 = .ok (.pop, 1) := by decide +kernel
theorem dX9_readClause_136 : decode cX9_readClause 136 = .ok (.aload_n 1, 1) := by decide +kernel
theorem dX9_readClause_137 : decode cX9_readClause 137 = .ok (.aload_n 0, 1) := by decide +kernel
theorem dX9_readClause_138 : decode cX9_readClause 138 = .ok (.sipush 5000, 3) := by decide +kernel
theorem dX9_readClause_141 : decode cX9_readClause 141 = .ok (.invokevirtual 57, 3) := by decide +kernel
theorem dX9_readClause_144 : decode cX9_readClause 144 = .ok (.putfield 80, 3) := by decide +kernel
theorem dX9_readClause_147 : decode cX9_readClause 147 = .ok (.goto 3, 3) := by decide +kernel
theorem dX9_readClause_150 : decode cX9_readClause 150 = .ok (.aload_n 0, 1) := by decide +kernel
theorem dX9_readClause_151 : decode cX9_readClause 151 = .ok (.invokevirtual 83, 3) := by decide +kernel
theorem dX9_readClause_154 : decode cX9_readClause 154 = .ok (.return_, 1) := by decide +kernel
theorem dX9_readWeight_0 : decode cX9_readWeight 0 = .ok (.aload_n 0, 1) := by decide +kernel
theorem dX9_readWeight_1 : decode cX9_readWeight 1 = .ok (.ldc 86, 2) := by decide +kernel
theorem dX9_readWeight_3 : decode cX9_readWeight 3 = .ok (.invokevirtual 46, 3) := by decide +kernel
theorem dX9_readWeight_6 : decode cX9_readWeight 6 = .ok (.istore_n 2, 1) := by decide +kernel
theorem dX9_readWeight_7 : decode cX9_readWeight 7 = .ok (.iload_n 2, 1) := by decide +kernel
theorem dX9_readWeight_8 : decode cX9_readWeight 8 = .ok (.ifCond .ge 4, 3) := by decide +kernel
theorem dX9_readWeight_11 : decode cX9_readWeight 11 = .ok (.return_, 1) := by decide +kernel
theorem dX9_readWeight_12 : decode cX9_readWeight 12 = .ok (.aload_n 0, 1) := by decide +kernel
theorem dX9_readWeight_13 : decode cX9_readWeight 13 = .ok (.bipush 6, 2) := by decide +kernel
theorem dX9_readWeight_15 : decode cX9_readWeight 15 = .ok (.iload_n 2, 1) := by decide +kernel
theorem dX9_readWeight_16 : decode cX9_readWeight 16 = .ok (.iadd, 1) := by decide +kernel
theorem dX9_readWeight_17 : decode cX9_readWeight 17 = .ok (.invokevirtual 50, 3) := by decide +kernel
theorem dX9_readWeight_20 : decode cX9_readWeight 20 = .ok (.aload_n 1, 1) := by decide +kernel
theorem dX9_readWeight_21 : decode cX9_readWeight 21 = .ok (.getfield 88, 3) := by decide +kernel
theorem dX9_readWeight_24 : decode cX9_readWeight 24 = .ok (.iload_n 2, 1) := by decide +kernel
theorem dX9_readWeight_25 : decode cX9_readWeight 25 = .ok (.aload_n 0, 1) := by decide +kernel
theorem dX9_readWeight_26 : decode cX9_readWeight 26 = .ok (.bipush 99, 2) := by decide +kernel
theorem dX9_readWeight_28 : decode cX9_readWeight 28 = .ok (.invokevirtual 57, 3) := by decide +kernel
theorem dX9_readWeight_31 : decode cX9_readWeight 31 = .ok (.iastore, 1) := by decide +kernel
theorem dX9_readWeight_32 : decode cX9_readWeight 32 = .ok (.return_, 1) := by decide +kernel
theorem dX9_tellOnce_0 : decode cX9_tellOnce 0 = .ok (.iload_n 1, 1) := by decide +kernel
theorem dX9_tellOnce_1 : decode cX9_tellOnce 1 = .ok (.ifCond .ge 4, 3) := by decide +kernel
theorem dX9_tellOnce_4 : decode cX9_tellOnce 4 = .ok (.return_, 1) := by decide +kernel
theorem dX9_tellOnce_5 : decode cX9_tellOnce 5 = .ok (.aload_n 0, 1) := by decide +kernel
theorem dX9_tellOnce_6 : decode cX9_tellOnce 6 = .ok (.getfield 27, 3) := by decide +kernel
theorem dX9_tellOnce_9 : decode cX9_tellOnce 9 = .ok (.iconst 1, 1) := by decide +kernel
theorem dX9_tellOnce_10 : decode cX9_tellOnce 10 = .ok (.iload_n 1, 1) := by decide +kernel
theorem dX9_tellOnce_11 : decode cX9_tellOnce 11 = .ok (.ishl, 1) := by decide +kernel
theorem dX9_tellOnce_12 : decode cX9_tellOnce 12 = .ok (.iand, 1) := by decide +kernel
theorem dX9_tellOnce_13 : decode cX9_tellOnce 13 = .ok (.ifCond .eq 12, 3) := by decide +kernel
theorem dX9_tellOnce_16 : decode cX9_tellOnce 16 = .ok (.aload_n 0, 1) := by decide +kernel
theorem dX9_tellOnce_17 : decode cX9_tellOnce 17 = .ok (.iconst 3, 1) := by decide +kernel
theorem dX9_tellOnce_18 : decode cX9_tellOnce 18 = .ok (.aload_n 0, 1) := by decide +kernel
theorem dX9_tellOnce_19 : decode cX9_tellOnce 19 = .ok (.getfield 92, 3) := by decide +kernel
theorem dX9_tellOnce_22 : decode cX9_tellOnce 22 = .ok (.invokevirtual 40, 3) := by decide +kernel
theorem dX9_tellOnce_25 : decode cX9_tellOnce 25 = .ok (.aload_n 0, 1) := by decide +kernel
theorem dX9_tellOnce_26 : decode cX9_tellOnce 26 = .ok (.dup, 1) := by decide +kernel
theorem dX9_tellOnce_27 : decode cX9_tellOnce 27 = .ok (.getfield 27, 3) := by decide +kernel
theorem dX9_tellOnce_30 : decode cX9_tellOnce 30 = .ok (.iconst 1, 1) := by decide +kernel
theorem dX9_tellOnce_31 : decode cX9_tellOnce 31 = .ok (.iload_n 1, 1) := by decide +kernel
theorem dX9_tellOnce_32 : decode cX9_tellOnce 32 = .ok (.ishl, 1) := by decide +kernel
theorem dX9_tellOnce_33 : decode cX9_tellOnce 33 = .ok (.ior, 1) := by decide +kernel
theorem dX9_tellOnce_34 : decode cX9_tellOnce 34 = .ok (.putfield 27, 3) := by decide +kernel
theorem dX9_tellOnce_37 : decode cX9_tellOnce 37 = .ok (.return_, 1) := by decide +kernel
theorem dX9_readWord_0 : decode cX9_readWord 0 = .ok (.aload_n 0, 1) := by decide +kernel
theorem dX9_readWord_1 : decode cX9_readWord 1 = .ok (.invokevirtual 33, 3) := by decide +kernel
theorem dX9_readWord_4 : decode cX9_readWord 4 = .ok (.aload_n 0, 1) := by decide +kernel
theorem dX9_readWord_5 : decode cX9_readWord 5 = .ok (.aload_n 0, 1) := by decide +kernel
theorem dX9_readWord_6 : decode cX9_readWord 6 = .ok (.getfield 24, 3) := by decide +kernel
theorem dX9_readWord_9 : decode cX9_readWord 9 = .ok (.putfield 92, 3) := by decide +kernel
theorem dX9_readWord_12 : decode cX9_readWord 12 = .ok (.aload_n 0, 1) := by decide +kernel
theorem dX9_readWord_13 : decode cX9_readWord 13 = .ok (.getfield 24, 3) := by decide +kernel
theorem dX9_readWord_16 : decode cX9_readWord 16 = .ok (.aload_n 0, 1) := by decide +kernel
theorem dX9_readWord_17 : decode cX9_readWord 17 = .ok (.getfield 15, 3) := by decide +kernel
theorem dX9_readWord_20 : decode cX9_readWord 20 = .ok (.if_icmp .ge 35, 3) := by decide +kernel
theorem dX9_readWord_23 : decode cX9_readWord 23 = .ok (.aload_n 0, 1) := by decide +kernel
theorem dX9_readWord_24 : decode cX9_readWord 24 = .ok (.getfield 9, 3) := by decide +kernel
theorem dX9_readWord_27 : decode cX9_readWord 27 = .ok (.aload_n 0, 1) := by decide +kernel
theorem dX9_readWord_28 : decode cX9_readWord 28 = .ok (.getfield 24, 3) := by decide +kernel
theorem dX9_readWord_31 : decode cX9_readWord 31 = .ok (.baload, 1) := by decide +kernel
theorem dX9_readWord_32 : decode cX9_readWord 32 = .ok (.bipush 97, 2) := by decide +kernel
theorem dX9_readWord_34 : decode cX9_readWord 34 = .ok (.bipush 122, 2) := by decide +kernel
theorem dX9_readWord_36 : decode cX9_readWord 36 = .ok (.invokestatic 95, 3) := by decide +kernel
theorem dX9_readWord_39 : decode cX9_readWord 39 = .ok (.ifCond .eq 16, 3) := by decide +kernel
theorem dX9_readWord_42 : decode cX9_readWord 42 = .ok (.aload_n 0, 1) := by decide +kernel
theorem dX9_readWord_43 : decode cX9_readWord 43 = .ok (.dup, 1) := by decide +kernel
theorem dX9_readWord_44 : decode cX9_readWord 44 = .ok (.getfield 24, 3) := by decide +kernel
theorem dX9_readWord_47 : decode cX9_readWord 47 = .ok (.iconst 1, 1) := by decide +kernel
theorem dX9_readWord_48 : decode cX9_readWord 48 = .ok (.iadd, 1) := by decide +kernel
theorem dX9_readWord_49 : decode cX9_readWord 49 = .ok (.putfield 24, 3) := by decide +kernel
theorem dX9_readWord_52 : decode cX9_readWord 52 = .ok (.goto (-40), 3) := by decide +kernel
theorem dX9_readWord_55 : decode cX9_readWord 55 = .ok (.aload_n 0, 1) := by decide +kernel
theorem dX9_readWord_56 : decode cX9_readWord 56 = .ok (.aload_n 1, 1) := by decide +kernel
theorem dX9_readWord_57 : decode cX9_readWord 57 = .ok (.invokevirtual 99, 3) := by decide +kernel
theorem dX9_readWord_60 : decode cX9_readWord 60 = .ok (.istore_n 2, 1) := by decide +kernel
theorem dX9_readWord_61 : decode cX9_readWord 61 = .ok (.iload_n 2, 1) := by decide +kernel
theorem dX9_readWord_62 : decode cX9_readWord 62 = .ok (.ifCond .ge 12, 3) := by decide +kernel
theorem dX9_readWord_65 : decode cX9_readWord 65 = .ok (.aload_n 0, 1) := by decide +kernel
theorem dX9_readWord_66 : decode cX9_readWord 66 = .ok (.iconst 1, 1) := by decide +kernel
theorem dX9_readWord_67 : decode cX9_readWord 67 = .ok (.aload_n 0, 1) := by decide +kernel
theorem dX9_readWord_68 : decode cX9_readWord 68 = .ok (.getfield 92, 3) := by decide +kernel
theorem dX9_readWord_71 : decode cX9_readWord 71 = .ok (.invokevirtual 40, 3) := by decide +kernel
theorem dX9_readWord_74 : decode cX9_readWord 74 = .ok (.iload_n 2, 1) := by decide +kernel
theorem dX9_readWord_75 : decode cX9_readWord 75 = .ok (.ireturn, 1) := by decide +kernel
theorem dX9_numberOfWord_0 : decode cX9_numberOfWord 0 = .ok (.iconst 0, 1) := by decide +kernel
theorem dX9_numberOfWord_1 : decode cX9_numberOfWord 1 = .ok (.istore_n 2, 1) := by decide +kernel
theorem dX9_numberOfWord_2 : decode cX9_numberOfWord 2 = .ok (.aload_n 0, 1) := by decide +kernel
theorem dX9_numberOfWord_3 : decode cX9_numberOfWord 3 = .ok (.getfield 92, 3) := by decide +kernel
theorem dX9_numberOfWord_6 : decode cX9_numberOfWord 6 = .ok (.istore_n 3, 1) := by decide +kernel
theorem dX9_numberOfWord_7 : decode cX9_numberOfWord 7 = .ok (.iconst 1, 1) := by decide +kernel
theorem dX9_numberOfWord_8 : decode cX9_numberOfWord 8 = .ok (.istore 4, 2) := by decide +kernel
theorem dX9_numberOfWord_10 : decode cX9_numberOfWord 10 = .ok (.iconst 0, 1) := by decide +kernel
theorem dX9_numberOfWord_11 : decode cX9_numberOfWord 11 = .ok (.istore 5, 2) := by decide +kernel
theorem dX9_numberOfWord_13 : decode cX9_numberOfWord 13 = .ok (.iload 5, 2) := by decide +kernel
theorem dX9_numberOfWord_15 : decode cX9_numberOfWord 15 = .ok (.aload_n 1, 1) := by decide +kernel
theorem dX9_numberOfWord_16 : decode cX9_numberOfWord 16 = .ok (.invokevirtual 102, 3) := by decide +kernel
theorem dX9_numberOfWord_19 : decode cX9_numberOfWord 19 = .ok (.if_icmp .ge 87, 3) := by decide +kernel
theorem dX9_numberOfWord_22 : decode cX9_numberOfWord 22 = .ok (.aload_n 1, 1) := by decide +kernel
theorem dX9_numberOfWord_23 : decode cX9_numberOfWord 23 = .ok (.iload 5, 2) := by decide +kernel
theorem dX9_numberOfWord_25 : decode cX9_numberOfWord 25 = .ok (.invokevirtual 107, 3) := by decide +kernel
theorem dX9_numberOfWord_28 : decode cX9_numberOfWord 28 = .ok (.istore 6, 2) := by decide +kernel
theorem dX9_numberOfWord_30 : decode cX9_numberOfWord 30 = .ok (.iload 6, 2) := by decide +kernel
theorem dX9_numberOfWord_32 : decode cX9_numberOfWord 32 = .ok (.bipush 32, 2) := by decide +kernel
theorem dX9_numberOfWord_34 : decode cX9_numberOfWord 34 = .ok (.if_icmp .eq 40, 3) := by decide +kernel
theorem dX9_numberOfWord_37 : decode cX9_numberOfWord 37 = .ok (.iload 4, 2) := by decide +kernel
theorem dX9_numberOfWord_39 : decode cX9_numberOfWord 39 = .ok (.ifCond .eq 26, 3) := by decide +kernel
theorem dX9_numberOfWord_42 : decode cX9_numberOfWord 42 = .ok (.iload_n 3, 1) := by decide +kernel
theorem dX9_numberOfWord_43 : decode cX9_numberOfWord 43 = .ok (.aload_n 0, 1) := by decide +kernel
theorem dX9_numberOfWord_44 : decode cX9_numberOfWord 44 = .ok (.getfield 24, 3) := by decide +kernel
theorem dX9_numberOfWord_47 : decode cX9_numberOfWord 47 = .ok (.if_icmp .ge 18, 3) := by decide +kernel
theorem dX9_numberOfWord_50 : decode cX9_numberOfWord 50 = .ok (.aload_n 0, 1) := by decide +kernel
theorem dX9_numberOfWord_51 : decode cX9_numberOfWord 51 = .ok (.getfield 9, 3) := by decide +kernel
theorem dX9_numberOfWord_54 : decode cX9_numberOfWord 54 = .ok (.iload_n 3, 1) := by decide +kernel
theorem dX9_numberOfWord_55 : decode cX9_numberOfWord 55 = .ok (.baload, 1) := by decide +kernel
theorem dX9_numberOfWord_56 : decode cX9_numberOfWord 56 = .ok (.iload 6, 2) := by decide +kernel
theorem dX9_numberOfWord_58 : decode cX9_numberOfWord 58 = .ok (.if_icmp .ne 7, 3) := by decide +kernel
theorem dX9_numberOfWord_61 : decode cX9_numberOfWord 61 = .ok (.iconst 1, 1) := by decide +kernel
theorem dX9_numberOfWord_62 : decode cX9_numberOfWord 62 = .ok (.goto 4, 3) := by decide +kernel
theorem dX9_numberOfWord_65 : decode cX9_numberOfWord 65 = .ok (.iconst 0, 1) := by decide +kernel
theorem dX9_numberOfWord_66 : decode cX9_numberOfWord 66 = .ok (.istore 4, 2) := by decide +kernel
theorem dX9_numberOfWord_68 : decode cX9_numberOfWord 68 = .ok (.iinc 3 1, 3) := by decide +kernel
theorem dX9_numberOfWord_71 : decode cX9_numberOfWord 71 = .ok (.goto 29, 3) := by decide +kernel
theorem dX9_numberOfWord_74 : decode cX9_numberOfWord 74 = .ok (.iload 4, 2) := by decide +kernel
theorem dX9_numberOfWord_76 : decode cX9_numberOfWord 76 = .ok (.ifCond .eq 13, 3) := by decide +kernel
theorem dX9_numberOfWord_79 : decode cX9_numberOfWord 79 = .ok (.iload_n 3, 1) := by decide +kernel
theorem dX9_numberOfWord_80 : decode cX9_numberOfWord 80 = .ok (.aload_n 0, 1) := by decide +kernel
theorem dX9_numberOfWord_81 : decode cX9_numberOfWord 81 = .ok (.getfield 24, 3) := by decide +kernel
theorem dX9_numberOfWord_84 : decode cX9_numberOfWord 84 = .ok (.if_icmp .ne 5, 3) := by decide +kernel
theorem dX9_numberOfWord_87 : decode cX9_numberOfWord 87 = .ok (.iload_n 2, 1) := by decide +kernel
theorem dX9_numberOfWord_88 : decode cX9_numberOfWord 88 = .ok (.ireturn, 1) := by decide +kernel
theorem dX9_numberOfWord_89 : decode cX9_numberOfWord 89 = .ok (.iinc 2 1, 3) := by decide +kernel
theorem dX9_numberOfWord_92 : decode cX9_numberOfWord 92 = .ok (.aload_n 0, 1) := by decide +kernel
theorem dX9_numberOfWord_93 : decode cX9_numberOfWord 93 = .ok (.getfield 92, 3) := by decide +kernel
theorem dX9_numberOfWord_96 : decode cX9_numberOfWord 96 = .ok (.istore_n 3, 1) := by decide +kernel
theorem dX9_numberOfWord_97 : decode cX9_numberOfWord 97 = .ok (.iconst 1, 1) := by decide +kernel
theorem dX9_numberOfWord_98 : decode cX9_numberOfWord 98 = .ok (.istore 4, 2) := by decide +kernel
theorem dX9_numberOfWord_100 : decode cX9_numberOfWord 100 = .ok (.iinc 5 1, 3) := by decide +kernel
theorem dX9_numberOfWord_103 : decode cX9_numberOfWord 103 = .ok (.goto (-90), 3) := by decide +kernel
theorem dX9_numberOfWord_106 : decode cX9_numberOfWord 106 = .ok (.iconst (-1), 1) := by decide +kernel
theorem dX9_numberOfWord_107 : decode cX9_numberOfWord 107 = .ok (.ireturn, 1) := by decide +kernel
theorem dX9_readNumber_0 : decode cX9_readNumber 0 = .ok (.aload_n 0, 1) := by decide +kernel
theorem dX9_readNumber_1 : decode cX9_readNumber 1 = .ok (.invokevirtual 33, 3) := by decide +kernel
theorem dX9_readNumber_4 : decode cX9_readNumber 4 = .ok (.aload_n 0, 1) := by decide +kernel
theorem dX9_readNumber_5 : decode cX9_readNumber 5 = .ok (.getfield 24, 3) := by decide +kernel
theorem dX9_readNumber_8 : decode cX9_readNumber 8 = .ok (.istore_n 2, 1) := by decide +kernel
theorem dX9_readNumber_9 : decode cX9_readNumber 9 = .ok (.iconst 0, 1) := by decide +kernel
theorem dX9_readNumber_10 : decode cX9_readNumber 10 = .ok (.istore_n 3, 1) := by decide +kernel
theorem dX9_readNumber_11 : decode cX9_readNumber 11 = .ok (.aload_n 0, 1) := by decide +kernel
theorem dX9_readNumber_12 : decode cX9_readNumber 12 = .ok (.getfield 24, 3) := by decide +kernel
theorem dX9_readNumber_15 : decode cX9_readNumber 15 = .ok (.aload_n 0, 1) := by decide +kernel
theorem dX9_readNumber_16 : decode cX9_readNumber 16 = .ok (.getfield 15, 3) := by decide +kernel
theorem dX9_readNumber_19 : decode cX9_readNumber 19 = .ok (.if_icmp .ge 63, 3) := by decide +kernel
theorem dX9_readNumber_22 : decode cX9_readNumber 22 = .ok (.aload_n 0, 1) := by decide +kernel
theorem dX9_readNumber_23 : decode cX9_readNumber 23 = .ok (.getfield 9, 3) := by decide +kernel
theorem dX9_readNumber_26 : decode cX9_readNumber 26 = .ok (.aload_n 0, 1) := by decide +kernel
theorem dX9_readNumber_27 : decode cX9_readNumber 27 = .ok (.getfield 24, 3) := by decide +kernel
theorem dX9_readNumber_30 : decode cX9_readNumber 30 = .ok (.baload, 1) := by decide +kernel
theorem dX9_readNumber_31 : decode cX9_readNumber 31 = .ok (.bipush 48, 2) := by decide +kernel
theorem dX9_readNumber_33 : decode cX9_readNumber 33 = .ok (.bipush 57, 2) := by decide +kernel
theorem dX9_readNumber_35 : decode cX9_readNumber 35 = .ok (.invokestatic 95, 3) := by decide +kernel
theorem dX9_readNumber_38 : decode cX9_readNumber 38 = .ok (.ifCond .eq 44, 3) := by decide +kernel
theorem dX9_readNumber_41 : decode cX9_readNumber 41 = .ok (.aload_n 0, 1) := by decide +kernel
theorem dX9_readNumber_42 : decode cX9_readNumber 42 = .ok (.getfield 24, 3) := by decide +kernel
theorem dX9_readNumber_45 : decode cX9_readNumber 45 = .ok (.iload_n 2, 1) := by decide +kernel
theorem dX9_readNumber_46 : decode cX9_readNumber 46 = .ok (.isub, 1) := by decide +kernel
theorem dX9_readNumber_47 : decode cX9_readNumber 47 = .ok (.iconst 4, 1) := by decide +kernel
theorem dX9_readNumber_48 : decode cX9_readNumber 48 = .ok (.if_icmp .ge 21, 3) := by decide +kernel
theorem dX9_readNumber_51 : decode cX9_readNumber 51 = .ok (.iload_n 3, 1) := by decide +kernel
theorem dX9_readNumber_52 : decode cX9_readNumber 52 = .ok (.bipush 10, 2) := by decide +kernel
theorem dX9_readNumber_54 : decode cX9_readNumber 54 = .ok (.imul, 1) := by decide +kernel
theorem dX9_readNumber_55 : decode cX9_readNumber 55 = .ok (.aload_n 0, 1) := by decide +kernel
theorem dX9_readNumber_56 : decode cX9_readNumber 56 = .ok (.getfield 9, 3) := by decide +kernel
theorem dX9_readNumber_59 : decode cX9_readNumber 59 = .ok (.aload_n 0, 1) := by decide +kernel
theorem dX9_readNumber_60 : decode cX9_readNumber 60 = .ok (.getfield 24, 3) := by decide +kernel
theorem dX9_readNumber_63 : decode cX9_readNumber 63 = .ok (.baload, 1) := by decide +kernel
theorem dX9_readNumber_64 : decode cX9_readNumber 64 = .ok (.iadd, 1) := by decide +kernel
theorem dX9_readNumber_65 : decode cX9_readNumber 65 = .ok (.bipush 48, 2) := by decide +kernel
theorem dX9_readNumber_67 : decode cX9_readNumber 67 = .ok (.isub, 1) := by decide +kernel
theorem dX9_readNumber_68 : decode cX9_readNumber 68 = .ok (.istore_n 3, 1) := by decide +kernel
theorem dX9_readNumber_69 : decode cX9_readNumber 69 = .ok (.aload_n 0, 1) := by decide +kernel
theorem dX9_readNumber_70 : decode cX9_readNumber 70 = .ok (.dup, 1) := by decide +kernel
theorem dX9_readNumber_71 : decode cX9_readNumber 71 = .ok (.getfield 24, 3) := by decide +kernel
theorem dX9_readNumber_74 : decode cX9_readNumber 74 = .ok (.iconst 1, 1) := by decide +kernel
theorem dX9_readNumber_75 : decode cX9_readNumber 75 = .ok (.iadd, 1) := by decide +kernel
theorem dX9_readNumber_76 : decode cX9_readNumber 76 = .ok (.putfield 24, 3) := by decide +kernel
theorem dX9_readNumber_79 : decode cX9_readNumber 79 = .ok (.goto (-68), 3) := by decide +kernel
theorem dX9_readNumber_82 : decode cX9_readNumber 82 = .ok (.aload_n 0, 1) := by decide +kernel
theorem dX9_readNumber_83 : decode cX9_readNumber 83 = .ok (.getfield 24, 3) := by decide +kernel
theorem dX9_readNumber_86 : decode cX9_readNumber 86 = .ok (.iload_n 2, 1) := by decide +kernel
theorem dX9_readNumber_87 : decode cX9_readNumber 87 = .ok (.if_icmp .ne 12, 3) := by decide +kernel
theorem dX9_readNumber_90 : decode cX9_readNumber 90 = .ok (.aload_n 0, 1) := by decide +kernel
theorem dX9_readNumber_91 : decode cX9_readNumber 91 = .ok (.iconst 1, 1) := by decide +kernel
theorem dX9_readNumber_92 : decode cX9_readNumber 92 = .ok (.iload_n 2, 1) := by decide +kernel
theorem dX9_readNumber_93 : decode cX9_readNumber 93 = .ok (.invokevirtual 40, 3) := by decide +kernel
theorem dX9_readNumber_96 : decode cX9_readNumber 96 = .ok (.goto 24, 3) := by decide +kernel
theorem dX9_readNumber_99 : decode cX9_readNumber 99 = .ok (.aload_n 0, 1) := by decide +kernel
theorem dX9_readNumber_100 : decode cX9_readNumber 100 = .ok (.getfield 24, 3) := by decide +kernel
theorem dX9_readNumber_103 : decode cX9_readNumber 103 = .ok (.iload_n 2, 1) := by decide +kernel
theorem dX9_readNumber_104 : decode cX9_readNumber 104 = .ok (.isub, 1) := by decide +kernel
theorem dX9_readNumber_105 : decode cX9_readNumber 105 = .ok (.iconst 4, 1) := by decide +kernel
theorem dX9_readNumber_106 : decode cX9_readNumber 106 = .ok (.if_icmp .gt 8, 3) := by decide +kernel
theorem dX9_readNumber_109 : decode cX9_readNumber 109 = .ok (.iload_n 3, 1) := by decide +kernel
theorem dX9_readNumber_110 : decode cX9_readNumber 110 = .ok (.iload_n 1, 1) := by decide +kernel
theorem dX9_readNumber_111 : decode cX9_readNumber 111 = .ok (.if_icmp .le 9, 3) := by decide +kernel
theorem dX9_readNumber_114 : decode cX9_readNumber 114 = .ok (.aload_n 0, 1) := by decide +kernel
theorem dX9_readNumber_115 : decode cX9_readNumber 115 = .ok (.iconst 2, 1) := by decide +kernel
theorem dX9_readNumber_116 : decode cX9_readNumber 116 = .ok (.iload_n 2, 1) := by decide +kernel
theorem dX9_readNumber_117 : decode cX9_readNumber 117 = .ok (.invokevirtual 40, 3) := by decide +kernel
theorem dX9_readNumber_120 : decode cX9_readNumber 120 = .ok (.iload_n 3, 1) := by decide +kernel
theorem dX9_readNumber_121 : decode cX9_readNumber 121 = .ok (.ireturn, 1) := by decide +kernel
theorem dX9_readSemicolon_0 : decode cX9_readSemicolon 0 = .ok (.aload_n 0, 1) := by decide +kernel
theorem dX9_readSemicolon_1 : decode cX9_readSemicolon 1 = .ok (.invokevirtual 33, 3) := by decide +kernel
theorem dX9_readSemicolon_4 : decode cX9_readSemicolon 4 = .ok (.aload_n 0, 1) := by decide +kernel
theorem dX9_readSemicolon_5 : decode cX9_readSemicolon 5 = .ok (.getfield 24, 3) := by decide +kernel
theorem dX9_readSemicolon_8 : decode cX9_readSemicolon 8 = .ok (.aload_n 0, 1) := by decide +kernel
theorem dX9_readSemicolon_9 : decode cX9_readSemicolon 9 = .ok (.getfield 15, 3) := by decide +kernel
theorem dX9_readSemicolon_12 : decode cX9_readSemicolon 12 = .ok (.if_icmp .ge 30, 3) := by decide +kernel
theorem dX9_readSemicolon_15 : decode cX9_readSemicolon 15 = .ok (.aload_n 0, 1) := by decide +kernel
theorem dX9_readSemicolon_16 : decode cX9_readSemicolon 16 = .ok (.getfield 9, 3) := by decide +kernel
theorem dX9_readSemicolon_19 : decode cX9_readSemicolon 19 = .ok (.aload_n 0, 1) := by decide +kernel
theorem dX9_readSemicolon_20 : decode cX9_readSemicolon 20 = .ok (.getfield 24, 3) := by decide +kernel
theorem dX9_readSemicolon_23 : decode cX9_readSemicolon 23 = .ok (.baload, 1) := by decide +kernel
theorem dX9_readSemicolon_24 : decode cX9_readSemicolon 24 = .ok (.bipush 59, 2) := by decide +kernel
theorem dX9_readSemicolon_26 : decode cX9_readSemicolon 26 = .ok (.if_icmp .ne 16, 3) := by decide +kernel
theorem dX9_readSemicolon_29 : decode cX9_readSemicolon 29 = .ok (.aload_n 0, 1) := by decide +kernel
theorem dX9_readSemicolon_30 : decode cX9_readSemicolon 30 = .ok (.dup, 1) := by decide +kernel
theorem dX9_readSemicolon_31 : decode cX9_readSemicolon 31 = .ok (.getfield 24, 3) := by decide +kernel
theorem dX9_readSemicolon_34 : decode cX9_readSemicolon 34 = .ok (.iconst 1, 1) := by decide +kernel
theorem dX9_readSemicolon_35 : decode cX9_readSemicolon 35 = .ok (.iadd, 1) := by decide +kernel
theorem dX9_readSemicolon_36 : decode cX9_readSemicolon 36 = .ok (.putfield 24, 3) := by decide +kernel
theorem dX9_readSemicolon_39 : decode cX9_readSemicolon 39 = .ok (.goto 12, 3) := by decide +kernel
theorem dX9_readSemicolon_42 : decode cX9_readSemicolon 42 = .ok (.aload_n 0, 1) := by decide +kernel
theorem dX9_readSemicolon_43 : decode cX9_readSemicolon 43 = .ok (.iconst 1, 1) := by decide +kernel
theorem dX9_readSemicolon_44 : decode cX9_readSemicolon 44 = .ok (.aload_n 0, 1) := by decide +kernel
theorem dX9_readSemicolon_45 : decode cX9_readSemicolon 45 = .ok (.getfield 24, 3) := by decide +kernel
theorem dX9_readSemicolon_48 : decode cX9_readSemicolon 48 = .ok (.invokevirtual 40, 3) := by decide +kernel
theorem dX9_readSemicolon_51 : decode cX9_readSemicolon 51 = .ok (.return_, 1) := by decide +kernel
theorem dX9_skipBlanks_0 : decode cX9_skipBlanks 0 = .ok (.aload_n 0, 1) := by decide +kernel
theorem dX9_skipBlanks_1 : decode cX9_skipBlanks 1 = .ok (.getfield 24, 3) := by decide +kernel
theorem dX9_skipBlanks_4 : decode cX9_skipBlanks 4 = .ok (.aload_n 0, 1) := by decide +kernel
theorem dX9_skipBlanks_5 : decode cX9_skipBlanks 5 = .ok (.getfield 15, 3) := by decide +kernel
theorem dX9_skipBlanks_8 : decode cX9_skipBlanks 8 = .ok (.if_icmp .ge 30, 3) := by decide +kernel
theorem dX9_skipBlanks_11 : decode cX9_skipBlanks 11 = .ok (.aload_n 0, 1) := by decide +kernel
theorem dX9_skipBlanks_12 : decode cX9_skipBlanks 12 = .ok (.getfield 9, 3) := by decide +kernel
theorem dX9_skipBlanks_15 : decode cX9_skipBlanks 15 = .ok (.aload_n 0, 1) := by decide +kernel
theorem dX9_skipBlanks_16 : decode cX9_skipBlanks 16 = .ok (.getfield 24, 3) := by decide +kernel
theorem dX9_skipBlanks_19 : decode cX9_skipBlanks 19 = .ok (.baload, 1) := by decide +kernel
theorem dX9_skipBlanks_20 : decode cX9_skipBlanks 20 = .ok (.bipush 32, 2) := by decide +kernel
theorem dX9_skipBlanks_22 : decode cX9_skipBlanks 22 = .ok (.if_icmp .ne 16, 3) := by decide +kernel
theorem dX9_skipBlanks_25 : decode cX9_skipBlanks 25 = .ok (.aload_n 0, 1) := by decide +kernel
theorem dX9_skipBlanks_26 : decode cX9_skipBlanks 26 = .ok (.dup, 1) := by decide +kernel
theorem dX9_skipBlanks_27 : decode cX9_skipBlanks 27 = .ok (.getfield 24, 3) := by decide +kernel
theorem dX9_skipBlanks_30 : decode cX9_skipBlanks 30 = .ok (.iconst 1, 1) := by decide +kernel
theorem dX9_skipBlanks_31 : decode cX9_skipBlanks 31 = .ok (.iadd, 1) := by decide +kernel
theorem dX9_skipBlanks_32 : decode cX9_skipBlanks 32 = .ok (.putfield 24, 3) := by decide +kernel
theorem dX9_skipBlanks_35 : decode cX9_skipBlanks 35 = .ok (.goto (-35), 3) := by decide +kernel
theorem dX9_skipBlanks_38 : decode cX9_skipBlanks 38 = .ok (.return_, 1) := by decide +kernel
theorem dX9_refuse_0 : decode cX9_refuse 0 = .ok (.aload_n 0, 1) := by decide +kernel
theorem dX9_refuse_1 : decode cX9_refuse 1 = .ok (.getfield 30, 3) := by decide +kernel
theorem dX9_refuse_4 : decode cX9_refuse 4 = .ok (.ifCond .ne 12, 3) := by decide +kernel
theorem dX9_refuse_7 : decode cX9_refuse 7 = .ok (.aload_n 0, 1) := by decide +kernel
theorem dX9_refuse_8 : decode cX9_refuse 8 = .ok (.iload_n 1, 1) := by decide +kernel
theorem dX9_refuse_9 : decode cX9_refuse 9 = .ok (.iconst 4, 1) := by decide +kernel
theorem dX9_refuse_10 : decode cX9_refuse 10 = .ok (.iload_n 2, 1) := by decide +kernel
theorem dX9_refuse_11 : decode cX9_refuse 11 = .ok (.imul, 1) := by decide +kernel
theorem dX9_refuse_12 : decode cX9_refuse 12 = .ok (.iadd, 1) := by decide +kernel
theorem dX9_refuse_13 : decode cX9_refuse 13 = .ok (.putfield 30, 3) := by decide +kernel
theorem dX9_refuse_16 : decode cX9_refuse 16 = .ok (.return_, 1) := by decide +kernel
theorem dX9_isBetween_0 : decode cX9_isBetween 0 = .ok (.iload_n 0, 1) := by decide +kernel
theorem dX9_isBetween_1 : decode cX9_isBetween 1 = .ok (.iload_n 1, 1) := by decide +kernel
theorem dX9_isBetween_2 : decode cX9_isBetween 2 = .ok (.if_icmp .lt 12, 3) := by decide +kernel
theorem dX9_isBetween_5 : decode cX9_isBetween 5 = .ok (.iload_n 0, 1) := by decide +kernel
theorem dX9_isBetween_6 : decode cX9_isBetween 6 = .ok (.iload_n 2, 1) := by decide +kernel
theorem dX9_isBetween_7 : decode cX9_isBetween 7 = .ok (.if_icmp .gt 7, 3) := by decide +kernel
theorem dX9_isBetween_10 : decode cX9_isBetween 10 = .ok (.iconst 1, 1) := by decide +kernel
theorem dX9_isBetween_11 : decode cX9_isBetween 11 = .ok (.goto 4, 3) := by decide +kernel
theorem dX9_isBetween_14 : decode cX9_isBetween 14 = .ok (.iconst 0, 1) := by decide +kernel
theorem dX9_isBetween_15 : decode cX9_isBetween 15 = .ok (.ireturn, 1) := by decide +kernel
theorem dX10_init_0 : decode cX10_init 0 = .ok (.aload_n 0, 1) := by decide +kernel
theorem dX10_init_1 : decode cX10_init 1 = .ok (.invokespecial 3, 3) := by decide +kernel
theorem dX10_init_4 : decode cX10_init 4 = .ok (.aload_n 0, 1) := by decide +kernel
theorem dX10_init_5 : decode cX10_init 5 = .ok (.iload_n 1, 1) := by decide +kernel
theorem dX10_init_6 : decode cX10_init 6 = .ok (.newarray .int, 2) := by decide +kernel
theorem dX10_init_8 : decode cX10_init 8 = .ok (.putfield 9, 3) := by decide +kernel
theorem dX10_init_11 : decode cX10_init 11 = .ok (.aload_n 0, 1) := by decide +kernel
theorem dX10_init_12 : decode cX10_init 12 = .ok (.iload_n 1, 1) := by decide +kernel
theorem dX10_init_13 : decode cX10_init 13 = .ok (.newarray .int, 2) := by decide +kernel
theorem dX10_init_15 : decode cX10_init 15 = .ok (.putfield 15, 3) := by decide +kernel
theorem dX10_init_18 : decode cX10_init 18 = .ok (.aload_n 0, 1) := by decide +kernel
theorem dX10_init_19 : decode cX10_init 19 = .ok (.getfield 9, 3) := by decide +kernel
theorem dX10_init_22 : decode cX10_init 22 = .ok (.sipush 5001, 3) := by decide +kernel
theorem dX10_init_25 : decode cX10_init 25 = .ok (.invokestatic 18, 3) := by decide +kernel
theorem dX10_init_28 : decode cX10_init 28 = .ok (.aload_n 0, 1) := by decide +kernel
theorem dX10_init_29 : decode cX10_init 29 = .ok (.getfield 15, 3) := by decide +kernel
theorem dX10_init_32 : decode cX10_init 32 = .ok (.sipush 5001, 3) := by decide +kernel
theorem dX10_init_35 : decode cX10_init 35 = .ok (.invokestatic 18, 3) := by decide +kernel
theorem dX10_init_38 : decode cX10_init 38 = .ok (.return_, 1) := by decide +kernel
theorem dX10_set_0 : decode cX10_set 0 = .ok (.aload_n 0, 1) := by decide +kernel
theorem dX10_set_1 : decode cX10_set 1 = .ok (.getfield 9, 3) := by decide +kernel
theorem dX10_set_4 : decode cX10_set 4 = .ok (.iload_n 1, 1) := by decide +kernel
theorem dX10_set_5 : decode cX10_set 5 = .ok (.iload_n 2, 1) := by decide +kernel
theorem dX10_set_6 : decode cX10_set 6 = .ok (.iastore, 1) := by decide +kernel
theorem dX10_set_7 : decode cX10_set 7 = .ok (.aload_n 0, 1) := by decide +kernel
theorem dX10_set_8 : decode cX10_set 8 = .ok (.getfield 15, 3) := by decide +kernel
theorem dX10_set_11 : decode cX10_set 11 = .ok (.iload_n 1, 1) := by decide +kernel
theorem dX10_set_12 : decode cX10_set 12 = .ok (.iload_n 3, 1) := by decide +kernel
theorem dX10_set_13 : decode cX10_set 13 = .ok (.iastore, 1) := by decide +kernel
theorem dX10_set_14 : decode cX10_set 14 = .ok (.return_, 1) := by decide +kernel
theorem dX10_isSet_0 : decode cX10_isSet 0 = .ok (.aload_n 0, 1) := by decide +kernel
theorem dX10_isSet_1 : decode cX10_isSet 1 = .ok (.getfield 9, 3) := by decide +kernel
theorem dX10_isSet_4 : decode cX10_isSet 4 = .ok (.iload_n 1, 1) := by decide +kernel
theorem dX10_isSet_5 : decode cX10_isSet 5 = .ok (.iaload, 1) := by decide +kernel
theorem dX10_isSet_6 : decode cX10_isSet 6 = .ok (.sipush 5001, 3) := by decide +kernel
theorem dX10_isSet_9 : decode cX10_isSet 9 = .ok (.if_icmp .eq 7, 3) := by decide +kernel
theorem dX10_isSet_12 : decode cX10_isSet 12 = .ok (.iconst 1, 1) := by decide +kernel
theorem dX10_isSet_13 : decode cX10_isSet 13 = .ok (.goto 4, 3) := by decide +kernel
theorem dX10_isSet_16 : decode cX10_isSet 16 = .ok (.iconst 0, 1) := by decide +kernel
theorem dX10_isSet_17 : decode cX10_isSet 17 = .ok (.ireturn, 1) := by decide +kernel
theorem dX10_holds_0 : decode cX10_holds 0 = .ok (.aload_n 0, 1) := by decide +kernel
theorem dX10_holds_1 : decode cX10_holds 1 = .ok (.getfield 15, 3) := by decide +kernel
theorem dX10_holds_4 : decode cX10_holds 4 = .ok (.iload_n 1, 1) := by decide +kernel
theorem dX10_holds_5 : decode cX10_holds 5 = .ok (.iaload, 1) := by decide +kernel
theorem dX10_holds_6 : decode cX10_holds 6 = .ok (.iload_n 2, 1) := by decide +kernel
theorem dX10_holds_7 : decode cX10_holds 7 = .ok (.if_icmp .gt 17, 3) := by decide +kernel
theorem dX10_holds_10 : decode cX10_holds 10 = .ok (.aload_n 0, 1) := by decide +kernel
theorem dX10_holds_11 : decode cX10_holds 11 = .ok (.getfield 9, 3) := by decide +kernel
theorem dX10_holds_14 : decode cX10_holds 14 = .ok (.iload_n 1, 1) := by decide +kernel
theorem dX10_holds_15 : decode cX10_holds 15 = .ok (.iaload, 1) := by decide +kernel
theorem dX10_holds_16 : decode cX10_holds 16 = .ok (.iload_n 3, 1) := by decide +kernel
theorem dX10_holds_17 : decode cX10_holds 17 = .ok (.if_icmp .gt 7, 3) := by decide +kernel
theorem dX10_holds_20 : decode cX10_holds 20 = .ok (.iconst 1, 1) := by decide +kernel
theorem dX10_holds_21 : decode cX10_holds 21 = .ok (.goto 4, 3) := by decide +kernel
theorem dX10_holds_24 : decode cX10_holds 24 = .ok (.iconst 0, 1) := by decide +kernel
theorem dX10_holds_25 : decode cX10_holds 25 = .ok (.ireturn, 1) := by decide +kernel
theorem dX10_supersedes_0 : decode cX10_supersedes 0 = .ok (.aload_n 0, 1) := by decide +kernel
theorem dX10_supersedes_1 : decode cX10_supersedes 1 = .ok (.getfield 9, 3) := by decide +kernel
theorem dX10_supersedes_4 : decode cX10_supersedes 4 = .ok (.iload_n 1, 1) := by decide +kernel
theorem dX10_supersedes_5 : decode cX10_supersedes 5 = .ok (.iaload, 1) := by decide +kernel
theorem dX10_supersedes_6 : decode cX10_supersedes 6 = .ok (.aload_n 0, 1) := by decide +kernel
theorem dX10_supersedes_7 : decode cX10_supersedes 7 = .ok (.getfield 9, 3) := by decide +kernel
theorem dX10_supersedes_10 : decode cX10_supersedes 10 = .ok (.iload_n 2, 1) := by decide +kernel
theorem dX10_supersedes_11 : decode cX10_supersedes 11 = .ok (.iaload, 1) := by decide +kernel
theorem dX10_supersedes_12 : decode cX10_supersedes 12 = .ok (.if_icmp .lt 7, 3) := by decide +kernel
theorem dX10_supersedes_15 : decode cX10_supersedes 15 = .ok (.iconst 1, 1) := by decide +kernel
theorem dX10_supersedes_16 : decode cX10_supersedes 16 = .ok (.goto 4, 3) := by decide +kernel
theorem dX10_supersedes_19 : decode cX10_supersedes 19 = .ok (.iconst 0, 1) := by decide +kernel
theorem dX10_supersedes_20 : decode cX10_supersedes 20 = .ok (.ireturn, 1) := by decide +kernel
theorem dX10_latestOf_0 : decode cX10_latestOf 0 = .ok (.iconst (-1), 1) := by decide +kernel
theorem dX10_latestOf_1 : decode cX10_latestOf 1 = .ok (.istore 4, 2) := by decide +kernel
theorem dX10_latestOf_3 : decode cX10_latestOf 3 = .ok (.iconst 0, 1) := by decide +kernel
theorem dX10_latestOf_4 : decode cX10_latestOf 4 = .ok (.istore 5, 2) := by decide +kernel
theorem dX10_latestOf_6 : decode cX10_latestOf 6 = .ok (.iload 5, 2) := by decide +kernel
theorem dX10_latestOf_8 : decode cX10_latestOf 8 = .ok (.iload_n 1, 1) := by decide +kernel
theorem dX10_latestOf_9 : decode cX10_latestOf 9 = .ok (.if_icmp .ge 50, 3) := by decide +kernel
theorem dX10_latestOf_12 : decode cX10_latestOf 12 = .ok (.iload 5, 2) := by decide +kernel
theorem dX10_latestOf_14 : decode cX10_latestOf 14 = .ok (.aload_n 0, 1) := by decide +kernel
theorem dX10_latestOf_15 : decode cX10_latestOf 15 = .ok (.getfield 9, 3) := by decide +kernel
theorem dX10_latestOf_18 : decode cX10_latestOf 18 = .ok (.arraylength, 1) := by decide +kernel
theorem dX10_latestOf_19 : decode cX10_latestOf 19 = .ok (.if_icmp .ge 40, 3) := by decide +kernel
theorem dX10_latestOf_22 : decode cX10_latestOf 22 = .ok (.aload_n 0, 1) := by decide +kernel
theorem dX10_latestOf_23 : decode cX10_latestOf 23 = .ok (.iload 5, 2) := by decide +kernel
theorem dX10_latestOf_25 : decode cX10_latestOf 25 = .ok (.iload_n 2, 1) := by decide +kernel
theorem dX10_latestOf_26 : decode cX10_latestOf 26 = .ok (.iload_n 3, 1) := by decide +kernel
theorem dX10_latestOf_27 : decode cX10_latestOf 27 = .ok (.invokevirtual 24, 3) := by decide +kernel
theorem dX10_latestOf_30 : decode cX10_latestOf 30 = .ok (.ifCond .eq 23, 3) := by decide +kernel
theorem dX10_latestOf_33 : decode cX10_latestOf 33 = .ok (.iload 4, 2) := by decide +kernel
theorem dX10_latestOf_35 : decode cX10_latestOf 35 = .ok (.ifCond .lt 14, 3) := by decide +kernel
theorem dX10_latestOf_38 : decode cX10_latestOf 38 = .ok (.aload_n 0, 1) := by decide +kernel
theorem dX10_latestOf_39 : decode cX10_latestOf 39 = .ok (.iload 5, 2) := by decide +kernel
theorem dX10_latestOf_41 : decode cX10_latestOf 41 = .ok (.iload 4, 2) := by decide +kernel
theorem dX10_latestOf_43 : decode cX10_latestOf 43 = .ok (.invokevirtual 28, 3) := by decide +kernel
theorem dX10_latestOf_46 : decode cX10_latestOf 46 = .ok (.ifCond .eq 7, 3) := by decide +kernel
theorem dX10_latestOf_49 : decode cX10_latestOf 49 = .ok (.iload 5, 2) := by decide +kernel
theorem dX10_latestOf_51 : decode cX10_latestOf 51 = .ok (.istore 4, 2) := by decide +kernel
theorem dX10_latestOf_53 : decode cX10_latestOf 53 = .ok (.iinc 5 1, 3) := by decide +kernel
theorem dX10_latestOf_56 : decode cX10_latestOf 56 = .ok (.goto (-50), 3) := by decide +kernel
theorem dX10_latestOf_59 : decode cX10_latestOf 59 = .ok (.iload 4, 2) := by decide +kernel
theorem dX10_latestOf_61 : decode cX10_latestOf 61 = .ok (.ireturn, 1) := by decide +kernel
theorem dJ9_abs_0f7a4_0 : decode cJ9_abs_0f7a4 0 = .ok (.iload_n 0, 1) := by decide +kernel
theorem dJ9_abs_0f7a4_1 : decode cJ9_abs_0f7a4 1 = .ok (.ifCond .ge 8, 3) := by decide +kernel
theorem dJ9_abs_0f7a4_4 : decode cJ9_abs_0f7a4 4 = .ok (.iload_n 0, 1) := by decide +kernel
theorem dJ9_abs_0f7a4_5 : decode cJ9_abs_0f7a4 5 = .ok (.ineg, 1) := by decide +kernel
theorem dJ9_abs_0f7a4_6 : decode cJ9_abs_0f7a4 6 = .ok (.goto 4, 3) := by decide +kernel
theorem dJ9_abs_0f7a4_9 : decode cJ9_abs_0f7a4 9 = .ok (.iload_n 0, 1) := by decide +kernel
theorem dJ9_abs_0f7a4_10 : decode cJ9_abs_0f7a4 10 = .ok (.ireturn, 1) := by decide +kernel
theorem dJ9_max_7cf53_0 : decode cJ9_max_7cf53 0 = .ok (.iload_n 0, 1) := by decide +kernel
theorem dJ9_max_7cf53_1 : decode cJ9_max_7cf53 1 = .ok (.iload_n 1, 1) := by decide +kernel
theorem dJ9_max_7cf53_2 : decode cJ9_max_7cf53 2 = .ok (.if_icmp .lt 7, 3) := by decide +kernel
theorem dJ9_max_7cf53_5 : decode cJ9_max_7cf53 5 = .ok (.iload_n 0, 1) := by decide +kernel
theorem dJ9_max_7cf53_6 : decode cJ9_max_7cf53 6 = .ok (.goto 4, 3) := by decide +kernel
theorem dJ9_max_7cf53_9 : decode cJ9_max_7cf53 9 = .ok (.iload_n 1, 1) := by decide +kernel
theorem dJ9_max_7cf53_10 : decode cJ9_max_7cf53 10 = .ok (.ireturn, 1) := by decide +kernel
theorem dJ9_min_7cf53_0 : decode cJ9_min_7cf53 0 = .ok (.iload_n 0, 1) := by decide +kernel
theorem dJ9_min_7cf53_1 : decode cJ9_min_7cf53 1 = .ok (.iload_n 1, 1) := by decide +kernel
theorem dJ9_min_7cf53_2 : decode cJ9_min_7cf53 2 = .ok (.if_icmp .gt 7, 3) := by decide +kernel
theorem dJ9_min_7cf53_5 : decode cJ9_min_7cf53 5 = .ok (.iload_n 0, 1) := by decide +kernel
theorem dJ9_min_7cf53_6 : decode cJ9_min_7cf53 6 = .ok (.goto 4, 3) := by decide +kernel
theorem dJ9_min_7cf53_9 : decode cJ9_min_7cf53 9 = .ok (.iload_n 1, 1) := by decide +kernel
theorem dJ9_min_7cf53_10 : decode cJ9_min_7cf53 10 = .ok (.ireturn, 1) := by decide +kernel
theorem dJ9_min_f86c9_0 : decode cJ9_min_f86c9 0 = .ok (.lload_n 0, 1) := by decide +kernel
theorem dJ9_min_f86c9_1 : decode cJ9_min_f86c9 1 = .ok (.lload_n 2, 1) := by decide +kernel
theorem dJ9_min_f86c9_2 : decode cJ9_min_f86c9 2 = .ok (.lcmp, 1) := by decide +kernel
theorem dJ9_min_f86c9_3 : decode cJ9_min_f86c9 3 = .ok (.ifCond .gt 7, 3) := by decide +kernel
theorem dJ9_min_f86c9_6 : decode cJ9_min_f86c9 6 = .ok (.lload_n 0, 1) := by decide +kernel
theorem dJ9_min_f86c9_7 : decode cJ9_min_f86c9 7 = .ok (.goto 4, 3) := by decide +kernel
theorem dJ9_min_f86c9_10 : decode cJ9_min_f86c9 10 = .ok (.lload_n 2, 1) := by decide +kernel
theorem dJ9_min_f86c9_11 : decode cJ9_min_f86c9 11 = .ok (.lreturn, 1) := by decide +kernel
theorem dJ0_length_8abf5_0 : decode cJ0_length_8abf5 0 = .ok (.aload_n 0, 1) := by decide +kernel
theorem dJ0_length_8abf5_1 : decode cJ0_length_8abf5 1 = .ok (.getfield 9, 3) := by decide +kernel
theorem dJ0_length_8abf5_4 : decode cJ0_length_8abf5 4 = .ok (.arraylength, 1) := by decide +kernel
theorem dJ0_length_8abf5_5 : decode cJ0_length_8abf5 5 = .ok (.aload_n 0, 1) := by decide +kernel
theorem dJ0_length_8abf5_6 : decode cJ0_length_8abf5 6 = .ok (.invokevirtual 335, 3) := by decide +kernel
theorem dJ0_length_8abf5_9 : decode cJ0_length_8abf5 9 = .ok (.ishr, 1) := by decide +kernel
theorem dJ0_length_8abf5_10 : decode cJ0_length_8abf5 10 = .ok (.ireturn, 1) := by decide +kernel
theorem dJ0_charAt_5068e_0 : decode cJ0_charAt_5068e 0 = .ok (.aload_n 0, 1) := by decide +kernel
theorem dJ0_charAt_5068e_1 : decode cJ0_charAt_5068e 1 = .ok (.invokevirtual 492, 3) := by decide +kernel
theorem dJ0_charAt_5068e_4 : decode cJ0_charAt_5068e 4 = .ok (.ifCond .eq 12, 3) := by decide +kernel
theorem dJ0_charAt_5068e_7 : decode cJ0_charAt_5068e 7 = .ok (.aload_n 0, 1) := by decide +kernel
theorem dJ0_charAt_5068e_8 : decode cJ0_charAt_5068e 8 = .ok (.getfield 9, 3) := by decide +kernel
theorem dJ0_charAt_5068e_11 : decode cJ0_charAt_5068e 11 = .ok (.iload_n 1, 1) := by decide +kernel
theorem dJ0_charAt_5068e_12 : decode cJ0_charAt_5068e 12 = .ok (.invokestatic 495, 3) := by decide +kernel
theorem dJ0_charAt_5068e_15 : decode cJ0_charAt_5068e 15 = .ok (.ireturn, 1) := by decide +kernel
theorem dJ0_charAt_5068e_16 : decode cJ0_charAt_5068e 16 = .ok (.aload_n 0, 1) := by decide +kernel
theorem dJ0_charAt_5068e_17 : decode cJ0_charAt_5068e 17 = .ok (.getfield 9, 3) := by decide +kernel
theorem dJ0_charAt_5068e_20 : decode cJ0_charAt_5068e 20 = .ok (.iload_n 1, 1) := by decide +kernel
theorem dJ0_charAt_5068e_21 : decode cJ0_charAt_5068e 21 = .ok (.invokestatic 498, 3) := by decide +kernel
theorem dJ0_charAt_5068e_24 : decode cJ0_charAt_5068e 24 = .ok (.ireturn, 1) := by decide +kernel
theorem dJ0_coder_7d493_0 : decode cJ0_coder_7d493 0 = .ok (.getstatic 38, 3) := by decide +kernel
theorem dJ0_coder_7d493_3 : decode cJ0_coder_7d493 3 = .ok (.ifCond .eq 10, 3) := by decide +kernel
theorem dJ0_coder_7d493_6 : decode cJ0_coder_7d493 6 = .ok (.aload_n 0, 1) := by decide +kernel
theorem dJ0_coder_7d493_7 : decode cJ0_coder_7d493 7 = .ok (.getfield 15, 3) := by decide +kernel
theorem dJ0_coder_7d493_10 : decode cJ0_coder_7d493 10 = .ok (.goto 4, 3) := by decide +kernel
theorem dJ0_coder_7d493_13 : decode cJ0_coder_7d493 13 = .ok (.iconst 1, 1) := by decide +kernel
theorem dJ0_coder_7d493_14 : decode cJ0_coder_7d493 14 = .ok (.ireturn, 1) := by decide +kernel
theorem dJ0_isLatin1_aae02_0 : decode cJ0_isLatin1_aae02 0 = .ok (.getstatic 38, 3) := by decide +kernel
theorem dJ0_isLatin1_aae02_3 : decode cJ0_isLatin1_aae02 3 = .ok (.ifCond .eq 14, 3) := by decide +kernel
theorem dJ0_isLatin1_aae02_6 : decode cJ0_isLatin1_aae02 6 = .ok (.aload_n 0, 1) := by decide +kernel
theorem dJ0_isLatin1_aae02_7 : decode cJ0_isLatin1_aae02 7 = .ok (.getfield 15, 3) := by decide +kernel
theorem dJ0_isLatin1_aae02_10 : decode cJ0_isLatin1_aae02 10 = .ok (.ifCond .ne 7, 3) := by decide +kernel
theorem dJ0_isLatin1_aae02_13 : decode cJ0_isLatin1_aae02 13 = .ok (.iconst 1, 1) := by decide +kernel
theorem dJ0_isLatin1_aae02_14 : decode cJ0_isLatin1_aae02 14 = .ok (.goto 4, 3) := by decide +kernel
theorem dJ0_isLatin1_aae02_17 : decode cJ0_isLatin1_aae02 17 = .ok (.iconst 0, 1) := by decide +kernel
theorem dJ0_isLatin1_aae02_18 : decode cJ0_isLatin1_aae02 18 = .ok (.ireturn, 1) := by decide +kernel
theorem dJ0_checkIndex_df160_0 : decode cJ0_checkIndex_df160 0 = .ok (.iload_n 0, 1) := by decide +kernel
theorem dJ0_checkIndex_df160_1 : decode cJ0_checkIndex_df160 1 = .ok (.iload_n 1, 1) := by decide +kernel
theorem dJ0_checkIndex_df160_2 : decode cJ0_checkIndex_df160 2 = .ok (.getstatic 1053, 3) := by decide +kernel
theorem dJ0_checkIndex_df160_5 : decode cJ0_checkIndex_df160 5 = .ok (.invokestatic 1059, 3) := by decide +kernel
theorem dJ0_checkIndex_df160_8 : decode cJ0_checkIndex_df160 8 = .ok (.pop, 1) := by decide +kernel
theorem dJ0_checkIndex_df160_9 : decode cJ0_checkIndex_df160 9 = .ok (.return_, 1) := by decide +kernel
theorem dJ1_charAt_3b067_0 : decode cJ1_charAt_3b067 0 = .ok (.iload_n 1, 1) := by decide +kernel
theorem dJ1_charAt_3b067_1 : decode cJ1_charAt_3b067 1 = .ok (.aload_n 0, 1) := by decide +kernel
theorem dJ1_charAt_3b067_2 : decode cJ1_charAt_3b067 2 = .ok (.arraylength, 1) := by decide +kernel
theorem dJ1_charAt_3b067_3 : decode cJ1_charAt_3b067 3 = .ok (.invokestatic 9, 3) := by decide +kernel
theorem dJ1_charAt_3b067_6 : decode cJ1_charAt_3b067 6 = .ok (.aload_n 0, 1) := by decide +kernel
theorem dJ1_charAt_3b067_7 : decode cJ1_charAt_3b067 7 = .ok (.iload_n 1, 1) := by decide +kernel
theorem dJ1_charAt_3b067_8 : decode cJ1_charAt_3b067 8 = .ok (.baload, 1) := by decide +kernel
theorem dJ1_charAt_3b067_9 : decode cJ1_charAt_3b067 9 = .ok (.sipush 255, 3) := by decide +kernel
theorem dJ1_charAt_3b067_12 : decode cJ1_charAt_3b067 12 = .ok (.iand, 1) := by decide +kernel
theorem dJ1_charAt_3b067_13 : decode cJ1_charAt_3b067 13 = .ok (.i2c, 1) := by decide +kernel
theorem dJ1_charAt_3b067_14 : decode cJ1_charAt_3b067 14 = .ok (.ireturn, 1) := by decide +kernel
theorem dJ2_getChar_3b067_0 : decode cJ2_getChar_3b067 0 = .ok (.getstatic 44, 3) := by decide +kernel
theorem dJ2_getChar_3b067_3 : decode cJ2_getChar_3b067 3 = .ok (.ifCond .ne 25, 3) := by decide +kernel
theorem dJ2_getChar_3b067_6 : decode cJ2_getChar_3b067 6 = .ok (.iload_n 1, 1) := by decide +kernel
theorem dJ2_getChar_3b067_7 : decode cJ2_getChar_3b067 7 = .ok (.ifCond .lt 11, 3) := by decide +kernel
theorem dJ2_getChar_3b067_10 : decode cJ2_getChar_3b067 10 = .ok (.iload_n 1, 1) := by decide +kernel
theorem dJ2_getChar_3b067_11 : decode cJ2_getChar_3b067 11 = .ok (.aload_n 0, 1) := by decide +kernel
theorem dJ2_getChar_3b067_12 : decode cJ2_getChar_3b067 12 = .ok (.invokestatic 48, 3) := by decide +kernel
theorem dJ2_getChar_3b067_15 : decode cJ2_getChar_3b067 15 = .ok (.if_icmp .lt 13, 3) := by decide +kernel
theorem dJ2_getChar_3b067_18 : decode cJ2_getChar_3b067 18 = .ok (.new 52, 3) := by decide +kernel
theorem dJ2_getChar_3b067_21 : decode cJ2_getChar_3b067 21 = .ok (.dup, 1) := by decide +kernel
theorem dJ2_getChar_3b067_22 : decode cJ2_getChar_3b067 22 = .ok (.ldc 54, 2) := by decide +kernel
theorem dJ2_getChar_3b067_24 : decode cJ2_getChar_3b067 24 = .ok (.invokespecial 56, 3) := by decide +kernel
theorem dJ2_getChar_3b067_27 : decode cJ2_getChar_3b067 27 = .ok (.athrow, 1) := by decide +kernel
theorem dJ2_getChar_3b067_28 : decode cJ2_getChar_3b067 28 = .ok (.iload_n 1, 1) := by decide +kernel
theorem dJ2_getChar_3b067_29 : decode cJ2_getChar_3b067 29 = .ok (.iconst 1, 1) := by decide +kernel
theorem dJ2_getChar_3b067_30 : decode cJ2_getChar_3b067 30 = .ok (.ishl, 1) := by decide +kernel
theorem dJ2_getChar_3b067_31 : decode cJ2_getChar_3b067 31 = .ok (.istore_n 1, 1) := by decide +kernel
theorem dJ2_getChar_3b067_32 : decode cJ2_getChar_3b067 32 = .ok (.aload_n 0, 1) := by decide +kernel
theorem dJ2_getChar_3b067_33 : decode cJ2_getChar_3b067 33 = .ok (.iload_n 1, 1) := by decide +kernel
theorem dJ2_getChar_3b067_34 : decode cJ2_getChar_3b067 34 = .ok (.iinc 1 1, 3) := by decide +kernel
theorem dJ2_getChar_3b067_37 : decode cJ2_getChar_3b067 37 = .ok (.baload, 1) := by decide +kernel
theorem dJ2_getChar_3b067_38 : decode cJ2_getChar_3b067 38 = .ok (.sipush 255, 3) := by decide +kernel
theorem dJ2_getChar_3b067_41 : decode cJ2_getChar_3b067 41 = .ok (.iand, 1) := by decide +kernel
theorem dJ2_getChar_3b067_42 : decode cJ2_getChar_3b067 42 = .ok (.getstatic 59, 3) := by decide +kernel
theorem dJ2_getChar_3b067_45 : decode cJ2_getChar_3b067 45 = .ok (.ishl, 1) := by decide +kernel
theorem dJ2_getChar_3b067_46 : decode cJ2_getChar_3b067 46 = .ok (.aload_n 0, 1) := by decide +kernel
theorem dJ2_getChar_3b067_47 : decode cJ2_getChar_3b067 47 = .ok (.iload_n 1, 1) := by decide +kernel
theorem dJ2_getChar_3b067_48 : decode cJ2_getChar_3b067 48 = .ok (.baload, 1) := by decide +kernel
theorem dJ2_getChar_3b067_49 : decode cJ2_getChar_3b067 49 = .ok (.sipush 255, 3) := by decide +kernel
theorem dJ2_getChar_3b067_52 : decode cJ2_getChar_3b067 52 = .ok (.iand, 1) := by decide +kernel
theorem dJ2_getChar_3b067_53 : decode cJ2_getChar_3b067 53 = .ok (.getstatic 63, 3) := by decide +kernel
theorem dJ2_getChar_3b067_56 : decode cJ2_getChar_3b067 56 = .ok (.ishl, 1) := by decide +kernel
theorem dJ2_getChar_3b067_57 : decode cJ2_getChar_3b067 57 = .ok (.ior, 1) := by decide +kernel
theorem dJ2_getChar_3b067_58 : decode cJ2_getChar_3b067 58 = .ok (.i2c, 1) := by decide +kernel
theorem dJ2_getChar_3b067_59 : decode cJ2_getChar_3b067 59 = .ok (.ireturn, 1) := by decide +kernel
theorem dJ2_length_9d52b_0 : decode cJ2_length_9d52b 0 = .ok (.aload_n 0, 1) := by decide +kernel
theorem dJ2_length_9d52b_1 : decode cJ2_length_9d52b 1 = .ok (.arraylength, 1) := by decide +kernel
theorem dJ2_length_9d52b_2 : decode cJ2_length_9d52b 2 = .ok (.iconst 1, 1) := by decide +kernel
theorem dJ2_length_9d52b_3 : decode cJ2_length_9d52b 3 = .ok (.ishr, 1) := by decide +kernel
theorem dJ2_length_9d52b_4 : decode cJ2_length_9d52b 4 = .ok (.ireturn, 1) := by decide +kernel
theorem dJ2_charAt_3b067_0 : decode cJ2_charAt_3b067 0 = .ok (.iload_n 1, 1) := by decide +kernel
theorem dJ2_charAt_3b067_1 : decode cJ2_charAt_3b067 1 = .ok (.aload_n 0, 1) := by decide +kernel
theorem dJ2_charAt_3b067_2 : decode cJ2_charAt_3b067 2 = .ok (.invokestatic 67, 3) := by decide +kernel
theorem dJ2_charAt_3b067_5 : decode cJ2_charAt_3b067 5 = .ok (.aload_n 0, 1) := by decide +kernel
theorem dJ2_charAt_3b067_6 : decode cJ2_charAt_3b067 6 = .ok (.iload_n 1, 1) := by decide +kernel
theorem dJ2_charAt_3b067_7 : decode cJ2_charAt_3b067 7 = .ok (.invokestatic 71, 3) := by decide +kernel
theorem dJ2_charAt_3b067_10 : decode cJ2_charAt_3b067 10 = .ok (.ireturn, 1) := by decide +kernel
theorem dJ2_checkIndex_2214a_0 : decode cJ2_checkIndex_2214a 0 = .ok (.iload_n 0, 1) := by decide +kernel
theorem dJ2_checkIndex_2214a_1 : decode cJ2_checkIndex_2214a 1 = .ok (.aload_n 1, 1) := by decide +kernel
theorem dJ2_checkIndex_2214a_2 : decode cJ2_checkIndex_2214a 2 = .ok (.invokestatic 48, 3) := by decide +kernel
theorem dJ2_checkIndex_2214a_5 : decode cJ2_checkIndex_2214a 5 = .ok (.invokestatic 414, 3) := by decide +kernel
theorem dJ2_checkIndex_2214a_8 : decode cJ2_checkIndex_2214a 8 = .ok (.return_, 1) := by decide +kernel
theorem dJ3_checkIndex_8e157_0 : decode cJ3_checkIndex_8e157 0 = .ok (.iload_n 0, 1) := by decide +kernel
theorem dJ3_checkIndex_8e157_1 : decode cJ3_checkIndex_8e157 1 = .ok (.ifCond .lt 8, 3) := by decide +kernel
theorem dJ3_checkIndex_8e157_4 : decode cJ3_checkIndex_8e157 4 = .ok (.iload_n 0, 1) := by decide +kernel
theorem dJ3_checkIndex_8e157_5 : decode cJ3_checkIndex_8e157 5 = .ok (.iload_n 1, 1) := by decide +kernel
theorem dJ3_checkIndex_8e157_6 : decode cJ3_checkIndex_8e157 6 = .ok (.if_icmp .lt 10, 3) := by decide +kernel
theorem dJ3_checkIndex_8e157_9 : decode cJ3_checkIndex_8e157 9 = .ok (.aload_n 2, 1) := by decide +kernel
theorem dJ3_checkIndex_8e157_10 : decode cJ3_checkIndex_8e157 10 = .ok (.iload_n 0, 1) := by decide +kernel
theorem dJ3_checkIndex_8e157_11 : decode cJ3_checkIndex_8e157 11 = .ok (.iload_n 1, 1) := by decide +kernel
theorem dJ3_checkIndex_8e157_12 : decode cJ3_checkIndex_8e157 12 = .ok (.invokestatic 95, 3) := by decide +kernel
theorem dJ3_checkIndex_8e157_15 : decode cJ3_checkIndex_8e157 15 = .ok (.athrow, 1) := by decide +kernel
theorem dJ3_checkIndex_8e157_16 : decode cJ3_checkIndex_8e157 16 = .ok (.iload_n 0, 1) := by decide +kernel
theorem dJ3_checkIndex_8e157_17 : decode cJ3_checkIndex_8e157 17 = .ok (.ireturn, 1) := by decide +kernel
theorem dJ7_fill_53178_0 : decode cJ7_fill_53178 0 = .ok (.iconst 0, 1) := by decide +kernel
theorem dJ7_fill_53178_1 : decode cJ7_fill_53178 1 = .ok (.istore_n 2, 1) := by decide +kernel
theorem dJ7_fill_53178_2 : decode cJ7_fill_53178 2 = .ok (.aload_n 0, 1) := by decide +kernel
theorem dJ7_fill_53178_3 : decode cJ7_fill_53178 3 = .ok (.arraylength, 1) := by decide +kernel
theorem dJ7_fill_53178_4 : decode cJ7_fill_53178 4 = .ok (.istore_n 3, 1) := by decide +kernel
theorem dJ7_fill_53178_5 : decode cJ7_fill_53178 5 = .ok (.iload_n 2, 1) := by decide +kernel
theorem dJ7_fill_53178_6 : decode cJ7_fill_53178 6 = .ok (.iload_n 3, 1) := by decide +kernel
theorem dJ7_fill_53178_7 : decode cJ7_fill_53178 7 = .ok (.if_icmp .ge 13, 3) := by decide +kernel
theorem dJ7_fill_53178_10 : decode cJ7_fill_53178 10 = .ok (.aload_n 0, 1) := by decide +kernel
theorem dJ7_fill_53178_11 : decode cJ7_fill_53178 11 = .ok (.iload_n 2, 1) := by decide +kernel
theorem dJ7_fill_53178_12 : decode cJ7_fill_53178 12 = .ok (.iload_n 1, 1) := by decide +kernel
theorem dJ7_fill_53178_13 : decode cJ7_fill_53178 13 = .ok (.iastore, 1) := by decide +kernel
theorem dJ7_fill_53178_14 : decode cJ7_fill_53178 14 = .ok (.iinc 2 1, 3) := by decide +kernel
theorem dJ7_fill_53178_17 : decode cJ7_fill_53178 17 = .ok (.goto (-12), 3) := by decide +kernel
theorem dJ7_fill_53178_20 : decode cJ7_fill_53178 20 = .ok (.return_, 1) := by decide +kernel
