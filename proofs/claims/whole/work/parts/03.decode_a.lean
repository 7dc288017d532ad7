theorem dX0_init_0 : decode cX0_init 0 = .ok (.aload_n 0, 1) := by decide +kernel
theorem dX0_init_1 : decode cX0_init 1 = .ok (.invokespecial 3, 3) := by decide +kernel
theorem dX0_init_4 : decode cX0_init 4 = .ok (.aload_n 0, 1) := by decide +kernel
theorem dX0_init_5 : decode cX0_init 5 = .ok (.bipush 60, 2) := by decide +kernel
theorem dX0_init_7 : decode cX0_init 7 = .ok (.newarray .int, 2) := by decide +kernel
theorem dX0_init_9 : decode cX0_init 9 = .ok (.putfield 9, 3) := by decide +kernel
theorem dX0_init_12 : decode cX0_init 12 = .ok (.aload_n 0, 1) := by decide +kernel
theorem dX0_init_13 : decode cX0_init 13 = .ok (.iconst 4, 1) := by decide +kernel
theorem dX0_init_14 : decode cX0_init 14 = .ok (.newarray .int, 2) := by decide +kernel
theorem dX0_init_16 : decode cX0_init 16 = .ok (.putfield 15, 3) := by decide +kernel
theorem dX0_init_19 : decode cX0_init 19 = .ok (.aload_n 0, 1) := by decide +kernel
theorem dX0_init_20 : decode cX0_init 20 = .ok (.iconst 0, 1) := by decide +kernel
theorem dX0_init_21 : decode cX0_init 21 = .ok (.putfield 18, 3) := by decide +kernel
theorem dX0_init_24 : decode cX0_init 24 = .ok (.aload_n 0, 1) := by decide +kernel
theorem dX0_init_25 : decode cX0_init 25 = .ok (.iload_n 1, 1) := by decide +kernel
theorem dX0_init_26 : decode cX0_init 26 = .ok (.putfield 22, 3) := by decide +kernel
theorem dX0_init_29 : decode cX0_init 29 = .ok (.aload_n 0, 1) := by decide +kernel
theorem dX0_init_30 : decode cX0_init 30 = .ok (.iload_n 2, 1) := by decide +kernel
theorem dX0_init_31 : decode cX0_init 31 = .ok (.putfield 25, 3) := by decide +kernel
theorem dX0_init_34 : decode cX0_init 34 = .ok (.aload_n 0, 1) := by decide +kernel
theorem dX0_init_35 : decode cX0_init 35 = .ok (.aload_n 3, 1) := by decide +kernel
theorem dX0_init_36 : decode cX0_init 36 = .ok (.putfield 28, 3) := by decide +kernel
theorem dX0_init_39 : decode cX0_init 39 = .ok (.aload_n 0, 1) := by decide +kernel
theorem dX0_init_40 : decode cX0_init 40 = .ok (.iload 4, 2) := by decide +kernel
theorem dX0_init_42 : decode cX0_init 42 = .ok (.putfield 32, 3) := by decide +kernel
theorem dX0_init_45 : decode cX0_init 45 = .ok (.aload_n 0, 1) := by decide +kernel
theorem dX0_init_46 : decode cX0_init 46 = .ok (.iload 5, 2) := by decide +kernel
theorem dX0_init_48 : decode cX0_init 48 = .ok (.putfield 35, 3) := by decide +kernel
theorem dX0_init_51 : decode cX0_init 51 = .ok (.return_, 1) := by decide +kernel
theorem dX0_hasItem_0 : decode cX0_hasItem 0 = .ok (.iload_n 1, 1) := by decide +kernel
theorem dX0_hasItem_1 : decode cX0_hasItem 1 = .ok (.ifCond .lt 15, 3) := by decide +kernel
theorem dX0_hasItem_4 : decode cX0_hasItem 4 = .ok (.iload_n 1, 1) := by decide +kernel
theorem dX0_hasItem_5 : decode cX0_hasItem 5 = .ok (.aload_n 0, 1) := by decide +kernel
theorem dX0_hasItem_6 : decode cX0_hasItem 6 = .ok (.getfield 38, 3) := by decide +kernel
theorem dX0_hasItem_9 : decode cX0_hasItem 9 = .ok (.if_icmp .ge 7, 3) := by decide +kernel
theorem dX0_hasItem_12 : decode cX0_hasItem 12 = .ok (.iconst 1, 1) := by decide +kernel
theorem dX0_hasItem_13 : decode cX0_hasItem 13 = .ok (.goto 4, 3) := by decide +kernel
theorem dX0_hasItem_16 : decode cX0_hasItem 16 = .ok (.iconst 0, 1) := by decide +kernel
theorem dX0_hasItem_17 : decode cX0_hasItem 17 = .ok (.ireturn, 1) := by decide +kernel
theorem dX0_defects_0 : decode cX0_defects 0 = .ok (.aload_n 0, 1) := by decide +kernel
theorem dX0_defects_1 : decode cX0_defects 1 = .ok (.getfield 15, 3) := by decide +kernel
theorem dX0_defects_4 : decode cX0_defects 4 = .ok (.iconst 2, 1) := by decide +kernel
theorem dX0_defects_5 : decode cX0_defects 5 = .ok (.iaload, 1) := by decide +kernel
theorem dX0_defects_6 : decode cX0_defects 6 = .ok (.aload_n 0, 1) := by decide +kernel
theorem dX0_defects_7 : decode cX0_defects 7 = .ok (.getfield 15, 3) := by decide +kernel
theorem dX0_defects_10 : decode cX0_defects 10 = .ok (.iconst 3, 1) := by decide +kernel
theorem dX0_defects_11 : decode cX0_defects 11 = .ok (.iaload, 1) := by decide +kernel
theorem dX0_defects_12 : decode cX0_defects 12 = .ok (.iadd, 1) := by decide +kernel
theorem dX0_defects_13 : decode cX0_defects 13 = .ok (.aload_n 0, 1) := by decide +kernel
theorem dX0_defects_14 : decode cX0_defects 14 = .ok (.getfield 15, 3) := by decide +kernel
theorem dX0_defects_17 : decode cX0_defects 17 = .ok (.iconst 1, 1) := by decide +kernel
theorem dX0_defects_18 : decode cX0_defects 18 = .ok (.iaload, 1) := by decide +kernel
theorem dX0_defects_19 : decode cX0_defects 19 = .ok (.iconst 3, 1) := by decide +kernel
theorem dX0_defects_20 : decode cX0_defects 20 = .ok (.idiv, 1) := by decide +kernel
theorem dX0_defects_21 : decode cX0_defects 21 = .ok (.iadd, 1) := by decide +kernel
theorem dX0_defects_22 : decode cX0_defects 22 = .ok (.ireturn, 1) := by decide +kernel
theorem dX0_see_0 : decode cX0_see 0 = .ok (.aload_n 0, 1) := by decide +kernel
theorem dX0_see_1 : decode cX0_see 1 = .ok (.getfield 18, 3) := by decide +kernel
theorem dX0_see_4 : decode cX0_see 4 = .ok (.ifCond .ne 19, 3) := by decide +kernel
theorem dX0_see_7 : decode cX0_see 7 = .ok (.aload_n 0, 1) := by decide +kernel
theorem dX0_see_8 : decode cX0_see 8 = .ok (.getfield 38, 3) := by decide +kernel
theorem dX0_see_11 : decode cX0_see 11 = .ok (.bipush 60, 2) := by decide +kernel
theorem dX0_see_13 : decode cX0_see 13 = .ok (.if_icmp .ge 10, 3) := by decide +kernel
theorem dX0_see_16 : decode cX0_see 16 = .ok (.iload_n 1, 1) := by decide +kernel
theorem dX0_see_17 : decode cX0_see 17 = .ok (.invokestatic 41, 3) := by decide +kernel
theorem dX0_see_20 : decode cX0_see 20 = .ok (.ifCond .ne 4, 3) := by decide +kernel
theorem dX0_see_23 : decode cX0_see 23 = .ok (.return_, 1) := by decide +kernel
theorem dX0_see_24 : decode cX0_see 24 = .ok (.aload_n 0, 1) := by decide +kernel
theorem dX0_see_25 : decode cX0_see 25 = .ok (.getfield 9, 3) := by decide +kernel
theorem dX0_see_28 : decode cX0_see 28 = .ok (.aload_n 0, 1) := by decide +kernel
theorem dX0_see_29 : decode cX0_see 29 = .ok (.getfield 38, 3) := by decide +kernel
theorem dX0_see_32 : decode cX0_see 32 = .ok (.iload_n 1, 1) := by decide +kernel
theorem dX0_see_33 : decode cX0_see 33 = .ok (.iastore, 1) := by decide +kernel
theorem dX0_see_34 : decode cX0_see 34 = .ok (.aload_n 0, 1) := by decide +kernel
theorem dX0_see_35 : decode cX0_see 35 = .ok (.dup, 1) := by decide +kernel
theorem dX0_see_36 : decode cX0_see 36 = .ok (.getfield 38, 3) := by decide +kernel
theorem dX0_see_39 : decode cX0_see 39 = .ok (.iconst 1, 1) := by decide +kernel
theorem dX0_see_40 : decode cX0_see 40 = .ok (.iadd, 1) := by decide +kernel
theorem dX0_see_41 : decode cX0_see 41 = .ok (.putfield 38, 3) := by decide +kernel
theorem dX0_see_44 : decode cX0_see 44 = .ok (.aload_n 0, 1) := by decide +kernel
theorem dX0_see_45 : decode cX0_see 45 = .ok (.getfield 15, 3) := by decide +kernel
theorem dX0_see_48 : decode cX0_see 48 = .ok (.iload_n 1, 1) := by decide +kernel
theorem dX0_see_49 : decode cX0_see 49 = .ok (.dup2, 1) := by decide +kernel
theorem dX0_see_50 : decode cX0_see 50 = .ok (.iaload, 1) := by decide +kernel
theorem dX0_see_51 : decode cX0_see 51 = .ok (.iconst 1, 1) := by decide +kernel
theorem dX0_see_52 : decode cX0_see 52 = .ok (.iadd, 1) := by decide +kernel
theorem dX0_see_53 : decode cX0_see 53 = .ok (.iastore, 1) := by decide +kernel
theorem dX0_see_54 : decode cX0_see 54 = .ok (.aload_n 0, 1) := by decide +kernel
theorem dX0_see_55 : decode cX0_see 55 = .ok (.invokevirtual 45, 3) := by decide +kernel
theorem dX0_see_58 : decode cX0_see 58 = .ok (.istore_n 2, 1) := by decide +kernel
theorem dX0_see_59 : decode cX0_see 59 = .ok (.iload_n 1, 1) := by decide +kernel
theorem dX0_see_60 : decode cX0_see 60 = .ok (.iconst 3, 1) := by decide +kernel
theorem dX0_see_61 : decode cX0_see 61 = .ok (.if_icmp .eq 18, 3) := by decide +kernel
theorem dX0_see_64 : decode cX0_see 64 = .ok (.aload_n 0, 1) := by decide +kernel
theorem dX0_see_65 : decode cX0_see 65 = .ok (.getfield 28, 3) := by decide +kernel
theorem dX0_see_68 : decode cX0_see 68 = .ok (.aload_n 0, 1) := by decide +kernel
theorem dX0_see_69 : decode cX0_see 69 = .ok (.getfield 49, 3) := by decide +kernel
theorem dX0_see_72 : decode cX0_see 72 = .ok (.iload_n 2, 1) := by decide +kernel
theorem dX0_see_73 : decode cX0_see 73 = .ok (.invokevirtual 52, 3) := by decide +kernel
theorem dX0_see_76 : decode cX0_see 76 = .ok (.ifCond .eq 11, 3) := by decide +kernel
theorem dX0_see_79 : decode cX0_see 79 = .ok (.aload_n 0, 1) := by decide +kernel
theorem dX0_see_80 : decode cX0_see 80 = .ok (.iconst 2, 1) := by decide +kernel
theorem dX0_see_81 : decode cX0_see 81 = .ok (.putfield 18, 3) := by decide +kernel
theorem dX0_see_84 : decode cX0_see 84 = .ok (.goto 54, 3) := by decide +kernel
theorem dX0_see_87 : decode cX0_see 87 = .ok (.aload_n 0, 1) := by decide +kernel
theorem dX0_see_88 : decode cX0_see 88 = .ok (.getfield 28, 3) := by decide +kernel
theorem dX0_see_91 : decode cX0_see 91 = .ok (.aload_n 0, 1) := by decide +kernel
theorem dX0_see_92 : decode cX0_see 92 = .ok (.getfield 49, 3) := by decide +kernel
theorem dX0_see_95 : decode cX0_see 95 = .ok (.aload_n 0, 1) := by decide +kernel
theorem dX0_see_96 : decode cX0_see 96 = .ok (.getfield 38, 3) := by decide +kernel
theorem dX0_see_99 : decode cX0_see 99 = .ok (.invokevirtual 58, 3) := by decide +kernel
theorem dX0_see_102 : decode cX0_see 102 = .ok (.ifCond .eq 36, 3) := by decide +kernel
theorem dX0_see_105 : decode cX0_see 105 = .ok (.aload_n 0, 1) := by decide +kernel
theorem dX0_see_106 : decode cX0_see 106 = .ok (.getfield 28, 3) := by decide +kernel
theorem dX0_see_109 : decode cX0_see 109 = .ok (.aload_n 0, 1) := by decide +kernel
theorem dX0_see_110 : decode cX0_see 110 = .ok (.getfield 49, 3) := by decide +kernel
theorem dX0_see_113 : decode cX0_see 113 = .ok (.iload_n 2, 1) := by decide +kernel
theorem dX0_see_114 : decode cX0_see 114 = .ok (.invokevirtual 61, 3) := by decide +kernel
theorem dX0_see_117 : decode cX0_see 117 = .ok (.ifCond .eq 11, 3) := by decide +kernel
theorem dX0_see_120 : decode cX0_see 120 = .ok (.aload_n 0, 1) := by decide +kernel
theorem dX0_see_121 : decode cX0_see 121 = .ok (.iconst 1, 1) := by decide +kernel
theorem dX0_see_122 : decode cX0_see 122 = .ok (.putfield 18, 3) := by decide +kernel
theorem dX0_see_125 : decode cX0_see 125 = .ok (.goto 13, 3) := by decide +kernel
theorem dX0_see_128 : decode cX0_see 128 = .ok (.aload_n 0, 1) := by decide +kernel
theorem dX0_see_129 : decode cX0_see 129 = .ok (.dup, 1) := by decide +kernel
theorem dX0_see_130 : decode cX0_see 130 = .ok (.getfield 49, 3) := by decide +kernel
theorem dX0_see_133 : decode cX0_see 133 = .ok (.iconst 1, 1) := by decide +kernel
theorem dX0_see_134 : decode cX0_see 134 = .ok (.iadd, 1) := by decide +kernel
theorem dX0_see_135 : decode cX0_see 135 = .ok (.putfield 49, 3) := by decide +kernel
theorem dX0_see_138 : decode cX0_see 138 = .ok (.return_, 1) := by decide +kernel
theorem dX0_seeAgain_0 : decode cX0_seeAgain 0 = .ok (.aload_n 0, 1) := by decide +kernel
theorem dX0_seeAgain_1 : decode cX0_seeAgain 1 = .ok (.iconst 0, 1) := by decide +kernel
theorem dX0_seeAgain_2 : decode cX0_seeAgain 2 = .ok (.putfield 38, 3) := by decide +kernel
theorem dX0_seeAgain_5 : decode cX0_seeAgain 5 = .ok (.aload_n 0, 1) := by decide +kernel
theorem dX0_seeAgain_6 : decode cX0_seeAgain 6 = .ok (.iconst 0, 1) := by decide +kernel
theorem dX0_seeAgain_7 : decode cX0_seeAgain 7 = .ok (.putfield 49, 3) := by decide +kernel
theorem dX0_seeAgain_10 : decode cX0_seeAgain 10 = .ok (.aload_n 0, 1) := by decide +kernel
theorem dX0_seeAgain_11 : decode cX0_seeAgain 11 = .ok (.iconst 0, 1) := by decide +kernel
theorem dX0_seeAgain_12 : decode cX0_seeAgain 12 = .ok (.putfield 18, 3) := by decide +kernel
theorem dX0_seeAgain_15 : decode cX0_seeAgain 15 = .ok (.iconst 0, 1) := by decide +kernel
theorem dX0_seeAgain_16 : decode cX0_seeAgain 16 = .ok (.istore_n 2, 1) := by decide +kernel
theorem dX0_seeAgain_17 : decode cX0_seeAgain 17 = .ok (.iload_n 2, 1) := by decide +kernel
theorem dX0_seeAgain_18 : decode cX0_seeAgain 18 = .ok (.iconst 4, 1) := by decide +kernel
theorem dX0_seeAgain_19 : decode cX0_seeAgain 19 = .ok (.if_icmp .ge 16, 3) := by decide +kernel
theorem dX0_seeAgain_22 : decode cX0_seeAgain 22 = .ok (.aload_n 0, 1) := by decide +kernel
theorem dX0_seeAgain_23 : decode cX0_seeAgain 23 = .ok (.getfield 15, 3) := by decide +kernel
theorem dX0_seeAgain_26 : decode cX0_seeAgain 26 = .ok (.iload_n 2, 1) := by decide +kernel
theorem dX0_seeAgain_27 : decode cX0_seeAgain 27 = .ok (.iconst 0, 1) := by decide +kernel
theorem dX0_seeAgain_28 : decode cX0_seeAgain 28 = .ok (.iastore, 1) := by decide +kernel
theorem dX0_seeAgain_29 : decode cX0_seeAgain 29 = .ok (.iinc 2 1, 3) := by decide +kernel
theorem dX0_seeAgain_32 : decode cX0_seeAgain 32 = .ok (.goto (-15), 3) := by decide +kernel
theorem dX0_seeAgain_35 : decode cX0_seeAgain 35 = .ok (.iconst 0, 1) := by decide +kernel
theorem dX0_seeAgain_36 : decode cX0_seeAgain 36 = .ok (.istore_n 2, 1) := by decide +kernel
theorem dX0_seeAgain_37 : decode cX0_seeAgain 37 = .ok (.iload_n 2, 1) := by decide +kernel
theorem dX0_seeAgain_38 : decode cX0_seeAgain 38 = .ok (.iload_n 1, 1) := by decide +kernel
theorem dX0_seeAgain_39 : decode cX0_seeAgain 39 = .ok (.if_icmp .ge 25, 3) := by decide +kernel
theorem dX0_seeAgain_42 : decode cX0_seeAgain 42 = .ok (.iload_n 2, 1) := by decide +kernel
theorem dX0_seeAgain_43 : decode cX0_seeAgain 43 = .ok (.bipush 60, 2) := by decide +kernel
theorem dX0_seeAgain_45 : decode cX0_seeAgain 45 = .ok (.if_icmp .ge 19, 3) := by decide +kernel
theorem dX0_seeAgain_48 : decode cX0_seeAgain 48 = .ok (.aload_n 0, 1) := by decide +kernel
theorem dX0_seeAgain_49 : decode cX0_seeAgain 49 = .ok (.aload_n 0, 1) := by decide +kernel
theorem dX0_seeAgain_50 : decode cX0_seeAgain 50 = .ok (.getfield 9, 3) := by decide +kernel
theorem dX0_seeAgain_53 : decode cX0_seeAgain 53 = .ok (.iload_n 2, 1) := by decide +kernel
theorem dX0_seeAgain_54 : decode cX0_seeAgain 54 = .ok (.iaload, 1) := by decide +kernel
theorem dX0_seeAgain_55 : decode cX0_seeAgain 55 = .ok (.invokevirtual 64, 3) := by decide +kernel
theorem dX0_seeAgain_58 : decode cX0_seeAgain 58 = .ok (.iinc 2 1, 3) := by decide +kernel
theorem dX0_seeAgain_61 : decode cX0_seeAgain 61 = .ok (.goto (-24), 3) := by decide +kernel
theorem dX0_seeAgain_64 : decode cX0_seeAgain 64 = .ok (.return_, 1) := by decide +kernel
theorem dX0_leastFurther_0 : decode cX0_leastFurther 0 = .ok (.aload_n 0, 1) := by decide +kernel
theorem dX0_leastFurther_1 : decode cX0_leastFurther 1 = .ok (.getfield 18, 3) := by decide +kernel
theorem dX0_leastFurther_4 : decode cX0_leastFurther 4 = .ok (.ifCond .eq 5, 3) := by decide +kernel
theorem dX0_leastFurther_7 : decode cX0_leastFurther 7 = .ok (.iconst 0, 1) := by decide +kernel
theorem dX0_leastFurther_8 : decode cX0_leastFurther 8 = .ok (.ireturn, 1) := by decide +kernel
theorem dX0_leastFurther_9 : decode cX0_leastFurther 9 = .ok (.aload_n 0, 1) := by decide +kernel
theorem dX0_leastFurther_10 : decode cX0_leastFurther 10 = .ok (.invokevirtual 45, 3) := by decide +kernel
theorem dX0_leastFurther_13 : decode cX0_leastFurther 13 = .ok (.istore_n 1, 1) := by decide +kernel
theorem dX0_leastFurther_14 : decode cX0_leastFurther 14 = .ok (.aload_n 0, 1) := by decide +kernel
theorem dX0_leastFurther_15 : decode cX0_leastFurther 15 = .ok (.getfield 49, 3) := by decide +kernel
theorem dX0_leastFurther_18 : decode cX0_leastFurther 18 = .ok (.istore_n 2, 1) := by decide +kernel
theorem dX0_leastFurther_19 : decode cX0_leastFurther 19 = .ok (.iconst 1, 1) := by decide +kernel
theorem dX0_leastFurther_20 : decode cX0_leastFurther 20 = .ok (.istore_n 3, 1) := by decide +kernel
theorem dX0_leastFurther_21 : decode cX0_leastFurther 21 = .ok (.aload_n 0, 1) := by decide +kernel
theorem dX0_leastFurther_22 : decode cX0_leastFurther 22 = .ok (.getfield 38, 3) := by decide +kernel
theorem dX0_leastFurther_25 : decode cX0_leastFurther 25 = .ok (.iload_n 3, 1) := by decide +kernel
theorem dX0_leastFurther_26 : decode cX0_leastFurther 26 = .ok (.iadd, 1) := by decide +kernel
theorem dX0_leastFurther_27 : decode cX0_leastFurther 27 = .ok (.aload_n 0, 1) := by decide +kernel
theorem dX0_leastFurther_28 : decode cX0_leastFurther 28 = .ok (.getfield 28, 3) := by decide +kernel
theorem dX0_leastFurther_31 : decode cX0_leastFurther 31 = .ok (.invokevirtual 68, 3) := by decide +kernel
theorem dX0_leastFurther_34 : decode cX0_leastFurther 34 = .ok (.if_icmp .ge 66, 3) := by decide +kernel
theorem dX0_leastFurther_37 : decode cX0_leastFurther 37 = .ok (.aload_n 0, 1) := by decide +kernel
theorem dX0_leastFurther_38 : decode cX0_leastFurther 38 = .ok (.getfield 28, 3) := by decide +kernel
theorem dX0_leastFurther_41 : decode cX0_leastFurther 41 = .ok (.iload_n 2, 1) := by decide +kernel
theorem dX0_leastFurther_42 : decode cX0_leastFurther 42 = .ok (.aload_n 0, 1) := by decide +kernel
theorem dX0_leastFurther_43 : decode cX0_leastFurther 43 = .ok (.getfield 38, 3) := by decide +kernel
theorem dX0_leastFurther_46 : decode cX0_leastFurther 46 = .ok (.iload_n 3, 1) := by decide +kernel
theorem dX0_leastFurther_47 : decode cX0_leastFurther 47 = .ok (.iadd, 1) := by decide +kernel
theorem dX0_leastFurther_48 : decode cX0_leastFurther 48 = .ok (.invokevirtual 58, 3) := by decide +kernel
theorem dX0_leastFurther_51 : decode cX0_leastFurther 51 = .ok (.istore 4, 2) := by decide +kernel
theorem dX0_leastFurther_53 : decode cX0_leastFurther 53 = .ok (.aload_n 0, 1) := by decide +kernel
theorem dX0_leastFurther_54 : decode cX0_leastFurther 54 = .ok (.getfield 28, 3) := by decide +kernel
theorem dX0_leastFurther_57 : decode cX0_leastFurther 57 = .ok (.iload_n 2, 1) := by decide +kernel
theorem dX0_leastFurther_58 : decode cX0_leastFurther 58 = .ok (.iload_n 1, 1) := by decide +kernel
theorem dX0_leastFurther_59 : decode cX0_leastFurther 59 = .ok (.iload_n 3, 1) := by decide +kernel
theorem dX0_leastFurther_60 : decode cX0_leastFurther 60 = .ok (.iadd, 1) := by decide +kernel
theorem dX0_leastFurther_61 : decode cX0_leastFurther 61 = .ok (.invokevirtual 52, 3) := by decide +kernel
theorem dX0_leastFurther_64 : decode cX0_leastFurther 64 = .ok (.ifCond .ne 20, 3) := by decide +kernel
theorem dX0_leastFurther_67 : decode cX0_leastFurther 67 = .ok (.iload 4, 2) := by decide +kernel
theorem dX0_leastFurther_69 : decode cX0_leastFurther 69 = .ok (.ifCond .eq 17, 3) := by decide +kernel
theorem dX0_leastFurther_72 : decode cX0_leastFurther 72 = .ok (.aload_n 0, 1) := by decide +kernel
theorem dX0_leastFurther_73 : decode cX0_leastFurther 73 = .ok (.getfield 28, 3) := by decide +kernel
theorem dX0_leastFurther_76 : decode cX0_leastFurther 76 = .ok (.iload_n 2, 1) := by decide +kernel
theorem dX0_leastFurther_77 : decode cX0_leastFurther 77 = .ok (.iload_n 1, 1) := by decide +kernel
theorem dX0_leastFurther_78 : decode cX0_leastFurther 78 = .ok (.invokevirtual 61, 3) := by decide +kernel
theorem dX0_leastFurther_81 : decode cX0_leastFurther 81 = .ok (.ifCond .eq 5, 3) := by decide +kernel
theorem dX0_leastFurther_84 : decode cX0_leastFurther 84 = .ok (.iload_n 3, 1) := by decide +kernel
theorem dX0_leastFurther_85 : decode cX0_leastFurther 85 = .ok (.ireturn, 1) := by decide +kernel
theorem dX0_leastFurther_86 : decode cX0_leastFurther 86 = .ok (.iload 4, 2) := by decide +kernel
theorem dX0_leastFurther_88 : decode cX0_leastFurther 88 = .ok (.ifCond .eq 6, 3) := by decide +kernel
theorem dX0_leastFurther_91 : decode cX0_leastFurther 91 = .ok (.iinc 2 1, 3) := by decide +kernel
theorem dX0_leastFurther_94 : decode cX0_leastFurther 94 = .ok (.iinc 3 1, 3) := by decide +kernel
theorem dX0_leastFurther_97 : decode cX0_leastFurther 97 = .ok (.goto (-76), 3) := by decide +kernel
theorem dX0_leastFurther_100 : decode cX0_leastFurther 100 = .ok (.aload_n 0, 1) := by decide +kernel
theorem dX0_leastFurther_101 : decode cX0_leastFurther 101 = .ok (.getfield 28, 3) := by decide +kernel
theorem dX0_leastFurther_104 : decode cX0_leastFurther 104 = .ok (.invokevirtual 68, 3) := by decide +kernel
theorem dX0_leastFurther_107 : decode cX0_leastFurther 107 = .ok (.aload_n 0, 1) := by decide +kernel
theorem dX0_leastFurther_108 : decode cX0_leastFurther 108 = .ok (.getfield 38, 3) := by decide +kernel
theorem dX0_leastFurther_111 : decode cX0_leastFurther 111 = .ok (.isub, 1) := by decide +kernel
theorem dX0_leastFurther_112 : decode cX0_leastFurther 112 = .ok (.ireturn, 1) := by decide +kernel
theorem dX0_cents_0 : decode cX0_cents 0 = .ok (.lconst 0, 1) := by decide +kernel
theorem dX0_cents_1 : decode cX0_cents 1 = .ok (.lstore_n 2, 1) := by decide +kernel
theorem dX0_cents_2 : decode cX0_cents 2 = .ok (.iconst 0, 1) := by decide +kernel
theorem dX0_cents_3 : decode cX0_cents 3 = .ok (.istore 4, 2) := by decide +kernel
theorem dX0_cents_5 : decode cX0_cents 5 = .ok (.iload 4, 2) := by decide +kernel
theorem dX0_cents_7 : decode cX0_cents 7 = .ok (.iconst 4, 1) := by decide +kernel
theorem dX0_cents_8 : decode cX0_cents 8 = .ok (.if_icmp .ge 33, 3) := by decide +kernel
theorem dX0_cents_11 : decode cX0_cents 11 = .ok (.iload 4, 2) := by decide +kernel
theorem dX0_cents_13 : decode cX0_cents 13 = .ok (.aload_n 1, 1) := by decide +kernel
theorem dX0_cents_14 : decode cX0_cents 14 = .ok (.arraylength, 1) := by decide +kernel
theorem dX0_cents_15 : decode cX0_cents 15 = .ok (.if_icmp .ge 26, 3) := by decide +kernel
theorem dX0_cents_18 : decode cX0_cents 18 = .ok (.lload_n 2, 1) := by decide +kernel
theorem dX0_cents_19 : decode cX0_cents 19 = .ok (.aload_n 0, 1) := by decide +kernel
theorem dX0_cents_20 : decode cX0_cents 20 = .ok (.getfield 15, 3) := by decide +kernel
theorem dX0_cents_23 : decode cX0_cents 23 = .ok (.iload 4, 2) := by decide +kernel
theorem dX0_cents_25 : decode cX0_cents 25 = .ok (.iaload, 1) := by decide +kernel
theorem dX0_cents_26 : decode cX0_cents 26 = .ok (.i2l, 1) := by decide +kernel
theorem dX0_cents_27 : decode cX0_cents 27 = .ok (.aload_n 1, 1) := by decide +kernel
theorem dX0_cents_28 : decode cX0_cents 28 = .ok (.iload 4, 2) := by decide +kernel
theorem dX0_cents_30 : decode cX0_cents 30 = .ok (.iaload, 1) := by decide +kernel
theorem dX0_cents_31 : decode cX0_cents 31 = .ok (.i2l, 1) := by decide +kernel
theorem dX0_cents_32 : decode cX0_cents 32 = .ok (.lmul, 1) := by decide +kernel
theorem dX0_cents_33 : decode cX0_cents 33 = .ok (.ladd, 1) := by decide +kernel
theorem dX0_cents_34 : decode cX0_cents 34 = .ok (.lstore_n 2, 1) := by decide +kernel
theorem dX0_cents_35 : decode cX0_cents 35 = .ok (.iinc 4 1, 3) := by decide +kernel
theorem dX0_cents_38 : decode cX0_cents 38 = .ok (.goto (-33), 3) := by decide +kernel
theorem dX0_cents_41 : decode cX0_cents 41 = .ok (.lload_n 2, 1) := by decide +kernel
theorem dX0_cents_42 : decode cX0_cents 42 = .ok (.lreturn, 1) := by decide +kernel
theorem dX1_init_0 : decode cX1_init 0 = .ok (.aload_n 0, 1) := by decide +kernel
theorem dX1_init_1 : decode cX1_init 1 = .ok (.invokespecial 3, 3) := by decide +kernel
theorem dX1_init_4 : decode cX1_init 4 = .ok (.aload_n 0, 1) := by decide +kernel
theorem dX1_init_5 : decode cX1_init 5 = .ok (.lconst 0, 1) := by decide +kernel
theorem dX1_init_6 : decode cX1_init 6 = .ok (.putfield 9, 3) := by decide +kernel
theorem dX1_init_9 : decode cX1_init 9 = .ok (.aload_n 0, 1) := by decide +kernel
theorem dX1_init_10 : decode cX1_init 10 = .ok (.lconst 1, 1) := by decide +kernel
theorem dX1_init_11 : decode cX1_init 11 = .ok (.putfield 15, 3) := by decide +kernel
theorem dX1_init_14 : decode cX1_init 14 = .ok (.return_, 1) := by decide +kernel
theorem dX1_become_0 : decode cX1_become 0 = .ok (.lload_n 1, 1) := by decide +kernel
theorem dX1_become_1 : decode cX1_become 1 = .ok (.lload_n 3, 1) := by decide +kernel
theorem dX1_become_2 : decode cX1_become 2 = .ok (.invokestatic 18, 3) := by decide +kernel
theorem dX1_become_5 : decode cX1_become 5 = .ok (.lstore 5, 2) := by decide +kernel
theorem dX1_become_7 : decode cX1_become 7 = .ok (.lload 5, 2) := by decide +kernel
theorem dX1_become_9 : decode cX1_become 9 = .ok (.lconst 0, 1) := by decide +kernel
theorem dX1_become_10 : decode cX1_become 10 = .ok (.lcmp, 1) := by decide +kernel
theorem dX1_become_11 : decode cX1_become 11 = .ok (.ifCond .gt 4, 3) := by decide +kernel
theorem dX1_become_14 : decode cX1_become 14 = .ok (.return_, 1) := by decide +kernel
theorem dX1_become_15 : decode cX1_become 15 = .ok (.aload_n 0, 1) := by decide +kernel
theorem dX1_become_16 : decode cX1_become 16 = .ok (.lload_n 1, 1) := by decide +kernel
theorem dX1_become_17 : decode cX1_become 17 = .ok (.lload 5, 2) := by decide +kernel
theorem dX1_become_19 : decode cX1_become 19 = .ok (.ldiv, 1) := by decide +kernel
theorem dX1_become_20 : decode cX1_become 20 = .ok (.putfield 9, 3) := by decide +kernel
theorem dX1_become_23 : decode cX1_become 23 = .ok (.aload_n 0, 1) := by decide +kernel
theorem dX1_become_24 : decode cX1_become 24 = .ok (.lload_n 3, 1) := by decide +kernel
theorem dX1_become_25 : decode cX1_become 25 = .ok (.lload 5, 2) := by decide +kernel
theorem dX1_become_27 : decode cX1_become 27 = .ok (.ldiv, 1) := by decide +kernel
theorem dX1_become_28 : decode cX1_become 28 = .ok (.putfield 15, 3) := by decide +kernel
theorem dX1_become_31 : decode cX1_become 31 = .ok (.return_, 1) := by decide +kernel
theorem dX1_commonDivisor_0 : decode cX1_commonDivisor 0 = .ok (.lload_n 0, 1) := by decide +kernel
theorem dX1_commonDivisor_1 : decode cX1_commonDivisor 1 = .ok (.lstore 4, 2) := by decide +kernel
theorem dX1_commonDivisor_3 : decode cX1_commonDivisor 3 = .ok (.lload_n 2, 1) := by decide +kernel
theorem dX1_commonDivisor_4 : decode cX1_commonDivisor 4 = .ok (.lstore 6, 2) := by decide +kernel
theorem dX1_commonDivisor_6 : decode cX1_commonDivisor 6 = .ok (.iconst 0, 1) := by decide +kernel
theorem dX1_commonDivisor_7 : decode cX1_commonDivisor 7 = .ok (.istore 8, 2) := by decide +kernel
theorem dX1_commonDivisor_9 : decode cX1_commonDivisor 9 = .ok (.iload 8, 2) := by decide +kernel
theorem dX1_commonDivisor_11 : decode cX1_commonDivisor 11 = .ok (.sipush 200, 3) := by decide +kernel
theorem dX1_commonDivisor_14 : decode cX1_commonDivisor 14 = .ok (.if_icmp .ge 31, 3) := by decide +kernel
theorem dX1_commonDivisor_17 : decode cX1_commonDivisor 17 = .ok (.lload 6, 2) := by decide +kernel
theorem dX1_commonDivisor_19 : decode cX1_commonDivisor 19 = .ok (.lconst 0, 1) := by decide +kernel
theorem dX1_commonDivisor_20 : decode cX1_commonDivisor 20 = .ok (.lcmp, 1) := by decide +kernel
theorem dX1_commonDivisor_21 : decode cX1_commonDivisor 21 = .ok (.ifCond .eq 24, 3) := by decide +kernel
theorem dX1_commonDivisor_24 : decode cX1_commonDivisor 24 = .ok (.lload 4, 2) := by decide +kernel
theorem dX1_commonDivisor_26 : decode cX1_commonDivisor 26 = .ok (.lload 6, 2) := by decide +kernel
theorem dX1_commonDivisor_28 : decode cX1_commonDivisor 28 = .ok (.lrem, 1) := by decide +kernel
theorem dX1_commonDivisor_29 : decode cX1_commonDivisor 29 = .ok (.lstore 9, 2) := by decide +kernel
theorem dX1_commonDivisor_31 : decode cX1_commonDivisor 31 = .ok (.lload 6, 2) := by decide +kernel
theorem dX1_commonDivisor_33 : decode cX1_commonDivisor 33 = .ok (.lstore 4, 2) := by decide +kernel
theorem dX1_commonDivisor_35 : decode cX1_commonDivisor 35 = .ok (.lload 9, 2) := by decide +kernel
theorem dX1_commonDivisor_37 : decode cX1_commonDivisor 37 = .ok (.lstore 6, 2) := by decide +kernel
theorem dX1_commonDivisor_39 : decode cX1_commonDivisor 39 = .ok (.iinc 8 1, 3) := by decide +kernel
theorem dX1_commonDivisor_42 : decode cX1_commonDivisor 42 = .ok (.goto (-33), 3) := by decide +kernel
theorem dX1_commonDivisor_45 : decode cX1_commonDivisor 45 = .ok (.lload 4, 2) := by decide +kernel
theorem dX1_commonDivisor_47 : decode cX1_commonDivisor 47 = .ok (.lreturn, 1) := by decide +kernel
theorem dX1_scaled_0 : decode cX1_scaled 0 = .ok (.aload_n 0, 1) := by decide +kernel
theorem dX1_scaled_1 : decode cX1_scaled 1 = .ok (.getfield 15, 3) := by decide +kernel
theorem dX1_scaled_4 : decode cX1_scaled 4 = .ok (.lconst 0, 1) := by decide +kernel
theorem dX1_scaled_5 : decode cX1_scaled 5 = .ok (.lcmp, 1) := by decide +kernel
theorem dX1_scaled_6 : decode cX1_scaled 6 = .ok (.ifCond .gt 5, 3) := by decide +kernel
theorem dX1_scaled_9 : decode cX1_scaled 9 = .ok (.lconst 0, 1) := by decide +kernel
theorem dX1_scaled_10 : decode cX1_scaled 10 = .ok (.lreturn, 1) := by decide +kernel
theorem dX1_scaled_11 : decode cX1_scaled 11 = .ok (.aload_n 0, 1) := by decide +kernel
theorem dX1_scaled_12 : decode cX1_scaled 12 = .ok (.getfield 9, 3) := by decide +kernel
theorem dX1_scaled_15 : decode cX1_scaled 15 = .ok (.aload_n 0, 1) := by decide +kernel
theorem dX1_scaled_16 : decode cX1_scaled 16 = .ok (.getfield 15, 3) := by decide +kernel
theorem dX1_scaled_19 : decode cX1_scaled 19 = .ok (.ldiv, 1) := by decide +kernel
theorem dX1_scaled_20 : decode cX1_scaled 20 = .ok (.lstore_n 2, 1) := by decide +kernel
theorem dX1_scaled_21 : decode cX1_scaled 21 = .ok (.aload_n 0, 1) := by decide +kernel
theorem dX1_scaled_22 : decode cX1_scaled 22 = .ok (.getfield 9, 3) := by decide +kernel
theorem dX1_scaled_25 : decode cX1_scaled 25 = .ok (.aload_n 0, 1) := by decide +kernel
theorem dX1_scaled_26 : decode cX1_scaled 26 = .ok (.getfield 15, 3) := by decide +kernel
theorem dX1_scaled_29 : decode cX1_scaled 29 = .ok (.lrem, 1) := by decide +kernel
theorem dX1_scaled_30 : decode cX1_scaled 30 = .ok (.lstore 4, 2) := by decide +kernel
theorem dX1_scaled_32 : decode cX1_scaled 32 = .ok (.iconst 0, 1) := by decide +kernel
theorem dX1_scaled_33 : decode cX1_scaled 33 = .ok (.istore 6, 2) := by decide +kernel
theorem dX1_scaled_35 : decode cX1_scaled 35 = .ok (.iload 6, 2) := by decide +kernel
theorem dX1_scaled_37 : decode cX1_scaled 37 = .ok (.iload_n 1, 1) := by decide +kernel
theorem dX1_scaled_38 : decode cX1_scaled 38 = .ok (.if_icmp .ge 77, 3) := by decide +kernel
theorem dX1_scaled_41 : decode cX1_scaled 41 = .ok (.lconst 0, 1) := by decide +kernel
theorem dX1_scaled_42 : decode cX1_scaled 42 = .ok (.lstore 7, 2) := by decide +kernel
theorem dX1_scaled_44 : decode cX1_scaled 44 = .ok (.ldc2_w 22, 3) := by decide +kernel
theorem dX1_scaled_47 : decode cX1_scaled 47 = .ok (.lload_n 2, 1) := by decide +kernel
theorem dX1_scaled_48 : decode cX1_scaled 48 = .ok (.lmul, 1) := by decide +kernel
theorem dX1_scaled_49 : decode cX1_scaled 49 = .ok (.lstore_n 2, 1) := by decide +kernel
theorem dX1_scaled_50 : decode cX1_scaled 50 = .ok (.iconst 0, 1) := by decide +kernel
theorem dX1_scaled_51 : decode cX1_scaled 51 = .ok (.istore 9, 2) := by decide +kernel
theorem dX1_scaled_53 : decode cX1_scaled 53 = .ok (.iload 9, 2) := by decide +kernel
theorem dX1_scaled_55 : decode cX1_scaled 55 = .ok (.bipush 10, 2) := by decide +kernel
theorem dX1_scaled_57 : decode cX1_scaled 57 = .ok (.if_icmp .ge 48, 3) := by decide +kernel
theorem dX1_scaled_60 : decode cX1_scaled 60 = .ok (.lload 7, 2) := by decide +kernel
theorem dX1_scaled_62 : decode cX1_scaled 62 = .ok (.aload_n 0, 1) := by decide +kernel
theorem dX1_scaled_63 : decode cX1_scaled 63 = .ok (.getfield 15, 3) := by decide +kernel
theorem dX1_scaled_66 : decode cX1_scaled 66 = .ok (.lload 4, 2) := by decide +kernel
theorem dX1_scaled_68 : decode cX1_scaled 68 = .ok (.lsub, 1) := by decide +kernel
theorem dX1_scaled_69 : decode cX1_scaled 69 = .ok (.lcmp, 1) := by decide +kernel
theorem dX1_scaled_70 : decode cX1_scaled 70 = .ok (.ifCond .lt 22, 3) := by decide +kernel
theorem dX1_scaled_73 : decode cX1_scaled 73 = .ok (.lload 7, 2) := by decide +kernel
theorem dX1_scaled_75 : decode cX1_scaled 75 = .ok (.aload_n 0, 1) := by decide +kernel
theorem dX1_scaled_76 : decode cX1_scaled 76 = .ok (.getfield 15, 3) := by decide +kernel
theorem dX1_scaled_79 : decode cX1_scaled 79 = .ok (.lload 4, 2) := by decide +kernel
theorem dX1_scaled_81 : decode cX1_scaled 81 = .ok (.lsub, 1) := by decide +kernel
theorem dX1_scaled_82 : decode cX1_scaled 82 = .ok (.lsub, 1) := by decide +kernel
theorem dX1_scaled_83 : decode cX1_scaled 83 = .ok (.lstore 7, 2) := by decide +kernel
theorem dX1_scaled_85 : decode cX1_scaled 85 = .ok (.lload_n 2, 1) := by decide +kernel
theorem dX1_scaled_86 : decode cX1_scaled 86 = .ok (.lconst 1, 1) := by decide +kernel
theorem dX1_scaled_87 : decode cX1_scaled 87 = .ok (.ladd, 1) := by decide +kernel
theorem dX1_scaled_88 : decode cX1_scaled 88 = .ok (.lstore_n 2, 1) := by decide +kernel
theorem dX1_scaled_89 : decode cX1_scaled 89 = .ok (.goto 10, 3) := by decide +kernel
theorem dX1_scaled_92 : decode cX1_scaled 92 = .ok (.lload 7, 2) := by decide +kernel
theorem dX1_scaled_94 : decode cX1_scaled 94 = .ok (.lload 4, 2) := by decide +kernel
theorem dX1_scaled_96 : decode cX1_scaled 96 = .ok (.ladd, 1) := by decide +kernel
theorem dX1_scaled_97 : decode cX1_scaled 97 = .ok (.lstore 7, 2) := by decide +kernel
theorem dX1_scaled_99 : decode cX1_scaled 99 = .ok (.iinc 9 1, 3) := by decide +kernel
theorem dX1_scaled_102 : decode cX1_scaled 102 = .ok (.goto (-49), 3) := by decide +kernel
theorem dX1_scaled_105 : decode cX1_scaled 105 = .ok (.lload 7, 2) := by decide +kernel
theorem dX1_scaled_107 : decode cX1_scaled 107 = .ok (.lstore 4, 2) := by decide +kernel
theorem dX1_scaled_109 : decode cX1_scaled 109 = .ok (.iinc 6 1, 3) := by decide +kernel
theorem dX1_scaled_112 : decode cX1_scaled 112 = .ok (.goto (-77), 3) := by decide +kernel
theorem dX1_scaled_115 : decode cX1_scaled 115 = .ok (.aload_n 0, 1) := by decide +kernel
theorem dX1_scaled_116 : decode cX1_scaled 116 = .ok (.getfield 15, 3) := by decide +kernel
theorem dX1_scaled_119 : decode cX1_scaled 119 = .ok (.lload 4, 2) := by decide +kernel
theorem dX1_scaled_121 : decode cX1_scaled 121 = .ok (.lsub, 1) := by decide +kernel
theorem dX1_scaled_122 : decode cX1_scaled 122 = .ok (.lstore 6, 2) := by decide +kernel
theorem dX1_scaled_124 : decode cX1_scaled 124 = .ok (.lload 4, 2) := by decide +kernel
theorem dX1_scaled_126 : decode cX1_scaled 126 = .ok (.lload 6, 2) := by decide +kernel
theorem dX1_scaled_128 : decode cX1_scaled 128 = .ok (.lcmp, 1) := by decide +kernel
theorem dX1_scaled_129 : decode cX1_scaled 129 = .ok (.ifCond .gt 21, 3) := by decide +kernel
theorem dX1_scaled_132 : decode cX1_scaled 132 = .ok (.lload 4, 2) := by decide +kernel
theorem dX1_scaled_134 : decode cX1_scaled 134 = .ok (.lload 6, 2) := by decide +kernel
theorem dX1_scaled_136 : decode cX1_scaled 136 = .ok (.lcmp, 1) := by decide +kernel
theorem dX1_scaled_137 : decode cX1_scaled 137 = .ok (.ifCond .ne 17, 3) := by decide +kernel
theorem dX1_scaled_140 : decode cX1_scaled 140 = .ok (.lload_n 2, 1) := by decide +kernel
theorem dX1_scaled_141 : decode cX1_scaled 141 = .ok (.ldc2_w 24, 3) := by decide +kernel
theorem dX1_scaled_144 : decode cX1_scaled 144 = .ok (.lrem, 1) := by decide +kernel
theorem dX1_scaled_145 : decode cX1_scaled 145 = .ok (.lconst 0, 1) := by decide +kernel
theorem dX1_scaled_146 : decode cX1_scaled 146 = .ok (.lcmp, 1) := by decide +kernel
theorem dX1_scaled_147 : decode cX1_scaled 147 = .ok (.ifCond .eq 7, 3) := by decide +kernel
theorem dX1_scaled_150 : decode cX1_scaled 150 = .ok (.iconst 1, 1) := by decide +kernel
theorem dX1_scaled_151 : decode cX1_scaled 151 = .ok (.goto 4, 3) := by decide +kernel
theorem dX1_scaled_154 : decode cX1_scaled 154 = .ok (.iconst 0, 1) := by decide +kernel
theorem dX1_scaled_155 : decode cX1_scaled 155 = .ok (.istore 8, 2) := by decide +kernel
theorem dX1_scaled_157 : decode cX1_scaled 157 = .ok (.iload 8, 2) := by decide +kernel
theorem dX1_scaled_159 : decode cX1_scaled 159 = .ok (.ifCond .eq 9, 3) := by decide +kernel
theorem dX1_scaled_162 : decode cX1_scaled 162 = .ok (.lload_n 2, 1) := by decide +kernel
theorem dX1_scaled_163 : decode cX1_scaled 163 = .ok (.lconst 1, 1) := by decide +kernel
theorem dX1_scaled_164 : decode cX1_scaled 164 = .ok (.ladd, 1) := by decide +kernel
theorem dX1_scaled_165 : decode cX1_scaled 165 = .ok (.goto 4, 3) := by decide +kernel
theorem dX1_scaled_168 : decode cX1_scaled 168 = .ok (.lload_n 2, 1) := by decide +kernel
theorem dX1_scaled_169 : decode cX1_scaled 169 = .ok (.lreturn, 1) := by decide +kernel
theorem dX2_init_0 : decode cX2_init 0 = .ok (.aload_n 0, 1) := by decide +kernel
theorem dX2_init_1 : decode cX2_init 1 = .ok (.invokespecial 3, 3) := by decide +kernel
theorem dX2_init_4 : decode cX2_init 4 = .ok (.aload_n 0, 1) := by decide +kernel
theorem dX2_init_5 : decode cX2_init 5 = .ok (.iconst 4, 1) := by decide +kernel
theorem dX2_init_6 : decode cX2_init 6 = .ok (.newarray .int, 2) := by decide +kernel
theorem dX2_init_8 : decode cX2_init 8 = .ok (.putfield 9, 3) := by decide +kernel
theorem dX2_init_11 : decode cX2_init 11 = .ok (.aload_n 0, 1) := by decide +kernel
theorem dX2_init_12 : decode cX2_init 12 = .ok (.iconst 4, 1) := by decide +kernel
theorem dX2_init_13 : decode cX2_init 13 = .ok (.newarray .int, 2) := by decide +kernel
theorem dX2_init_15 : decode cX2_init 15 = .ok (.putfield 15, 3) := by decide +kernel
theorem dX2_init_18 : decode cX2_init 18 = .ok (.aload_n 0, 1) := by decide +kernel
theorem dX2_init_19 : decode cX2_init 19 = .ok (.iconst 4, 1) := by decide +kernel
theorem dX2_init_20 : decode cX2_init 20 = .ok (.newarray .int, 2) := by decide +kernel
theorem dX2_init_22 : decode cX2_init 22 = .ok (.putfield 18, 3) := by decide +kernel
theorem dX2_init_25 : decode cX2_init 25 = .ok (.aload_n 0, 1) := by decide +kernel
theorem dX2_init_26 : decode cX2_init 26 = .ok (.iconst 4, 1) := by decide +kernel
theorem dX2_init_27 : decode cX2_init 27 = .ok (.newarray .int, 2) := by decide +kernel
theorem dX2_init_29 : decode cX2_init 29 = .ok (.putfield 21, 3) := by decide +kernel
theorem dX2_init_32 : decode cX2_init 32 = .ok (.aload_n 0, 1) := by decide +kernel
theorem dX2_init_33 : decode cX2_init 33 = .ok (.iconst 4, 1) := by decide +kernel
theorem dX2_init_34 : decode cX2_init 34 = .ok (.bipush 61, 2) := by decide +kernel
theorem dX2_init_36 : decode cX2_init 36 = .ok (.multianewarray 24 2, 4) := by decide +kernel
theorem dX2_init_40 : decode cX2_init 40 = .ok (.putfield 26, 3) := by decide +kernel
theorem dX2_init_43 : decode cX2_init 43 = .ok (.return_, 1) := by decide +kernel
theorem dX2_hasStage_0 : decode cX2_hasStage 0 = .ok (.iload_n 1, 1) := by decide +kernel
theorem dX2_hasStage_1 : decode cX2_hasStage 1 = .ok (.ifCond .lt 15, 3) := by decide +kernel
theorem dX2_hasStage_4 : decode cX2_hasStage 4 = .ok (.iload_n 1, 1) := by decide +kernel
theorem dX2_hasStage_5 : decode cX2_hasStage 5 = .ok (.aload_n 0, 1) := by decide +kernel
theorem dX2_hasStage_6 : decode cX2_hasStage 6 = .ok (.getfield 29, 3) := by decide +kernel
theorem dX2_hasStage_9 : decode cX2_hasStage 9 = .ok (.if_icmp .ge 7, 3) := by decide +kernel
theorem dX2_hasStage_12 : decode cX2_hasStage 12 = .ok (.iconst 1, 1) := by decide +kernel
theorem dX2_hasStage_13 : decode cX2_hasStage 13 = .ok (.goto 4, 3) := by decide +kernel
theorem dX2_hasStage_16 : decode cX2_hasStage 16 = .ok (.iconst 0, 1) := by decide +kernel
theorem dX2_hasStage_17 : decode cX2_hasStage 17 = .ok (.ireturn, 1) := by decide +kernel
theorem dX2_total_0 : decode cX2_total 0 = .ok (.aload_n 0, 1) := by decide +kernel
theorem dX2_total_1 : decode cX2_total 1 = .ok (.aload_n 0, 1) := by decide +kernel
theorem dX2_total_2 : decode cX2_total 2 = .ok (.getfield 29, 3) := by decide +kernel
theorem dX2_total_5 : decode cX2_total 5 = .ok (.iconst 1, 1) := by decide +kernel
theorem dX2_total_6 : decode cX2_total 6 = .ok (.isub, 1) := by decide +kernel
theorem dX2_total_7 : decode cX2_total 7 = .ok (.invokevirtual 33, 3) := by decide +kernel
theorem dX2_total_10 : decode cX2_total 10 = .ok (.ifCond .eq 17, 3) := by decide +kernel
theorem dX2_total_13 : decode cX2_total 13 = .ok (.aload_n 0, 1) := by decide +kernel
theorem dX2_total_14 : decode cX2_total 14 = .ok (.getfield 21, 3) := by decide +kernel
theorem dX2_total_17 : decode cX2_total 17 = .ok (.aload_n 0, 1) := by decide +kernel
theorem dX2_total_18 : decode cX2_total 18 = .ok (.getfield 29, 3) := by decide +kernel
theorem dX2_total_21 : decode cX2_total 21 = .ok (.iconst 1, 1) := by decide +kernel
theorem dX2_total_22 : decode cX2_total 22 = .ok (.isub, 1) := by decide +kernel
theorem dX2_total_23 : decode cX2_total 23 = .ok (.iaload, 1) := by decide +kernel
theorem dX2_total_24 : decode cX2_total 24 = .ok (.goto 4, 3) := by decide +kernel
theorem dX2_total_27 : decode cX2_total 27 = .ok (.iconst 0, 1) := by decide +kernel
theorem dX2_total_28 : decode cX2_total 28 = .ok (.ireturn, 1) := by decide +kernel
theorem dX2_admits_0 : decode cX2_admits 0 = .ok (.aload_n 0, 1) := by decide +kernel
theorem dX2_admits_1 : decode cX2_admits 1 = .ok (.getfield 37, 3) := by decide +kernel
theorem dX2_admits_4 : decode cX2_admits 4 = .ok (.ifCond .ne 11, 3) := by decide +kernel
theorem dX2_admits_7 : decode cX2_admits 7 = .ok (.aload_n 0, 1) := by decide +kernel
theorem dX2_admits_8 : decode cX2_admits 8 = .ok (.getfield 29, 3) := by decide +kernel
theorem dX2_admits_11 : decode cX2_admits 11 = .ok (.iconst 4, 1) := by decide +kernel
theorem dX2_admits_12 : decode cX2_admits 12 = .ok (.if_icmp .lt 5, 3) := by decide +kernel
theorem dX2_admits_15 : decode cX2_admits 15 = .ok (.iconst 0, 1) := by decide +kernel
theorem dX2_admits_16 : decode cX2_admits 16 = .ok (.ireturn, 1) := by decide +kernel
theorem dX2_admits_17 : decode cX2_admits 17 = .ok (.iload_n 1, 1) := by decide +kernel
theorem dX2_admits_18 : decode cX2_admits 18 = .ok (.iconst 1, 1) := by decide +kernel
theorem dX2_admits_19 : decode cX2_admits 19 = .ok (.if_icmp .lt 20, 3) := by decide +kernel
theorem dX2_admits_22 : decode cX2_admits 22 = .ok (.iload_n 1, 1) := by decide +kernel
theorem dX2_admits_23 : decode cX2_admits 23 = .ok (.bipush 60, 2) := by decide +kernel
theorem dX2_admits_25 : decode cX2_admits 25 = .ok (.if_icmp .gt 14, 3) := by decide +kernel
theorem dX2_admits_28 : decode cX2_admits 28 = .ok (.aload_n 0, 1) := by decide +kernel
theorem dX2_admits_29 : decode cX2_admits 29 = .ok (.invokevirtual 41, 3) := by decide +kernel
theorem dX2_admits_32 : decode cX2_admits 32 = .ok (.iload_n 1, 1) := by decide +kernel
theorem dX2_admits_33 : decode cX2_admits 33 = .ok (.iadd, 1) := by decide +kernel
theorem dX2_admits_34 : decode cX2_admits 34 = .ok (.bipush 60, 2) := by decide +kernel
theorem dX2_admits_36 : decode cX2_admits 36 = .ok (.if_icmp .le 5, 3) := by decide +kernel
theorem dX2_admits_39 : decode cX2_admits 39 = .ok (.iconst 0, 1) := by decide +kernel
theorem dX2_admits_40 : decode cX2_admits 40 = .ok (.ireturn, 1) := by decide +kernel
theorem dX2_admits_41 : decode cX2_admits 41 = .ok (.iload_n 2, 1) := by decide +kernel
theorem dX2_admits_42 : decode cX2_admits 42 = .ok (.iconst (-1), 1) := by decide +kernel
theorem dX2_admits_43 : decode cX2_admits 43 = .ok (.if_icmp .lt 20, 3) := by decide +kernel
theorem dX2_admits_46 : decode cX2_admits 46 = .ok (.iload_n 2, 1) := by decide +kernel
theorem dX2_admits_47 : decode cX2_admits 47 = .ok (.bipush 60, 2) := by decide +kernel
theorem dX2_admits_49 : decode cX2_admits 49 = .ok (.if_icmp .gt 14, 3) := by decide +kernel
theorem dX2_admits_52 : decode cX2_admits 52 = .ok (.iload_n 3, 1) := by decide +kernel
theorem dX2_admits_53 : decode cX2_admits 53 = .ok (.iload_n 2, 1) := by decide +kernel
theorem dX2_admits_54 : decode cX2_admits 54 = .ok (.if_icmp .le 9, 3) := by decide +kernel
theorem dX2_admits_57 : decode cX2_admits 57 = .ok (.iload_n 3, 1) := by decide +kernel
theorem dX2_admits_58 : decode cX2_admits 58 = .ok (.bipush 61, 2) := by decide +kernel
theorem dX2_admits_60 : decode cX2_admits 60 = .ok (.if_icmp .le 5, 3) := by decide +kernel
theorem dX2_admits_63 : decode cX2_admits 63 = .ok (.iconst 0, 1) := by decide +kernel
theorem dX2_admits_64 : decode cX2_admits 64 = .ok (.ireturn, 1) := by decide +kernel
theorem dX2_admits_65 : decode cX2_admits 65 = .ok (.aload_n 0, 1) := by decide +kernel
theorem dX2_admits_66 : decode cX2_admits 66 = .ok (.getfield 29, 3) := by decide +kernel
theorem dX2_admits_69 : decode cX2_admits 69 = .ok (.iconst 3, 1) := by decide +kernel
theorem dX2_admits_70 : decode cX2_admits 70 = .ok (.if_icmp .lt 10, 3) := by decide +kernel
theorem dX2_admits_73 : decode cX2_admits 73 = .ok (.iload_n 3, 1) := by decide +kernel
theorem dX2_admits_74 : decode cX2_admits 74 = .ok (.iload_n 2, 1) := by decide +kernel
theorem dX2_admits_75 : decode cX2_admits 75 = .ok (.iconst 1, 1) := by decide +kernel
theorem dX2_admits_76 : decode cX2_admits 76 = .ok (.iadd, 1) := by decide +kernel
theorem dX2_admits_77 : decode cX2_admits 77 = .ok (.if_icmp .ne 7, 3) := by decide +kernel
theorem dX2_admits_80 : decode cX2_admits 80 = .ok (.iconst 1, 1) := by decide +kernel
theorem dX2_admits_81 : decode cX2_admits 81 = .ok (.goto 4, 3) := by decide +kernel
theorem dX2_admits_84 : decode cX2_admits 84 = .ok (.iconst 0, 1) := by decide +kernel
theorem dX2_admits_85 : decode cX2_admits 85 = .ok (.ireturn, 1) := by decide +kernel
theorem dX2_append_0 : decode cX2_append 0 = .ok (.aload_n 0, 1) := by decide +kernel
theorem dX2_append_1 : decode cX2_append 1 = .ok (.iload_n 1, 1) := by decide +kernel
theorem dX2_append_2 : decode cX2_append 2 = .ok (.iload_n 2, 1) := by decide +kernel
theorem dX2_append_3 : decode cX2_append 3 = .ok (.iload_n 3, 1) := by decide +kernel
theorem dX2_append_4 : decode cX2_append 4 = .ok (.invokevirtual 45, 3) := by decide +kernel
theorem dX2_append_7 : decode cX2_append 7 = .ok (.ifCond .ne 5, 3) := by decide +kernel
theorem dX2_append_10 : decode cX2_append 10 = .ok (.iconst 0, 1) := by decide +kernel
theorem dX2_append_11 : decode cX2_append 11 = .ok (.ireturn, 1) := by decide +kernel
theorem dX2_append_12 : decode cX2_append 12 = .ok (.aload_n 0, 1) := by decide +kernel
theorem dX2_append_13 : decode cX2_append 13 = .ok (.getfield 29, 3) := by decide +kernel
theorem dX2_append_16 : decode cX2_append 16 = .ok (.istore 5, 2) := by decide +kernel
theorem dX2_append_18 : decode cX2_append 18 = .ok (.aload_n 0, 1) := by decide +kernel
theorem dX2_append_19 : decode cX2_append 19 = .ok (.invokevirtual 41, 3) := by decide +kernel
theorem dX2_append_22 : decode cX2_append 22 = .ok (.istore 6, 2) := by decide +kernel
theorem dX2_append_24 : decode cX2_append 24 = .ok (.aload_n 0, 1) := by decide +kernel
theorem dX2_append_25 : decode cX2_append 25 = .ok (.getfield 9, 3) := by decide +kernel
theorem dX2_append_28 : decode cX2_append 28 = .ok (.iload 5, 2) := by decide +kernel
theorem dX2_append_30 : decode cX2_append 30 = .ok (.iload_n 1, 1) := by decide +kernel
theorem dX2_append_31 : decode cX2_append 31 = .ok (.iastore, 1) := by decide +kernel
theorem dX2_append_32 : decode cX2_append 32 = .ok (.aload_n 0, 1) := by decide +kernel
theorem dX2_append_33 : decode cX2_append 33 = .ok (.getfield 15, 3) := by decide +kernel
theorem dX2_append_36 : decode cX2_append 36 = .ok (.iload 5, 2) := by decide +kernel
theorem dX2_append_38 : decode cX2_append 38 = .ok (.iload_n 2, 1) := by decide +kernel
theorem dX2_append_39 : decode cX2_append 39 = .ok (.iastore, 1) := by decide +kernel
theorem dX2_append_40 : decode cX2_append 40 = .ok (.aload_n 0, 1) := by decide +kernel
theorem dX2_append_41 : decode cX2_append 41 = .ok (.getfield 18, 3) := by decide +kernel
theorem dX2_append_44 : decode cX2_append 44 = .ok (.iload 5, 2) := by decide +kernel
theorem dX2_append_46 : decode cX2_append 46 = .ok (.iload_n 3, 1) := by decide +kernel
theorem dX2_append_47 : decode cX2_append 47 = .ok (.iastore, 1) := by decide +kernel
theorem dX2_append_48 : decode cX2_append 48 = .ok (.aload_n 0, 1) := by decide +kernel
theorem dX2_append_49 : decode cX2_append 49 = .ok (.getfield 21, 3) := by decide +kernel
theorem dX2_append_52 : decode cX2_append 52 = .ok (.iload 5, 2) := by decide +kernel
theorem dX2_append_54 : decode cX2_append 54 = .ok (.iload 6, 2) := by decide +kernel
theorem dX2_append_56 : decode cX2_append 56 = .ok (.iload_n 1, 1) := by decide +kernel
theorem dX2_append_57 : decode cX2_append 57 = .ok (.iadd, 1) := by decide +kernel
theorem dX2_append_58 : decode cX2_append 58 = .ok (.iastore, 1) := by decide +kernel
theorem dX2_append_59 : decode cX2_append 59 = .ok (.iconst 0, 1) := by decide +kernel
theorem dX2_append_60 : decode cX2_append 60 = .ok (.istore 7, 2) := by decide +kernel
theorem dX2_append_62 : decode cX2_append 62 = .ok (.iload 7, 2) := by decide +kernel
theorem dX2_append_64 : decode cX2_append 64 = .ok (.iload 6, 2) := by decide +kernel
theorem dX2_append_66 : decode cX2_append 66 = .ok (.if_icmp .gt 61, 3) := by decide +kernel
theorem dX2_append_69 : decode cX2_append 69 = .ok (.aload_n 0, 1) := by decide +kernel
theorem dX2_append_70 : decode cX2_append 70 = .ok (.iload 5, 2) := by decide +kernel
theorem dX2_append_72 : decode cX2_append 72 = .ok (.iload 7, 2) := by decide +kernel
theorem dX2_append_74 : decode cX2_append 74 = .ok (.invokevirtual 49, 3) := by decide +kernel
theorem dX2_append_77 : decode cX2_append 77 = .ok (.lstore 8, 2) := by decide +kernel
theorem dX2_append_79 : decode cX2_append 79 = .ok (.iconst 0, 1) := by decide +kernel
theorem dX2_append_80 : decode cX2_append 80 = .ok (.istore 10, 2) := by decide +kernel
theorem dX2_append_82 : decode cX2_append 82 = .ok (.iload 10, 2) := by decide +kernel
theorem dX2_append_84 : decode cX2_append 84 = .ok (.iload_n 1, 1) := by decide +kernel
theorem dX2_append_85 : decode cX2_append 85 = .ok (.if_icmp .gt 36, 3) := by decide +kernel
theorem dX2_append_88 : decode cX2_append 88 = .ok (.aload_n 0, 1) := by decide +kernel
theorem dX2_append_89 : decode cX2_append 89 = .ok (.getfield 26, 3) := by decide +kernel
theorem dX2_append_92 : decode cX2_append 92 = .ok (.iload 5, 2) := by decide +kernel
theorem dX2_append_94 : decode cX2_append 94 = .ok (.aaload, 1) := by decide +kernel
theorem dX2_append_95 : decode cX2_append 95 = .ok (.iload 7, 2) := by decide +kernel
theorem dX2_append_97 : decode cX2_append 97 = .ok (.iload 10, 2) := by decide +kernel
theorem dX2_append_99 : decode cX2_append 99 = .ok (.iadd, 1) := by decide +kernel
theorem dX2_append_100 : decode cX2_append 100 = .ok (.dup2, 1) := by decide +kernel
theorem dX2_append_101 : decode cX2_append 101 = .ok (.laload, 1) := by decide +kernel
theorem dX2_append_102 : decode cX2_append 102 = .ok (.lload 8, 2) := by decide +kernel
theorem dX2_append_104 : decode cX2_append 104 = .ok (.aload 4, 2) := by decide +kernel
theorem dX2_append_106 : decode cX2_append 106 = .ok (.iload_n 1, 1) := by decide +kernel
theorem dX2_append_107 : decode cX2_append 107 = .ok (.iload 10, 2) := by decide +kernel
theorem dX2_append_109 : decode cX2_append 109 = .ok (.invokevirtual 53, 3) := by decide +kernel
theorem dX2_append_112 : decode cX2_append 112 = .ok (.lmul, 1) := by decide +kernel
theorem dX2_append_113 : decode cX2_append 113 = .ok (.ladd, 1) := by decide +kernel
theorem dX2_append_114 : decode cX2_append 114 = .ok (.lastore, 1) := by decide +kernel
theorem dX2_append_115 : decode cX2_append 115 = .ok (.iinc 10 1, 3) := by decide +kernel
theorem dX2_append_118 : decode cX2_append 118 = .ok (.goto (-36), 3) := by decide +kernel
theorem dX2_append_121 : decode cX2_append 121 = .ok (.iinc 7 1, 3) := by decide +kernel
theorem dX2_append_124 : decode cX2_append 124 = .ok (.goto (-62), 3) := by decide +kernel
theorem dX2_append_127 : decode cX2_append 127 = .ok (.aload_n 0, 1) := by decide +kernel
theorem dX2_append_128 : decode cX2_append 128 = .ok (.dup, 1) := by decide +kernel
theorem dX2_append_129 : decode cX2_append 129 = .ok (.getfield 29, 3) := by decide +kernel
theorem dX2_append_132 : decode cX2_append 132 = .ok (.iconst 1, 1) := by decide +kernel
theorem dX2_append_133 : decode cX2_append 133 = .ok (.iadd, 1) := by decide +kernel
theorem dX2_append_134 : decode cX2_append 134 = .ok (.putfield 29, 3) := by decide +kernel
theorem dX2_append_137 : decode cX2_append 137 = .ok (.aload_n 0, 1) := by decide +kernel
theorem dX2_append_138 : decode cX2_append 138 = .ok (.iload_n 3, 1) := by decide +kernel
theorem dX2_append_139 : decode cX2_append 139 = .ok (.iload_n 2, 1) := by decide +kernel
theorem dX2_append_140 : decode cX2_append 140 = .ok (.iconst 1, 1) := by decide +kernel
theorem dX2_append_141 : decode cX2_append 141 = .ok (.iadd, 1) := by decide +kernel
theorem dX2_append_142 : decode cX2_append 142 = .ok (.if_icmp .ne 7, 3) := by decide +kernel
theorem dX2_append_145 : decode cX2_append 145 = .ok (.iconst 1, 1) := by decide +kernel
theorem dX2_append_146 : decode cX2_append 146 = .ok (.goto 4, 3) := by decide +kernel
theorem dX2_append_149 : decode cX2_append 149 = .ok (.iconst 0, 1) := by decide +kernel
theorem dX2_append_150 : decode cX2_append 150 = .ok (.putfield 37, 3) := by decide +kernel
theorem dX2_append_153 : decode cX2_append 153 = .ok (.iconst 1, 1) := by decide +kernel
theorem dX2_append_154 : decode cX2_append 154 = .ok (.ireturn, 1) := by decide +kernel
theorem dX2_openWays_0 : decode cX2_openWays 0 = .ok (.iload_n 1, 1) := by decide +kernel
theorem dX2_openWays_1 : decode cX2_openWays 1 = .ok (.ifCond .ne 13, 3) := by decide +kernel
theorem dX2_openWays_4 : decode cX2_openWays 4 = .ok (.iload_n 2, 1) := by decide +kernel
theorem dX2_openWays_5 : decode cX2_openWays 5 = .ok (.ifCond .ne 7, 3) := by decide +kernel
theorem dX2_openWays_8 : decode cX2_openWays 8 = .ok (.lconst 1, 1) := by decide +kernel
theorem dX2_openWays_9 : decode cX2_openWays 9 = .ok (.goto 4, 3) := by decide +kernel
theorem dX2_openWays_12 : decode cX2_openWays 12 = .ok (.lconst 0, 1) := by decide +kernel
theorem dX2_openWays_13 : decode cX2_openWays 13 = .ok (.lreturn, 1) := by decide +kernel
theorem dX2_openWays_14 : decode cX2_openWays 14 = .ok (.aload_n 0, 1) := by decide +kernel
theorem dX2_openWays_15 : decode cX2_openWays 15 = .ok (.iload_n 1, 1) := by decide +kernel
theorem dX2_openWays_16 : decode cX2_openWays 16 = .ok (.iconst 1, 1) := by decide +kernel
theorem dX2_openWays_17 : decode cX2_openWays 17 = .ok (.isub, 1) := by decide +kernel
theorem dX2_openWays_18 : decode cX2_openWays 18 = .ok (.iload_n 2, 1) := by decide +kernel
theorem dX2_openWays_19 : decode cX2_openWays 19 = .ok (.invokevirtual 58, 3) := by decide +kernel
theorem dX2_openWays_22 : decode cX2_openWays 22 = .ok (.ifCond .eq 7, 3) := by decide +kernel
theorem dX2_openWays_25 : decode cX2_openWays 25 = .ok (.lconst 0, 1) := by decide +kernel
theorem dX2_openWays_26 : decode cX2_openWays 26 = .ok (.goto 13, 3) := by decide +kernel
theorem dX2_openWays_29 : decode cX2_openWays 29 = .ok (.aload_n 0, 1) := by decide +kernel
theorem dX2_openWays_30 : decode cX2_openWays 30 = .ok (.getfield 26, 3) := by decide +kernel
theorem dX2_openWays_33 : decode cX2_openWays 33 = .ok (.iload_n 1, 1) := by decide +kernel
theorem dX2_openWays_34 : decode cX2_openWays 34 = .ok (.iconst 1, 1) := by decide +kernel
theorem dX2_openWays_35 : decode cX2_openWays 35 = .ok (.isub, 1) := by decide +kernel
theorem dX2_openWays_36 : decode cX2_openWays 36 = .ok (.aaload, 1) := by decide +kernel
theorem dX2_openWays_37 : decode cX2_openWays 37 = .ok (.iload_n 2, 1) := by decide +kernel
theorem dX2_openWays_38 : decode cX2_openWays 38 = .ok (.laload, 1) := by decide +kernel
theorem dX2_openWays_39 : decode cX2_openWays 39 = .ok (.lreturn, 1) := by decide +kernel
theorem dX2_isTakenAt_0 : decode cX2_isTakenAt 0 = .ok (.aload_n 0, 1) := by decide +kernel
theorem dX2_isTakenAt_1 : decode cX2_isTakenAt 1 = .ok (.iload_n 1, 1) := by decide +kernel
theorem dX2_isTakenAt_2 : decode cX2_isTakenAt 2 = .ok (.invokevirtual 33, 3) := by decide +kernel
theorem dX2_isTakenAt_5 : decode cX2_isTakenAt 5 = .ok (.ifCond .eq 17, 3) := by decide +kernel
theorem dX2_isTakenAt_8 : decode cX2_isTakenAt 8 = .ok (.iload_n 2, 1) := by decide +kernel
theorem dX2_isTakenAt_9 : decode cX2_isTakenAt 9 = .ok (.aload_n 0, 1) := by decide +kernel
theorem dX2_isTakenAt_10 : decode cX2_isTakenAt 10 = .ok (.getfield 15, 3) := by decide +kernel
theorem dX2_isTakenAt_13 : decode cX2_isTakenAt 13 = .ok (.iload_n 1, 1) := by decide +kernel
theorem dX2_isTakenAt_14 : decode cX2_isTakenAt 14 = .ok (.iaload, 1) := by decide +kernel
theorem dX2_isTakenAt_15 : decode cX2_isTakenAt 15 = .ok (.if_icmp .gt 7, 3) := by decide +kernel
theorem dX2_isTakenAt_18 : decode cX2_isTakenAt 18 = .ok (.iconst 1, 1) := by decide +kernel
theorem dX2_isTakenAt_19 : decode cX2_isTakenAt 19 = .ok (.goto 4, 3) := by decide +kernel
theorem dX2_isTakenAt_22 : decode cX2_isTakenAt 22 = .ok (.iconst 0, 1) := by decide +kernel
theorem dX2_isTakenAt_23 : decode cX2_isTakenAt 23 = .ok (.ireturn, 1) := by decide +kernel
theorem dX2_isRefusedAt_0 : decode cX2_isRefusedAt 0 = .ok (.aload_n 0, 1) := by decide +kernel
theorem dX2_isRefusedAt_1 : decode cX2_isRefusedAt 1 = .ok (.iload_n 1, 1) := by decide +kernel
theorem dX2_isRefusedAt_2 : decode cX2_isRefusedAt 2 = .ok (.invokevirtual 33, 3) := by decide +kernel
theorem dX2_isRefusedAt_5 : decode cX2_isRefusedAt 5 = .ok (.ifCond .eq 17, 3) := by decide +kernel
theorem dX2_isRefusedAt_8 : decode cX2_isRefusedAt 8 = .ok (.iload_n 2, 1) := by decide +kernel
theorem dX2_isRefusedAt_9 : decode cX2_isRefusedAt 9 = .ok (.aload_n 0, 1) := by decide +kernel
theorem dX2_isRefusedAt_10 : decode cX2_isRefusedAt 10 = .ok (.getfield 18, 3) := by decide +kernel
theorem dX2_isRefusedAt_13 : decode cX2_isRefusedAt 13 = .ok (.iload_n 1, 1) := by decide +kernel
theorem dX2_isRefusedAt_14 : decode cX2_isRefusedAt 14 = .ok (.iaload, 1) := by decide +kernel
theorem dX2_isRefusedAt_15 : decode cX2_isRefusedAt 15 = .ok (.if_icmp .lt 7, 3) := by decide +kernel
theorem dX2_isRefusedAt_18 : decode cX2_isRefusedAt 18 = .ok (.iconst 1, 1) := by decide +kernel
theorem dX2_isRefusedAt_19 : decode cX2_isRefusedAt 19 = .ok (.goto 4, 3) := by decide +kernel
theorem dX2_isRefusedAt_22 : decode cX2_isRefusedAt 22 = .ok (.iconst 0, 1) := by decide +kernel
theorem dX2_isRefusedAt_23 : decode cX2_isRefusedAt 23 = .ok (.ireturn, 1) := by decide +kernel
theorem dX2_isDecidedAt_0 : decode cX2_isDecidedAt 0 = .ok (.aload_n 0, 1) := by decide +kernel
theorem dX2_isDecidedAt_1 : decode cX2_isDecidedAt 1 = .ok (.iload_n 1, 1) := by decide +kernel
theorem dX2_isDecidedAt_2 : decode cX2_isDecidedAt 2 = .ok (.iload_n 2, 1) := by decide +kernel
theorem dX2_isDecidedAt_3 : decode cX2_isDecidedAt 3 = .ok (.invokevirtual 62, 3) := by decide +kernel
theorem dX2_isDecidedAt_6 : decode cX2_isDecidedAt 6 = .ok (.ifCond .ne 12, 3) := by decide +kernel
theorem dX2_isDecidedAt_9 : decode cX2_isDecidedAt 9 = .ok (.aload_n 0, 1) := by decide +kernel
theorem dX2_isDecidedAt_10 : decode cX2_isDecidedAt 10 = .ok (.iload_n 1, 1) := by decide +kernel
theorem dX2_isDecidedAt_11 : decode cX2_isDecidedAt 11 = .ok (.iload_n 2, 1) := by decide +kernel
theorem dX2_isDecidedAt_12 : decode cX2_isDecidedAt 12 = .ok (.invokevirtual 65, 3) := by decide +kernel
theorem dX2_isDecidedAt_15 : decode cX2_isDecidedAt 15 = .ok (.ifCond .eq 7, 3) := by decide +kernel
theorem dX2_isDecidedAt_18 : decode cX2_isDecidedAt 18 = .ok (.iconst 1, 1) := by decide +kernel
theorem dX2_isDecidedAt_19 : decode cX2_isDecidedAt 19 = .ok (.goto 4, 3) := by decide +kernel
theorem dX2_isDecidedAt_22 : decode cX2_isDecidedAt 22 = .ok (.iconst 0, 1) := by decide +kernel
theorem dX2_isDecidedAt_23 : decode cX2_isDecidedAt 23 = .ok (.ireturn, 1) := by decide +kernel
theorem dX2_isEndOf_0 : decode cX2_isEndOf 0 = .ok (.aload_n 0, 1) := by decide +kernel
theorem dX2_isEndOf_1 : decode cX2_isEndOf 1 = .ok (.iload_n 1, 1) := by decide +kernel
theorem dX2_isEndOf_2 : decode cX2_isEndOf 2 = .ok (.invokevirtual 33, 3) := by decide +kernel
theorem dX2_isEndOf_5 : decode cX2_isEndOf 5 = .ok (.ifCond .eq 17, 3) := by decide +kernel
theorem dX2_isEndOf_8 : decode cX2_isEndOf 8 = .ok (.iload_n 2, 1) := by decide +kernel
theorem dX2_isEndOf_9 : decode cX2_isEndOf 9 = .ok (.aload_n 0, 1) := by decide +kernel
theorem dX2_isEndOf_10 : decode cX2_isEndOf 10 = .ok (.getfield 21, 3) := by decide +kernel
theorem dX2_isEndOf_13 : decode cX2_isEndOf 13 = .ok (.iload_n 1, 1) := by decide +kernel
theorem dX2_isEndOf_14 : decode cX2_isEndOf 14 = .ok (.iaload, 1) := by decide +kernel
theorem dX2_isEndOf_15 : decode cX2_isEndOf 15 = .ok (.if_icmp .ne 7, 3) := by decide +kernel
theorem dX2_isEndOf_18 : decode cX2_isEndOf 18 = .ok (.iconst 1, 1) := by decide +kernel
theorem dX2_isEndOf_19 : decode cX2_isEndOf 19 = .ok (.goto 4, 3) := by decide +kernel
theorem dX2_isEndOf_22 : decode cX2_isEndOf 22 = .ok (.iconst 0, 1) := by decide +kernel
theorem dX2_isEndOf_23 : decode cX2_isEndOf 23 = .ok (.ireturn, 1) := by decide +kernel
theorem dX2_sumOverOrders_0 : decode cX2_sumOverOrders 0 = .ok (.lconst 0, 1) := by decide +kernel
theorem dX2_sumOverOrders_1 : decode cX2_sumOverOrders 1 = .ok (.lstore 5, 2) := by decide +kernel
theorem dX2_sumOverOrders_3 : decode cX2_sumOverOrders 3 = .ok (.iconst 0, 1) := by decide +kernel
theorem dX2_sumOverOrders_4 : decode cX2_sumOverOrders 4 = .ok (.istore 7, 2) := by decide +kernel
theorem dX2_sumOverOrders_6 : decode cX2_sumOverOrders 6 = .ok (.iload 7, 2) := by decide +kernel
theorem dX2_sumOverOrders_8 : decode cX2_sumOverOrders 8 = .ok (.aload_n 0, 1) := by decide +kernel
theorem dX2_sumOverOrders_9 : decode cX2_sumOverOrders 9 = .ok (.getfield 29, 3) := by decide +kernel
theorem dX2_sumOverOrders_12 : decode cX2_sumOverOrders 12 = .ok (.if_icmp .ge 81, 3) := by decide +kernel
theorem dX2_sumOverOrders_15 : decode cX2_sumOverOrders 15 = .ok (.iconst 0, 1) := by decide +kernel
theorem dX2_sumOverOrders_16 : decode cX2_sumOverOrders 16 = .ok (.istore 8, 2) := by decide +kernel
theorem dX2_sumOverOrders_18 : decode cX2_sumOverOrders 18 = .ok (.iload 8, 2) := by decide +kernel
theorem dX2_sumOverOrders_20 : decode cX2_sumOverOrders 20 = .ok (.aload_n 0, 1) := by decide +kernel
theorem dX2_sumOverOrders_21 : decode cX2_sumOverOrders 21 = .ok (.getfield 21, 3) := by decide +kernel
theorem dX2_sumOverOrders_24 : decode cX2_sumOverOrders 24 = .ok (.iload 7, 2) := by decide +kernel
theorem dX2_sumOverOrders_26 : decode cX2_sumOverOrders 26 = .ok (.iaload, 1) := by decide +kernel
theorem dX2_sumOverOrders_27 : decode cX2_sumOverOrders 27 = .ok (.if_icmp .gt 60, 3) := by decide +kernel
theorem dX2_sumOverOrders_30 : decode cX2_sumOverOrders 30 = .ok (.iload 8, 2) := by decide +kernel
theorem dX2_sumOverOrders_32 : decode cX2_sumOverOrders 32 = .ok (.iload_n 3, 1) := by decide +kernel
theorem dX2_sumOverOrders_33 : decode cX2_sumOverOrders 33 = .ok (.if_icmp .gt 54, 3) := by decide +kernel
theorem dX2_sumOverOrders_36 : decode cX2_sumOverOrders 36 = .ok (.lload 5, 2) := by decide +kernel
theorem dX2_sumOverOrders_38 : decode cX2_sumOverOrders 38 = .ok (.aload_n 0, 1) := by decide +kernel
theorem dX2_sumOverOrders_39 : decode cX2_sumOverOrders 39 = .ok (.iload 7, 2) := by decide +kernel
theorem dX2_sumOverOrders_41 : decode cX2_sumOverOrders 41 = .ok (.iload 8, 2) := by decide +kernel
theorem dX2_sumOverOrders_43 : decode cX2_sumOverOrders 43 = .ok (.iload_n 3, 1) := by decide +kernel
theorem dX2_sumOverOrders_44 : decode cX2_sumOverOrders 44 = .ok (.iload 4, 2) := by decide +kernel
theorem dX2_sumOverOrders_46 : decode cX2_sumOverOrders 46 = .ok (.invokevirtual 68, 3) := by decide +kernel
theorem dX2_sumOverOrders_49 : decode cX2_sumOverOrders 49 = .ok (.aload_n 0, 1) := by decide +kernel
theorem dX2_sumOverOrders_50 : decode cX2_sumOverOrders 50 = .ok (.getfield 26, 3) := by decide +kernel
theorem dX2_sumOverOrders_53 : decode cX2_sumOverOrders 53 = .ok (.iload 7, 2) := by decide +kernel
theorem dX2_sumOverOrders_55 : decode cX2_sumOverOrders 55 = .ok (.aaload, 1) := by decide +kernel
theorem dX2_sumOverOrders_56 : decode cX2_sumOverOrders 56 = .ok (.iload 8, 2) := by decide +kernel
theorem dX2_sumOverOrders_58 : decode cX2_sumOverOrders 58 = .ok (.laload, 1) := by decide +kernel
theorem dX2_sumOverOrders_59 : decode cX2_sumOverOrders 59 = .ok (.lmul, 1) := by decide +kernel
theorem dX2_sumOverOrders_60 : decode cX2_sumOverOrders 60 = .ok (.aload_n 1, 1) := by decide +kernel
theorem dX2_sumOverOrders_61 : decode cX2_sumOverOrders 61 = .ok (.iload_n 2, 1) := by decide +kernel
theorem dX2_sumOverOrders_62 : decode cX2_sumOverOrders 62 = .ok (.aload_n 0, 1) := by decide +kernel
theorem dX2_sumOverOrders_63 : decode cX2_sumOverOrders 63 = .ok (.getfield 21, 3) := by decide +kernel
theorem dX2_sumOverOrders_66 : decode cX2_sumOverOrders 66 = .ok (.iload 7, 2) := by decide +kernel
theorem dX2_sumOverOrders_68 : decode cX2_sumOverOrders 68 = .ok (.iaload, 1) := by decide +kernel
theorem dX2_sumOverOrders_69 : decode cX2_sumOverOrders 69 = .ok (.isub, 1) := by decide +kernel
theorem dX2_sumOverOrders_70 : decode cX2_sumOverOrders 70 = .ok (.iload_n 3, 1) := by decide +kernel
theorem dX2_sumOverOrders_71 : decode cX2_sumOverOrders 71 = .ok (.iload 8, 2) := by decide +kernel
theorem dX2_sumOverOrders_73 : decode cX2_sumOverOrders 73 = .ok (.isub, 1) := by decide +kernel
theorem dX2_sumOverOrders_74 : decode cX2_sumOverOrders 74 = .ok (.invokevirtual 53, 3) := by decide +kernel
theorem dX2_sumOverOrders_77 : decode cX2_sumOverOrders 77 = .ok (.lmul, 1) := by decide +kernel
theorem dX2_sumOverOrders_78 : decode cX2_sumOverOrders 78 = .ok (.ladd, 1) := by decide +kernel
theorem dX2_sumOverOrders_79 : decode cX2_sumOverOrders 79 = .ok (.lstore 5, 2) := by decide +kernel
theorem dX2_sumOverOrders_81 : decode cX2_sumOverOrders 81 = .ok (.iinc 8 1, 3) := by decide +kernel
theorem dX2_sumOverOrders_84 : decode cX2_sumOverOrders 84 = .ok (.goto (-66), 3) := by decide +kernel
theorem dX2_sumOverOrders_87 : decode cX2_sumOverOrders 87 = .ok (.iinc 7 1, 3) := by decide +kernel
theorem dX2_sumOverOrders_90 : decode cX2_sumOverOrders 90 = .ok (.goto (-84), 3) := by decide +kernel
theorem dX2_sumOverOrders_93 : decode cX2_sumOverOrders 93 = .ok (.lload 5, 2) := by decide +kernel
theorem dX2_sumOverOrders_95 : decode cX2_sumOverOrders 95 = .ok (.lreturn, 1) := by decide +kernel
theorem dX2_weight_0 : decode cX2_weight 0 = .ok (.iload 4, 2) := by decide +kernel
theorem dX2_weight_2 : decode cX2_weight 2 = .ok (.lookupswitch 62 #[(0, 26), (1, 41)], 26) := by decide +kernel
theorem dX2_weight_28 : decode cX2_weight 28 = .ok (.aload_n 0, 1) := by decide +kernel
theorem dX2_weight_29 : decode cX2_weight 29 = .ok (.iload_n 1, 1) := by decide +kernel
theorem dX2_weight_30 : decode cX2_weight 30 = .ok (.iload_n 2, 1) := by decide +kernel
theorem dX2_weight_31 : decode cX2_weight 31 = .ok (.invokevirtual 62, 3) := by decide +kernel
theorem dX2_weight_34 : decode cX2_weight 34 = .ok (.ifCond .eq 7, 3) := by decide +kernel
theorem dX2_weight_37 : decode cX2_weight 37 = .ok (.lconst 1, 1) := by decide +kernel
theorem dX2_weight_38 : decode cX2_weight 38 = .ok (.goto 4, 3) := by decide +kernel
theorem dX2_weight_41 : decode cX2_weight 41 = .ok (.lconst 0, 1) := by decide +kernel
theorem dX2_weight_42 : decode cX2_weight 42 = .ok (.lreturn, 1) := by decide +kernel
theorem dX2_weight_43 : decode cX2_weight 43 = .ok (.aload_n 0, 1) := by decide +kernel
theorem dX2_weight_44 : decode cX2_weight 44 = .ok (.iload_n 1, 1) := by decide +kernel
theorem dX2_weight_45 : decode cX2_weight 45 = .ok (.iload_n 2, 1) := by decide +kernel
theorem dX2_weight_46 : decode cX2_weight 46 = .ok (.invokevirtual 58, 3) := by decide +kernel
theorem dX2_weight_49 : decode cX2_weight 49 = .ok (.ifCond .eq 13, 3) := by decide +kernel
theorem dX2_weight_52 : decode cX2_weight 52 = .ok (.aload_n 0, 1) := by decide +kernel
theorem dX2_weight_53 : decode cX2_weight 53 = .ok (.getfield 21, 3) := by decide +kernel
theorem dX2_weight_56 : decode cX2_weight 56 = .ok (.iload_n 1, 1) := by decide +kernel
theorem dX2_weight_57 : decode cX2_weight 57 = .ok (.iaload, 1) := by decide +kernel
theorem dX2_weight_58 : decode cX2_weight 58 = .ok (.i2l, 1) := by decide +kernel
theorem dX2_weight_59 : decode cX2_weight 59 = .ok (.goto 4, 3) := by decide +kernel
theorem dX2_weight_62 : decode cX2_weight 62 = .ok (.lconst 0, 1) := by decide +kernel
theorem dX2_weight_63 : decode cX2_weight 63 = .ok (.lreturn, 1) := by decide +kernel
theorem dX2_weight_64 : decode cX2_weight 64 = .ok (.aload_n 0, 1) := by decide +kernel
theorem dX2_weight_65 : decode cX2_weight 65 = .ok (.iload_n 1, 1) := by decide +kernel
theorem dX2_weight_66 : decode cX2_weight 66 = .ok (.iload_n 2, 1) := by decide +kernel
theorem dX2_weight_67 : decode cX2_weight 67 = .ok (.invokevirtual 62, 3) := by decide +kernel
theorem dX2_weight_70 : decode cX2_weight 70 = .ok (.ifCond .eq 10, 3) := by decide +kernel
theorem dX2_weight_73 : decode cX2_weight 73 = .ok (.iload_n 3, 1) := by decide +kernel
theorem dX2_weight_74 : decode cX2_weight 74 = .ok (.iload_n 2, 1) := by decide +kernel
theorem dX2_weight_75 : decode cX2_weight 75 = .ok (.isub, 1) := by decide +kernel
theorem dX2_weight_76 : decode cX2_weight 76 = .ok (.i2l, 1) := by decide +kernel
theorem dX2_weight_77 : decode cX2_weight 77 = .ok (.goto 4, 3) := by decide +kernel
theorem dX2_weight_80 : decode cX2_weight 80 = .ok (.lconst 0, 1) := by decide +kernel
theorem dX2_weight_81 : decode cX2_weight 81 = .ok (.lreturn, 1) := by decide +kernel
theorem dX3_init_0 : decode cX3_init 0 = .ok (.aload_n 0, 1) := by decide +kernel
theorem dX3_init_1 : decode cX3_init 1 = .ok (.invokespecial 1, 3) := by decide +kernel
theorem dX3_init_4 : decode cX3_init 4 = .ok (.aload_n 0, 1) := by decide +kernel
theorem dX3_init_5 : decode cX3_init 5 = .ok (.iconst 1, 1) := by decide +kernel
theorem dX3_init_6 : decode cX3_init 6 = .ok (.putfield 7, 3) := by decide +kernel
theorem dX3_init_9 : decode cX3_init 9 = .ok (.return_, 1) := by decide +kernel
theorem dX3_tell_0 : decode cX3_tell 0 = .ok (.aload_n 0, 1) := by decide +kernel
theorem dX3_tell_1 : decode cX3_tell 1 = .ok (.iconst 1, 1) := by decide +kernel
theorem dX3_tell_2 : decode cX3_tell 2 = .ok (.putfield 13, 3) := by decide +kernel
theorem dX3_tell_5 : decode cX3_tell 5 = .ok (.aload_n 0, 1) := by decide +kernel
theorem dX3_tell_6 : decode cX3_tell 6 = .ok (.iload_n 1, 1) := by decide +kernel
theorem dX3_tell_7 : decode cX3_tell 7 = .ok (.putfield 17, 3) := by decide +kernel
theorem dX3_tell_10 : decode cX3_tell 10 = .ok (.aload_n 0, 1) := by decide +kernel
theorem dX3_tell_11 : decode cX3_tell 11 = .ok (.iload_n 2, 1) := by decide +kernel
theorem dX3_tell_12 : decode cX3_tell 12 = .ok (.putfield 20, 3) := by decide +kernel
theorem dX3_tell_15 : decode cX3_tell 15 = .ok (.aload_n 0, 1) := by decide +kernel
theorem dX3_tell_16 : decode cX3_tell 16 = .ok (.iload_n 3, 1) := by decide +kernel
theorem dX3_tell_17 : decode cX3_tell 17 = .ok (.putfield 7, 3) := by decide +kernel
theorem dX3_tell_20 : decode cX3_tell 20 = .ok (.return_, 1) := by decide +kernel
theorem dX3_fits_0 : decode cX3_fits 0 = .ok (.aload_n 0, 1) := by decide +kernel
theorem dX3_fits_1 : decode cX3_fits 1 = .ok (.getfield 13, 3) := by decide +kernel
theorem dX3_fits_4 : decode cX3_fits 4 = .ok (.ifCond .eq 11, 3) := by decide +kernel
theorem dX3_fits_7 : decode cX3_fits 7 = .ok (.aload_n 0, 1) := by decide +kernel
theorem dX3_fits_8 : decode cX3_fits 8 = .ok (.getfield 17, 3) := by decide +kernel
theorem dX3_fits_11 : decode cX3_fits 11 = .ok (.iload_n 1, 1) := by decide +kernel
theorem dX3_fits_12 : decode cX3_fits 12 = .ok (.if_icmp .gt 7, 3) := by decide +kernel
theorem dX3_fits_15 : decode cX3_fits 15 = .ok (.iconst 1, 1) := by decide +kernel
theorem dX3_fits_16 : decode cX3_fits 16 = .ok (.goto 4, 3) := by decide +kernel
theorem dX3_fits_19 : decode cX3_fits 19 = .ok (.iconst 0, 1) := by decide +kernel
theorem dX3_fits_20 : decode cX3_fits 20 = .ok (.ireturn, 1) := by decide +kernel
theorem dX3_isReached_0 : decode cX3_isReached 0 = .ok (.aload_n 0, 1) := by decide +kernel
theorem dX3_isReached_1 : decode cX3_isReached 1 = .ok (.getfield 13, 3) := by decide +kernel
theorem dX3_isReached_4 : decode cX3_isReached 4 = .ok (.ifCond .eq 12, 3) := by decide +kernel
theorem dX3_isReached_7 : decode cX3_isReached 7 = .ok (.aload_n 0, 1) := by decide +kernel
theorem dX3_isReached_8 : decode cX3_isReached 8 = .ok (.lload_n 1, 1) := by decide +kernel
theorem dX3_isReached_9 : decode cX3_isReached 9 = .ok (.lload_n 3, 1) := by decide +kernel
theorem dX3_isReached_10 : decode cX3_isReached 10 = .ok (.invokevirtual 23, 3) := by decide +kernel
theorem dX3_isReached_13 : decode cX3_isReached 13 = .ok (.ifCond .lt 7, 3) := by decide +kernel
theorem dX3_isReached_16 : decode cX3_isReached 16 = .ok (.iconst 1, 1) := by decide +kernel
theorem dX3_isReached_17 : decode cX3_isReached 17 = .ok (.goto 4, 3) := by decide +kernel
theorem dX3_isReached_20 : decode cX3_isReached 20 = .ok (.iconst 0, 1) := by decide +kernel
theorem dX3_isReached_21 : decode cX3_isReached 21 = .ok (.ireturn, 1) := by decide +kernel
theorem dX3_isKept_0 : decode cX3_isKept 0 = .ok (.aload_n 0, 1) := by decide +kernel
theorem dX3_isKept_1 : decode cX3_isKept 1 = .ok (.getfield 13, 3) := by decide +kernel
theorem dX3_isKept_4 : decode cX3_isKept 4 = .ok (.ifCond .eq 12, 3) := by decide +kernel
theorem dX3_isKept_7 : decode cX3_isKept 7 = .ok (.aload_n 0, 1) := by decide +kernel
theorem dX3_isKept_8 : decode cX3_isKept 8 = .ok (.lload_n 1, 1) := by decide +kernel
theorem dX3_isKept_9 : decode cX3_isKept 9 = .ok (.lload_n 3, 1) := by decide +kernel
theorem dX3_isKept_10 : decode cX3_isKept 10 = .ok (.invokevirtual 23, 3) := by decide +kernel
theorem dX3_isKept_13 : decode cX3_isKept 13 = .ok (.ifCond .gt 7, 3) := by decide +kernel
theorem dX3_isKept_16 : decode cX3_isKept 16 = .ok (.iconst 1, 1) := by decide +kernel
theorem dX3_isKept_17 : decode cX3_isKept 17 = .ok (.goto 4, 3) := by decide +kernel
theorem dX3_isKept_20 : decode cX3_isKept 20 = .ok (.iconst 0, 1) := by decide +kernel
theorem dX3_isKept_21 : decode cX3_isKept 21 = .ok (.ireturn, 1) := by decide +kernel
theorem dX3_against_0 : decode cX3_against 0 = .ok (.aload_n 0, 1) := by decide +kernel
theorem dX3_against_1 : decode cX3_against 1 = .ok (.getfield 7, 3) := by decide +kernel
theorem dX3_against_4 : decode cX3_against 4 = .ok (.ifCond .gt 5, 3) := by decide +kernel
theorem dX3_against_7 : decode cX3_against 7 = .ok (.iconst 0, 1) := by decide +kernel
theorem dX3_against_8 : decode cX3_against 8 = .ok (.ireturn, 1) := by decide +kernel
theorem dX3_against_9 : decode cX3_against 9 = .ok (.lload_n 3, 1) := by decide +kernel
theorem dX3_against_10 : decode cX3_against 10 = .ok (.aload_n 0, 1) := by decide +kernel
theorem dX3_against_11 : decode cX3_against 11 = .ok (.getfield 7, 3) := by decide +kernel
theorem dX3_against_14 : decode cX3_against 14 = .ok (.i2l, 1) := by decide +kernel
theorem dX3_against_15 : decode cX3_against 15 = .ok (.lrem, 1) := by decide +kernel
theorem dX3_against_16 : decode cX3_against 16 = .ok (.aload_n 0, 1) := by decide +kernel
theorem dX3_against_17 : decode cX3_against 17 = .ok (.getfield 20, 3) := by decide +kernel
theorem dX3_against_20 : decode cX3_against 20 = .ok (.i2l, 1) := by decide +kernel
theorem dX3_against_21 : decode cX3_against 21 = .ok (.lmul, 1) := by decide +kernel
theorem dX3_against_22 : decode cX3_against 22 = .ok (.lstore 5, 2) := by decide +kernel
theorem dX3_against_24 : decode cX3_against 24 = .ok (.lload_n 3, 1) := by decide +kernel
theorem dX3_against_25 : decode cX3_against 25 = .ok (.aload_n 0, 1) := by decide +kernel
theorem dX3_against_26 : decode cX3_against 26 = .ok (.getfield 7, 3) := by decide +kernel
theorem dX3_against_29 : decode cX3_against 29 = .ok (.i2l, 1) := by decide +kernel
theorem dX3_against_30 : decode cX3_against 30 = .ok (.ldiv, 1) := by decide +kernel
theorem dX3_against_31 : decode cX3_against 31 = .ok (.aload_n 0, 1) := by decide +kernel
theorem dX3_against_32 : decode cX3_against 32 = .ok (.getfield 20, 3) := by decide +kernel
theorem dX3_against_35 : decode cX3_against 35 = .ok (.i2l, 1) := by decide +kernel
theorem dX3_against_36 : decode cX3_against 36 = .ok (.lmul, 1) := by decide +kernel
theorem dX3_against_37 : decode cX3_against 37 = .ok (.lload 5, 2) := by decide +kernel
theorem dX3_against_39 : decode cX3_against 39 = .ok (.aload_n 0, 1) := by decide +kernel
theorem dX3_against_40 : decode cX3_against 40 = .ok (.getfield 7, 3) := by decide +kernel
theorem dX3_against_43 : decode cX3_against 43 = .ok (.i2l, 1) := by decide +kernel
theorem dX3_against_44 : decode cX3_against 44 = .ok (.ldiv, 1) := by decide +kernel
theorem dX3_against_45 : decode cX3_against 45 = .ok (.ladd, 1) := by decide +kernel
theorem dX3_against_46 : decode cX3_against 46 = .ok (.lstore 7, 2) := by decide +kernel
theorem dX3_against_48 : decode cX3_against 48 = .ok (.lload_n 1, 1) := by decide +kernel
theorem dX3_against_49 : decode cX3_against 49 = .ok (.lload 7, 2) := by decide +kernel
theorem dX3_against_51 : decode cX3_against 51 = .ok (.lcmp, 1) := by decide +kernel
theorem dX3_against_52 : decode cX3_against 52 = .ok (.ifCond .eq 16, 3) := by decide +kernel
theorem dX3_against_55 : decode cX3_against 55 = .ok (.lload_n 1, 1) := by decide +kernel
theorem dX3_against_56 : decode cX3_against 56 = .ok (.lload 7, 2) := by decide +kernel
theorem dX3_against_58 : decode cX3_against 58 = .ok (.lcmp, 1) := by decide +kernel
theorem dX3_against_59 : decode cX3_against 59 = .ok (.ifCond .le 7, 3) := by decide +kernel
theorem dX3_against_62 : decode cX3_against 62 = .ok (.iconst 1, 1) := by decide +kernel
theorem dX3_against_63 : decode cX3_against 63 = .ok (.goto 4, 3) := by decide +kernel
theorem dX3_against_66 : decode cX3_against 66 = .ok (.iconst (-1), 1) := by decide +kernel
theorem dX3_against_67 : decode cX3_against 67 = .ok (.ireturn, 1) := by decide +kernel
theorem dX3_against_68 : decode cX3_against 68 = .ok (.lload 5, 2) := by decide +kernel
theorem dX3_against_70 : decode cX3_against 70 = .ok (.aload_n 0, 1) := by decide +kernel
theorem dX3_against_71 : decode cX3_against 71 = .ok (.getfield 7, 3) := by decide +kernel
theorem dX3_against_74 : decode cX3_against 74 = .ok (.i2l, 1) := by decide +kernel
theorem dX3_against_75 : decode cX3_against 75 = .ok (.lrem, 1) := by decide +kernel
theorem dX3_against_76 : decode cX3_against 76 = .ok (.lconst 0, 1) := by decide +kernel
theorem dX3_against_77 : decode cX3_against 77 = .ok (.lcmp, 1) := by decide +kernel
theorem dX3_against_78 : decode cX3_against 78 = .ok (.ifCond .ne 7, 3) := by decide +kernel
theorem dX3_against_81 : decode cX3_against 81 = .ok (.iconst 0, 1) := by decide +kernel
theorem dX3_against_82 : decode cX3_against 82 = .ok (.goto 4, 3) := by decide +kernel
theorem dX3_against_85 : decode cX3_against 85 = .ok (.iconst (-1), 1) := by decide +kernel
theorem dX3_against_86 : decode cX3_against 86 = .ok (.ireturn, 1) := by decide +kernel
theorem dX4_init_0 : decode cX4_init 0 = .ok (.aload_n 0, 1) := by decide +kernel
theorem dX4_init_1 : decode cX4_init 1 = .ok (.invokespecial 3, 3) := by decide +kernel
theorem dX4_init_4 : decode cX4_init 4 = .ok (.aload_n 0, 1) := by decide +kernel
theorem dX4_init_5 : decode cX4_init 5 = .ok (.iconst 3, 1) := by decide +kernel
theorem dX4_init_6 : decode cX4_init 6 = .ok (.newarray .int, 2) := by decide +kernel
theorem dX4_init_8 : decode cX4_init 8 = .ok (.putfield 9, 3) := by decide +kernel
theorem dX4_init_11 : decode cX4_init 11 = .ok (.aload_n 0, 1) := by decide +kernel
theorem dX4_init_12 : decode cX4_init 12 = .ok (.bipush 60, 2) := by decide +kernel
theorem dX4_init_14 : decode cX4_init 14 = .ok (.newarray .int, 2) := by decide +kernel
theorem dX4_init_16 : decode cX4_init 16 = .ok (.putfield 15, 3) := by decide +kernel
theorem dX4_init_19 : decode cX4_init 19 = .ok (.aload_n 0, 1) := by decide +kernel
theorem dX4_init_20 : decode cX4_init 20 = .ok (.iconst 0, 1) := by decide +kernel
theorem dX4_init_21 : decode cX4_init 21 = .ok (.putfield 18, 3) := by decide +kernel
theorem dX4_init_24 : decode cX4_init 24 = .ok (.aload_n 0, 1) := by decide +kernel
theorem dX4_init_25 : decode cX4_init 25 = .ok (.getfield 9, 3) := by decide +kernel
theorem dX4_init_28 : decode cX4_init 28 = .ok (.iconst 0, 1) := by decide +kernel
theorem dX4_init_29 : decode cX4_init 29 = .ok (.iload_n 1, 1) := by decide +kernel
theorem dX4_init_30 : decode cX4_init 30 = .ok (.iastore, 1) := by decide +kernel
theorem dX4_init_31 : decode cX4_init 31 = .ok (.aload_n 0, 1) := by decide +kernel
theorem dX4_init_32 : decode cX4_init 32 = .ok (.getfield 9, 3) := by decide +kernel
theorem dX4_init_35 : decode cX4_init 35 = .ok (.iconst 1, 1) := by decide +kernel
theorem dX4_init_36 : decode cX4_init 36 = .ok (.iload_n 2, 1) := by decide +kernel
theorem dX4_init_37 : decode cX4_init 37 = .ok (.iastore, 1) := by decide +kernel
theorem dX4_init_38 : decode cX4_init 38 = .ok (.aload_n 0, 1) := by decide +kernel
theorem dX4_init_39 : decode cX4_init 39 = .ok (.getfield 9, 3) := by decide +kernel
theorem dX4_init_42 : decode cX4_init 42 = .ok (.iconst 2, 1) := by decide +kernel
theorem dX4_init_43 : decode cX4_init 43 = .ok (.iload_n 3, 1) := by decide +kernel
theorem dX4_init_44 : decode cX4_init 44 = .ok (.iastore, 1) := by decide +kernel
theorem dX4_init_45 : decode cX4_init 45 = .ok (.return_, 1) := by decide +kernel
theorem dX4_planNow_0 : decode cX4_planNow 0 = .ok (.aload_n 0, 1) := by decide +kernel
theorem dX4_planNow_1 : decode cX4_planNow 1 = .ok (.getfield 18, 3) := by decide +kernel
theorem dX4_planNow_4 : decode cX4_planNow 4 = .ok (.ifCond .lt 23, 3) := by decide +kernel
theorem dX4_planNow_7 : decode cX4_planNow 7 = .ok (.aload_n 0, 1) := by decide +kernel
theorem dX4_planNow_8 : decode cX4_planNow 8 = .ok (.getfield 18, 3) := by decide +kernel
theorem dX4_planNow_11 : decode cX4_planNow 11 = .ok (.iconst 3, 1) := by decide +kernel
theorem dX4_planNow_12 : decode cX4_planNow 12 = .ok (.if_icmp .ge 15, 3) := by decide +kernel
theorem dX4_planNow_15 : decode cX4_planNow 15 = .ok (.aload_n 0, 1) := by decide +kernel
theorem dX4_planNow_16 : decode cX4_planNow 16 = .ok (.getfield 9, 3) := by decide +kernel
theorem dX4_planNow_19 : decode cX4_planNow 19 = .ok (.aload_n 0, 1) := by decide +kernel
theorem dX4_planNow_20 : decode cX4_planNow 20 = .ok (.getfield 18, 3) := by decide +kernel
theorem dX4_planNow_23 : decode cX4_planNow 23 = .ok (.iaload, 1) := by decide +kernel
theorem dX4_planNow_24 : decode cX4_planNow 24 = .ok (.goto 4, 3) := by decide +kernel
theorem dX4_planNow_27 : decode cX4_planNow 27 = .ok (.iconst (-1), 1) := by decide +kernel
theorem dX4_planNow_28 : decode cX4_planNow 28 = .ok (.ireturn, 1) := by decide +kernel
theorem dX4_latest_0 : decode cX4_latest 0 = .ok (.iload_n 1, 1) := by decide +kernel
theorem dX4_latest_1 : decode cX4_latest 1 = .ok (.ifCond .lt 27, 3) := by decide +kernel
theorem dX4_latest_4 : decode cX4_latest 4 = .ok (.iload_n 1, 1) := by decide +kernel
theorem dX4_latest_5 : decode cX4_latest 5 = .ok (.aload_n 0, 1) := by decide +kernel
theorem dX4_latest_6 : decode cX4_latest 6 = .ok (.getfield 22, 3) := by decide +kernel
theorem dX4_latest_9 : decode cX4_latest 9 = .ok (.if_icmp .ge 19, 3) := by decide +kernel
theorem dX4_latest_12 : decode cX4_latest 12 = .ok (.aload_n 0, 1) := by decide +kernel
theorem dX4_latest_13 : decode cX4_latest 13 = .ok (.getfield 15, 3) := by decide +kernel
theorem dX4_latest_16 : decode cX4_latest 16 = .ok (.aload_n 0, 1) := by decide +kernel
theorem dX4_latest_17 : decode cX4_latest 17 = .ok (.getfield 22, 3) := by decide +kernel
theorem dX4_latest_20 : decode cX4_latest 20 = .ok (.iconst 1, 1) := by decide +kernel
theorem dX4_latest_21 : decode cX4_latest 21 = .ok (.isub, 1) := by decide +kernel
theorem dX4_latest_22 : decode cX4_latest 22 = .ok (.iload_n 1, 1) := by decide +kernel
theorem dX4_latest_23 : decode cX4_latest 23 = .ok (.isub, 1) := by decide +kernel
theorem dX4_latest_24 : decode cX4_latest 24 = .ok (.iaload, 1) := by decide +kernel
theorem dX4_latest_25 : decode cX4_latest 25 = .ok (.goto 4, 3) := by decide +kernel
theorem dX4_latest_28 : decode cX4_latest 28 = .ok (.iconst 0, 1) := by decide +kernel
theorem dX4_latest_29 : decode cX4_latest 29 = .ok (.ireturn, 1) := by decide +kernel
theorem dX4_receive_0 : decode cX4_receive 0 = .ok (.aload_n 0, 1) := by decide +kernel
theorem dX4_receive_1 : decode cX4_receive 1 = .ok (.getfield 22, 3) := by decide +kernel
theorem dX4_receive_4 : decode cX4_receive 4 = .ok (.bipush 60, 2) := by decide +kernel
theorem dX4_receive_6 : decode cX4_receive 6 = .ok (.if_icmp .lt 4, 3) := by decide +kernel
theorem dX4_receive_9 : decode cX4_receive 9 = .ok (.return_, 1) := by decide +kernel
theorem dX4_receive_10 : decode cX4_receive 10 = .ok (.aload_n 0, 1) := by decide +kernel
theorem dX4_receive_11 : decode cX4_receive 11 = .ok (.getfield 15, 3) := by decide +kernel
theorem dX4_receive_14 : decode cX4_receive 14 = .ok (.aload_n 0, 1) := by decide +kernel
theorem dX4_receive_15 : decode cX4_receive 15 = .ok (.getfield 22, 3) := by decide +kernel
theorem dX4_receive_18 : decode cX4_receive 18 = .ok (.iload_n 1, 1) := by decide +kernel
theorem dX4_receive_19 : decode cX4_receive 19 = .ok (.iastore, 1) := by decide +kernel
theorem dX4_receive_20 : decode cX4_receive 20 = .ok (.aload_n 0, 1) := by decide +kernel
theorem dX4_receive_21 : decode cX4_receive 21 = .ok (.dup, 1) := by decide +kernel
theorem dX4_receive_22 : decode cX4_receive 22 = .ok (.getfield 22, 3) := by decide +kernel
theorem dX4_receive_25 : decode cX4_receive 25 = .ok (.iconst 1, 1) := by decide +kernel
theorem dX4_receive_26 : decode cX4_receive 26 = .ok (.iadd, 1) := by decide +kernel
theorem dX4_receive_27 : decode cX4_receive 27 = .ok (.putfield 22, 3) := by decide +kernel
theorem dX4_receive_30 : decode cX4_receive 30 = .ok (.aload_n 0, 1) := by decide +kernel
theorem dX4_receive_31 : decode cX4_receive 31 = .ok (.invokevirtual 25, 3) := by decide +kernel
theorem dX4_receive_34 : decode cX4_receive 34 = .ok (.istore_n 2, 1) := by decide +kernel
theorem dX4_receive_35 : decode cX4_receive 35 = .ok (.iload_n 2, 1) := by decide +kernel
theorem dX4_receive_36 : decode cX4_receive 36 = .ok (.aload_n 0, 1) := by decide +kernel
theorem dX4_receive_37 : decode cX4_receive 37 = .ok (.getfield 18, 3) := by decide +kernel
theorem dX4_receive_40 : decode cX4_receive 40 = .ok (.if_icmp .eq 23, 3) := by decide +kernel
theorem dX4_receive_43 : decode cX4_receive 43 = .ok (.aload_n 0, 1) := by decide +kernel
theorem dX4_receive_44 : decode cX4_receive 44 = .ok (.iload_n 2, 1) := by decide +kernel
theorem dX4_receive_45 : decode cX4_receive 45 = .ok (.putfield 18, 3) := by decide +kernel
theorem dX4_receive_48 : decode cX4_receive 48 = .ok (.aload_n 0, 1) := by decide +kernel
theorem dX4_receive_49 : decode cX4_receive 49 = .ok (.dup, 1) := by decide +kernel
theorem dX4_receive_50 : decode cX4_receive 50 = .ok (.getfield 29, 3) := by decide +kernel
theorem dX4_receive_53 : decode cX4_receive 53 = .ok (.iconst 1, 1) := by decide +kernel
theorem dX4_receive_54 : decode cX4_receive 54 = .ok (.iadd, 1) := by decide +kernel
theorem dX4_receive_55 : decode cX4_receive 55 = .ok (.putfield 29, 3) := by decide +kernel
theorem dX4_receive_58 : decode cX4_receive 58 = .ok (.aload_n 0, 1) := by decide +kernel
theorem dX4_receive_59 : decode cX4_receive 59 = .ok (.iconst 0, 1) := by decide +kernel
theorem dX4_receive_60 : decode cX4_receive 60 = .ok (.putfield 22, 3) := by decide +kernel
theorem dX4_receive_63 : decode cX4_receive 63 = .ok (.return_, 1) := by decide +kernel
theorem dX4_nextRule_0 : decode cX4_nextRule 0 = .ok (.aload_n 0, 1) := by decide +kernel
theorem dX4_nextRule_1 : decode cX4_nextRule 1 = .ok (.getfield 18, 3) := by decide +kernel
theorem dX4_nextRule_4 : decode cX4_nextRule 4 = .ok (.lookupswitch 74 #[(0, 28), (1, 58)], 28) := by decide +kernel
theorem dX4_nextRule_32 : decode cX4_nextRule 32 = .ok (.aload_n 0, 1) := by decide +kernel
theorem dX4_nextRule_33 : decode cX4_nextRule 33 = .ok (.iconst 5, 1) := by decide +kernel
theorem dX4_nextRule_34 : decode cX4_nextRule 34 = .ok (.iconst 2, 1) := by decide +kernel
theorem dX4_nextRule_35 : decode cX4_nextRule 35 = .ok (.invokevirtual 32, 3) := by decide +kernel
theorem dX4_nextRule_38 : decode cX4_nextRule 38 = .ok (.iconst 2, 1) := by decide +kernel
theorem dX4_nextRule_39 : decode cX4_nextRule 39 = .ok (.if_icmp .lt 5, 3) := by decide +kernel
theorem dX4_nextRule_42 : decode cX4_nextRule 42 = .ok (.iconst 1, 1) := by decide +kernel
theorem dX4_nextRule_43 : decode cX4_nextRule 43 = .ok (.ireturn, 1) := by decide +kernel
theorem dX4_nextRule_44 : decode cX4_nextRule 44 = .ok (.aload_n 0, 1) := by decide +kernel
theorem dX4_nextRule_45 : decode cX4_nextRule 45 = .ok (.bipush 6, 2) := by decide +kernel
theorem dX4_nextRule_47 : decode cX4_nextRule 47 = .ok (.iconst 1, 1) := by decide +kernel
theorem dX4_nextRule_48 : decode cX4_nextRule 48 = .ok (.invokevirtual 32, 3) := by decide +kernel
theorem dX4_nextRule_51 : decode cX4_nextRule 51 = .ok (.bipush 6, 2) := by decide +kernel
theorem dX4_nextRule_53 : decode cX4_nextRule 53 = .ok (.if_icmp .ne 7, 3) := by decide +kernel
theorem dX4_nextRule_56 : decode cX4_nextRule 56 = .ok (.iconst 2, 1) := by decide +kernel
theorem dX4_nextRule_57 : decode cX4_nextRule 57 = .ok (.goto 4, 3) := by decide +kernel
theorem dX4_nextRule_60 : decode cX4_nextRule 60 = .ok (.iconst 0, 1) := by decide +kernel
theorem dX4_nextRule_61 : decode cX4_nextRule 61 = .ok (.ireturn, 1) := by decide +kernel
theorem dX4_nextRule_62 : decode cX4_nextRule 62 = .ok (.aload_n 0, 1) := by decide +kernel
theorem dX4_nextRule_63 : decode cX4_nextRule 63 = .ok (.iconst 5, 1) := by decide +kernel
theorem dX4_nextRule_64 : decode cX4_nextRule 64 = .ok (.iconst 1, 1) := by decide +kernel
theorem dX4_nextRule_65 : decode cX4_nextRule 65 = .ok (.invokevirtual 32, 3) := by decide +kernel
theorem dX4_nextRule_68 : decode cX4_nextRule 68 = .ok (.iconst 5, 1) := by decide +kernel
theorem dX4_nextRule_69 : decode cX4_nextRule 69 = .ok (.if_icmp .ne 7, 3) := by decide +kernel
theorem dX4_nextRule_72 : decode cX4_nextRule 72 = .ok (.iconst 0, 1) := by decide +kernel
theorem dX4_nextRule_73 : decode cX4_nextRule 73 = .ok (.goto 4, 3) := by decide +kernel
theorem dX4_nextRule_76 : decode cX4_nextRule 76 = .ok (.iconst 1, 1) := by decide +kernel
theorem dX4_nextRule_77 : decode cX4_nextRule 77 = .ok (.ireturn, 1) := by decide +kernel
theorem dX4_nextRule_78 : decode cX4_nextRule 78 = .ok (.aload_n 0, 1) := by decide +kernel
theorem dX4_nextRule_79 : decode cX4_nextRule 79 = .ok (.iconst 0, 1) := by decide +kernel
theorem dX4_nextRule_80 : decode cX4_nextRule 80 = .ok (.invokevirtual 36, 3) := by decide +kernel
theorem dX4_nextRule_83 : decode cX4_nextRule 83 = .ok (.iconst 2, 1) := by decide +kernel
theorem dX4_nextRule_84 : decode cX4_nextRule 84 = .ok (.if_icmp .ne 7, 3) := by decide +kernel
theorem dX4_nextRule_87 : decode cX4_nextRule 87 = .ok (.iconst 0, 1) := by decide +kernel
theorem dX4_nextRule_88 : decode cX4_nextRule 88 = .ok (.goto 4, 3) := by decide +kernel
theorem dX4_nextRule_91 : decode cX4_nextRule 91 = .ok (.iconst 2, 1) := by decide +kernel
theorem dX4_nextRule_92 : decode cX4_nextRule 92 = .ok (.ireturn, 1) := by decide +kernel
theorem dX4_amongLatest_0 : decode cX4_amongLatest 0 = .ok (.iconst 0, 1) := by decide +kernel
theorem dX4_amongLatest_1 : decode cX4_amongLatest 1 = .ok (.istore_n 3, 1) := by decide +kernel
theorem dX4_amongLatest_2 : decode cX4_amongLatest 2 = .ok (.iconst 0, 1) := by decide +kernel
theorem dX4_amongLatest_3 : decode cX4_amongLatest 3 = .ok (.istore 4, 2) := by decide +kernel
theorem dX4_amongLatest_5 : decode cX4_amongLatest 5 = .ok (.iload 4, 2) := by decide +kernel
theorem dX4_amongLatest_7 : decode cX4_amongLatest 7 = .ok (.iload_n 1, 1) := by decide +kernel
theorem dX4_amongLatest_8 : decode cX4_amongLatest 8 = .ok (.if_icmp .ge 22, 3) := by decide +kernel
theorem dX4_amongLatest_11 : decode cX4_amongLatest 11 = .ok (.aload_n 0, 1) := by decide +kernel
theorem dX4_amongLatest_12 : decode cX4_amongLatest 12 = .ok (.iload 4, 2) := by decide +kernel
theorem dX4_amongLatest_14 : decode cX4_amongLatest 14 = .ok (.invokevirtual 36, 3) := by decide +kernel
theorem dX4_amongLatest_17 : decode cX4_amongLatest 17 = .ok (.iload_n 2, 1) := by decide +kernel
theorem dX4_amongLatest_18 : decode cX4_amongLatest 18 = .ok (.if_icmp .ne 6, 3) := by decide +kernel
theorem dX4_amongLatest_21 : decode cX4_amongLatest 21 = .ok (.iinc 3 1, 3) := by decide +kernel
theorem dX4_amongLatest_24 : decode cX4_amongLatest 24 = .ok (.iinc 4 1, 3) := by decide +kernel
theorem dX4_amongLatest_27 : decode cX4_amongLatest 27 = .ok (.goto (-22), 3) := by decide +kernel
theorem dX4_amongLatest_30 : decode cX4_amongLatest 30 = .ok (.iload_n 3, 1) := by decide +kernel
theorem dX4_amongLatest_31 : decode cX4_amongLatest 31 = .ok (.ireturn, 1) := by decide +kernel
theorem dX5_init_0 : decode cX5_init 0 = .ok (.aload_n 0, 1) := by decide +kernel
theorem dX5_init_1 : decode cX5_init 1 = .ok (.invokespecial 3, 3) := by decide +kernel
theorem dX5_init_4 : decode cX5_init 4 = .ok (.aload_n 0, 1) := by decide +kernel
theorem dX5_init_5 : decode cX5_init 5 = .ok (.bipush 61, 2) := by decide +kernel
theorem dX5_init_7 : decode cX5_init 7 = .ok (.bipush 61, 2) := by decide +kernel
theorem dX5_init_9 : decode cX5_init 9 = .ok (.multianewarray 9 2, 4) := by decide +kernel
theorem dX5_init_13 : decode cX5_init 13 = .ok (.putfield 11, 3) := by decide +kernel
theorem dX5_init_16 : decode cX5_init 16 = .ok (.aload_n 0, 1) := by decide +kernel
theorem dX5_init_17 : decode cX5_init 17 = .ok (.getfield 11, 3) := by decide +kernel
theorem dX5_init_20 : decode cX5_init 20 = .ok (.iconst 0, 1) := by decide +kernel
theorem dX5_init_21 : decode cX5_init 21 = .ok (.aaload, 1) := by decide +kernel
theorem dX5_init_22 : decode cX5_init 22 = .ok (.iconst 0, 1) := by decide +kernel
theorem dX5_init_23 : decode cX5_init 23 = .ok (.lconst 1, 1) := by decide +kernel
theorem dX5_init_24 : decode cX5_init 24 = .ok (.lastore, 1) := by decide +kernel
theorem dX5_init_25 : decode cX5_init 25 = .ok (.iconst 1, 1) := by decide +kernel
theorem dX5_init_26 : decode cX5_init 26 = .ok (.istore_n 1, 1) := by decide +kernel
theorem dX5_init_27 : decode cX5_init 27 = .ok (.iload_n 1, 1) := by decide +kernel
theorem dX5_init_28 : decode cX5_init 28 = .ok (.bipush 60, 2) := by decide +kernel
theorem dX5_init_30 : decode cX5_init 30 = .ok (.if_icmp .gt 62, 3) := by decide +kernel
theorem dX5_init_33 : decode cX5_init 33 = .ok (.aload_n 0, 1) := by decide +kernel
theorem dX5_init_34 : decode cX5_init 34 = .ok (.getfield 11, 3) := by decide +kernel
theorem dX5_init_37 : decode cX5_init 37 = .ok (.iload_n 1, 1) := by decide +kernel
theorem dX5_init_38 : decode cX5_init 38 = .ok (.aaload, 1) := by decide +kernel
theorem dX5_init_39 : decode cX5_init 39 = .ok (.iconst 0, 1) := by decide +kernel
theorem dX5_init_40 : decode cX5_init 40 = .ok (.lconst 1, 1) := by decide +kernel
theorem dX5_init_41 : decode cX5_init 41 = .ok (.lastore, 1) := by decide +kernel
theorem dX5_init_42 : decode cX5_init 42 = .ok (.iconst 1, 1) := by decide +kernel
theorem dX5_init_43 : decode cX5_init 43 = .ok (.istore_n 2, 1) := by decide +kernel
theorem dX5_init_44 : decode cX5_init 44 = .ok (.iload_n 2, 1) := by decide +kernel
theorem dX5_init_45 : decode cX5_init 45 = .ok (.iload_n 1, 1) := by decide +kernel
theorem dX5_init_46 : decode cX5_init 46 = .ok (.if_icmp .gt 40, 3) := by decide +kernel
theorem dX5_init_49 : decode cX5_init 49 = .ok (.aload_n 0, 1) := by decide +kernel
theorem dX5_init_50 : decode cX5_init 50 = .ok (.getfield 11, 3) := by decide +kernel
theorem dX5_init_53 : decode cX5_init 53 = .ok (.iload_n 1, 1) := by decide +kernel
theorem dX5_init_54 : decode cX5_init 54 = .ok (.aaload, 1) := by decide +kernel
theorem dX5_init_55 : decode cX5_init 55 = .ok (.iload_n 2, 1) := by decide +kernel
theorem dX5_init_56 : decode cX5_init 56 = .ok (.aload_n 0, 1) := by decide +kernel
theorem dX5_init_57 : decode cX5_init 57 = .ok (.getfield 11, 3) := by decide +kernel
theorem dX5_init_60 : decode cX5_init 60 = .ok (.iload_n 1, 1) := by decide +kernel
theorem dX5_init_61 : decode cX5_init 61 = .ok (.iconst 1, 1) := by decide +kernel
theorem dX5_init_62 : decode cX5_init 62 = .ok (.isub, 1) := by decide +kernel
theorem dX5_init_63 : decode cX5_init 63 = .ok (.aaload, 1) := by decide +kernel
theorem dX5_init_64 : decode cX5_init 64 = .ok (.iload_n 2, 1) := by decide +kernel
theorem dX5_init_65 : decode cX5_init 65 = .ok (.iconst 1, 1) := by decide +kernel
theorem dX5_init_66 : decode cX5_init 66 = .ok (.isub, 1) := by decide +kernel
theorem dX5_init_67 : decode cX5_init 67 = .ok (.laload, 1) := by decide +kernel
theorem dX5_init_68 : decode cX5_init 68 = .ok (.aload_n 0, 1) := by decide +kernel
theorem dX5_init_69 : decode cX5_init 69 = .ok (.getfield 11, 3) := by decide +kernel
theorem dX5_init_72 : decode cX5_init 72 = .ok (.iload_n 1, 1) := by decide +kernel
theorem dX5_init_73 : decode cX5_init 73 = .ok (.iconst 1, 1) := by decide +kernel
theorem dX5_init_74 : decode cX5_init 74 = .ok (.isub, 1) := by decide +kernel
theorem dX5_init_75 : decode cX5_init 75 = .ok (.aaload, 1) := by decide +kernel
theorem dX5_init_76 : decode cX5_init 76 = .ok (.iload_n 2, 1) := by decide +kernel
theorem dX5_init_77 : decode cX5_init 77 = .ok (.laload, 1) := by decide +kernel
theorem dX5_init_78 : decode cX5_init 78 = .ok (.ladd, 1) := by decide +kernel
theorem dX5_init_79 : decode cX5_init 79 = .ok (.lastore, 1) := by decide +kernel
theorem dX5_init_80 : decode cX5_init 80 = .ok (.iinc 2 1, 3) := by decide +kernel
theorem dX5_init_83 : decode cX5_init 83 = .ok (.goto (-39), 3) := by decide +kernel
theorem dX5_init_86 : decode cX5_init 86 = .ok (.iinc 1 1, 3) := by decide +kernel
theorem dX5_init_89 : decode cX5_init 89 = .ok (.goto (-62), 3) := by decide +kernel
theorem dX5_init_92 : decode cX5_init 92 = .ok (.return_, 1) := by decide +kernel
theorem dX5_choose_0 : decode cX5_choose 0 = .ok (.iload_n 1, 1) := by decide +kernel
theorem dX5_choose_1 : decode cX5_choose 1 = .ok (.ifCond .lt 18, 3) := by decide +kernel
theorem dX5_choose_4 : decode cX5_choose 4 = .ok (.iload_n 1, 1) := by decide +kernel
theorem dX5_choose_5 : decode cX5_choose 5 = .ok (.bipush 60, 2) := by decide +kernel
theorem dX5_choose_7 : decode cX5_choose 7 = .ok (.if_icmp .gt 12, 3) := by decide +kernel
theorem dX5_choose_10 : decode cX5_choose 10 = .ok (.iload_n 2, 1) := by decide +kernel
theorem dX5_choose_11 : decode cX5_choose 11 = .ok (.ifCond .lt 8, 3) := by decide +kernel
theorem dX5_choose_14 : decode cX5_choose 14 = .ok (.iload_n 2, 1) := by decide +kernel
theorem dX5_choose_15 : decode cX5_choose 15 = .ok (.iload_n 1, 1) := by decide +kernel
theorem dX5_choose_16 : decode cX5_choose 16 = .ok (.if_icmp .le 5, 3) := by decide +kernel
theorem dX5_choose_19 : decode cX5_choose 19 = .ok (.lconst 0, 1) := by decide +kernel
theorem dX5_choose_20 : decode cX5_choose 20 = .ok (.lreturn, 1) := by decide +kernel
theorem dX5_choose_21 : decode cX5_choose 21 = .ok (.aload_n 0, 1) := by decide +kernel
theorem dX5_choose_22 : decode cX5_choose 22 = .ok (.getfield 11, 3) := by decide +kernel
theorem dX5_choose_25 : decode cX5_choose 25 = .ok (.iload_n 1, 1) := by decide +kernel
theorem dX5_choose_26 : decode cX5_choose 26 = .ok (.aaload, 1) := by decide +kernel
theorem dX5_choose_27 : decode cX5_choose 27 = .ok (.iload_n 2, 1) := by decide +kernel
theorem dX5_choose_28 : decode cX5_choose 28 = .ok (.laload, 1) := by decide +kernel
theorem dX5_choose_29 : decode cX5_choose 29 = .ok (.lreturn, 1) := by decide +kernel
