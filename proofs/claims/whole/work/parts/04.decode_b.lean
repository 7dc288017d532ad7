theorem dX6_init_0 : decode cX6_init 0 = .ok (.aload_n 0, 1) := by decide +kernel
theorem dX6_init_1 : decode cX6_init 1 = .ok (.invokespecial 1, 3) := by decide +kernel
theorem dX6_init_4 : decode cX6_init 4 = .ok (.aload_n 0, 1) := by decide +kernel
theorem dX6_init_5 : decode cX6_init 5 = .ok (.new 7, 3) := by decide +kernel
theorem dX6_init_8 : decode cX6_init 8 = .ok (.dup, 1) := by decide +kernel
theorem dX6_init_9 : decode cX6_init 9 = .ok (.invokespecial 9, 3) := by decide +kernel
theorem dX6_init_12 : decode cX6_init 12 = .ok (.putfield 10, 3) := by decide +kernel
theorem dX6_init_15 : decode cX6_init 15 = .ok (.aload_n 0, 1) := by decide +kernel
theorem dX6_init_16 : decode cX6_init 16 = .ok (.new 16, 3) := by decide +kernel
theorem dX6_init_19 : decode cX6_init 19 = .ok (.dup, 1) := by decide +kernel
theorem dX6_init_20 : decode cX6_init 20 = .ok (.invokespecial 18, 3) := by decide +kernel
theorem dX6_init_23 : decode cX6_init 23 = .ok (.putfield 19, 3) := by decide +kernel
theorem dX6_init_26 : decode cX6_init 26 = .ok (.aload_n 0, 1) := by decide +kernel
theorem dX6_init_27 : decode cX6_init 27 = .ok (.bipush 24, 2) := by decide +kernel
theorem dX6_init_29 : decode cX6_init 29 = .ok (.anewarray 23, 3) := by decide +kernel
theorem dX6_init_32 : decode cX6_init 32 = .ok (.putfield 25, 3) := by decide +kernel
theorem dX6_init_35 : decode cX6_init 35 = .ok (.aload_n 0, 1) := by decide +kernel
theorem dX6_init_36 : decode cX6_init 36 = .ok (.new 29, 3) := by decide +kernel
theorem dX6_init_39 : decode cX6_init 39 = .ok (.dup, 1) := by decide +kernel
theorem dX6_init_40 : decode cX6_init 40 = .ok (.invokespecial 31, 3) := by decide +kernel
theorem dX6_init_43 : decode cX6_init 43 = .ok (.putfield 32, 3) := by decide +kernel
theorem dX6_init_46 : decode cX6_init 46 = .ok (.aload_n 0, 1) := by decide +kernel
theorem dX6_init_47 : decode cX6_init 47 = .ok (.new 29, 3) := by decide +kernel
theorem dX6_init_50 : decode cX6_init 50 = .ok (.dup, 1) := by decide +kernel
theorem dX6_init_51 : decode cX6_init 51 = .ok (.invokespecial 31, 3) := by decide +kernel
theorem dX6_init_54 : decode cX6_init 54 = .ok (.putfield 36, 3) := by decide +kernel
theorem dX6_init_57 : decode cX6_init 57 = .ok (.aload_n 0, 1) := by decide +kernel
theorem dX6_init_58 : decode cX6_init 58 = .ok (.bipush 8, 2) := by decide +kernel
theorem dX6_init_60 : decode cX6_init 60 = .ok (.anewarray 39, 3) := by decide +kernel
theorem dX6_init_63 : decode cX6_init 63 = .ok (.putfield 41, 3) := by decide +kernel
theorem dX6_init_66 : decode cX6_init 66 = .ok (.aload_n 0, 1) := by decide +kernel
theorem dX6_init_67 : decode cX6_init 67 = .ok (.bipush 60, 2) := by decide +kernel
theorem dX6_init_69 : decode cX6_init 69 = .ok (.anewarray 45, 3) := by decide +kernel
theorem dX6_init_72 : decode cX6_init 72 = .ok (.putfield 47, 3) := by decide +kernel
theorem dX6_init_75 : decode cX6_init 75 = .ok (.aload_n 0, 1) := by decide +kernel
theorem dX6_init_76 : decode cX6_init 76 = .ok (.iconst 4, 1) := by decide +kernel
theorem dX6_init_77 : decode cX6_init 77 = .ok (.newarray .int, 2) := by decide +kernel
theorem dX6_init_79 : decode cX6_init 79 = .ok (.putfield 51, 3) := by decide +kernel
theorem dX6_init_82 : decode cX6_init 82 = .ok (.return_, 1) := by decide +kernel
theorem dX6_plan_0 : decode cX6_plan 0 = .ok (.aload_n 0, 1) := by decide +kernel
theorem dX6_plan_1 : decode cX6_plan 1 = .ok (.getfield 55, 3) := by decide +kernel
theorem dX6_plan_4 : decode cX6_plan 4 = .ok (.bipush 24, 2) := by decide +kernel
theorem dX6_plan_6 : decode cX6_plan 6 = .ok (.if_icmp .lt 6, 3) := by decide +kernel
theorem dX6_plan_9 : decode cX6_plan 9 = .ok (.bipush (-2), 2) := by decide +kernel
theorem dX6_plan_11 : decode cX6_plan 11 = .ok (.ireturn, 1) := by decide +kernel
theorem dX6_plan_12 : decode cX6_plan 12 = .ok (.aload_n 0, 1) := by decide +kernel
theorem dX6_plan_13 : decode cX6_plan 13 = .ok (.getfield 25, 3) := by decide +kernel
theorem dX6_plan_16 : decode cX6_plan 16 = .ok (.aload_n 0, 1) := by decide +kernel
theorem dX6_plan_17 : decode cX6_plan 17 = .ok (.getfield 55, 3) := by decide +kernel
theorem dX6_plan_20 : decode cX6_plan 20 = .ok (.new 23, 3) := by decide +kernel
theorem dX6_plan_23 : decode cX6_plan 23 = .ok (.dup, 1) := by decide +kernel
theorem dX6_plan_24 : decode cX6_plan 24 = .ok (.invokespecial 59, 3) := by decide +kernel
theorem dX6_plan_27 : decode cX6_plan 27 = .ok (.aastore, 1) := by decide +kernel
theorem dX6_plan_28 : decode cX6_plan 28 = .ok (.aload_n 0, 1) := by decide +kernel
theorem dX6_plan_29 : decode cX6_plan 29 = .ok (.dup, 1) := by decide +kernel
theorem dX6_plan_30 : decode cX6_plan 30 = .ok (.getfield 55, 3) := by decide +kernel
theorem dX6_plan_33 : decode cX6_plan 33 = .ok (.iconst 1, 1) := by decide +kernel
theorem dX6_plan_34 : decode cX6_plan 34 = .ok (.iadd, 1) := by decide +kernel
theorem dX6_plan_35 : decode cX6_plan 35 = .ok (.putfield 55, 3) := by decide +kernel
theorem dX6_plan_38 : decode cX6_plan 38 = .ok (.aload_n 0, 1) := by decide +kernel
theorem dX6_plan_39 : decode cX6_plan 39 = .ok (.getfield 55, 3) := by decide +kernel
theorem dX6_plan_42 : decode cX6_plan 42 = .ok (.iconst 1, 1) := by decide +kernel
theorem dX6_plan_43 : decode cX6_plan 43 = .ok (.isub, 1) := by decide +kernel
theorem dX6_plan_44 : decode cX6_plan 44 = .ok (.ireturn, 1) := by decide +kernel
theorem dX6_stage_0 : decode cX6_stage 0 = .ok (.aload_n 0, 1) := by decide +kernel
theorem dX6_stage_1 : decode cX6_stage 1 = .ok (.iload_n 1, 1) := by decide +kernel
theorem dX6_stage_2 : decode cX6_stage 2 = .ok (.invokevirtual 60, 3) := by decide +kernel
theorem dX6_stage_5 : decode cX6_stage 5 = .ok (.astore 5, 2) := by decide +kernel
theorem dX6_stage_7 : decode cX6_stage 7 = .ok (.aload 5, 2) := by decide +kernel
theorem dX6_stage_9 : decode cX6_stage 9 = .ok (.ifnull 19, 3) := by decide +kernel
theorem dX6_stage_12 : decode cX6_stage 12 = .ok (.aload 5, 2) := by decide +kernel
theorem dX6_stage_14 : decode cX6_stage 14 = .ok (.iload_n 2, 1) := by decide +kernel
theorem dX6_stage_15 : decode cX6_stage 15 = .ok (.iload_n 3, 1) := by decide +kernel
theorem dX6_stage_16 : decode cX6_stage 16 = .ok (.iload 4, 2) := by decide +kernel
theorem dX6_stage_18 : decode cX6_stage 18 = .ok (.aload_n 0, 1) := by decide +kernel
theorem dX6_stage_19 : decode cX6_stage 19 = .ok (.getfield 10, 3) := by decide +kernel
theorem dX6_stage_22 : decode cX6_stage 22 = .ok (.invokevirtual 64, 3) := by decide +kernel
theorem dX6_stage_25 : decode cX6_stage 25 = .ok (.ifCond .ne 6, 3) := by decide +kernel
theorem dX6_stage_28 : decode cX6_stage 28 = .ok (.bipush (-2), 2) := by decide +kernel
theorem dX6_stage_30 : decode cX6_stage 30 = .ok (.ireturn, 1) := by decide +kernel
theorem dX6_stage_31 : decode cX6_stage 31 = .ok (.aload 5, 2) := by decide +kernel
theorem dX6_stage_33 : decode cX6_stage 33 = .ok (.getfield 68, 3) := by decide +kernel
theorem dX6_stage_36 : decode cX6_stage 36 = .ok (.ireturn, 1) := by decide +kernel
theorem dX6_of_0 : decode cX6_of 0 = .ok (.aload_n 0, 1) := by decide +kernel
theorem dX6_of_1 : decode cX6_of 1 = .ok (.iload_n 1, 1) := by decide +kernel
theorem dX6_of_2 : decode cX6_of 2 = .ok (.invokevirtual 60, 3) := by decide +kernel
theorem dX6_of_5 : decode cX6_of 5 = .ok (.astore 4, 2) := by decide +kernel
theorem dX6_of_7 : decode cX6_of 7 = .ok (.aload 4, 2) := by decide +kernel
theorem dX6_of_9 : decode cX6_of 9 = .ok (.ifnull 12, 3) := by decide +kernel
theorem dX6_of_12 : decode cX6_of 12 = .ok (.aload 4, 2) := by decide +kernel
theorem dX6_of_14 : decode cX6_of 14 = .ok (.iload_n 2, 1) := by decide +kernel
theorem dX6_of_15 : decode cX6_of 15 = .ok (.invokevirtual 71, 3) := by decide +kernel
theorem dX6_of_18 : decode cX6_of 18 = .ok (.ifCond .ne 6, 3) := by decide +kernel
theorem dX6_of_21 : decode cX6_of 21 = .ok (.bipush (-2), 2) := by decide +kernel
theorem dX6_of_23 : decode cX6_of 23 = .ok (.ireturn, 1) := by decide +kernel
theorem dX6_of_24 : decode cX6_of 24 = .ok (.iload_n 3, 1) := by decide +kernel
theorem dX6_of_25 : decode cX6_of 25 = .ok (.tableswitch 51 0 2 #[27, 35, 43], 27) := by decide +kernel
theorem dX6_of_52 : decode cX6_of 52 = .ok (.aload 4, 2) := by decide +kernel
theorem dX6_of_54 : decode cX6_of 54 = .ok (.getfield 75, 3) := by decide +kernel
theorem dX6_of_57 : decode cX6_of 57 = .ok (.iload_n 2, 1) := by decide +kernel
theorem dX6_of_58 : decode cX6_of 58 = .ok (.iaload, 1) := by decide +kernel
theorem dX6_of_59 : decode cX6_of 59 = .ok (.ireturn, 1) := by decide +kernel
theorem dX6_of_60 : decode cX6_of 60 = .ok (.aload 4, 2) := by decide +kernel
theorem dX6_of_62 : decode cX6_of 62 = .ok (.getfield 78, 3) := by decide +kernel
theorem dX6_of_65 : decode cX6_of 65 = .ok (.iload_n 2, 1) := by decide +kernel
theorem dX6_of_66 : decode cX6_of 66 = .ok (.iaload, 1) := by decide +kernel
theorem dX6_of_67 : decode cX6_of 67 = .ok (.ireturn, 1) := by decide +kernel
theorem dX6_of_68 : decode cX6_of 68 = .ok (.aload 4, 2) := by decide +kernel
theorem dX6_of_70 : decode cX6_of 70 = .ok (.getfield 81, 3) := by decide +kernel
theorem dX6_of_73 : decode cX6_of 73 = .ok (.iload_n 2, 1) := by decide +kernel
theorem dX6_of_74 : decode cX6_of 74 = .ok (.iaload, 1) := by decide +kernel
theorem dX6_of_75 : decode cX6_of 75 = .ok (.ireturn, 1) := by decide +kernel
theorem dX6_of_76 : decode cX6_of 76 = .ok (.bipush (-2), 2) := by decide +kernel
theorem dX6_of_78 : decode cX6_of 78 = .ok (.ireturn, 1) := by decide +kernel
theorem dX6_part_0 : decode cX6_part 0 = .ok (.aload_n 0, 1) := by decide +kernel
theorem dX6_part_1 : decode cX6_part 1 = .ok (.iload_n 1, 1) := by decide +kernel
theorem dX6_part_2 : decode cX6_part 2 = .ok (.iload_n 2, 1) := by decide +kernel
theorem dX6_part_3 : decode cX6_part 3 = .ok (.invokevirtual 84, 3) := by decide +kernel
theorem dX6_part_6 : decode cX6_part 6 = .ok (.astore 5, 2) := by decide +kernel
theorem dX6_part_8 : decode cX6_part 8 = .ok (.aload 5, 2) := by decide +kernel
theorem dX6_part_10 : decode cX6_part 10 = .ok (.ifnull 23, 3) := by decide +kernel
theorem dX6_part_13 : decode cX6_part 13 = .ok (.iload_n 3, 1) := by decide +kernel
theorem dX6_part_14 : decode cX6_part 14 = .ok (.ifCond .lt 19, 3) := by decide +kernel
theorem dX6_part_17 : decode cX6_part 17 = .ok (.iload_n 3, 1) := by decide +kernel
theorem dX6_part_18 : decode cX6_part 18 = .ok (.iload_n 2, 1) := by decide +kernel
theorem dX6_part_19 : decode cX6_part 19 = .ok (.if_icmp .gt 14, 3) := by decide +kernel
theorem dX6_part_22 : decode cX6_part 22 = .ok (.iload 4, 2) := by decide +kernel
theorem dX6_part_24 : decode cX6_part 24 = .ok (.ifCond .lt 9, 3) := by decide +kernel
theorem dX6_part_27 : decode cX6_part 27 = .ok (.iload 4, 2) := by decide +kernel
theorem dX6_part_29 : decode cX6_part 29 = .ok (.iconst 2, 1) := by decide +kernel
theorem dX6_part_30 : decode cX6_part 30 = .ok (.if_icmp .le 6, 3) := by decide +kernel
theorem dX6_part_33 : decode cX6_part 33 = .ok (.bipush (-2), 2) := by decide +kernel
theorem dX6_part_35 : decode cX6_part 35 = .ok (.ireturn, 1) := by decide +kernel
theorem dX6_part_36 : decode cX6_part 36 = .ok (.aload_n 0, 1) := by decide +kernel
theorem dX6_part_37 : decode cX6_part 37 = .ok (.getfield 10, 3) := by decide +kernel
theorem dX6_part_40 : decode cX6_part 40 = .ok (.iload_n 2, 1) := by decide +kernel
theorem dX6_part_41 : decode cX6_part 41 = .ok (.iload_n 3, 1) := by decide +kernel
theorem dX6_part_42 : decode cX6_part 42 = .ok (.invokevirtual 88, 3) := by decide +kernel
theorem dX6_part_45 : decode cX6_part 45 = .ok (.lstore 6, 2) := by decide +kernel
theorem dX6_part_47 : decode cX6_part 47 = .ok (.iload 4, 2) := by decide +kernel
theorem dX6_part_49 : decode cX6_part 49 = .ok (.iconst 2, 1) := by decide +kernel
theorem dX6_part_50 : decode cX6_part 50 = .ok (.if_icmp .ne 11, 3) := by decide +kernel
theorem dX6_part_53 : decode cX6_part 53 = .ok (.lload 6, 2) := by decide +kernel
theorem dX6_part_55 : decode cX6_part 55 = .ok (.iload_n 2, 1) := by decide +kernel
theorem dX6_part_56 : decode cX6_part 56 = .ok (.i2l, 1) := by decide +kernel
theorem dX6_part_57 : decode cX6_part 57 = .ok (.lmul, 1) := by decide +kernel
theorem dX6_part_58 : decode cX6_part 58 = .ok (.goto 5, 3) := by decide +kernel
theorem dX6_part_61 : decode cX6_part 61 = .ok (.lload 6, 2) := by decide +kernel
theorem dX6_part_63 : decode cX6_part 63 = .ok (.lstore 8, 2) := by decide +kernel
theorem dX6_part_65 : decode cX6_part 65 = .ok (.aload_n 0, 1) := by decide +kernel
theorem dX6_part_66 : decode cX6_part 66 = .ok (.getfield 19, 3) := by decide +kernel
theorem dX6_part_69 : decode cX6_part 69 = .ok (.aload 5, 2) := by decide +kernel
theorem dX6_part_71 : decode cX6_part 71 = .ok (.aload_n 0, 1) := by decide +kernel
theorem dX6_part_72 : decode cX6_part 72 = .ok (.getfield 10, 3) := by decide +kernel
theorem dX6_part_75 : decode cX6_part 75 = .ok (.iload_n 2, 1) := by decide +kernel
theorem dX6_part_76 : decode cX6_part 76 = .ok (.iload_n 3, 1) := by decide +kernel
theorem dX6_part_77 : decode cX6_part 77 = .ok (.iload 4, 2) := by decide +kernel
theorem dX6_part_79 : decode cX6_part 79 = .ok (.invokevirtual 92, 3) := by decide +kernel
theorem dX6_part_82 : decode cX6_part 82 = .ok (.lload 8, 2) := by decide +kernel
theorem dX6_part_84 : decode cX6_part 84 = .ok (.invokevirtual 96, 3) := by decide +kernel
theorem dX6_part_87 : decode cX6_part 87 = .ok (.iconst 1, 1) := by decide +kernel
theorem dX6_part_88 : decode cX6_part 88 = .ok (.ireturn, 1) := by decide +kernel
theorem dX6_up_0 : decode cX6_up 0 = .ok (.aload_n 0, 1) := by decide +kernel
theorem dX6_up_1 : decode cX6_up 1 = .ok (.getfield 19, 3) := by decide +kernel
theorem dX6_up_4 : decode cX6_up 4 = .ok (.getfield 100, 3) := by decide +kernel
theorem dX6_up_7 : decode cX6_up 7 = .ok (.lreturn, 1) := by decide +kernel
theorem dX6_down_0 : decode cX6_down 0 = .ok (.aload_n 0, 1) := by decide +kernel
theorem dX6_down_1 : decode cX6_down 1 = .ok (.getfield 19, 3) := by decide +kernel
theorem dX6_down_4 : decode cX6_down 4 = .ok (.getfield 104, 3) := by decide +kernel
theorem dX6_down_7 : decode cX6_down 7 = .ok (.lreturn, 1) := by decide +kernel
theorem dX6_rounded_0 : decode cX6_rounded 0 = .ok (.iload_n 1, 1) := by decide +kernel
theorem dX6_rounded_1 : decode cX6_rounded 1 = .ok (.ifCond .lt 9, 3) := by decide +kernel
theorem dX6_rounded_4 : decode cX6_rounded 4 = .ok (.iload_n 1, 1) := by decide +kernel
theorem dX6_rounded_5 : decode cX6_rounded 5 = .ok (.bipush 6, 2) := by decide +kernel
theorem dX6_rounded_7 : decode cX6_rounded 7 = .ok (.if_icmp .le 7, 3) := by decide +kernel
theorem dX6_rounded_10 : decode cX6_rounded 10 = .ok (.ldc2_w 107, 3) := by decide +kernel
theorem dX6_rounded_13 : decode cX6_rounded 13 = .ok (.lreturn, 1) := by decide +kernel
theorem dX6_rounded_14 : decode cX6_rounded 14 = .ok (.aload_n 0, 1) := by decide +kernel
theorem dX6_rounded_15 : decode cX6_rounded 15 = .ok (.getfield 19, 3) := by decide +kernel
theorem dX6_rounded_18 : decode cX6_rounded 18 = .ok (.iload_n 1, 1) := by decide +kernel
theorem dX6_rounded_19 : decode cX6_rounded 19 = .ok (.invokevirtual 109, 3) := by decide +kernel
theorem dX6_rounded_22 : decode cX6_rounded 22 = .ok (.lreturn, 1) := by decide +kernel
theorem dX6_compare_0 : decode cX6_compare 0 = .ok (.aload_n 0, 1) := by decide +kernel
theorem dX6_compare_1 : decode cX6_compare 1 = .ok (.iload_n 1, 1) := by decide +kernel
theorem dX6_compare_2 : decode cX6_compare 2 = .ok (.iload_n 3, 1) := by decide +kernel
theorem dX6_compare_3 : decode cX6_compare 3 = .ok (.invokevirtual 84, 3) := by decide +kernel
theorem dX6_compare_6 : decode cX6_compare 6 = .ok (.astore 5, 2) := by decide +kernel
theorem dX6_compare_8 : decode cX6_compare 8 = .ok (.aload_n 0, 1) := by decide +kernel
theorem dX6_compare_9 : decode cX6_compare 9 = .ok (.iload_n 2, 1) := by decide +kernel
theorem dX6_compare_10 : decode cX6_compare 10 = .ok (.iload_n 3, 1) := by decide +kernel
theorem dX6_compare_11 : decode cX6_compare 11 = .ok (.invokevirtual 84, 3) := by decide +kernel
theorem dX6_compare_14 : decode cX6_compare 14 = .ok (.astore 6, 2) := by decide +kernel
theorem dX6_compare_16 : decode cX6_compare 16 = .ok (.aload 5, 2) := by decide +kernel
theorem dX6_compare_18 : decode cX6_compare 18 = .ok (.ifnull 19, 3) := by decide +kernel
theorem dX6_compare_21 : decode cX6_compare 21 = .ok (.aload 6, 2) := by decide +kernel
theorem dX6_compare_23 : decode cX6_compare 23 = .ok (.ifnull 14, 3) := by decide +kernel
theorem dX6_compare_26 : decode cX6_compare 26 = .ok (.iload 4, 2) := by decide +kernel
theorem dX6_compare_28 : decode cX6_compare 28 = .ok (.ifCond .lt 9, 3) := by decide +kernel
theorem dX6_compare_31 : decode cX6_compare 31 = .ok (.iload 4, 2) := by decide +kernel
theorem dX6_compare_33 : decode cX6_compare 33 = .ok (.iload_n 3, 1) := by decide +kernel
theorem dX6_compare_34 : decode cX6_compare 34 = .ok (.if_icmp .le 6, 3) := by decide +kernel
theorem dX6_compare_37 : decode cX6_compare 37 = .ok (.bipush (-2), 2) := by decide +kernel
theorem dX6_compare_39 : decode cX6_compare 39 = .ok (.ireturn, 1) := by decide +kernel
theorem dX6_compare_40 : decode cX6_compare 40 = .ok (.aload_n 0, 1) := by decide +kernel
theorem dX6_compare_41 : decode cX6_compare 41 = .ok (.aload 5, 2) := by decide +kernel
theorem dX6_compare_43 : decode cX6_compare 43 = .ok (.aload 6, 2) := by decide +kernel
theorem dX6_compare_45 : decode cX6_compare 45 = .ok (.iload_n 3, 1) := by decide +kernel
theorem dX6_compare_46 : decode cX6_compare 46 = .ok (.iload 4, 2) := by decide +kernel
theorem dX6_compare_48 : decode cX6_compare 48 = .ok (.invokevirtual 113, 3) := by decide +kernel
theorem dX6_compare_51 : decode cX6_compare 51 = .ok (.ireturn, 1) := by decide +kernel
theorem dX6_crossing_0 : decode cX6_crossing 0 = .ok (.aload_n 0, 1) := by decide +kernel
theorem dX6_crossing_1 : decode cX6_crossing 1 = .ok (.iload_n 1, 1) := by decide +kernel
theorem dX6_crossing_2 : decode cX6_crossing 2 = .ok (.iload_n 3, 1) := by decide +kernel
theorem dX6_crossing_3 : decode cX6_crossing 3 = .ok (.invokevirtual 84, 3) := by decide +kernel
theorem dX6_crossing_6 : decode cX6_crossing 6 = .ok (.astore 5, 2) := by decide +kernel
theorem dX6_crossing_8 : decode cX6_crossing 8 = .ok (.aload_n 0, 1) := by decide +kernel
theorem dX6_crossing_9 : decode cX6_crossing 9 = .ok (.iload_n 2, 1) := by decide +kernel
theorem dX6_crossing_10 : decode cX6_crossing 10 = .ok (.iload_n 3, 1) := by decide +kernel
theorem dX6_crossing_11 : decode cX6_crossing 11 = .ok (.invokevirtual 84, 3) := by decide +kernel
theorem dX6_crossing_14 : decode cX6_crossing 14 = .ok (.astore 6, 2) := by decide +kernel
theorem dX6_crossing_16 : decode cX6_crossing 16 = .ok (.aload 5, 2) := by decide +kernel
theorem dX6_crossing_18 : decode cX6_crossing 18 = .ok (.ifnull 13, 3) := by decide +kernel
theorem dX6_crossing_21 : decode cX6_crossing 21 = .ok (.aload 6, 2) := by decide +kernel
theorem dX6_crossing_23 : decode cX6_crossing 23 = .ok (.ifnull 8, 3) := by decide +kernel
theorem dX6_crossing_26 : decode cX6_crossing 26 = .ok (.iload 4, 2) := by decide +kernel
theorem dX6_crossing_28 : decode cX6_crossing 28 = .ok (.ifCond .ge 6, 3) := by decide +kernel
theorem dX6_crossing_31 : decode cX6_crossing 31 = .ok (.bipush (-2), 2) := by decide +kernel
theorem dX6_crossing_33 : decode cX6_crossing 33 = .ok (.ireturn, 1) := by decide +kernel
theorem dX6_crossing_34 : decode cX6_crossing 34 = .ok (.iconst 0, 1) := by decide +kernel
theorem dX6_crossing_35 : decode cX6_crossing 35 = .ok (.istore 7, 2) := by decide +kernel
theorem dX6_crossing_37 : decode cX6_crossing 37 = .ok (.aload_n 0, 1) := by decide +kernel
theorem dX6_crossing_38 : decode cX6_crossing 38 = .ok (.aload 5, 2) := by decide +kernel
theorem dX6_crossing_40 : decode cX6_crossing 40 = .ok (.aload 6, 2) := by decide +kernel
theorem dX6_crossing_42 : decode cX6_crossing 42 = .ok (.iload_n 3, 1) := by decide +kernel
theorem dX6_crossing_43 : decode cX6_crossing 43 = .ok (.iconst 0, 1) := by decide +kernel
theorem dX6_crossing_44 : decode cX6_crossing 44 = .ok (.invokevirtual 113, 3) := by decide +kernel
theorem dX6_crossing_47 : decode cX6_crossing 47 = .ok (.istore 8, 2) := by decide +kernel
theorem dX6_crossing_49 : decode cX6_crossing 49 = .ok (.iconst 0, 1) := by decide +kernel
theorem dX6_crossing_50 : decode cX6_crossing 50 = .ok (.istore 9, 2) := by decide +kernel
theorem dX6_crossing_52 : decode cX6_crossing 52 = .ok (.iload 9, 2) := by decide +kernel
theorem dX6_crossing_54 : decode cX6_crossing 54 = .ok (.iload_n 3, 1) := by decide +kernel
theorem dX6_crossing_55 : decode cX6_crossing 55 = .ok (.if_icmp .ge 54, 3) := by decide +kernel
theorem dX6_crossing_58 : decode cX6_crossing 58 = .ok (.aload_n 0, 1) := by decide +kernel
theorem dX6_crossing_59 : decode cX6_crossing 59 = .ok (.aload 5, 2) := by decide +kernel
theorem dX6_crossing_61 : decode cX6_crossing 61 = .ok (.aload 6, 2) := by decide +kernel
theorem dX6_crossing_63 : decode cX6_crossing 63 = .ok (.iload_n 3, 1) := by decide +kernel
theorem dX6_crossing_64 : decode cX6_crossing 64 = .ok (.iload 9, 2) := by decide +kernel
theorem dX6_crossing_66 : decode cX6_crossing 66 = .ok (.iconst 1, 1) := by decide +kernel
theorem dX6_crossing_67 : decode cX6_crossing 67 = .ok (.iadd, 1) := by decide +kernel
theorem dX6_crossing_68 : decode cX6_crossing 68 = .ok (.invokevirtual 113, 3) := by decide +kernel
theorem dX6_crossing_71 : decode cX6_crossing 71 = .ok (.istore 10, 2) := by decide +kernel
theorem dX6_crossing_73 : decode cX6_crossing 73 = .ok (.iload 8, 2) := by decide +kernel
theorem dX6_crossing_75 : decode cX6_crossing 75 = .ok (.ifCond .eq 24, 3) := by decide +kernel
theorem dX6_crossing_78 : decode cX6_crossing 78 = .ok (.iload 10, 2) := by decide +kernel
theorem dX6_crossing_80 : decode cX6_crossing 80 = .ok (.iload 8, 2) := by decide +kernel
theorem dX6_crossing_82 : decode cX6_crossing 82 = .ok (.ineg, 1) := by decide +kernel
theorem dX6_crossing_83 : decode cX6_crossing 83 = .ok (.if_icmp .ne 16, 3) := by decide +kernel
theorem dX6_crossing_86 : decode cX6_crossing 86 = .ok (.iload 7, 2) := by decide +kernel
theorem dX6_crossing_88 : decode cX6_crossing 88 = .ok (.iload 4, 2) := by decide +kernel
theorem dX6_crossing_90 : decode cX6_crossing 90 = .ok (.if_icmp .ne 6, 3) := by decide +kernel
theorem dX6_crossing_93 : decode cX6_crossing 93 = .ok (.iload 9, 2) := by decide +kernel
theorem dX6_crossing_95 : decode cX6_crossing 95 = .ok (.ireturn, 1) := by decide +kernel
theorem dX6_crossing_96 : decode cX6_crossing 96 = .ok (.iinc 7 1, 3) := by decide +kernel
theorem dX6_crossing_99 : decode cX6_crossing 99 = .ok (.iload 10, 2) := by decide +kernel
theorem dX6_crossing_101 : decode cX6_crossing 101 = .ok (.istore 8, 2) := by decide +kernel
theorem dX6_crossing_103 : decode cX6_crossing 103 = .ok (.iinc 9 1, 3) := by decide +kernel
theorem dX6_crossing_106 : decode cX6_crossing 106 = .ok (.goto (-54), 3) := by decide +kernel
theorem dX6_crossing_109 : decode cX6_crossing 109 = .ok (.iconst (-1), 1) := by decide +kernel
theorem dX6_crossing_110 : decode cX6_crossing 110 = .ok (.ireturn, 1) := by decide +kernel
theorem dX6_signOfTaken_0 : decode cX6_signOfTaken 0 = .ok (.aload_n 1, 1) := by decide +kernel
theorem dX6_signOfTaken_1 : decode cX6_signOfTaken 1 = .ok (.aload_n 0, 1) := by decide +kernel
theorem dX6_signOfTaken_2 : decode cX6_signOfTaken 2 = .ok (.getfield 10, 3) := by decide +kernel
theorem dX6_signOfTaken_5 : decode cX6_signOfTaken 5 = .ok (.iload_n 3, 1) := by decide +kernel
theorem dX6_signOfTaken_6 : decode cX6_signOfTaken 6 = .ok (.iload 4, 2) := by decide +kernel
theorem dX6_signOfTaken_8 : decode cX6_signOfTaken 8 = .ok (.iconst 0, 1) := by decide +kernel
theorem dX6_signOfTaken_9 : decode cX6_signOfTaken 9 = .ok (.invokevirtual 92, 3) := by decide +kernel
theorem dX6_signOfTaken_12 : decode cX6_signOfTaken 12 = .ok (.lstore 5, 2) := by decide +kernel
theorem dX6_signOfTaken_14 : decode cX6_signOfTaken 14 = .ok (.aload_n 2, 1) := by decide +kernel
theorem dX6_signOfTaken_15 : decode cX6_signOfTaken 15 = .ok (.aload_n 0, 1) := by decide +kernel
theorem dX6_signOfTaken_16 : decode cX6_signOfTaken 16 = .ok (.getfield 10, 3) := by decide +kernel
theorem dX6_signOfTaken_19 : decode cX6_signOfTaken 19 = .ok (.iload_n 3, 1) := by decide +kernel
theorem dX6_signOfTaken_20 : decode cX6_signOfTaken 20 = .ok (.iload 4, 2) := by decide +kernel
theorem dX6_signOfTaken_22 : decode cX6_signOfTaken 22 = .ok (.iconst 0, 1) := by decide +kernel
theorem dX6_signOfTaken_23 : decode cX6_signOfTaken 23 = .ok (.invokevirtual 92, 3) := by decide +kernel
theorem dX6_signOfTaken_26 : decode cX6_signOfTaken 26 = .ok (.lstore 7, 2) := by decide +kernel
theorem dX6_signOfTaken_28 : decode cX6_signOfTaken 28 = .ok (.lload 5, 2) := by decide +kernel
theorem dX6_signOfTaken_30 : decode cX6_signOfTaken 30 = .ok (.lload 7, 2) := by decide +kernel
theorem dX6_signOfTaken_32 : decode cX6_signOfTaken 32 = .ok (.lcmp, 1) := by decide +kernel
theorem dX6_signOfTaken_33 : decode cX6_signOfTaken 33 = .ok (.ifCond .ne 5, 3) := by decide +kernel
theorem dX6_signOfTaken_36 : decode cX6_signOfTaken 36 = .ok (.iconst 0, 1) := by decide +kernel
theorem dX6_signOfTaken_37 : decode cX6_signOfTaken 37 = .ok (.ireturn, 1) := by decide +kernel
theorem dX6_signOfTaken_38 : decode cX6_signOfTaken 38 = .ok (.lload 5, 2) := by decide +kernel
theorem dX6_signOfTaken_40 : decode cX6_signOfTaken 40 = .ok (.lload 7, 2) := by decide +kernel
theorem dX6_signOfTaken_42 : decode cX6_signOfTaken 42 = .ok (.lcmp, 1) := by decide +kernel
theorem dX6_signOfTaken_43 : decode cX6_signOfTaken 43 = .ok (.ifCond .le 7, 3) := by decide +kernel
theorem dX6_signOfTaken_46 : decode cX6_signOfTaken 46 = .ok (.iconst 1, 1) := by decide +kernel
theorem dX6_signOfTaken_47 : decode cX6_signOfTaken 47 = .ok (.goto 4, 3) := by decide +kernel
theorem dX6_signOfTaken_50 : decode cX6_signOfTaken 50 = .ok (.iconst (-1), 1) := by decide +kernel
theorem dX6_signOfTaken_51 : decode cX6_signOfTaken 51 = .ok (.ireturn, 1) := by decide +kernel
theorem dX6_planAt_0 : decode cX6_planAt 0 = .ok (.iload_n 1, 1) := by decide +kernel
theorem dX6_planAt_1 : decode cX6_planAt 1 = .ok (.ifCond .lt 20, 3) := by decide +kernel
theorem dX6_planAt_4 : decode cX6_planAt 4 = .ok (.iload_n 1, 1) := by decide +kernel
theorem dX6_planAt_5 : decode cX6_planAt 5 = .ok (.aload_n 0, 1) := by decide +kernel
theorem dX6_planAt_6 : decode cX6_planAt 6 = .ok (.getfield 55, 3) := by decide +kernel
theorem dX6_planAt_9 : decode cX6_planAt 9 = .ok (.if_icmp .ge 12, 3) := by decide +kernel
theorem dX6_planAt_12 : decode cX6_planAt 12 = .ok (.aload_n 0, 1) := by decide +kernel
theorem dX6_planAt_13 : decode cX6_planAt 13 = .ok (.getfield 25, 3) := by decide +kernel
theorem dX6_planAt_16 : decode cX6_planAt 16 = .ok (.iload_n 1, 1) := by decide +kernel
theorem dX6_planAt_17 : decode cX6_planAt 17 = .ok (.aaload, 1) := by decide +kernel
theorem dX6_planAt_18 : decode cX6_planAt 18 = .ok (.goto 4, 3) := by decide +kernel
theorem dX6_planAt_21 : decode cX6_planAt 21 = .ok (.aconst_null, 1) := by decide +kernel
theorem dX6_planAt_22 : decode cX6_planAt 22 = .ok (.areturn, 1) := by decide +kernel
theorem dX6_closedPlanAt_0 : decode cX6_closedPlanAt 0 = .ok (.aload_n 0, 1) := by decide +kernel
theorem dX6_closedPlanAt_1 : decode cX6_closedPlanAt 1 = .ok (.iload_n 1, 1) := by decide +kernel
theorem dX6_closedPlanAt_2 : decode cX6_closedPlanAt 2 = .ok (.invokevirtual 60, 3) := by decide +kernel
theorem dX6_closedPlanAt_5 : decode cX6_closedPlanAt 5 = .ok (.astore_n 2, 1) := by decide +kernel
theorem dX6_closedPlanAt_6 : decode cX6_closedPlanAt 6 = .ok (.aload_n 2, 1) := by decide +kernel
theorem dX6_closedPlanAt_7 : decode cX6_closedPlanAt 7 = .ok (.ifnull 14, 3) := by decide +kernel
theorem dX6_closedPlanAt_10 : decode cX6_closedPlanAt 10 = .ok (.aload_n 2, 1) := by decide +kernel
theorem dX6_closedPlanAt_11 : decode cX6_closedPlanAt 11 = .ok (.getfield 117, 3) := by decide +kernel
theorem dX6_closedPlanAt_14 : decode cX6_closedPlanAt 14 = .ok (.ifCond .eq 7, 3) := by decide +kernel
theorem dX6_closedPlanAt_17 : decode cX6_closedPlanAt 17 = .ok (.aload_n 2, 1) := by decide +kernel
theorem dX6_closedPlanAt_18 : decode cX6_closedPlanAt 18 = .ok (.goto 4, 3) := by decide +kernel
theorem dX6_closedPlanAt_21 : decode cX6_closedPlanAt 21 = .ok (.aconst_null, 1) := by decide +kernel
theorem dX6_closedPlanAt_22 : decode cX6_closedPlanAt 22 = .ok (.areturn, 1) := by decide +kernel
theorem dX6_planForLot_0 : decode cX6_planForLot 0 = .ok (.aload_n 0, 1) := by decide +kernel
theorem dX6_planForLot_1 : decode cX6_planForLot 1 = .ok (.iload_n 1, 1) := by decide +kernel
theorem dX6_planForLot_2 : decode cX6_planForLot 2 = .ok (.invokevirtual 121, 3) := by decide +kernel
theorem dX6_planForLot_5 : decode cX6_planForLot 5 = .ok (.astore_n 3, 1) := by decide +kernel
theorem dX6_planForLot_6 : decode cX6_planForLot 6 = .ok (.aload_n 3, 1) := by decide +kernel
theorem dX6_planForLot_7 : decode cX6_planForLot 7 = .ok (.ifnull 22, 3) := by decide +kernel
theorem dX6_planForLot_10 : decode cX6_planForLot 10 = .ok (.iload_n 2, 1) := by decide +kernel
theorem dX6_planForLot_11 : decode cX6_planForLot 11 = .ok (.invokestatic 124, 3) := by decide +kernel
theorem dX6_planForLot_14 : decode cX6_planForLot 14 = .ok (.ifCond .eq 15, 3) := by decide +kernel
theorem dX6_planForLot_17 : decode cX6_planForLot 17 = .ok (.aload_n 3, 1) := by decide +kernel
theorem dX6_planForLot_18 : decode cX6_planForLot 18 = .ok (.invokevirtual 127, 3) := by decide +kernel
theorem dX6_planForLot_21 : decode cX6_planForLot 21 = .ok (.iload_n 2, 1) := by decide +kernel
theorem dX6_planForLot_22 : decode cX6_planForLot 22 = .ok (.if_icmp .gt 7, 3) := by decide +kernel
theorem dX6_planForLot_25 : decode cX6_planForLot 25 = .ok (.aload_n 3, 1) := by decide +kernel
theorem dX6_planForLot_26 : decode cX6_planForLot 26 = .ok (.goto 4, 3) := by decide +kernel
theorem dX6_planForLot_29 : decode cX6_planForLot 29 = .ok (.aconst_null, 1) := by decide +kernel
theorem dX6_planForLot_30 : decode cX6_planForLot 30 = .ok (.areturn, 1) := by decide +kernel
theorem dX6_isLotSize_0 : decode cX6_isLotSize 0 = .ok (.iload_n 0, 1) := by decide +kernel
theorem dX6_isLotSize_1 : decode cX6_isLotSize 1 = .ok (.iconst 1, 1) := by decide +kernel
theorem dX6_isLotSize_2 : decode cX6_isLotSize 2 = .ok (.if_icmp .lt 13, 3) := by decide +kernel
theorem dX6_isLotSize_5 : decode cX6_isLotSize 5 = .ok (.iload_n 0, 1) := by decide +kernel
theorem dX6_isLotSize_6 : decode cX6_isLotSize 6 = .ok (.bipush 60, 2) := by decide +kernel
theorem dX6_isLotSize_8 : decode cX6_isLotSize 8 = .ok (.if_icmp .gt 7, 3) := by decide +kernel
theorem dX6_isLotSize_11 : decode cX6_isLotSize 11 = .ok (.iconst 1, 1) := by decide +kernel
theorem dX6_isLotSize_12 : decode cX6_isLotSize 12 = .ok (.goto 4, 3) := by decide +kernel
theorem dX6_isLotSize_15 : decode cX6_isLotSize 15 = .ok (.iconst 0, 1) := by decide +kernel
theorem dX6_isLotSize_16 : decode cX6_isLotSize 16 = .ok (.ireturn, 1) := by decide +kernel
theorem dX6_risk_0 : decode cX6_risk 0 = .ok (.iload_n 1, 1) := by decide +kernel
theorem dX6_risk_1 : decode cX6_risk 1 = .ok (.ifCond .eq 11, 3) := by decide +kernel
theorem dX6_risk_4 : decode cX6_risk 4 = .ok (.iload_n 1, 1) := by decide +kernel
theorem dX6_risk_5 : decode cX6_risk 5 = .ok (.iconst 1, 1) := by decide +kernel
theorem dX6_risk_6 : decode cX6_risk 6 = .ok (.if_icmp .eq 6, 3) := by decide +kernel
theorem dX6_risk_9 : decode cX6_risk 9 = .ok (.bipush (-2), 2) := by decide +kernel
theorem dX6_risk_11 : decode cX6_risk 11 = .ok (.ireturn, 1) := by decide +kernel
theorem dX6_risk_12 : decode cX6_risk 12 = .ok (.iload_n 2, 1) := by decide +kernel
theorem dX6_risk_13 : decode cX6_risk 13 = .ok (.ifCond .lt 33, 3) := by decide +kernel
theorem dX6_risk_16 : decode cX6_risk 16 = .ok (.iload_n 2, 1) := by decide +kernel
theorem dX6_risk_17 : decode cX6_risk 17 = .ok (.bipush 60, 2) := by decide +kernel
theorem dX6_risk_19 : decode cX6_risk 19 = .ok (.if_icmp .gt 27, 3) := by decide +kernel
theorem dX6_risk_22 : decode cX6_risk 22 = .ok (.iload 4, 2) := by decide +kernel
theorem dX6_risk_24 : decode cX6_risk 24 = .ok (.iconst 1, 1) := by decide +kernel
theorem dX6_risk_25 : decode cX6_risk 25 = .ok (.if_icmp .lt 21, 3) := by decide +kernel
theorem dX6_risk_28 : decode cX6_risk 28 = .ok (.iload 4, 2) := by decide +kernel
theorem dX6_risk_30 : decode cX6_risk 30 = .ok (.sipush 1000, 3) := by decide +kernel
theorem dX6_risk_33 : decode cX6_risk 33 = .ok (.if_icmp .gt 13, 3) := by decide +kernel
theorem dX6_risk_36 : decode cX6_risk 36 = .ok (.iload_n 3, 1) := by decide +kernel
theorem dX6_risk_37 : decode cX6_risk 37 = .ok (.ifCond .lt 9, 3) := by decide +kernel
theorem dX6_risk_40 : decode cX6_risk 40 = .ok (.iload_n 3, 1) := by decide +kernel
theorem dX6_risk_41 : decode cX6_risk 41 = .ok (.iload 4, 2) := by decide +kernel
theorem dX6_risk_43 : decode cX6_risk 43 = .ok (.if_icmp .le 6, 3) := by decide +kernel
theorem dX6_risk_46 : decode cX6_risk 46 = .ok (.bipush (-2), 2) := by decide +kernel
theorem dX6_risk_48 : decode cX6_risk 48 = .ok (.ireturn, 1) := by decide +kernel
theorem dX6_risk_49 : decode cX6_risk 49 = .ok (.iload_n 1, 1) := by decide +kernel
theorem dX6_risk_50 : decode cX6_risk 50 = .ok (.ifCond .ne 10, 3) := by decide +kernel
theorem dX6_risk_53 : decode cX6_risk 53 = .ok (.aload_n 0, 1) := by decide +kernel
theorem dX6_risk_54 : decode cX6_risk 54 = .ok (.getfield 32, 3) := by decide +kernel
theorem dX6_risk_57 : decode cX6_risk 57 = .ok (.goto 7, 3) := by decide +kernel
theorem dX6_risk_60 : decode cX6_risk 60 = .ok (.aload_n 0, 1) := by decide +kernel
theorem dX6_risk_61 : decode cX6_risk 61 = .ok (.getfield 36, 3) := by decide +kernel
theorem dX6_risk_64 : decode cX6_risk 64 = .ok (.astore 5, 2) := by decide +kernel
theorem dX6_risk_66 : decode cX6_risk 66 = .ok (.aload 5, 2) := by decide +kernel
theorem dX6_risk_68 : decode cX6_risk 68 = .ok (.iload_n 2, 1) := by decide +kernel
theorem dX6_risk_69 : decode cX6_risk 69 = .ok (.iload_n 3, 1) := by decide +kernel
theorem dX6_risk_70 : decode cX6_risk 70 = .ok (.iload 4, 2) := by decide +kernel
theorem dX6_risk_72 : decode cX6_risk 72 = .ok (.invokevirtual 131, 3) := by decide +kernel
theorem dX6_risk_75 : decode cX6_risk 75 = .ok (.iconst 1, 1) := by decide +kernel
theorem dX6_risk_76 : decode cX6_risk 76 = .ok (.ireturn, 1) := by decide +kernel
theorem dX6_forget_0 : decode cX6_forget 0 = .ok (.aload_n 0, 1) := by decide +kernel
theorem dX6_forget_1 : decode cX6_forget 1 = .ok (.invokevirtual 135, 3) := by decide +kernel
theorem dX6_forget_4 : decode cX6_forget 4 = .ok (.istore_n 1, 1) := by decide +kernel
theorem dX6_forget_5 : decode cX6_forget 5 = .ok (.aload_n 0, 1) := by decide +kernel
theorem dX6_forget_6 : decode cX6_forget 6 = .ok (.getfield 32, 3) := by decide +kernel
theorem dX6_forget_9 : decode cX6_forget 9 = .ok (.iconst 0, 1) := by decide +kernel
theorem dX6_forget_10 : decode cX6_forget 10 = .ok (.putfield 138, 3) := by decide +kernel
theorem dX6_forget_13 : decode cX6_forget 13 = .ok (.aload_n 0, 1) := by decide +kernel
theorem dX6_forget_14 : decode cX6_forget 14 = .ok (.getfield 36, 3) := by decide +kernel
theorem dX6_forget_17 : decode cX6_forget 17 = .ok (.iconst 0, 1) := by decide +kernel
theorem dX6_forget_18 : decode cX6_forget 18 = .ok (.putfield 138, 3) := by decide +kernel
theorem dX6_forget_21 : decode cX6_forget 21 = .ok (.iload_n 1, 1) := by decide +kernel
theorem dX6_forget_22 : decode cX6_forget 22 = .ok (.ireturn, 1) := by decide +kernel
theorem dX6_search_0 : decode cX6_search 0 = .ok (.aload_n 0, 1) := by decide +kernel
theorem dX6_search_1 : decode cX6_search 1 = .ok (.iload_n 1, 1) := by decide +kernel
theorem dX6_search_2 : decode cX6_search 2 = .ok (.invokevirtual 141, 3) := by decide +kernel
theorem dX6_search_5 : decode cX6_search 5 = .ok (.ifCond .ne 6, 3) := by decide +kernel
theorem dX6_search_8 : decode cX6_search 8 = .ok (.bipush (-2), 2) := by decide +kernel
theorem dX6_search_10 : decode cX6_search 10 = .ok (.ireturn, 1) := by decide +kernel
theorem dX6_search_11 : decode cX6_search 11 = .ok (.aload_n 0, 1) := by decide +kernel
theorem dX6_search_12 : decode cX6_search 12 = .ok (.iload_n 1, 1) := by decide +kernel
theorem dX6_search_13 : decode cX6_search 13 = .ok (.iconst 0, 1) := by decide +kernel
theorem dX6_search_14 : decode cX6_search 14 = .ok (.invokevirtual 144, 3) := by decide +kernel
theorem dX6_search_17 : decode cX6_search 17 = .ok (.ireturn, 1) := by decide +kernel
theorem dX6_minimal_0 : decode cX6_minimal 0 = .ok (.aload_n 0, 1) := by decide +kernel
theorem dX6_minimal_1 : decode cX6_minimal 1 = .ok (.iload_n 1, 1) := by decide +kernel
theorem dX6_minimal_2 : decode cX6_minimal 2 = .ok (.invokevirtual 141, 3) := by decide +kernel
theorem dX6_minimal_5 : decode cX6_minimal 5 = .ok (.ifCond .eq 7, 3) := by decide +kernel
theorem dX6_minimal_8 : decode cX6_minimal 8 = .ok (.iload_n 2, 1) := by decide +kernel
theorem dX6_minimal_9 : decode cX6_minimal 9 = .ok (.ifCond .ge 6, 3) := by decide +kernel
theorem dX6_minimal_12 : decode cX6_minimal 12 = .ok (.bipush (-2), 2) := by decide +kernel
theorem dX6_minimal_14 : decode cX6_minimal 14 = .ok (.ireturn, 1) := by decide +kernel
theorem dX6_minimal_15 : decode cX6_minimal 15 = .ok (.aload_n 0, 1) := by decide +kernel
theorem dX6_minimal_16 : decode cX6_minimal 16 = .ok (.iload_n 1, 1) := by decide +kernel
theorem dX6_minimal_17 : decode cX6_minimal 17 = .ok (.iload_n 2, 1) := by decide +kernel
theorem dX6_minimal_18 : decode cX6_minimal 18 = .ok (.invokevirtual 144, 3) := by decide +kernel
theorem dX6_minimal_21 : decode cX6_minimal 21 = .ok (.ireturn, 1) := by decide +kernel
theorem dX6_risksTold_0 : decode cX6_risksTold 0 = .ok (.aload_n 0, 1) := by decide +kernel
theorem dX6_risksTold_1 : decode cX6_risksTold 1 = .ok (.getfield 32, 3) := by decide +kernel
theorem dX6_risksTold_4 : decode cX6_risksTold 4 = .ok (.getfield 138, 3) := by decide +kernel
theorem dX6_risksTold_7 : decode cX6_risksTold 7 = .ok (.ifCond .eq 7, 3) := by decide +kernel
theorem dX6_risksTold_10 : decode cX6_risksTold 10 = .ok (.iconst 1, 1) := by decide +kernel
theorem dX6_risksTold_11 : decode cX6_risksTold 11 = .ok (.goto 4, 3) := by decide +kernel
theorem dX6_risksTold_14 : decode cX6_risksTold 14 = .ok (.iconst 0, 1) := by decide +kernel
theorem dX6_risksTold_15 : decode cX6_risksTold 15 = .ok (.aload_n 0, 1) := by decide +kernel
theorem dX6_risksTold_16 : decode cX6_risksTold 16 = .ok (.getfield 36, 3) := by decide +kernel
theorem dX6_risksTold_19 : decode cX6_risksTold 19 = .ok (.getfield 138, 3) := by decide +kernel
theorem dX6_risksTold_22 : decode cX6_risksTold 22 = .ok (.ifCond .eq 7, 3) := by decide +kernel
theorem dX6_risksTold_25 : decode cX6_risksTold 25 = .ok (.iconst 1, 1) := by decide +kernel
theorem dX6_risksTold_26 : decode cX6_risksTold 26 = .ok (.goto 4, 3) := by decide +kernel
theorem dX6_risksTold_29 : decode cX6_risksTold 29 = .ok (.iconst 0, 1) := by decide +kernel
theorem dX6_risksTold_30 : decode cX6_risksTold 30 = .ok (.iadd, 1) := by decide +kernel
theorem dX6_risksTold_31 : decode cX6_risksTold 31 = .ok (.ireturn, 1) := by decide +kernel
theorem dX6_canSearch_0 : decode cX6_canSearch 0 = .ok (.iload_n 1, 1) := by decide +kernel
theorem dX6_canSearch_1 : decode cX6_canSearch 1 = .ok (.invokestatic 124, 3) := by decide +kernel
theorem dX6_canSearch_4 : decode cX6_canSearch 4 = .ok (.ifCond .eq 29, 3) := by decide +kernel
theorem dX6_canSearch_7 : decode cX6_canSearch 7 = .ok (.aload_n 0, 1) := by decide +kernel
theorem dX6_canSearch_8 : decode cX6_canSearch 8 = .ok (.getfield 32, 3) := by decide +kernel
theorem dX6_canSearch_11 : decode cX6_canSearch 11 = .ok (.iload_n 1, 1) := by decide +kernel
theorem dX6_canSearch_12 : decode cX6_canSearch 12 = .ok (.invokevirtual 148, 3) := by decide +kernel
theorem dX6_canSearch_15 : decode cX6_canSearch 15 = .ok (.ifCond .eq 18, 3) := by decide +kernel
theorem dX6_canSearch_18 : decode cX6_canSearch 18 = .ok (.aload_n 0, 1) := by decide +kernel
theorem dX6_canSearch_19 : decode cX6_canSearch 19 = .ok (.getfield 36, 3) := by decide +kernel
theorem dX6_canSearch_22 : decode cX6_canSearch 22 = .ok (.iload_n 1, 1) := by decide +kernel
theorem dX6_canSearch_23 : decode cX6_canSearch 23 = .ok (.invokevirtual 148, 3) := by decide +kernel
theorem dX6_canSearch_26 : decode cX6_canSearch 26 = .ok (.ifCond .eq 7, 3) := by decide +kernel
theorem dX6_canSearch_29 : decode cX6_canSearch 29 = .ok (.iconst 1, 1) := by decide +kernel
theorem dX6_canSearch_30 : decode cX6_canSearch 30 = .ok (.goto 4, 3) := by decide +kernel
theorem dX6_canSearch_33 : decode cX6_canSearch 33 = .ok (.iconst 0, 1) := by decide +kernel
theorem dX6_canSearch_34 : decode cX6_canSearch 34 = .ok (.ireturn, 1) := by decide +kernel
theorem dX6_minimalPlan_0 : decode cX6_minimalPlan 0 = .ok (.iconst 0, 1) := by decide +kernel
theorem dX6_minimalPlan_1 : decode cX6_minimalPlan 1 = .ok (.istore_n 3, 1) := by decide +kernel
theorem dX6_minimalPlan_2 : decode cX6_minimalPlan 2 = .ok (.bipush 61, 2) := by decide +kernel
theorem dX6_minimalPlan_4 : decode cX6_minimalPlan 4 = .ok (.istore 4, 2) := by decide +kernel
theorem dX6_minimalPlan_6 : decode cX6_minimalPlan 6 = .ok (.iconst 1, 1) := by decide +kernel
theorem dX6_minimalPlan_7 : decode cX6_minimalPlan 7 = .ok (.istore 5, 2) := by decide +kernel
theorem dX6_minimalPlan_9 : decode cX6_minimalPlan 9 = .ok (.iload 5, 2) := by decide +kernel
theorem dX6_minimalPlan_11 : decode cX6_minimalPlan 11 = .ok (.iload_n 1, 1) := by decide +kernel
theorem dX6_minimalPlan_12 : decode cX6_minimalPlan 12 = .ok (.if_icmp .gt 52, 3) := by decide +kernel
theorem dX6_minimalPlan_15 : decode cX6_minimalPlan 15 = .ok (.aload_n 0, 1) := by decide +kernel
theorem dX6_minimalPlan_16 : decode cX6_minimalPlan 16 = .ok (.iload_n 1, 1) := by decide +kernel
theorem dX6_minimalPlan_17 : decode cX6_minimalPlan 17 = .ok (.iload 5, 2) := by decide +kernel
theorem dX6_minimalPlan_19 : decode cX6_minimalPlan 19 = .ok (.invokevirtual 151, 3) := by decide +kernel
theorem dX6_minimalPlan_22 : decode cX6_minimalPlan 22 = .ok (.istore 6, 2) := by decide +kernel
theorem dX6_minimalPlan_24 : decode cX6_minimalPlan 24 = .ok (.iload 6, 2) := by decide +kernel
theorem dX6_minimalPlan_26 : decode cX6_minimalPlan 26 = .ok (.iconst (-1), 1) := by decide +kernel
theorem dX6_minimalPlan_27 : decode cX6_minimalPlan 27 = .ok (.if_icmp .eq 31, 3) := by decide +kernel
theorem dX6_minimalPlan_30 : decode cX6_minimalPlan 30 = .ok (.iload 6, 2) := by decide +kernel
theorem dX6_minimalPlan_32 : decode cX6_minimalPlan 32 = .ok (.iload 4, 2) := by decide +kernel
theorem dX6_minimalPlan_34 : decode cX6_minimalPlan 34 = .ok (.if_icmp .ge 24, 3) := by decide +kernel
theorem dX6_minimalPlan_37 : decode cX6_minimalPlan 37 = .ok (.iload_n 3, 1) := by decide +kernel
theorem dX6_minimalPlan_38 : decode cX6_minimalPlan 38 = .ok (.iload_n 2, 1) := by decide +kernel
theorem dX6_minimalPlan_39 : decode cX6_minimalPlan 39 = .ok (.if_icmp .ne 12, 3) := by decide +kernel
theorem dX6_minimalPlan_42 : decode cX6_minimalPlan 42 = .ok (.bipush 100, 2) := by decide +kernel
theorem dX6_minimalPlan_44 : decode cX6_minimalPlan 44 = .ok (.iload 5, 2) := by decide +kernel
theorem dX6_minimalPlan_46 : decode cX6_minimalPlan 46 = .ok (.imul, 1) := by decide +kernel
theorem dX6_minimalPlan_47 : decode cX6_minimalPlan 47 = .ok (.iload 6, 2) := by decide +kernel
theorem dX6_minimalPlan_49 : decode cX6_minimalPlan 49 = .ok (.iadd, 1) := by decide +kernel
theorem dX6_minimalPlan_50 : decode cX6_minimalPlan 50 = .ok (.ireturn, 1) := by decide +kernel
theorem dX6_minimalPlan_51 : decode cX6_minimalPlan 51 = .ok (.iinc 3 1, 3) := by decide +kernel
theorem dX6_minimalPlan_54 : decode cX6_minimalPlan 54 = .ok (.iload 6, 2) := by decide +kernel
theorem dX6_minimalPlan_56 : decode cX6_minimalPlan 56 = .ok (.istore 4, 2) := by decide +kernel
theorem dX6_minimalPlan_58 : decode cX6_minimalPlan 58 = .ok (.iinc 5 1, 3) := by decide +kernel
theorem dX6_minimalPlan_61 : decode cX6_minimalPlan 61 = .ok (.goto (-52), 3) := by decide +kernel
theorem dX6_minimalPlan_64 : decode cX6_minimalPlan 64 = .ok (.iconst (-1), 1) := by decide +kernel
theorem dX6_minimalPlan_65 : decode cX6_minimalPlan 65 = .ok (.ireturn, 1) := by decide +kernel
theorem dX6_leastAccept_0 : decode cX6_leastAccept 0 = .ok (.aload_n 0, 1) := by decide +kernel
theorem dX6_leastAccept_1 : decode cX6_leastAccept 1 = .ok (.getfield 10, 3) := by decide +kernel
theorem dX6_leastAccept_4 : decode cX6_leastAccept 4 = .ok (.iload_n 1, 1) := by decide +kernel
theorem dX6_leastAccept_5 : decode cX6_leastAccept 5 = .ok (.aload_n 0, 1) := by decide +kernel
theorem dX6_leastAccept_6 : decode cX6_leastAccept 6 = .ok (.getfield 32, 3) := by decide +kernel
theorem dX6_leastAccept_9 : decode cX6_leastAccept 9 = .ok (.getfield 154, 3) := by decide +kernel
theorem dX6_leastAccept_12 : decode cX6_leastAccept 12 = .ok (.invokevirtual 88, 3) := by decide +kernel
theorem dX6_leastAccept_15 : decode cX6_leastAccept 15 = .ok (.lstore_n 3, 1) := by decide +kernel
theorem dX6_leastAccept_16 : decode cX6_leastAccept 16 = .ok (.aload_n 0, 1) := by decide +kernel
theorem dX6_leastAccept_17 : decode cX6_leastAccept 17 = .ok (.getfield 10, 3) := by decide +kernel
theorem dX6_leastAccept_20 : decode cX6_leastAccept 20 = .ok (.iload_n 1, 1) := by decide +kernel
theorem dX6_leastAccept_21 : decode cX6_leastAccept 21 = .ok (.aload_n 0, 1) := by decide +kernel
theorem dX6_leastAccept_22 : decode cX6_leastAccept 22 = .ok (.getfield 36, 3) := by decide +kernel
theorem dX6_leastAccept_25 : decode cX6_leastAccept 25 = .ok (.getfield 154, 3) := by decide +kernel
theorem dX6_leastAccept_28 : decode cX6_leastAccept 28 = .ok (.invokevirtual 88, 3) := by decide +kernel
theorem dX6_leastAccept_31 : decode cX6_leastAccept 31 = .ok (.lstore 5, 2) := by decide +kernel
theorem dX6_leastAccept_33 : decode cX6_leastAccept 33 = .ok (.lconst 0, 1) := by decide +kernel
theorem dX6_leastAccept_34 : decode cX6_leastAccept 34 = .ok (.lstore 7, 2) := by decide +kernel
theorem dX6_leastAccept_36 : decode cX6_leastAccept 36 = .ok (.lconst 0, 1) := by decide +kernel
theorem dX6_leastAccept_37 : decode cX6_leastAccept 37 = .ok (.lstore 9, 2) := by decide +kernel
theorem dX6_leastAccept_39 : decode cX6_leastAccept 39 = .ok (.iconst 0, 1) := by decide +kernel
theorem dX6_leastAccept_40 : decode cX6_leastAccept 40 = .ok (.istore 11, 2) := by decide +kernel
theorem dX6_leastAccept_42 : decode cX6_leastAccept 42 = .ok (.iload 11, 2) := by decide +kernel
theorem dX6_leastAccept_44 : decode cX6_leastAccept 44 = .ok (.iload_n 2, 1) := by decide +kernel
theorem dX6_leastAccept_45 : decode cX6_leastAccept 45 = .ok (.if_icmp .gt 79, 3) := by decide +kernel
theorem dX6_leastAccept_48 : decode cX6_leastAccept 48 = .ok (.lload 7, 2) := by decide +kernel
theorem dX6_leastAccept_50 : decode cX6_leastAccept 50 = .ok (.aload_n 0, 1) := by decide +kernel
theorem dX6_leastAccept_51 : decode cX6_leastAccept 51 = .ok (.iload_n 1, 1) := by decide +kernel
theorem dX6_leastAccept_52 : decode cX6_leastAccept 52 = .ok (.aload_n 0, 1) := by decide +kernel
theorem dX6_leastAccept_53 : decode cX6_leastAccept 53 = .ok (.getfield 32, 3) := by decide +kernel
theorem dX6_leastAccept_56 : decode cX6_leastAccept 56 = .ok (.getfield 154, 3) := by decide +kernel
theorem dX6_leastAccept_59 : decode cX6_leastAccept 59 = .ok (.iload_n 2, 1) := by decide +kernel
theorem dX6_leastAccept_60 : decode cX6_leastAccept 60 = .ok (.iload 11, 2) := by decide +kernel
theorem dX6_leastAccept_62 : decode cX6_leastAccept 62 = .ok (.invokevirtual 157, 3) := by decide +kernel
theorem dX6_leastAccept_65 : decode cX6_leastAccept 65 = .ok (.ladd, 1) := by decide +kernel
theorem dX6_leastAccept_66 : decode cX6_leastAccept 66 = .ok (.lstore 7, 2) := by decide +kernel
theorem dX6_leastAccept_68 : decode cX6_leastAccept 68 = .ok (.lload 9, 2) := by decide +kernel
theorem dX6_leastAccept_70 : decode cX6_leastAccept 70 = .ok (.aload_n 0, 1) := by decide +kernel
theorem dX6_leastAccept_71 : decode cX6_leastAccept 71 = .ok (.iload_n 1, 1) := by decide +kernel
theorem dX6_leastAccept_72 : decode cX6_leastAccept 72 = .ok (.aload_n 0, 1) := by decide +kernel
theorem dX6_leastAccept_73 : decode cX6_leastAccept 73 = .ok (.getfield 36, 3) := by decide +kernel
theorem dX6_leastAccept_76 : decode cX6_leastAccept 76 = .ok (.getfield 154, 3) := by decide +kernel
theorem dX6_leastAccept_79 : decode cX6_leastAccept 79 = .ok (.iload_n 2, 1) := by decide +kernel
theorem dX6_leastAccept_80 : decode cX6_leastAccept 80 = .ok (.iload 11, 2) := by decide +kernel
theorem dX6_leastAccept_82 : decode cX6_leastAccept 82 = .ok (.invokevirtual 157, 3) := by decide +kernel
theorem dX6_leastAccept_85 : decode cX6_leastAccept 85 = .ok (.ladd, 1) := by decide +kernel
theorem dX6_leastAccept_86 : decode cX6_leastAccept 86 = .ok (.lstore 9, 2) := by decide +kernel
theorem dX6_leastAccept_88 : decode cX6_leastAccept 88 = .ok (.aload_n 0, 1) := by decide +kernel
theorem dX6_leastAccept_89 : decode cX6_leastAccept 89 = .ok (.getfield 32, 3) := by decide +kernel
theorem dX6_leastAccept_92 : decode cX6_leastAccept 92 = .ok (.lload 7, 2) := by decide +kernel
theorem dX6_leastAccept_94 : decode cX6_leastAccept 94 = .ok (.lload_n 3, 1) := by decide +kernel
theorem dX6_leastAccept_95 : decode cX6_leastAccept 95 = .ok (.invokevirtual 161, 3) := by decide +kernel
theorem dX6_leastAccept_98 : decode cX6_leastAccept 98 = .ok (.ifCond .eq 20, 3) := by decide +kernel
theorem dX6_leastAccept_101 : decode cX6_leastAccept 101 = .ok (.aload_n 0, 1) := by decide +kernel
theorem dX6_leastAccept_102 : decode cX6_leastAccept 102 = .ok (.getfield 36, 3) := by decide +kernel
theorem dX6_leastAccept_105 : decode cX6_leastAccept 105 = .ok (.lload 9, 2) := by decide +kernel
theorem dX6_leastAccept_107 : decode cX6_leastAccept 107 = .ok (.lload 5, 2) := by decide +kernel
theorem dX6_leastAccept_109 : decode cX6_leastAccept 109 = .ok (.invokevirtual 165, 3) := by decide +kernel
theorem dX6_leastAccept_112 : decode cX6_leastAccept 112 = .ok (.ifCond .eq 6, 3) := by decide +kernel
theorem dX6_leastAccept_115 : decode cX6_leastAccept 115 = .ok (.iload 11, 2) := by decide +kernel
theorem dX6_leastAccept_117 : decode cX6_leastAccept 117 = .ok (.ireturn, 1) := by decide +kernel
theorem dX6_leastAccept_118 : decode cX6_leastAccept 118 = .ok (.iinc 11 1, 3) := by decide +kernel
theorem dX6_leastAccept_121 : decode cX6_leastAccept 121 = .ok (.goto (-79), 3) := by decide +kernel
theorem dX6_leastAccept_124 : decode cX6_leastAccept 124 = .ok (.iconst (-1), 1) := by decide +kernel
theorem dX6_leastAccept_125 : decode cX6_leastAccept 125 = .ok (.ireturn, 1) := by decide +kernel
theorem dX6_ordersWith_0 : decode cX6_ordersWith 0 = .ok (.aload_n 0, 1) := by decide +kernel
theorem dX6_ordersWith_1 : decode cX6_ordersWith 1 = .ok (.getfield 10, 3) := by decide +kernel
theorem dX6_ordersWith_4 : decode cX6_ordersWith 4 = .ok (.iload_n 3, 1) := by decide +kernel
theorem dX6_ordersWith_5 : decode cX6_ordersWith 5 = .ok (.iload 4, 2) := by decide +kernel
theorem dX6_ordersWith_7 : decode cX6_ordersWith 7 = .ok (.invokevirtual 88, 3) := by decide +kernel
theorem dX6_ordersWith_10 : decode cX6_ordersWith 10 = .ok (.aload_n 0, 1) := by decide +kernel
theorem dX6_ordersWith_11 : decode cX6_ordersWith 11 = .ok (.getfield 10, 3) := by decide +kernel
theorem dX6_ordersWith_14 : decode cX6_ordersWith 14 = .ok (.iload_n 1, 1) := by decide +kernel
theorem dX6_ordersWith_15 : decode cX6_ordersWith 15 = .ok (.iload_n 3, 1) := by decide +kernel
theorem dX6_ordersWith_16 : decode cX6_ordersWith 16 = .ok (.isub, 1) := by decide +kernel
theorem dX6_ordersWith_17 : decode cX6_ordersWith 17 = .ok (.iload_n 2, 1) := by decide +kernel
theorem dX6_ordersWith_18 : decode cX6_ordersWith 18 = .ok (.iload 4, 2) := by decide +kernel
theorem dX6_ordersWith_20 : decode cX6_ordersWith 20 = .ok (.isub, 1) := by decide +kernel
theorem dX6_ordersWith_21 : decode cX6_ordersWith 21 = .ok (.invokevirtual 88, 3) := by decide +kernel
theorem dX6_ordersWith_24 : decode cX6_ordersWith 24 = .ok (.lmul, 1) := by decide +kernel
theorem dX6_ordersWith_25 : decode cX6_ordersWith 25 = .ok (.lreturn, 1) := by decide +kernel
theorem dX6_supplier_0 : decode cX6_supplier 0 = .ok (.aload_n 0, 1) := by decide +kernel
theorem dX6_supplier_1 : decode cX6_supplier 1 = .ok (.iload_n 1, 1) := by decide +kernel
theorem dX6_supplier_2 : decode cX6_supplier 2 = .ok (.invokevirtual 121, 3) := by decide +kernel
theorem dX6_supplier_5 : decode cX6_supplier 5 = .ok (.ifnull 28, 3) := by decide +kernel
theorem dX6_supplier_8 : decode cX6_supplier 8 = .ok (.aload_n 0, 1) := by decide +kernel
theorem dX6_supplier_9 : decode cX6_supplier 9 = .ok (.iload_n 2, 1) := by decide +kernel
theorem dX6_supplier_10 : decode cX6_supplier 10 = .ok (.invokevirtual 121, 3) := by decide +kernel
theorem dX6_supplier_13 : decode cX6_supplier 13 = .ok (.ifnull 20, 3) := by decide +kernel
theorem dX6_supplier_16 : decode cX6_supplier 16 = .ok (.aload_n 0, 1) := by decide +kernel
theorem dX6_supplier_17 : decode cX6_supplier 17 = .ok (.iload_n 3, 1) := by decide +kernel
theorem dX6_supplier_18 : decode cX6_supplier 18 = .ok (.invokevirtual 121, 3) := by decide +kernel
theorem dX6_supplier_21 : decode cX6_supplier 21 = .ok (.ifnull 12, 3) := by decide +kernel
theorem dX6_supplier_24 : decode cX6_supplier 24 = .ok (.aload_n 0, 1) := by decide +kernel
theorem dX6_supplier_25 : decode cX6_supplier 25 = .ok (.getfield 168, 3) := by decide +kernel
theorem dX6_supplier_28 : decode cX6_supplier 28 = .ok (.bipush 8, 2) := by decide +kernel
theorem dX6_supplier_30 : decode cX6_supplier 30 = .ok (.if_icmp .lt 6, 3) := by decide +kernel
theorem dX6_supplier_33 : decode cX6_supplier 33 = .ok (.bipush (-2), 2) := by decide +kernel
theorem dX6_supplier_35 : decode cX6_supplier 35 = .ok (.ireturn, 1) := by decide +kernel
theorem dX6_supplier_36 : decode cX6_supplier 36 = .ok (.aload_n 0, 1) := by decide +kernel
theorem dX6_supplier_37 : decode cX6_supplier 37 = .ok (.getfield 41, 3) := by decide +kernel
theorem dX6_supplier_40 : decode cX6_supplier 40 = .ok (.aload_n 0, 1) := by decide +kernel
theorem dX6_supplier_41 : decode cX6_supplier 41 = .ok (.getfield 168, 3) := by decide +kernel
theorem dX6_supplier_44 : decode cX6_supplier 44 = .ok (.new 39, 3) := by decide +kernel
theorem dX6_supplier_47 : decode cX6_supplier 47 = .ok (.dup, 1) := by decide +kernel
theorem dX6_supplier_48 : decode cX6_supplier 48 = .ok (.iload_n 1, 1) := by decide +kernel
theorem dX6_supplier_49 : decode cX6_supplier 49 = .ok (.iload_n 2, 1) := by decide +kernel
theorem dX6_supplier_50 : decode cX6_supplier 50 = .ok (.iload_n 3, 1) := by decide +kernel
theorem dX6_supplier_51 : decode cX6_supplier 51 = .ok (.invokespecial 171, 3) := by decide +kernel
theorem dX6_supplier_54 : decode cX6_supplier 54 = .ok (.aastore, 1) := by decide +kernel
theorem dX6_supplier_55 : decode cX6_supplier 55 = .ok (.aload_n 0, 1) := by decide +kernel
theorem dX6_supplier_56 : decode cX6_supplier 56 = .ok (.dup, 1) := by decide +kernel
theorem dX6_supplier_57 : decode cX6_supplier 57 = .ok (.getfield 168, 3) := by decide +kernel
theorem dX6_supplier_60 : decode cX6_supplier 60 = .ok (.iconst 1, 1) := by decide +kernel
theorem dX6_supplier_61 : decode cX6_supplier 61 = .ok (.iadd, 1) := by decide +kernel
theorem dX6_supplier_62 : decode cX6_supplier 62 = .ok (.putfield 168, 3) := by decide +kernel
theorem dX6_supplier_65 : decode cX6_supplier 65 = .ok (.aload_n 0, 1) := by decide +kernel
theorem dX6_supplier_66 : decode cX6_supplier 66 = .ok (.getfield 168, 3) := by decide +kernel
theorem dX6_supplier_69 : decode cX6_supplier 69 = .ok (.iconst 1, 1) := by decide +kernel
theorem dX6_supplier_70 : decode cX6_supplier 70 = .ok (.isub, 1) := by decide +kernel
theorem dX6_supplier_71 : decode cX6_supplier 71 = .ok (.ireturn, 1) := by decide +kernel
theorem dX6_lot_0 : decode cX6_lot 0 = .ok (.aload_n 0, 1) := by decide +kernel
theorem dX6_lot_1 : decode cX6_lot 1 = .ok (.iload_n 1, 1) := by decide +kernel
theorem dX6_lot_2 : decode cX6_lot 2 = .ok (.invokevirtual 173, 3) := by decide +kernel
theorem dX6_lot_5 : decode cX6_lot 5 = .ok (.astore_n 3, 1) := by decide +kernel
theorem dX6_lot_6 : decode cX6_lot 6 = .ok (.aload_n 3, 1) := by decide +kernel
theorem dX6_lot_7 : decode cX6_lot 7 = .ok (.ifnull 12, 3) := by decide +kernel
theorem dX6_lot_10 : decode cX6_lot 10 = .ok (.aload_n 0, 1) := by decide +kernel
theorem dX6_lot_11 : decode cX6_lot 11 = .ok (.getfield 177, 3) := by decide +kernel
theorem dX6_lot_14 : decode cX6_lot 14 = .ok (.bipush 60, 2) := by decide +kernel
theorem dX6_lot_16 : decode cX6_lot 16 = .ok (.if_icmp .lt 6, 3) := by decide +kernel
theorem dX6_lot_19 : decode cX6_lot 19 = .ok (.bipush (-2), 2) := by decide +kernel
theorem dX6_lot_21 : decode cX6_lot 21 = .ok (.ireturn, 1) := by decide +kernel
theorem dX6_lot_22 : decode cX6_lot 22 = .ok (.aload_n 0, 1) := by decide +kernel
theorem dX6_lot_23 : decode cX6_lot 23 = .ok (.aload_n 3, 1) := by decide +kernel
theorem dX6_lot_24 : decode cX6_lot 24 = .ok (.invokevirtual 180, 3) := by decide +kernel
theorem dX6_lot_27 : decode cX6_lot 27 = .ok (.iload_n 2, 1) := by decide +kernel
theorem dX6_lot_28 : decode cX6_lot 28 = .ok (.invokevirtual 84, 3) := by decide +kernel
theorem dX6_lot_31 : decode cX6_lot 31 = .ok (.astore 4, 2) := by decide +kernel
theorem dX6_lot_33 : decode cX6_lot 33 = .ok (.aload 4, 2) := by decide +kernel
theorem dX6_lot_35 : decode cX6_lot 35 = .ok (.ifnonnull 6, 3) := by decide +kernel
theorem dX6_lot_38 : decode cX6_lot 38 = .ok (.bipush (-2), 2) := by decide +kernel
theorem dX6_lot_40 : decode cX6_lot 40 = .ok (.ireturn, 1) := by decide +kernel
theorem dX6_lot_41 : decode cX6_lot 41 = .ok (.aload_n 0, 1) := by decide +kernel
theorem dX6_lot_42 : decode cX6_lot 42 = .ok (.getfield 47, 3) := by decide +kernel
theorem dX6_lot_45 : decode cX6_lot 45 = .ok (.aload_n 0, 1) := by decide +kernel
theorem dX6_lot_46 : decode cX6_lot 46 = .ok (.getfield 177, 3) := by decide +kernel
theorem dX6_lot_49 : decode cX6_lot 49 = .ok (.new 45, 3) := by decide +kernel
theorem dX6_lot_52 : decode cX6_lot 52 = .ok (.dup, 1) := by decide +kernel
theorem dX6_lot_53 : decode cX6_lot 53 = .ok (.iload_n 1, 1) := by decide +kernel
theorem dX6_lot_54 : decode cX6_lot 54 = .ok (.iload_n 2, 1) := by decide +kernel
theorem dX6_lot_55 : decode cX6_lot 55 = .ok (.aload 4, 2) := by decide +kernel
theorem dX6_lot_57 : decode cX6_lot 57 = .ok (.aload_n 3, 1) := by decide +kernel
theorem dX6_lot_58 : decode cX6_lot 58 = .ok (.invokevirtual 180, 3) := by decide +kernel
theorem dX6_lot_61 : decode cX6_lot 61 = .ok (.aload_n 3, 1) := by decide +kernel
theorem dX6_lot_62 : decode cX6_lot 62 = .ok (.getfield 183, 3) := by decide +kernel
theorem dX6_lot_65 : decode cX6_lot 65 = .ok (.invokespecial 186, 3) := by decide +kernel
theorem dX6_lot_68 : decode cX6_lot 68 = .ok (.aastore, 1) := by decide +kernel
theorem dX6_lot_69 : decode cX6_lot 69 = .ok (.aload_n 0, 1) := by decide +kernel
theorem dX6_lot_70 : decode cX6_lot 70 = .ok (.dup, 1) := by decide +kernel
theorem dX6_lot_71 : decode cX6_lot 71 = .ok (.getfield 177, 3) := by decide +kernel
theorem dX6_lot_74 : decode cX6_lot 74 = .ok (.iconst 1, 1) := by decide +kernel
theorem dX6_lot_75 : decode cX6_lot 75 = .ok (.iadd, 1) := by decide +kernel
theorem dX6_lot_76 : decode cX6_lot 76 = .ok (.putfield 177, 3) := by decide +kernel
theorem dX6_lot_79 : decode cX6_lot 79 = .ok (.aload_n 0, 1) := by decide +kernel
theorem dX6_lot_80 : decode cX6_lot 80 = .ok (.getfield 177, 3) := by decide +kernel
theorem dX6_lot_83 : decode cX6_lot 83 = .ok (.iconst 1, 1) := by decide +kernel
theorem dX6_lot_84 : decode cX6_lot 84 = .ok (.isub, 1) := by decide +kernel
theorem dX6_lot_85 : decode cX6_lot 85 = .ok (.ireturn, 1) := by decide +kernel
theorem dX6_item_0 : decode cX6_item 0 = .ok (.aload_n 0, 1) := by decide +kernel
theorem dX6_item_1 : decode cX6_item 1 = .ok (.iload_n 1, 1) := by decide +kernel
theorem dX6_item_2 : decode cX6_item 2 = .ok (.invokevirtual 189, 3) := by decide +kernel
theorem dX6_item_5 : decode cX6_item 5 = .ok (.astore_n 3, 1) := by decide +kernel
theorem dX6_item_6 : decode cX6_item 6 = .ok (.aload_n 3, 1) := by decide +kernel
theorem dX6_item_7 : decode cX6_item 7 = .ok (.ifnull 10, 3) := by decide +kernel
theorem dX6_item_10 : decode cX6_item 10 = .ok (.iload_n 2, 1) := by decide +kernel
theorem dX6_item_11 : decode cX6_item 11 = .ok (.invokestatic 193, 3) := by decide +kernel
theorem dX6_item_14 : decode cX6_item 14 = .ok (.ifCond .ne 6, 3) := by decide +kernel
theorem dX6_item_17 : decode cX6_item 17 = .ok (.bipush (-2), 2) := by decide +kernel
theorem dX6_item_19 : decode cX6_item 19 = .ok (.ireturn, 1) := by decide +kernel
theorem dX6_item_20 : decode cX6_item 20 = .ok (.aload_n 3, 1) := by decide +kernel
theorem dX6_item_21 : decode cX6_item 21 = .ok (.iload_n 2, 1) := by decide +kernel
theorem dX6_item_22 : decode cX6_item 22 = .ok (.invokevirtual 196, 3) := by decide +kernel
theorem dX6_item_25 : decode cX6_item 25 = .ok (.aload_n 0, 1) := by decide +kernel
theorem dX6_item_26 : decode cX6_item 26 = .ok (.aload_n 3, 1) := by decide +kernel
theorem dX6_item_27 : decode cX6_item 27 = .ok (.invokevirtual 200, 3) := by decide +kernel
theorem dX6_item_30 : decode cX6_item 30 = .ok (.ireturn, 1) := by decide +kernel
theorem dX6_undo_0 : decode cX6_undo 0 = .ok (.aload_n 0, 1) := by decide +kernel
theorem dX6_undo_1 : decode cX6_undo 1 = .ok (.iload_n 1, 1) := by decide +kernel
theorem dX6_undo_2 : decode cX6_undo 2 = .ok (.invokevirtual 189, 3) := by decide +kernel
theorem dX6_undo_5 : decode cX6_undo 5 = .ok (.astore_n 2, 1) := by decide +kernel
theorem dX6_undo_6 : decode cX6_undo 6 = .ok (.aload_n 2, 1) := by decide +kernel
theorem dX6_undo_7 : decode cX6_undo 7 = .ok (.ifnull 10, 3) := by decide +kernel
theorem dX6_undo_10 : decode cX6_undo 10 = .ok (.aload_n 2, 1) := by decide +kernel
theorem dX6_undo_11 : decode cX6_undo 11 = .ok (.getfield 204, 3) := by decide +kernel
theorem dX6_undo_14 : decode cX6_undo 14 = .ok (.ifCond .ne 6, 3) := by decide +kernel
theorem dX6_undo_17 : decode cX6_undo 17 = .ok (.bipush (-2), 2) := by decide +kernel
theorem dX6_undo_19 : decode cX6_undo 19 = .ok (.ireturn, 1) := by decide +kernel
theorem dX6_undo_20 : decode cX6_undo 20 = .ok (.aload_n 2, 1) := by decide +kernel
theorem dX6_undo_21 : decode cX6_undo 21 = .ok (.aload_n 2, 1) := by decide +kernel
theorem dX6_undo_22 : decode cX6_undo 22 = .ok (.getfield 204, 3) := by decide +kernel
theorem dX6_undo_25 : decode cX6_undo 25 = .ok (.iconst 1, 1) := by decide +kernel
theorem dX6_undo_26 : decode cX6_undo 26 = .ok (.isub, 1) := by decide +kernel
theorem dX6_undo_27 : decode cX6_undo 27 = .ok (.invokevirtual 207, 3) := by decide +kernel
theorem dX6_undo_30 : decode cX6_undo 30 = .ok (.aload_n 2, 1) := by decide +kernel
theorem dX6_undo_31 : decode cX6_undo 31 = .ok (.getfield 204, 3) := by decide +kernel
theorem dX6_undo_34 : decode cX6_undo 34 = .ok (.ireturn, 1) := by decide +kernel
theorem dX6_correct_0 : decode cX6_correct 0 = .ok (.aload_n 0, 1) := by decide +kernel
theorem dX6_correct_1 : decode cX6_correct 1 = .ok (.iload_n 1, 1) := by decide +kernel
theorem dX6_correct_2 : decode cX6_correct 2 = .ok (.invokevirtual 189, 3) := by decide +kernel
theorem dX6_correct_5 : decode cX6_correct 5 = .ok (.astore 4, 2) := by decide +kernel
theorem dX6_correct_7 : decode cX6_correct 7 = .ok (.aload 4, 2) := by decide +kernel
theorem dX6_correct_9 : decode cX6_correct 9 = .ok (.ifnull 19, 3) := by decide +kernel
theorem dX6_correct_12 : decode cX6_correct 12 = .ok (.aload 4, 2) := by decide +kernel
theorem dX6_correct_14 : decode cX6_correct 14 = .ok (.iload_n 2, 1) := by decide +kernel
theorem dX6_correct_15 : decode cX6_correct 15 = .ok (.invokevirtual 210, 3) := by decide +kernel
theorem dX6_correct_18 : decode cX6_correct 18 = .ok (.ifCond .eq 10, 3) := by decide +kernel
theorem dX6_correct_21 : decode cX6_correct 21 = .ok (.iload_n 3, 1) := by decide +kernel
theorem dX6_correct_22 : decode cX6_correct 22 = .ok (.invokestatic 193, 3) := by decide +kernel
theorem dX6_correct_25 : decode cX6_correct 25 = .ok (.ifCond .ne 6, 3) := by decide +kernel
theorem dX6_correct_28 : decode cX6_correct 28 = .ok (.bipush (-2), 2) := by decide +kernel
theorem dX6_correct_30 : decode cX6_correct 30 = .ok (.ireturn, 1) := by decide +kernel
theorem dX6_correct_31 : decode cX6_correct 31 = .ok (.aload 4, 2) := by decide +kernel
theorem dX6_correct_33 : decode cX6_correct 33 = .ok (.getfield 213, 3) := by decide +kernel
theorem dX6_correct_36 : decode cX6_correct 36 = .ok (.iload_n 2, 1) := by decide +kernel
theorem dX6_correct_37 : decode cX6_correct 37 = .ok (.iload_n 3, 1) := by decide +kernel
theorem dX6_correct_38 : decode cX6_correct 38 = .ok (.iastore, 1) := by decide +kernel
theorem dX6_correct_39 : decode cX6_correct 39 = .ok (.aload 4, 2) := by decide +kernel
theorem dX6_correct_41 : decode cX6_correct 41 = .ok (.aload 4, 2) := by decide +kernel
theorem dX6_correct_43 : decode cX6_correct 43 = .ok (.getfield 204, 3) := by decide +kernel
theorem dX6_correct_46 : decode cX6_correct 46 = .ok (.invokevirtual 207, 3) := by decide +kernel
theorem dX6_correct_49 : decode cX6_correct 49 = .ok (.aload_n 0, 1) := by decide +kernel
theorem dX6_correct_50 : decode cX6_correct 50 = .ok (.aload 4, 2) := by decide +kernel
theorem dX6_correct_52 : decode cX6_correct 52 = .ok (.invokevirtual 200, 3) := by decide +kernel
theorem dX6_correct_55 : decode cX6_correct 55 = .ok (.ireturn, 1) := by decide +kernel
theorem dX6_about_0 : decode cX6_about 0 = .ok (.aload_n 0, 1) := by decide +kernel
theorem dX6_about_1 : decode cX6_about 1 = .ok (.iload_n 1, 1) := by decide +kernel
theorem dX6_about_2 : decode cX6_about 2 = .ok (.invokevirtual 216, 3) := by decide +kernel
theorem dX6_about_5 : decode cX6_about 5 = .ok (.astore_n 3, 1) := by decide +kernel
theorem dX6_about_6 : decode cX6_about 6 = .ok (.aload_n 3, 1) := by decide +kernel
theorem dX6_about_7 : decode cX6_about 7 = .ok (.ifnonnull 6, 3) := by decide +kernel
theorem dX6_about_10 : decode cX6_about 10 = .ok (.bipush (-2), 2) := by decide +kernel
theorem dX6_about_12 : decode cX6_about 12 = .ok (.ireturn, 1) := by decide +kernel
theorem dX6_about_13 : decode cX6_about 13 = .ok (.iload_n 2, 1) := by decide +kernel
theorem dX6_about_14 : decode cX6_about 14 = .ok (.tableswitch 77 0 6 #[42, 47, 52, 57, 62, 67, 72], 42) := by decide +kernel
theorem dX6_about_56 : decode cX6_about 56 = .ok (.aload_n 3, 1) := by decide +kernel
theorem dX6_about_57 : decode cX6_about 57 = .ok (.getfield 219, 3) := by decide +kernel
theorem dX6_about_60 : decode cX6_about 60 = .ok (.ireturn, 1) := by decide +kernel
theorem dX6_about_61 : decode cX6_about 61 = .ok (.aload_n 3, 1) := by decide +kernel
theorem dX6_about_62 : decode cX6_about 62 = .ok (.getfield 204, 3) := by decide +kernel
theorem dX6_about_65 : decode cX6_about 65 = .ok (.ireturn, 1) := by decide +kernel
theorem dX6_about_66 : decode cX6_about 66 = .ok (.aload_n 3, 1) := by decide +kernel
theorem dX6_about_67 : decode cX6_about 67 = .ok (.invokevirtual 222, 3) := by decide +kernel
theorem dX6_about_70 : decode cX6_about 70 = .ok (.ireturn, 1) := by decide +kernel
theorem dX6_about_71 : decode cX6_about 71 = .ok (.aload_n 3, 1) := by decide +kernel
theorem dX6_about_72 : decode cX6_about 72 = .ok (.getfield 225, 3) := by decide +kernel
theorem dX6_about_75 : decode cX6_about 75 = .ok (.ireturn, 1) := by decide +kernel
theorem dX6_about_76 : decode cX6_about 76 = .ok (.aload_n 3, 1) := by decide +kernel
theorem dX6_about_77 : decode cX6_about 77 = .ok (.getfield 228, 3) := by decide +kernel
theorem dX6_about_80 : decode cX6_about 80 = .ok (.ireturn, 1) := by decide +kernel
theorem dX6_about_81 : decode cX6_about 81 = .ok (.aload_n 3, 1) := by decide +kernel
theorem dX6_about_82 : decode cX6_about 82 = .ok (.getfield 231, 3) := by decide +kernel
theorem dX6_about_85 : decode cX6_about 85 = .ok (.ireturn, 1) := by decide +kernel
theorem dX6_about_86 : decode cX6_about 86 = .ok (.aload_n 3, 1) := by decide +kernel
theorem dX6_about_87 : decode cX6_about 87 = .ok (.getfield 234, 3) := by decide +kernel
theorem dX6_about_90 : decode cX6_about 90 = .ok (.ireturn, 1) := by decide +kernel
theorem dX6_about_91 : decode cX6_about 91 = .ok (.bipush (-2), 2) := by decide +kernel
theorem dX6_about_93 : decode cX6_about 93 = .ok (.ireturn, 1) := by decide +kernel
theorem dX6_needed_0 : decode cX6_needed 0 = .ok (.aload_n 0, 1) := by decide +kernel
theorem dX6_needed_1 : decode cX6_needed 1 = .ok (.iload_n 1, 1) := by decide +kernel
theorem dX6_needed_2 : decode cX6_needed 2 = .ok (.invokevirtual 216, 3) := by decide +kernel
theorem dX6_needed_5 : decode cX6_needed 5 = .ok (.astore_n 2, 1) := by decide +kernel
theorem dX6_needed_6 : decode cX6_needed 6 = .ok (.aload_n 2, 1) := by decide +kernel
theorem dX6_needed_7 : decode cX6_needed 7 = .ok (.ifnonnull 8, 3) := by decide +kernel
theorem dX6_needed_10 : decode cX6_needed 10 = .ok (.bipush (-2), 2) := by decide +kernel
theorem dX6_needed_12 : decode cX6_needed 12 = .ok (.goto 7, 3) := by decide +kernel
theorem dX6_needed_15 : decode cX6_needed 15 = .ok (.aload_n 2, 1) := by decide +kernel
theorem dX6_needed_16 : decode cX6_needed 16 = .ok (.invokevirtual 237, 3) := by decide +kernel
theorem dX6_needed_19 : decode cX6_needed 19 = .ok (.ireturn, 1) := by decide +kernel
theorem dX6_rule_0 : decode cX6_rule 0 = .ok (.aload_n 0, 1) := by decide +kernel
theorem dX6_rule_1 : decode cX6_rule 1 = .ok (.iload_n 1, 1) := by decide +kernel
theorem dX6_rule_2 : decode cX6_rule 2 = .ok (.invokevirtual 173, 3) := by decide +kernel
theorem dX6_rule_5 : decode cX6_rule 5 = .ok (.astore_n 2, 1) := by decide +kernel
theorem dX6_rule_6 : decode cX6_rule 6 = .ok (.aload_n 2, 1) := by decide +kernel
theorem dX6_rule_7 : decode cX6_rule 7 = .ok (.ifnonnull 8, 3) := by decide +kernel
theorem dX6_rule_10 : decode cX6_rule 10 = .ok (.bipush (-2), 2) := by decide +kernel
theorem dX6_rule_12 : decode cX6_rule 12 = .ok (.goto 7, 3) := by decide +kernel
theorem dX6_rule_15 : decode cX6_rule 15 = .ok (.aload_n 2, 1) := by decide +kernel
theorem dX6_rule_16 : decode cX6_rule 16 = .ok (.getfield 183, 3) := by decide +kernel
theorem dX6_rule_19 : decode cX6_rule 19 = .ok (.ireturn, 1) := by decide +kernel
theorem dX6_run_0 : decode cX6_run 0 = .ok (.aload_n 0, 1) := by decide +kernel
theorem dX6_run_1 : decode cX6_run 1 = .ok (.iload_n 1, 1) := by decide +kernel
theorem dX6_run_2 : decode cX6_run 2 = .ok (.invokevirtual 173, 3) := by decide +kernel
theorem dX6_run_5 : decode cX6_run 5 = .ok (.astore_n 3, 1) := by decide +kernel
theorem dX6_run_6 : decode cX6_run 6 = .ok (.aload_n 3, 1) := by decide +kernel
theorem dX6_run_7 : decode cX6_run 7 = .ok (.ifnull 7, 3) := by decide +kernel
theorem dX6_run_10 : decode cX6_run 10 = .ok (.iload_n 2, 1) := by decide +kernel
theorem dX6_run_11 : decode cX6_run 11 = .ok (.ifCond .ge 6, 3) := by decide +kernel
theorem dX6_run_14 : decode cX6_run 14 = .ok (.bipush (-2), 2) := by decide +kernel
theorem dX6_run_16 : decode cX6_run 16 = .ok (.ireturn, 1) := by decide +kernel
theorem dX6_run_17 : decode cX6_run 17 = .ok (.aload_n 3, 1) := by decide +kernel
theorem dX6_run_18 : decode cX6_run 18 = .ok (.iload_n 2, 1) := by decide +kernel
theorem dX6_run_19 : decode cX6_run 19 = .ok (.invokevirtual 240, 3) := by decide +kernel
theorem dX6_run_22 : decode cX6_run 22 = .ok (.ireturn, 1) := by decide +kernel
theorem dX6_settle_0 : decode cX6_settle 0 = .ok (.aload_n 0, 1) := by decide +kernel
theorem dX6_settle_1 : decode cX6_settle 1 = .ok (.aload_n 1, 1) := by decide +kernel
theorem dX6_settle_2 : decode cX6_settle 2 = .ok (.getfield 244, 3) := by decide +kernel
theorem dX6_settle_5 : decode cX6_settle 5 = .ok (.invokevirtual 173, 3) := by decide +kernel
theorem dX6_settle_8 : decode cX6_settle 8 = .ok (.astore_n 2, 1) := by decide +kernel
theorem dX6_settle_9 : decode cX6_settle 9 = .ok (.aload_n 1, 1) := by decide +kernel
theorem dX6_settle_10 : decode cX6_settle 10 = .ok (.getfield 219, 3) := by decide +kernel
theorem dX6_settle_13 : decode cX6_settle 13 = .ok (.ifCond .eq 15, 3) := by decide +kernel
theorem dX6_settle_16 : decode cX6_settle 16 = .ok (.aload_n 2, 1) := by decide +kernel
theorem dX6_settle_17 : decode cX6_settle 17 = .ok (.ifnull 11, 3) := by decide +kernel
theorem dX6_settle_20 : decode cX6_settle 20 = .ok (.aload_n 2, 1) := by decide +kernel
theorem dX6_settle_21 : decode cX6_settle 21 = .ok (.aload_n 1, 1) := by decide +kernel
theorem dX6_settle_22 : decode cX6_settle 22 = .ok (.getfield 219, 3) := by decide +kernel
theorem dX6_settle_25 : decode cX6_settle 25 = .ok (.invokevirtual 247, 3) := by decide +kernel
theorem dX6_settle_28 : decode cX6_settle 28 = .ok (.aload_n 1, 1) := by decide +kernel
theorem dX6_settle_29 : decode cX6_settle 29 = .ok (.getfield 219, 3) := by decide +kernel
theorem dX6_settle_32 : decode cX6_settle 32 = .ok (.ireturn, 1) := by decide +kernel
theorem dX6_supplierAt_0 : decode cX6_supplierAt 0 = .ok (.iload_n 1, 1) := by decide +kernel
theorem dX6_supplierAt_1 : decode cX6_supplierAt 1 = .ok (.ifCond .lt 20, 3) := by decide +kernel
theorem dX6_supplierAt_4 : decode cX6_supplierAt 4 = .ok (.iload_n 1, 1) := by decide +kernel
theorem dX6_supplierAt_5 : decode cX6_supplierAt 5 = .ok (.aload_n 0, 1) := by decide +kernel
theorem dX6_supplierAt_6 : decode cX6_supplierAt 6 = .ok (.getfield 168, 3) := by decide +kernel
theorem dX6_supplierAt_9 : decode cX6_supplierAt 9 = .ok (.if_icmp .ge 12, 3) := by decide +kernel
theorem dX6_supplierAt_12 : decode cX6_supplierAt 12 = .ok (.aload_n 0, 1) := by decide +kernel
theorem dX6_supplierAt_13 : decode cX6_supplierAt 13 = .ok (.getfield 41, 3) := by decide +kernel
theorem dX6_supplierAt_16 : decode cX6_supplierAt 16 = .ok (.iload_n 1, 1) := by decide +kernel
theorem dX6_supplierAt_17 : decode cX6_supplierAt 17 = .ok (.aaload, 1) := by decide +kernel
theorem dX6_supplierAt_18 : decode cX6_supplierAt 18 = .ok (.goto 4, 3) := by decide +kernel
theorem dX6_supplierAt_21 : decode cX6_supplierAt 21 = .ok (.aconst_null, 1) := by decide +kernel
theorem dX6_supplierAt_22 : decode cX6_supplierAt 22 = .ok (.areturn, 1) := by decide +kernel
theorem dX6_lotAt_0 : decode cX6_lotAt 0 = .ok (.iload_n 1, 1) := by decide +kernel
theorem dX6_lotAt_1 : decode cX6_lotAt 1 = .ok (.ifCond .lt 20, 3) := by decide +kernel
theorem dX6_lotAt_4 : decode cX6_lotAt 4 = .ok (.iload_n 1, 1) := by decide +kernel
theorem dX6_lotAt_5 : decode cX6_lotAt 5 = .ok (.aload_n 0, 1) := by decide +kernel
theorem dX6_lotAt_6 : decode cX6_lotAt 6 = .ok (.getfield 177, 3) := by decide +kernel
theorem dX6_lotAt_9 : decode cX6_lotAt 9 = .ok (.if_icmp .ge 12, 3) := by decide +kernel
theorem dX6_lotAt_12 : decode cX6_lotAt 12 = .ok (.aload_n 0, 1) := by decide +kernel
theorem dX6_lotAt_13 : decode cX6_lotAt 13 = .ok (.getfield 47, 3) := by decide +kernel
theorem dX6_lotAt_16 : decode cX6_lotAt 16 = .ok (.iload_n 1, 1) := by decide +kernel
theorem dX6_lotAt_17 : decode cX6_lotAt 17 = .ok (.aaload, 1) := by decide +kernel
theorem dX6_lotAt_18 : decode cX6_lotAt 18 = .ok (.goto 4, 3) := by decide +kernel
theorem dX6_lotAt_21 : decode cX6_lotAt 21 = .ok (.aconst_null, 1) := by decide +kernel
theorem dX6_lotAt_22 : decode cX6_lotAt 22 = .ok (.areturn, 1) := by decide +kernel
theorem dX6_openLotAt_0 : decode cX6_openLotAt 0 = .ok (.aload_n 0, 1) := by decide +kernel
theorem dX6_openLotAt_1 : decode cX6_openLotAt 1 = .ok (.iload_n 1, 1) := by decide +kernel
theorem dX6_openLotAt_2 : decode cX6_openLotAt 2 = .ok (.invokevirtual 216, 3) := by decide +kernel
theorem dX6_openLotAt_5 : decode cX6_openLotAt 5 = .ok (.astore_n 2, 1) := by decide +kernel
theorem dX6_openLotAt_6 : decode cX6_openLotAt 6 = .ok (.aload_n 2, 1) := by decide +kernel
theorem dX6_openLotAt_7 : decode cX6_openLotAt 7 = .ok (.ifnull 14, 3) := by decide +kernel
theorem dX6_openLotAt_10 : decode cX6_openLotAt 10 = .ok (.aload_n 2, 1) := by decide +kernel
theorem dX6_openLotAt_11 : decode cX6_openLotAt 11 = .ok (.getfield 219, 3) := by decide +kernel
theorem dX6_openLotAt_14 : decode cX6_openLotAt 14 = .ok (.ifCond .ne 7, 3) := by decide +kernel
theorem dX6_openLotAt_17 : decode cX6_openLotAt 17 = .ok (.aload_n 2, 1) := by decide +kernel
theorem dX6_openLotAt_18 : decode cX6_openLotAt 18 = .ok (.goto 4, 3) := by decide +kernel
theorem dX6_openLotAt_21 : decode cX6_openLotAt 21 = .ok (.aconst_null, 1) := by decide +kernel
theorem dX6_openLotAt_22 : decode cX6_openLotAt 22 = .ok (.areturn, 1) := by decide +kernel
theorem dX6_isClass_0 : decode cX6_isClass 0 = .ok (.iload_n 0, 1) := by decide +kernel
theorem dX6_isClass_1 : decode cX6_isClass 1 = .ok (.ifCond .lt 12, 3) := by decide +kernel
theorem dX6_isClass_4 : decode cX6_isClass 4 = .ok (.iload_n 0, 1) := by decide +kernel
theorem dX6_isClass_5 : decode cX6_isClass 5 = .ok (.iconst 3, 1) := by decide +kernel
theorem dX6_isClass_6 : decode cX6_isClass 6 = .ok (.if_icmp .gt 7, 3) := by decide +kernel
theorem dX6_isClass_9 : decode cX6_isClass 9 = .ok (.iconst 1, 1) := by decide +kernel
theorem dX6_isClass_10 : decode cX6_isClass 10 = .ok (.goto 4, 3) := by decide +kernel
theorem dX6_isClass_13 : decode cX6_isClass 13 = .ok (.iconst 0, 1) := by decide +kernel
theorem dX6_isClass_14 : decode cX6_isClass 14 = .ok (.ireturn, 1) := by decide +kernel
theorem dX6_cost_0 : decode cX6_cost 0 = .ok (.iload_n 1, 1) := by decide +kernel
theorem dX6_cost_1 : decode cX6_cost 1 = .ok (.invokestatic 193, 3) := by decide +kernel
theorem dX6_cost_4 : decode cX6_cost 4 = .ok (.ifCond .eq 13, 3) := by decide +kernel
theorem dX6_cost_7 : decode cX6_cost 7 = .ok (.iload_n 2, 1) := by decide +kernel
theorem dX6_cost_8 : decode cX6_cost 8 = .ok (.ifCond .lt 9, 3) := by decide +kernel
theorem dX6_cost_11 : decode cX6_cost 11 = .ok (.iload_n 2, 1) := by decide +kernel
theorem dX6_cost_12 : decode cX6_cost 12 = .ok (.ldc 250, 2) := by decide +kernel
theorem dX6_cost_14 : decode cX6_cost 14 = .ok (.if_icmp .le 6, 3) := by decide +kernel
theorem dX6_cost_17 : decode cX6_cost 17 = .ok (.bipush (-2), 2) := by decide +kernel
theorem dX6_cost_19 : decode cX6_cost 19 = .ok (.ireturn, 1) := by decide +kernel
theorem dX6_cost_20 : decode cX6_cost 20 = .ok (.aload_n 0, 1) := by decide +kernel
theorem dX6_cost_21 : decode cX6_cost 21 = .ok (.getfield 51, 3) := by decide +kernel
theorem dX6_cost_24 : decode cX6_cost 24 = .ok (.iload_n 1, 1) := by decide +kernel
theorem dX6_cost_25 : decode cX6_cost 25 = .ok (.iaload, 1) := by decide +kernel
theorem dX6_cost_26 : decode cX6_cost 26 = .ok (.istore_n 3, 1) := by decide +kernel
theorem dX6_cost_27 : decode cX6_cost 27 = .ok (.aload_n 0, 1) := by decide +kernel
theorem dX6_cost_28 : decode cX6_cost 28 = .ok (.getfield 51, 3) := by decide +kernel
theorem dX6_cost_31 : decode cX6_cost 31 = .ok (.iload_n 1, 1) := by decide +kernel
theorem dX6_cost_32 : decode cX6_cost 32 = .ok (.iload_n 2, 1) := by decide +kernel
theorem dX6_cost_33 : decode cX6_cost 33 = .ok (.iastore, 1) := by decide +kernel
theorem dX6_cost_34 : decode cX6_cost 34 = .ok (.iload_n 3, 1) := by decide +kernel
theorem dX6_cost_35 : decode cX6_cost 35 = .ok (.ireturn, 1) := by decide +kernel
theorem dX6_score_0 : decode cX6_score 0 = .ok (.aload_n 0, 1) := by decide +kernel
theorem dX6_score_1 : decode cX6_score 1 = .ok (.iload_n 1, 1) := by decide +kernel
theorem dX6_score_2 : decode cX6_score 2 = .ok (.invokevirtual 173, 3) := by decide +kernel
theorem dX6_score_5 : decode cX6_score 5 = .ok (.astore_n 3, 1) := by decide +kernel
theorem dX6_score_6 : decode cX6_score 6 = .ok (.aload_n 3, 1) := by decide +kernel
theorem dX6_score_7 : decode cX6_score 7 = .ok (.ifnull 13, 3) := by decide +kernel
theorem dX6_score_10 : decode cX6_score 10 = .ok (.iload_n 2, 1) := by decide +kernel
theorem dX6_score_11 : decode cX6_score 11 = .ok (.ifCond .lt 9, 3) := by decide +kernel
theorem dX6_score_14 : decode cX6_score 14 = .ok (.iload_n 2, 1) := by decide +kernel
theorem dX6_score_15 : decode cX6_score 15 = .ok (.bipush 6, 2) := by decide +kernel
theorem dX6_score_17 : decode cX6_score 17 = .ok (.if_icmp .le 7, 3) := by decide +kernel
theorem dX6_score_20 : decode cX6_score 20 = .ok (.ldc2_w 107, 3) := by decide +kernel
theorem dX6_score_23 : decode cX6_score 23 = .ok (.lreturn, 1) := by decide +kernel
theorem dX6_score_24 : decode cX6_score 24 = .ok (.iload_n 2, 1) := by decide +kernel
theorem dX6_score_25 : decode cX6_score 25 = .ok (.bipush 6, 2) := by decide +kernel
theorem dX6_score_27 : decode cX6_score 27 = .ok (.if_icmp .ne 9, 3) := by decide +kernel
theorem dX6_score_30 : decode cX6_score 30 = .ok (.aload_n 3, 1) := by decide +kernel
theorem dX6_score_31 : decode cX6_score 31 = .ok (.getfield 251, 3) := by decide +kernel
theorem dX6_score_34 : decode cX6_score 34 = .ok (.i2l, 1) := by decide +kernel
theorem dX6_score_35 : decode cX6_score 35 = .ok (.lreturn, 1) := by decide +kernel
theorem dX6_score_36 : decode cX6_score 36 = .ok (.lconst 0, 1) := by decide +kernel
theorem dX6_score_37 : decode cX6_score 37 = .ok (.lstore 4, 2) := by decide +kernel
theorem dX6_score_39 : decode cX6_score 39 = .ok (.iconst 0, 1) := by decide +kernel
theorem dX6_score_40 : decode cX6_score 40 = .ok (.istore 6, 2) := by decide +kernel
theorem dX6_score_42 : decode cX6_score 42 = .ok (.iload 6, 2) := by decide +kernel
theorem dX6_score_44 : decode cX6_score 44 = .ok (.aload_n 0, 1) := by decide +kernel
theorem dX6_score_45 : decode cX6_score 45 = .ok (.getfield 177, 3) := by decide +kernel
theorem dX6_score_48 : decode cX6_score 48 = .ok (.if_icmp .ge 43, 3) := by decide +kernel
theorem dX6_score_51 : decode cX6_score 51 = .ok (.aload_n 0, 1) := by decide +kernel
theorem dX6_score_52 : decode cX6_score 52 = .ok (.iload 6, 2) := by decide +kernel
theorem dX6_score_54 : decode cX6_score 54 = .ok (.invokevirtual 216, 3) := by decide +kernel
theorem dX6_score_57 : decode cX6_score 57 = .ok (.astore 7, 2) := by decide +kernel
theorem dX6_score_59 : decode cX6_score 59 = .ok (.aload 7, 2) := by decide +kernel
theorem dX6_score_61 : decode cX6_score 61 = .ok (.ifnull 24, 3) := by decide +kernel
theorem dX6_score_64 : decode cX6_score 64 = .ok (.aload 7, 2) := by decide +kernel
theorem dX6_score_66 : decode cX6_score 66 = .ok (.getfield 244, 3) := by decide +kernel
theorem dX6_score_69 : decode cX6_score 69 = .ok (.iload_n 1, 1) := by decide +kernel
theorem dX6_score_70 : decode cX6_score 70 = .ok (.if_icmp .ne 15, 3) := by decide +kernel
theorem dX6_score_73 : decode cX6_score 73 = .ok (.lload 4, 2) := by decide +kernel
theorem dX6_score_75 : decode cX6_score 75 = .ok (.aload_n 0, 1) := by decide +kernel
theorem dX6_score_76 : decode cX6_score 76 = .ok (.aload 7, 2) := by decide +kernel
theorem dX6_score_78 : decode cX6_score 78 = .ok (.iload_n 2, 1) := by decide +kernel
theorem dX6_score_79 : decode cX6_score 79 = .ok (.invokevirtual 254, 3) := by decide +kernel
theorem dX6_score_82 : decode cX6_score 82 = .ok (.ladd, 1) := by decide +kernel
theorem dX6_score_83 : decode cX6_score 83 = .ok (.lstore 4, 2) := by decide +kernel
theorem dX6_score_85 : decode cX6_score 85 = .ok (.iinc 6 1, 3) := by decide +kernel
theorem dX6_score_88 : decode cX6_score 88 = .ok (.goto (-46), 3) := by decide +kernel
theorem dX6_score_91 : decode cX6_score 91 = .ok (.lload 4, 2) := by decide +kernel
theorem dX6_score_93 : decode cX6_score 93 = .ok (.lreturn, 1) := by decide +kernel
theorem dX6_count_0 : decode cX6_count 0 = .ok (.iload_n 1, 1) := by decide +kernel
theorem dX6_count_1 : decode cX6_count 1 = .ok (.tableswitch 69 0 5 #[39, 44, 49, 54, 59, 64], 39) := by decide +kernel
theorem dX6_count_40 : decode cX6_count 40 = .ok (.aload_n 0, 1) := by decide +kernel
theorem dX6_count_41 : decode cX6_count 41 = .ok (.getfield 55, 3) := by decide +kernel
theorem dX6_count_44 : decode cX6_count 44 = .ok (.ireturn, 1) := by decide +kernel
theorem dX6_count_45 : decode cX6_count 45 = .ok (.aload_n 0, 1) := by decide +kernel
theorem dX6_count_46 : decode cX6_count 46 = .ok (.invokevirtual 258, 3) := by decide +kernel
theorem dX6_count_49 : decode cX6_count 49 = .ok (.ireturn, 1) := by decide +kernel
theorem dX6_count_50 : decode cX6_count 50 = .ok (.aload_n 0, 1) := by decide +kernel
theorem dX6_count_51 : decode cX6_count 51 = .ok (.getfield 168, 3) := by decide +kernel
theorem dX6_count_54 : decode cX6_count 54 = .ok (.ireturn, 1) := by decide +kernel
theorem dX6_count_55 : decode cX6_count 55 = .ok (.aload_n 0, 1) := by decide +kernel
theorem dX6_count_56 : decode cX6_count 56 = .ok (.getfield 177, 3) := by decide +kernel
theorem dX6_count_59 : decode cX6_count 59 = .ok (.ireturn, 1) := by decide +kernel
theorem dX6_count_60 : decode cX6_count 60 = .ok (.aload_n 0, 1) := by decide +kernel
theorem dX6_count_61 : decode cX6_count 61 = .ok (.invokevirtual 261, 3) := by decide +kernel
theorem dX6_count_64 : decode cX6_count 64 = .ok (.ireturn, 1) := by decide +kernel
theorem dX6_count_65 : decode cX6_count 65 = .ok (.aload_n 0, 1) := by decide +kernel
theorem dX6_count_66 : decode cX6_count 66 = .ok (.invokevirtual 135, 3) := by decide +kernel
theorem dX6_count_69 : decode cX6_count 69 = .ok (.ireturn, 1) := by decide +kernel
theorem dX6_count_70 : decode cX6_count 70 = .ok (.bipush (-2), 2) := by decide +kernel
theorem dX6_count_72 : decode cX6_count 72 = .ok (.ireturn, 1) := by decide +kernel
theorem dX6_scoreOfLot_0 : decode cX6_scoreOfLot 0 = .ok (.iload_n 2, 1) := by decide +kernel
theorem dX6_scoreOfLot_1 : decode cX6_scoreOfLot 1 = .ok (.tableswitch 95 0 4 #[35, 49, 63, 76, 82], 35) := by decide +kernel
theorem dX6_scoreOfLot_36 : decode cX6_scoreOfLot 36 = .ok (.aload_n 1, 1) := by decide +kernel
theorem dX6_scoreOfLot_37 : decode cX6_scoreOfLot 37 = .ok (.getfield 219, 3) := by decide +kernel
theorem dX6_scoreOfLot_40 : decode cX6_scoreOfLot 40 = .ok (.iconst 1, 1) := by decide +kernel
theorem dX6_scoreOfLot_41 : decode cX6_scoreOfLot 41 = .ok (.if_icmp .ne 7, 3) := by decide +kernel
theorem dX6_scoreOfLot_44 : decode cX6_scoreOfLot 44 = .ok (.lconst 1, 1) := by decide +kernel
theorem dX6_scoreOfLot_45 : decode cX6_scoreOfLot 45 = .ok (.goto 4, 3) := by decide +kernel
theorem dX6_scoreOfLot_48 : decode cX6_scoreOfLot 48 = .ok (.lconst 0, 1) := by decide +kernel
theorem dX6_scoreOfLot_49 : decode cX6_scoreOfLot 49 = .ok (.lreturn, 1) := by decide +kernel
theorem dX6_scoreOfLot_50 : decode cX6_scoreOfLot 50 = .ok (.aload_n 1, 1) := by decide +kernel
theorem dX6_scoreOfLot_51 : decode cX6_scoreOfLot 51 = .ok (.getfield 219, 3) := by decide +kernel
theorem dX6_scoreOfLot_54 : decode cX6_scoreOfLot 54 = .ok (.iconst 2, 1) := by decide +kernel
theorem dX6_scoreOfLot_55 : decode cX6_scoreOfLot 55 = .ok (.if_icmp .ne 7, 3) := by decide +kernel
theorem dX6_scoreOfLot_58 : decode cX6_scoreOfLot 58 = .ok (.lconst 1, 1) := by decide +kernel
theorem dX6_scoreOfLot_59 : decode cX6_scoreOfLot 59 = .ok (.goto 4, 3) := by decide +kernel
theorem dX6_scoreOfLot_62 : decode cX6_scoreOfLot 62 = .ok (.lconst 0, 1) := by decide +kernel
theorem dX6_scoreOfLot_63 : decode cX6_scoreOfLot 63 = .ok (.lreturn, 1) := by decide +kernel
theorem dX6_scoreOfLot_64 : decode cX6_scoreOfLot 64 = .ok (.aload_n 1, 1) := by decide +kernel
theorem dX6_scoreOfLot_65 : decode cX6_scoreOfLot 65 = .ok (.getfield 219, 3) := by decide +kernel
theorem dX6_scoreOfLot_68 : decode cX6_scoreOfLot 68 = .ok (.ifCond .ne 7, 3) := by decide +kernel
theorem dX6_scoreOfLot_71 : decode cX6_scoreOfLot 71 = .ok (.lconst 1, 1) := by decide +kernel
theorem dX6_scoreOfLot_72 : decode cX6_scoreOfLot 72 = .ok (.goto 4, 3) := by decide +kernel
theorem dX6_scoreOfLot_75 : decode cX6_scoreOfLot 75 = .ok (.lconst 0, 1) := by decide +kernel
theorem dX6_scoreOfLot_76 : decode cX6_scoreOfLot 76 = .ok (.lreturn, 1) := by decide +kernel
theorem dX6_scoreOfLot_77 : decode cX6_scoreOfLot 77 = .ok (.aload_n 1, 1) := by decide +kernel
theorem dX6_scoreOfLot_78 : decode cX6_scoreOfLot 78 = .ok (.getfield 204, 3) := by decide +kernel
theorem dX6_scoreOfLot_81 : decode cX6_scoreOfLot 81 = .ok (.i2l, 1) := by decide +kernel
theorem dX6_scoreOfLot_82 : decode cX6_scoreOfLot 82 = .ok (.lreturn, 1) := by decide +kernel
theorem dX6_scoreOfLot_83 : decode cX6_scoreOfLot 83 = .ok (.aload_n 1, 1) := by decide +kernel
theorem dX6_scoreOfLot_84 : decode cX6_scoreOfLot 84 = .ok (.getfield 204, 3) := by decide +kernel
theorem dX6_scoreOfLot_87 : decode cX6_scoreOfLot 87 = .ok (.aload_n 1, 1) := by decide +kernel
theorem dX6_scoreOfLot_88 : decode cX6_scoreOfLot 88 = .ok (.getfield 264, 3) := by decide +kernel
theorem dX6_scoreOfLot_91 : decode cX6_scoreOfLot 91 = .ok (.iconst 0, 1) := by decide +kernel
theorem dX6_scoreOfLot_92 : decode cX6_scoreOfLot 92 = .ok (.iaload, 1) := by decide +kernel
theorem dX6_scoreOfLot_93 : decode cX6_scoreOfLot 93 = .ok (.isub, 1) := by decide +kernel
theorem dX6_scoreOfLot_94 : decode cX6_scoreOfLot 94 = .ok (.i2l, 1) := by decide +kernel
theorem dX6_scoreOfLot_95 : decode cX6_scoreOfLot 95 = .ok (.lreturn, 1) := by decide +kernel
theorem dX6_scoreOfLot_96 : decode cX6_scoreOfLot 96 = .ok (.aload_n 1, 1) := by decide +kernel
theorem dX6_scoreOfLot_97 : decode cX6_scoreOfLot 97 = .ok (.aload_n 0, 1) := by decide +kernel
theorem dX6_scoreOfLot_98 : decode cX6_scoreOfLot 98 = .ok (.getfield 51, 3) := by decide +kernel
theorem dX6_scoreOfLot_101 : decode cX6_scoreOfLot 101 = .ok (.invokevirtual 267, 3) := by decide +kernel
theorem dX6_scoreOfLot_104 : decode cX6_scoreOfLot 104 = .ok (.lreturn, 1) := by decide +kernel
theorem dX6_closedPlans_0 : decode cX6_closedPlans 0 = .ok (.iconst 0, 1) := by decide +kernel
theorem dX6_closedPlans_1 : decode cX6_closedPlans 1 = .ok (.istore_n 1, 1) := by decide +kernel
theorem dX6_closedPlans_2 : decode cX6_closedPlans 2 = .ok (.iconst 0, 1) := by decide +kernel
theorem dX6_closedPlans_3 : decode cX6_closedPlans 3 = .ok (.istore_n 2, 1) := by decide +kernel
theorem dX6_closedPlans_4 : decode cX6_closedPlans 4 = .ok (.iload_n 2, 1) := by decide +kernel
theorem dX6_closedPlans_5 : decode cX6_closedPlans 5 = .ok (.aload_n 0, 1) := by decide +kernel
theorem dX6_closedPlans_6 : decode cX6_closedPlans 6 = .ok (.getfield 55, 3) := by decide +kernel
theorem dX6_closedPlans_9 : decode cX6_closedPlans 9 = .ok (.if_icmp .ge 20, 3) := by decide +kernel
theorem dX6_closedPlans_12 : decode cX6_closedPlans 12 = .ok (.aload_n 0, 1) := by decide +kernel
theorem dX6_closedPlans_13 : decode cX6_closedPlans 13 = .ok (.iload_n 2, 1) := by decide +kernel
theorem dX6_closedPlans_14 : decode cX6_closedPlans 14 = .ok (.invokevirtual 121, 3) := by decide +kernel
theorem dX6_closedPlans_17 : decode cX6_closedPlans 17 = .ok (.ifnull 6, 3) := by decide +kernel
theorem dX6_closedPlans_20 : decode cX6_closedPlans 20 = .ok (.iinc 1 1, 3) := by decide +kernel
theorem dX6_closedPlans_23 : decode cX6_closedPlans 23 = .ok (.iinc 2 1, 3) := by decide +kernel
theorem dX6_closedPlans_26 : decode cX6_closedPlans 26 = .ok (.goto (-22), 3) := by decide +kernel
theorem dX6_closedPlans_29 : decode cX6_closedPlans 29 = .ok (.iload_n 1, 1) := by decide +kernel
theorem dX6_closedPlans_30 : decode cX6_closedPlans 30 = .ok (.ireturn, 1) := by decide +kernel
theorem dX6_decidedLots_0 : decode cX6_decidedLots 0 = .ok (.iconst 0, 1) := by decide +kernel
theorem dX6_decidedLots_1 : decode cX6_decidedLots 1 = .ok (.istore_n 1, 1) := by decide +kernel
theorem dX6_decidedLots_2 : decode cX6_decidedLots 2 = .ok (.iconst 0, 1) := by decide +kernel
theorem dX6_decidedLots_3 : decode cX6_decidedLots 3 = .ok (.istore_n 2, 1) := by decide +kernel
theorem dX6_decidedLots_4 : decode cX6_decidedLots 4 = .ok (.iload_n 2, 1) := by decide +kernel
theorem dX6_decidedLots_5 : decode cX6_decidedLots 5 = .ok (.aload_n 0, 1) := by decide +kernel
theorem dX6_decidedLots_6 : decode cX6_decidedLots 6 = .ok (.getfield 177, 3) := by decide +kernel
theorem dX6_decidedLots_9 : decode cX6_decidedLots 9 = .ok (.if_icmp .ge 20, 3) := by decide +kernel
theorem dX6_decidedLots_12 : decode cX6_decidedLots 12 = .ok (.aload_n 0, 1) := by decide +kernel
theorem dX6_decidedLots_13 : decode cX6_decidedLots 13 = .ok (.iload_n 2, 1) := by decide +kernel
theorem dX6_decidedLots_14 : decode cX6_decidedLots 14 = .ok (.invokevirtual 189, 3) := by decide +kernel
theorem dX6_decidedLots_17 : decode cX6_decidedLots 17 = .ok (.ifnonnull 6, 3) := by decide +kernel
theorem dX6_decidedLots_20 : decode cX6_decidedLots 20 = .ok (.iinc 1 1, 3) := by decide +kernel
theorem dX6_decidedLots_23 : decode cX6_decidedLots 23 = .ok (.iinc 2 1, 3) := by decide +kernel
theorem dX6_decidedLots_26 : decode cX6_decidedLots 26 = .ok (.goto (-22), 3) := by decide +kernel
theorem dX6_decidedLots_29 : decode cX6_decidedLots 29 = .ok (.iload_n 1, 1) := by decide +kernel
theorem dX6_decidedLots_30 : decode cX6_decidedLots 30 = .ok (.ireturn, 1) := by decide +kernel
