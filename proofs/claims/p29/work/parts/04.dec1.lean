theorem dX4_earliestEnd_13 : decode cX4_earliestEnd 13 = .ok (.aload_n 0, 1) := by decide +kernel
theorem dX4_earliestEnd_14 : decode cX4_earliestEnd 14 = .ok (.getfield 18, 3) := by decide +kernel
theorem dX4_earliestEnd_17 : decode cX4_earliestEnd 17 = .ok (.getfield 27, 3) := by decide +kernel
theorem dX4_earliestEnd_20 : decode cX4_earliestEnd 20 = .ok (.iload_n 1, 1) := by decide +kernel
theorem dX4_earliestEnd_21 : decode cX4_earliestEnd 21 = .ok (.iaload, 1) := by decide +kernel
theorem dX4_earliestEnd_22 : decode cX4_earliestEnd 22 = .ok (.iaload, 1) := by decide +kernel
theorem dX4_earliestEnd_23 : decode cX4_earliestEnd 23 = .ok (.invokestatic 30, 3) := by decide +kernel
theorem dX4_earliestEnd_26 : decode cX4_earliestEnd 26 = .ok (.istore_n 3, 1) := by decide +kernel
theorem dX4_earliestEnd_27 : decode cX4_earliestEnd 27 = .ok (.aload_n 0, 1) := by decide +kernel
theorem dX4_earliestEnd_28 : decode cX4_earliestEnd 28 = .ok (.getfield 18, 3) := by decide +kernel
theorem dX4_earliestEnd_31 : decode cX4_earliestEnd 31 = .ok (.getfield 36, 3) := by decide +kernel
theorem dX4_earliestEnd_34 : decode cX4_earliestEnd 34 = .ok (.iload_n 1, 1) := by decide +kernel
theorem dX4_earliestEnd_35 : decode cX4_earliestEnd 35 = .ok (.iaload, 1) := by decide +kernel
theorem dX4_earliestEnd_36 : decode cX4_earliestEnd 36 = .ok (.iload_n 2, 1) := by decide +kernel
theorem dX4_earliestEnd_37 : decode cX4_earliestEnd 37 = .ok (.iand, 1) := by decide +kernel
theorem dX4_earliestEnd_38 : decode cX4_earliestEnd 38 = .ok (.istore 4, 2) := by decide +kernel
theorem dX4_earliestEnd_40 : decode cX4_earliestEnd 40 = .ok (.iconst 0, 1) := by decide +kernel
theorem dX4_earliestEnd_41 : decode cX4_earliestEnd 41 = .ok (.istore 5, 2) := by decide +kernel
theorem dX4_earliestEnd_43 : decode cX4_earliestEnd 43 = .ok (.iload 5, 2) := by decide +kernel
theorem dX4_earliestEnd_45 : decode cX4_earliestEnd 45 = .ok (.aload_n 0, 1) := by decide +kernel
theorem dX4_earliestEnd_46 : decode cX4_earliestEnd 46 = .ok (.getfield 18, 3) := by decide +kernel
theorem dX4_earliestEnd_49 : decode cX4_earliestEnd 49 = .ok (.getfield 39, 3) := by decide +kernel
theorem dX4_earliestEnd_52 : decode cX4_earliestEnd 52 = .ok (.if_icmp .ge 31, 3) := by decide +kernel
theorem dX4_earliestEnd_55 : decode cX4_earliestEnd 55 = .ok (.iload 4, 2) := by decide +kernel
theorem dX4_earliestEnd_57 : decode cX4_earliestEnd 57 = .ok (.iload 5, 2) := by decide +kernel
theorem dX4_earliestEnd_59 : decode cX4_earliestEnd 59 = .ok (.invokestatic 43, 3) := by decide +kernel
theorem dX4_earliestEnd_62 : decode cX4_earliestEnd 62 = .ok (.ifCond .eq 15, 3) := by decide +kernel
theorem dX4_earliestEnd_65 : decode cX4_earliestEnd 65 = .ok (.iload_n 3, 1) := by decide +kernel
theorem dX4_earliestEnd_66 : decode cX4_earliestEnd 66 = .ok (.aload_n 0, 1) := by decide +kernel
theorem dX4_earliestEnd_67 : decode cX4_earliestEnd 67 = .ok (.getfield 9, 3) := by decide +kernel
theorem dX4_earliestEnd_70 : decode cX4_earliestEnd 70 = .ok (.iload 5, 2) := by decide +kernel
theorem dX4_earliestEnd_72 : decode cX4_earliestEnd 72 = .ok (.iaload, 1) := by decide +kernel
theorem dX4_earliestEnd_73 : decode cX4_earliestEnd 73 = .ok (.invokestatic 30, 3) := by decide +kernel
theorem dX4_earliestEnd_76 : decode cX4_earliestEnd 76 = .ok (.istore_n 3, 1) := by decide +kernel
theorem dX4_earliestEnd_77 : decode cX4_earliestEnd 77 = .ok (.iinc 5 1, 3) := by decide +kernel
theorem dX4_earliestEnd_80 : decode cX4_earliestEnd 80 = .ok (.goto (-37), 3) := by decide +kernel
theorem dX4_earliestEnd_83 : decode cX4_earliestEnd 83 = .ok (.iload_n 3, 1) := by decide +kernel
theorem dX4_earliestEnd_84 : decode cX4_earliestEnd 84 = .ok (.aload_n 0, 1) := by decide +kernel
theorem dX4_earliestEnd_85 : decode cX4_earliestEnd 85 = .ok (.getfield 18, 3) := by decide +kernel
theorem dX4_earliestEnd_88 : decode cX4_earliestEnd 88 = .ok (.getfield 47, 3) := by decide +kernel
theorem dX4_earliestEnd_91 : decode cX4_earliestEnd 91 = .ok (.iload_n 1, 1) := by decide +kernel
theorem dX4_earliestEnd_92 : decode cX4_earliestEnd 92 = .ok (.iaload, 1) := by decide +kernel
theorem dX4_earliestEnd_93 : decode cX4_earliestEnd 93 = .ok (.iadd, 1) := by decide +kernel
theorem dX4_earliestEnd_94 : decode cX4_earliestEnd 94 = .ok (.ireturn, 1) := by decide +kernel
theorem dX4_place_0 : decode cX4_place 0 = .ok (.aload_n 0, 1) := by decide +kernel
theorem dX4_place_1 : decode cX4_place 1 = .ok (.getfield 9, 3) := by decide +kernel
theorem dX4_place_4 : decode cX4_place 4 = .ok (.iload_n 1, 1) := by decide +kernel
theorem dX4_place_5 : decode cX4_place 5 = .ok (.iload_n 2, 1) := by decide +kernel
theorem dX4_place_6 : decode cX4_place 6 = .ok (.iastore, 1) := by decide +kernel
theorem dX4_place_7 : decode cX4_place 7 = .ok (.aload_n 0, 1) := by decide +kernel
theorem dX4_place_8 : decode cX4_place 8 = .ok (.getfield 15, 3) := by decide +kernel
theorem dX4_place_11 : decode cX4_place 11 = .ok (.aload_n 0, 1) := by decide +kernel
theorem dX4_place_12 : decode cX4_place 12 = .ok (.getfield 18, 3) := by decide +kernel
theorem dX4_place_15 : decode cX4_place 15 = .ok (.getfield 27, 3) := by decide +kernel
theorem dX4_place_18 : decode cX4_place 18 = .ok (.iload_n 1, 1) := by decide +kernel
theorem dX4_place_19 : decode cX4_place 19 = .ok (.iaload, 1) := by decide +kernel
theorem dX4_place_20 : decode cX4_place 20 = .ok (.iload_n 2, 1) := by decide +kernel
theorem dX4_place_21 : decode cX4_place 21 = .ok (.iastore, 1) := by decide +kernel
theorem dX4_place_22 : decode cX4_place 22 = .ok (.return_, 1) := by decide +kernel
theorem dX4_latestEnd_0 : decode cX4_latestEnd 0 = .ok (.iconst 0, 1) := by decide +kernel
theorem dX4_latestEnd_1 : decode cX4_latestEnd 1 = .ok (.istore_n 1, 1) := by decide +kernel
theorem dX4_latestEnd_2 : decode cX4_latestEnd 2 = .ok (.iconst 0, 1) := by decide +kernel
theorem dX4_latestEnd_3 : decode cX4_latestEnd 3 = .ok (.istore_n 2, 1) := by decide +kernel
theorem dX4_latestEnd_4 : decode cX4_latestEnd 4 = .ok (.iload_n 2, 1) := by decide +kernel
theorem dX4_latestEnd_5 : decode cX4_latestEnd 5 = .ok (.iconst 3, 1) := by decide +kernel
theorem dX4_latestEnd_6 : decode cX4_latestEnd 6 = .ok (.if_icmp .ge 20, 3) := by decide +kernel
theorem dX4_latestEnd_9 : decode cX4_latestEnd 9 = .ok (.iload_n 1, 1) := by decide +kernel
theorem dX4_latestEnd_10 : decode cX4_latestEnd 10 = .ok (.aload_n 0, 1) := by decide +kernel
theorem dX4_latestEnd_11 : decode cX4_latestEnd 11 = .ok (.getfield 15, 3) := by decide +kernel
theorem dX4_latestEnd_14 : decode cX4_latestEnd 14 = .ok (.iload_n 2, 1) := by decide +kernel
theorem dX4_latestEnd_15 : decode cX4_latestEnd 15 = .ok (.iaload, 1) := by decide +kernel
theorem dX4_latestEnd_16 : decode cX4_latestEnd 16 = .ok (.invokestatic 30, 3) := by decide +kernel
theorem dX4_latestEnd_19 : decode cX4_latestEnd 19 = .ok (.istore_n 1, 1) := by decide +kernel
theorem dX4_latestEnd_20 : decode cX4_latestEnd 20 = .ok (.iinc 2 1, 3) := by decide +kernel
theorem dX4_latestEnd_23 : decode cX4_latestEnd 23 = .ok (.goto (-19), 3) := by decide +kernel
theorem dX4_latestEnd_26 : decode cX4_latestEnd 26 = .ok (.iload_n 1, 1) := by decide +kernel
theorem dX4_latestEnd_27 : decode cX4_latestEnd 27 = .ok (.ireturn, 1) := by decide +kernel
theorem dX5_init_0 : decode cX5_init 0 = .ok (.aload_n 0, 1) := by decide +kernel
theorem dX5_init_1 : decode cX5_init 1 = .ok (.invokespecial 3, 3) := by decide +kernel
theorem dX5_init_4 : decode cX5_init 4 = .ok (.aload_n 0, 1) := by decide +kernel
theorem dX5_init_5 : decode cX5_init 5 = .ok (.iconst 1, 1) := by decide +kernel
theorem dX5_init_6 : decode cX5_init 6 = .ok (.putfield 9, 3) := by decide +kernel
theorem dX5_init_9 : decode cX5_init 9 = .ok (.aload_n 0, 1) := by decide +kernel
theorem dX5_init_10 : decode cX5_init 10 = .ok (.iconst 0, 1) := by decide +kernel
theorem dX5_init_11 : decode cX5_init 11 = .ok (.putfield 15, 3) := by decide +kernel
theorem dX5_init_14 : decode cX5_init 14 = .ok (.aload_n 0, 1) := by decide +kernel
theorem dX5_init_15 : decode cX5_init 15 = .ok (.bipush 8, 2) := by decide +kernel
theorem dX5_init_17 : decode cX5_init 17 = .ok (.newarray .int, 2) := by decide +kernel
theorem dX5_init_19 : decode cX5_init 19 = .ok (.putfield 18, 3) := by decide +kernel
theorem dX5_init_22 : decode cX5_init 22 = .ok (.aload_n 0, 1) := by decide +kernel
theorem dX5_init_23 : decode cX5_init 23 = .ok (.bipush 8, 2) := by decide +kernel
theorem dX5_init_25 : decode cX5_init 25 = .ok (.newarray .int, 2) := by decide +kernel
theorem dX5_init_27 : decode cX5_init 27 = .ok (.putfield 22, 3) := by decide +kernel
theorem dX5_init_30 : decode cX5_init 30 = .ok (.aload_n 0, 1) := by decide +kernel
theorem dX5_init_31 : decode cX5_init 31 = .ok (.bipush 8, 2) := by decide +kernel
theorem dX5_init_33 : decode cX5_init 33 = .ok (.newarray .int, 2) := by decide +kernel
theorem dX5_init_35 : decode cX5_init 35 = .ok (.putfield 25, 3) := by decide +kernel
theorem dX5_init_38 : decode cX5_init 38 = .ok (.aload_n 0, 1) := by decide +kernel
theorem dX5_init_39 : decode cX5_init 39 = .ok (.bipush 8, 2) := by decide +kernel
theorem dX5_init_41 : decode cX5_init 41 = .ok (.newarray .int, 2) := by decide +kernel
theorem dX5_init_43 : decode cX5_init 43 = .ok (.putfield 28, 3) := by decide +kernel
theorem dX5_init_46 : decode cX5_init 46 = .ok (.aload_n 0, 1) := by decide +kernel
theorem dX5_init_47 : decode cX5_init 47 = .ok (.bipush 8, 2) := by decide +kernel
theorem dX5_init_49 : decode cX5_init 49 = .ok (.newarray .int, 2) := by decide +kernel
theorem dX5_init_51 : decode cX5_init 51 = .ok (.putfield 31, 3) := by decide +kernel
theorem dX5_init_54 : decode cX5_init 54 = .ok (.aload_n 0, 1) := by decide +kernel
theorem dX5_init_55 : decode cX5_init 55 = .ok (.bipush 8, 2) := by decide +kernel
theorem dX5_init_57 : decode cX5_init 57 = .ok (.newarray .int, 2) := by decide +kernel
theorem dX5_init_59 : decode cX5_init 59 = .ok (.putfield 34, 3) := by decide +kernel
theorem dX5_init_62 : decode cX5_init 62 = .ok (.return_, 1) := by decide +kernel
theorem dX5_clear_0 : decode cX5_clear 0 = .ok (.aload_n 0, 1) := by decide +kernel
theorem dX5_clear_1 : decode cX5_clear 1 = .ok (.iload_n 1, 1) := by decide +kernel
theorem dX5_clear_2 : decode cX5_clear 2 = .ok (.putfield 9, 3) := by decide +kernel
theorem dX5_clear_5 : decode cX5_clear 5 = .ok (.aload_n 0, 1) := by decide +kernel
theorem dX5_clear_6 : decode cX5_clear 6 = .ok (.iconst 0, 1) := by decide +kernel
theorem dX5_clear_7 : decode cX5_clear 7 = .ok (.putfield 15, 3) := by decide +kernel
theorem dX5_clear_10 : decode cX5_clear 10 = .ok (.return_, 1) := by decide +kernel
theorem dX5_copyFrom_0 : decode cX5_copyFrom 0 = .ok (.aload_n 0, 1) := by decide +kernel
theorem dX5_copyFrom_1 : decode cX5_copyFrom 1 = .ok (.aload_n 1, 1) := by decide +kernel
theorem dX5_copyFrom_2 : decode cX5_copyFrom 2 = .ok (.getfield 9, 3) := by decide +kernel
theorem dX5_copyFrom_5 : decode cX5_copyFrom 5 = .ok (.putfield 9, 3) := by decide +kernel
theorem dX5_copyFrom_8 : decode cX5_copyFrom 8 = .ok (.aload_n 0, 1) := by decide +kernel
theorem dX5_copyFrom_9 : decode cX5_copyFrom 9 = .ok (.aload_n 1, 1) := by decide +kernel
theorem dX5_copyFrom_10 : decode cX5_copyFrom 10 = .ok (.getfield 15, 3) := by decide +kernel
theorem dX5_copyFrom_13 : decode cX5_copyFrom 13 = .ok (.putfield 15, 3) := by decide +kernel
theorem dX5_copyFrom_16 : decode cX5_copyFrom 16 = .ok (.iconst 0, 1) := by decide +kernel
theorem dX5_copyFrom_17 : decode cX5_copyFrom 17 = .ok (.istore_n 2, 1) := by decide +kernel
theorem dX5_copyFrom_18 : decode cX5_copyFrom 18 = .ok (.iload_n 2, 1) := by decide +kernel
theorem dX5_copyFrom_19 : decode cX5_copyFrom 19 = .ok (.bipush 8, 2) := by decide +kernel
theorem dX5_copyFrom_21 : decode cX5_copyFrom 21 = .ok (.if_icmp .ge 81, 3) := by decide +kernel
theorem dX5_copyFrom_24 : decode cX5_copyFrom 24 = .ok (.aload_n 0, 1) := by decide +kernel
theorem dX5_copyFrom_25 : decode cX5_copyFrom 25 = .ok (.getfield 18, 3) := by decide +kernel
theorem dX5_copyFrom_28 : decode cX5_copyFrom 28 = .ok (.iload_n 2, 1) := by decide +kernel
theorem dX5_copyFrom_29 : decode cX5_copyFrom 29 = .ok (.aload_n 1, 1) := by decide +kernel
theorem dX5_copyFrom_30 : decode cX5_copyFrom 30 = .ok (.getfield 18, 3) := by decide +kernel
theorem dX5_copyFrom_33 : decode cX5_copyFrom 33 = .ok (.iload_n 2, 1) := by decide +kernel
theorem dX5_copyFrom_34 : decode cX5_copyFrom 34 = .ok (.iaload, 1) := by decide +kernel
theorem dX5_copyFrom_35 : decode cX5_copyFrom 35 = .ok (.iastore, 1) := by decide +kernel
theorem dX5_copyFrom_36 : decode cX5_copyFrom 36 = .ok (.aload_n 0, 1) := by decide +kernel
theorem dX5_copyFrom_37 : decode cX5_copyFrom 37 = .ok (.getfield 22, 3) := by decide +kernel
theorem dX5_copyFrom_40 : decode cX5_copyFrom 40 = .ok (.iload_n 2, 1) := by decide +kernel
theorem dX5_copyFrom_41 : decode cX5_copyFrom 41 = .ok (.aload_n 1, 1) := by decide +kernel
theorem dX5_copyFrom_42 : decode cX5_copyFrom 42 = .ok (.getfield 22, 3) := by decide +kernel
theorem dX5_copyFrom_45 : decode cX5_copyFrom 45 = .ok (.iload_n 2, 1) := by decide +kernel
theorem dX5_copyFrom_46 : decode cX5_copyFrom 46 = .ok (.iaload, 1) := by decide +kernel
theorem dX5_copyFrom_47 : decode cX5_copyFrom 47 = .ok (.iastore, 1) := by decide +kernel
theorem dX5_copyFrom_48 : decode cX5_copyFrom 48 = .ok (.aload_n 0, 1) := by decide +kernel
theorem dX5_copyFrom_49 : decode cX5_copyFrom 49 = .ok (.getfield 25, 3) := by decide +kernel
theorem dX5_copyFrom_52 : decode cX5_copyFrom 52 = .ok (.iload_n 2, 1) := by decide +kernel
theorem dX5_copyFrom_53 : decode cX5_copyFrom 53 = .ok (.aload_n 1, 1) := by decide +kernel
theorem dX5_copyFrom_54 : decode cX5_copyFrom 54 = .ok (.getfield 25, 3) := by decide +kernel
theorem dX5_copyFrom_57 : decode cX5_copyFrom 57 = .ok (.iload_n 2, 1) := by decide +kernel
theorem dX5_copyFrom_58 : decode cX5_copyFrom 58 = .ok (.iaload, 1) := by decide +kernel
theorem dX5_copyFrom_59 : decode cX5_copyFrom 59 = .ok (.iastore, 1) := by decide +kernel
theorem dX5_copyFrom_60 : decode cX5_copyFrom 60 = .ok (.aload_n 0, 1) := by decide +kernel
theorem dX5_copyFrom_61 : decode cX5_copyFrom 61 = .ok (.getfield 28, 3) := by decide +kernel
theorem dX5_copyFrom_64 : decode cX5_copyFrom 64 = .ok (.iload_n 2, 1) := by decide +kernel
theorem dX5_copyFrom_65 : decode cX5_copyFrom 65 = .ok (.aload_n 1, 1) := by decide +kernel
theorem dX5_copyFrom_66 : decode cX5_copyFrom 66 = .ok (.getfield 28, 3) := by decide +kernel
theorem dX5_copyFrom_69 : decode cX5_copyFrom 69 = .ok (.iload_n 2, 1) := by decide +kernel
theorem dX5_copyFrom_70 : decode cX5_copyFrom 70 = .ok (.iaload, 1) := by decide +kernel
theorem dX5_copyFrom_71 : decode cX5_copyFrom 71 = .ok (.iastore, 1) := by decide +kernel
theorem dX5_copyFrom_72 : decode cX5_copyFrom 72 = .ok (.aload_n 0, 1) := by decide +kernel
theorem dX5_copyFrom_73 : decode cX5_copyFrom 73 = .ok (.getfield 31, 3) := by decide +kernel
theorem dX5_copyFrom_76 : decode cX5_copyFrom 76 = .ok (.iload_n 2, 1) := by decide +kernel
theorem dX5_copyFrom_77 : decode cX5_copyFrom 77 = .ok (.aload_n 1, 1) := by decide +kernel
theorem dX5_copyFrom_78 : decode cX5_copyFrom 78 = .ok (.getfield 31, 3) := by decide +kernel
theorem dX5_copyFrom_81 : decode cX5_copyFrom 81 = .ok (.iload_n 2, 1) := by decide +kernel
theorem dX5_copyFrom_82 : decode cX5_copyFrom 82 = .ok (.iaload, 1) := by decide +kernel
theorem dX5_copyFrom_83 : decode cX5_copyFrom 83 = .ok (.iastore, 1) := by decide +kernel
theorem dX5_copyFrom_84 : decode cX5_copyFrom 84 = .ok (.aload_n 0, 1) := by decide +kernel
theorem dX5_copyFrom_85 : decode cX5_copyFrom 85 = .ok (.getfield 34, 3) := by decide +kernel
theorem dX5_copyFrom_88 : decode cX5_copyFrom 88 = .ok (.iload_n 2, 1) := by decide +kernel
theorem dX5_copyFrom_89 : decode cX5_copyFrom 89 = .ok (.aload_n 1, 1) := by decide +kernel
theorem dX5_copyFrom_90 : decode cX5_copyFrom 90 = .ok (.getfield 34, 3) := by decide +kernel
theorem dX5_copyFrom_93 : decode cX5_copyFrom 93 = .ok (.iload_n 2, 1) := by decide +kernel
theorem dX5_copyFrom_94 : decode cX5_copyFrom 94 = .ok (.iaload, 1) := by decide +kernel
theorem dX5_copyFrom_95 : decode cX5_copyFrom 95 = .ok (.iastore, 1) := by decide +kernel
theorem dX5_copyFrom_96 : decode cX5_copyFrom 96 = .ok (.iinc 2 1, 3) := by decide +kernel
theorem dX5_copyFrom_99 : decode cX5_copyFrom 99 = .ok (.goto (-81), 3) := by decide +kernel
theorem dX5_copyFrom_102 : decode cX5_copyFrom 102 = .ok (.return_, 1) := by decide +kernel
theorem dX5_has_0 : decode cX5_has 0 = .ok (.iload_n 1, 1) := by decide +kernel
theorem dX5_has_1 : decode cX5_has 1 = .ok (.ifCond .lt 15, 3) := by decide +kernel
theorem dX5_has_4 : decode cX5_has 4 = .ok (.iload_n 1, 1) := by decide +kernel
theorem dX5_has_5 : decode cX5_has 5 = .ok (.aload_n 0, 1) := by decide +kernel
theorem dX5_has_6 : decode cX5_has 6 = .ok (.getfield 15, 3) := by decide +kernel
theorem dX5_has_9 : decode cX5_has 9 = .ok (.if_icmp .ge 7, 3) := by decide +kernel
theorem dX5_has_12 : decode cX5_has 12 = .ok (.iconst 1, 1) := by decide +kernel
theorem dX5_has_13 : decode cX5_has 13 = .ok (.goto 4, 3) := by decide +kernel
theorem dX5_has_16 : decode cX5_has 16 = .ok (.iconst 0, 1) := by decide +kernel
theorem dX5_has_17 : decode cX5_has 17 = .ok (.ireturn, 1) := by decide +kernel
theorem dX5_areDates_0 : decode cX5_areDates 0 = .ok (.iload_n 1, 1) := by decide +kernel
theorem dX5_areDates_1 : decode cX5_areDates 1 = .ok (.ifCond .lt 26, 3) := by decide +kernel
theorem dX5_areDates_4 : decode cX5_areDates 4 = .ok (.iload_n 1, 1) := by decide +kernel
theorem dX5_areDates_5 : decode cX5_areDates 5 = .ok (.sipush 200, 3) := by decide +kernel
theorem dX5_areDates_8 : decode cX5_areDates 8 = .ok (.if_icmp .gt 19, 3) := by decide +kernel
theorem dX5_areDates_11 : decode cX5_areDates 11 = .ok (.iload_n 2, 1) := by decide +kernel
theorem dX5_areDates_12 : decode cX5_areDates 12 = .ok (.iconst 1, 1) := by decide +kernel
theorem dX5_areDates_13 : decode cX5_areDates 13 = .ok (.if_icmp .lt 14, 3) := by decide +kernel
theorem dX5_areDates_16 : decode cX5_areDates 16 = .ok (.iload_n 2, 1) := by decide +kernel
theorem dX5_areDates_17 : decode cX5_areDates 17 = .ok (.sipush 400, 3) := by decide +kernel
theorem dX5_areDates_20 : decode cX5_areDates 20 = .ok (.if_icmp .gt 7, 3) := by decide +kernel
theorem dX5_areDates_23 : decode cX5_areDates 23 = .ok (.iconst 1, 1) := by decide +kernel
theorem dX5_areDates_24 : decode cX5_areDates 24 = .ok (.goto 4, 3) := by decide +kernel
theorem dX5_areDates_27 : decode cX5_areDates 27 = .ok (.iconst 0, 1) := by decide +kernel
theorem dX5_areDates_28 : decode cX5_areDates 28 = .ok (.ireturn, 1) := by decide +kernel
set_option maxRecDepth 20000 in
theorem ggX5_faultOfAdding_X5_areDates : GoodIn wsX5_faultOfAdding wsX5_areDates := goodIn_r _ [7] (by decide +kernel) (by decide +kernel)
set_option maxRecDepth 20000 in
theorem gX5_faultOfAdding_X5_areDates : GoodIn wsX5_faultOfAdding (wsV RX5 37 RX5 yX5_areDates wsX5_areDates) := goodIn_app (goodIn_of _ (by decide +kernel)) ggX5_faultOfAdding_X5_areDates
theorem dX5_faultOfAdding_0 : decode cX5_faultOfAdding 0 = .ok (.iload_n 1, 1) := by decide +kernel
theorem dX5_faultOfAdding_1 : decode cX5_faultOfAdding 1 = .ok (.ifCond .lt 11, 3) := by decide +kernel
theorem dX5_faultOfAdding_4 : decode cX5_faultOfAdding 4 = .ok (.iload_n 1, 1) := by decide +kernel
theorem dX5_faultOfAdding_5 : decode cX5_faultOfAdding 5 = .ok (.aload_n 0, 1) := by decide +kernel
theorem dX5_faultOfAdding_6 : decode cX5_faultOfAdding 6 = .ok (.getfield 9, 3) := by decide +kernel
theorem dX5_faultOfAdding_9 : decode cX5_faultOfAdding 9 = .ok (.if_icmp .lt 5, 3) := by decide +kernel
theorem dX5_faultOfAdding_12 : decode cX5_faultOfAdding 12 = .ok (.iconst 1, 1) := by decide +kernel
theorem dX5_faultOfAdding_13 : decode cX5_faultOfAdding 13 = .ok (.ireturn, 1) := by decide +kernel
theorem dX5_faultOfAdding_14 : decode cX5_faultOfAdding 14 = .ok (.aload_n 0, 1) := by decide +kernel
theorem dX5_faultOfAdding_15 : decode cX5_faultOfAdding 15 = .ok (.iload_n 2, 1) := by decide +kernel
theorem dX5_faultOfAdding_16 : decode cX5_faultOfAdding 16 = .ok (.iload_n 3, 1) := by decide +kernel
theorem dX5_faultOfAdding_17 : decode cX5_faultOfAdding 17 = .ok (.invokevirtual 37, 3) := by decide +kernel
theorem dX5_faultOfAdding_20 : decode cX5_faultOfAdding 20 = .ok (.ifCond .eq 16, 3) := by decide +kernel
theorem dX5_faultOfAdding_23 : decode cX5_faultOfAdding 23 = .ok (.iload 4, 2) := by decide +kernel
theorem dX5_faultOfAdding_25 : decode cX5_faultOfAdding 25 = .ok (.iconst 1, 1) := by decide +kernel
theorem dX5_faultOfAdding_26 : decode cX5_faultOfAdding 26 = .ok (.if_icmp .lt 10, 3) := by decide +kernel
theorem dX5_faultOfAdding_29 : decode cX5_faultOfAdding 29 = .ok (.iload 4, 2) := by decide +kernel
theorem dX5_faultOfAdding_31 : decode cX5_faultOfAdding 31 = .ok (.bipush 50, 2) := by decide +kernel
theorem dX5_faultOfAdding_33 : decode cX5_faultOfAdding 33 = .ok (.if_icmp .le 5, 3) := by decide +kernel
theorem dX5_faultOfAdding_36 : decode cX5_faultOfAdding 36 = .ok (.iconst 2, 1) := by decide +kernel
theorem dX5_faultOfAdding_37 : decode cX5_faultOfAdding 37 = .ok (.ireturn, 1) := by decide +kernel
theorem dX5_faultOfAdding_38 : decode cX5_faultOfAdding 38 = .ok (.aload_n 0, 1) := by decide +kernel
theorem dX5_faultOfAdding_39 : decode cX5_faultOfAdding 39 = .ok (.getfield 15, 3) := by decide +kernel
theorem dX5_faultOfAdding_42 : decode cX5_faultOfAdding 42 = .ok (.bipush 8, 2) := by decide +kernel
theorem dX5_faultOfAdding_44 : decode cX5_faultOfAdding 44 = .ok (.if_icmp .lt 7, 3) := by decide +kernel
theorem dX5_faultOfAdding_47 : decode cX5_faultOfAdding 47 = .ok (.iconst 3, 1) := by decide +kernel
theorem dX5_faultOfAdding_48 : decode cX5_faultOfAdding 48 = .ok (.goto 4, 3) := by decide +kernel
theorem dX5_faultOfAdding_51 : decode cX5_faultOfAdding 51 = .ok (.iconst 0, 1) := by decide +kernel
theorem dX5_faultOfAdding_52 : decode cX5_faultOfAdding 52 = .ok (.ireturn, 1) := by decide +kernel
theorem dX5_add_0 : decode cX5_add 0 = .ok (.aload_n 0, 1) := by decide +kernel
theorem dX5_add_1 : decode cX5_add 1 = .ok (.getfield 15, 3) := by decide +kernel
theorem dX5_add_4 : decode cX5_add 4 = .ok (.bipush 8, 2) := by decide +kernel
theorem dX5_add_6 : decode cX5_add 6 = .ok (.if_icmp .lt 4, 3) := by decide +kernel
theorem dX5_add_9 : decode cX5_add 9 = .ok (.return_, 1) := by decide +kernel
theorem dX5_add_10 : decode cX5_add 10 = .ok (.aload_n 0, 1) := by decide +kernel
theorem dX5_add_11 : decode cX5_add 11 = .ok (.getfield 18, 3) := by decide +kernel
theorem dX5_add_14 : decode cX5_add 14 = .ok (.aload_n 0, 1) := by decide +kernel
theorem dX5_add_15 : decode cX5_add 15 = .ok (.getfield 15, 3) := by decide +kernel
theorem dX5_add_18 : decode cX5_add 18 = .ok (.iload_n 1, 1) := by decide +kernel
theorem dX5_add_19 : decode cX5_add 19 = .ok (.iastore, 1) := by decide +kernel
theorem dX5_add_20 : decode cX5_add 20 = .ok (.aload_n 0, 1) := by decide +kernel
theorem dX5_add_21 : decode cX5_add 21 = .ok (.getfield 22, 3) := by decide +kernel
theorem dX5_add_24 : decode cX5_add 24 = .ok (.aload_n 0, 1) := by decide +kernel
theorem dX5_add_25 : decode cX5_add 25 = .ok (.getfield 15, 3) := by decide +kernel
theorem dX5_add_28 : decode cX5_add 28 = .ok (.iload_n 2, 1) := by decide +kernel
theorem dX5_add_29 : decode cX5_add 29 = .ok (.iastore, 1) := by decide +kernel
theorem dX5_add_30 : decode cX5_add 30 = .ok (.aload_n 0, 1) := by decide +kernel
theorem dX5_add_31 : decode cX5_add 31 = .ok (.getfield 25, 3) := by decide +kernel
theorem dX5_add_34 : decode cX5_add 34 = .ok (.aload_n 0, 1) := by decide +kernel
theorem dX5_add_35 : decode cX5_add 35 = .ok (.getfield 15, 3) := by decide +kernel
theorem dX5_add_38 : decode cX5_add 38 = .ok (.iload_n 3, 1) := by decide +kernel
theorem dX5_add_39 : decode cX5_add 39 = .ok (.iastore, 1) := by decide +kernel
theorem dX5_add_40 : decode cX5_add 40 = .ok (.aload_n 0, 1) := by decide +kernel
theorem dX5_add_41 : decode cX5_add 41 = .ok (.getfield 28, 3) := by decide +kernel
theorem dX5_add_44 : decode cX5_add 44 = .ok (.aload_n 0, 1) := by decide +kernel
theorem dX5_add_45 : decode cX5_add 45 = .ok (.getfield 15, 3) := by decide +kernel
theorem dX5_add_48 : decode cX5_add 48 = .ok (.iload 4, 2) := by decide +kernel
theorem dX5_add_50 : decode cX5_add 50 = .ok (.iastore, 1) := by decide +kernel
theorem dX5_add_51 : decode cX5_add 51 = .ok (.aload_n 0, 1) := by decide +kernel
theorem dX5_add_52 : decode cX5_add 52 = .ok (.getfield 31, 3) := by decide +kernel
theorem dX5_add_55 : decode cX5_add 55 = .ok (.aload_n 0, 1) := by decide +kernel
theorem dX5_add_56 : decode cX5_add 56 = .ok (.getfield 15, 3) := by decide +kernel
theorem dX5_add_59 : decode cX5_add 59 = .ok (.iconst 0, 1) := by decide +kernel
theorem dX5_add_60 : decode cX5_add 60 = .ok (.iastore, 1) := by decide +kernel
theorem dX5_add_61 : decode cX5_add 61 = .ok (.aload_n 0, 1) := by decide +kernel
theorem dX5_add_62 : decode cX5_add 62 = .ok (.getfield 34, 3) := by decide +kernel
theorem dX5_add_65 : decode cX5_add 65 = .ok (.aload_n 0, 1) := by decide +kernel
theorem dX5_add_66 : decode cX5_add 66 = .ok (.getfield 15, 3) := by decide +kernel
theorem dX5_add_69 : decode cX5_add 69 = .ok (.iconst 0, 1) := by decide +kernel
theorem dX5_add_70 : decode cX5_add 70 = .ok (.iastore, 1) := by decide +kernel
theorem dX5_add_71 : decode cX5_add 71 = .ok (.aload_n 0, 1) := by decide +kernel
theorem dX5_add_72 : decode cX5_add 72 = .ok (.dup, 1) := by decide +kernel
theorem dX5_add_73 : decode cX5_add 73 = .ok (.getfield 15, 3) := by decide +kernel
theorem dX5_add_76 : decode cX5_add 76 = .ok (.iconst 1, 1) := by decide +kernel
theorem dX5_add_77 : decode cX5_add 77 = .ok (.iadd, 1) := by decide +kernel
theorem dX5_add_78 : decode cX5_add 78 = .ok (.putfield 15, 3) := by decide +kernel
theorem dX5_add_81 : decode cX5_add 81 = .ok (.return_, 1) := by decide +kernel
set_option maxRecDepth 20000 in
theorem ggX5_faultOfGiving_X5_has : GoodIn wsX5_faultOfGiving wsX5_has := goodIn_r _ [5, 6, 19, 20, 21, 22, 23, 24, 25, 26] (by decide +kernel) (by decide +kernel)
set_option maxRecDepth 20000 in
theorem gX5_faultOfGiving_X5_has : GoodIn wsX5_faultOfGiving (wsV RX5 41 RX5 yX5_has wsX5_has) := goodIn_app (goodIn_of _ (by decide +kernel)) ggX5_faultOfGiving_X5_has
set_option maxRecDepth 20000 in
theorem ggX5_faultOfGiving_X5_isGiven : GoodIn wsX5_faultOfGiving wsX5_isGiven := goodIn_r _ [10, 11, 12, 13, 14, 19, 20, 21, 22, 23, 24, 25, 26] (by decide +kernel) (by decide +kernel)
set_option maxRecDepth 20000 in
theorem gX5_faultOfGiving_X5_isGiven : GoodIn wsX5_faultOfGiving (wsV RX5 45 RX5 yX5_isGiven wsX5_isGiven) := goodIn_app (goodIn_of _ (by decide +kernel)) ggX5_faultOfGiving_X5_isGiven
set_option maxRecDepth 20000 in
theorem ggX5_faultOfGiving_X5_leads : GoodIn wsX5_faultOfGiving wsX5_leads := goodIn_r _ [18, 11, 6, 12, 13, 14, 19, 20, 21, 22, 23, 24, 25, 26] (by decide +kernel) (by decide +kernel)
set_option maxRecDepth 20000 in
theorem gX5_faultOfGiving_X5_leads : GoodIn wsX5_faultOfGiving (wsV RX5 48 RX5 yX5_leads wsX5_leads) := goodIn_app (goodIn_of _ (by decide +kernel)) ggX5_faultOfGiving_X5_leads
theorem dX5_faultOfGiving_0 : decode cX5_faultOfGiving 0 = .ok (.aload_n 0, 1) := by decide +kernel
theorem dX5_faultOfGiving_1 : decode cX5_faultOfGiving 1 = .ok (.iload_n 1, 1) := by decide +kernel
theorem dX5_faultOfGiving_2 : decode cX5_faultOfGiving 2 = .ok (.invokevirtual 41, 3) := by decide +kernel
theorem dX5_faultOfGiving_5 : decode cX5_faultOfGiving 5 = .ok (.ifCond .eq 11, 3) := by decide +kernel
theorem dX5_faultOfGiving_8 : decode cX5_faultOfGiving 8 = .ok (.aload_n 0, 1) := by decide +kernel
theorem dX5_faultOfGiving_9 : decode cX5_faultOfGiving 9 = .ok (.iload_n 2, 1) := by decide +kernel
theorem dX5_faultOfGiving_10 : decode cX5_faultOfGiving 10 = .ok (.invokevirtual 41, 3) := by decide +kernel
theorem dX5_faultOfGiving_13 : decode cX5_faultOfGiving 13 = .ok (.ifCond .ne 5, 3) := by decide +kernel
theorem dX5_faultOfGiving_16 : decode cX5_faultOfGiving 16 = .ok (.iconst 1, 1) := by decide +kernel
theorem dX5_faultOfGiving_17 : decode cX5_faultOfGiving 17 = .ok (.ireturn, 1) := by decide +kernel
theorem dX5_faultOfGiving_18 : decode cX5_faultOfGiving 18 = .ok (.iload_n 1, 1) := by decide +kernel
theorem dX5_faultOfGiving_19 : decode cX5_faultOfGiving 19 = .ok (.iload_n 2, 1) := by decide +kernel
theorem dX5_faultOfGiving_20 : decode cX5_faultOfGiving 20 = .ok (.if_icmp .ne 5, 3) := by decide +kernel
theorem dX5_faultOfGiving_23 : decode cX5_faultOfGiving 23 = .ok (.iconst 2, 1) := by decide +kernel
theorem dX5_faultOfGiving_24 : decode cX5_faultOfGiving 24 = .ok (.ireturn, 1) := by decide +kernel
theorem dX5_faultOfGiving_25 : decode cX5_faultOfGiving 25 = .ok (.aload_n 0, 1) := by decide +kernel
theorem dX5_faultOfGiving_26 : decode cX5_faultOfGiving 26 = .ok (.iload_n 1, 1) := by decide +kernel
theorem dX5_faultOfGiving_27 : decode cX5_faultOfGiving 27 = .ok (.iload_n 2, 1) := by decide +kernel
theorem dX5_faultOfGiving_28 : decode cX5_faultOfGiving 28 = .ok (.invokevirtual 45, 3) := by decide +kernel
theorem dX5_faultOfGiving_31 : decode cX5_faultOfGiving 31 = .ok (.iload_n 3, 1) := by decide +kernel
theorem dX5_faultOfGiving_32 : decode cX5_faultOfGiving 32 = .ok (.if_icmp .eq 16, 3) := by decide +kernel
theorem dX5_faultOfGiving_35 : decode cX5_faultOfGiving 35 = .ok (.iload_n 3, 1) := by decide +kernel
theorem dX5_faultOfGiving_36 : decode cX5_faultOfGiving 36 = .ok (.ifCond .eq 14, 3) := by decide +kernel
theorem dX5_faultOfGiving_39 : decode cX5_faultOfGiving 39 = .ok (.aload_n 0, 1) := by decide +kernel
theorem dX5_faultOfGiving_40 : decode cX5_faultOfGiving 40 = .ok (.iload_n 2, 1) := by decide +kernel
theorem dX5_faultOfGiving_41 : decode cX5_faultOfGiving 41 = .ok (.iload_n 1, 1) := by decide +kernel
theorem dX5_faultOfGiving_42 : decode cX5_faultOfGiving 42 = .ok (.invokevirtual 48, 3) := by decide +kernel
theorem dX5_faultOfGiving_45 : decode cX5_faultOfGiving 45 = .ok (.ifCond .eq 5, 3) := by decide +kernel
theorem dX5_faultOfGiving_48 : decode cX5_faultOfGiving 48 = .ok (.iconst 3, 1) := by decide +kernel
theorem dX5_faultOfGiving_49 : decode cX5_faultOfGiving 49 = .ok (.ireturn, 1) := by decide +kernel
theorem dX5_faultOfGiving_50 : decode cX5_faultOfGiving 50 = .ok (.iconst 0, 1) := by decide +kernel
theorem dX5_faultOfGiving_51 : decode cX5_faultOfGiving 51 = .ok (.ireturn, 1) := by decide +kernel
set_option maxRecDepth 20000 in
theorem ggX5_isGiven_X7_contains : GoodIn wsX5_isGiven wsX7_contains := goodIn_r _ [4] (by decide +kernel) (by decide +kernel)
set_option maxRecDepth 20000 in
theorem gX5_isGiven_X7_contains_n51 : GoodIn wsX5_isGiven (wsX7_contains) := ggX5_isGiven_X7_contains
theorem dX5_isGiven_0 : decode cX5_isGiven 0 = .ok (.aload_n 0, 1) := by decide +kernel
theorem dX5_isGiven_1 : decode cX5_isGiven 1 = .ok (.getfield 34, 3) := by decide +kernel
theorem dX5_isGiven_4 : decode cX5_isGiven 4 = .ok (.iload_n 1, 1) := by decide +kernel
theorem dX5_isGiven_5 : decode cX5_isGiven 5 = .ok (.iaload, 1) := by decide +kernel
theorem dX5_isGiven_6 : decode cX5_isGiven 6 = .ok (.iload_n 2, 1) := by decide +kernel
theorem dX5_isGiven_7 : decode cX5_isGiven 7 = .ok (.invokestatic 51, 3) := by decide +kernel
theorem dX5_isGiven_10 : decode cX5_isGiven 10 = .ok (.ireturn, 1) := by decide +kernel
theorem dX5_setGiven_0 : decode cX5_setGiven 0 = .ok (.iload_n 3, 1) := by decide +kernel
theorem dX5_setGiven_1 : decode cX5_setGiven 1 = .ok (.ifCond .eq 30, 3) := by decide +kernel
theorem dX5_setGiven_4 : decode cX5_setGiven 4 = .ok (.aload_n 0, 1) := by decide +kernel
theorem dX5_setGiven_5 : decode cX5_setGiven 5 = .ok (.getfield 34, 3) := by decide +kernel
theorem dX5_setGiven_8 : decode cX5_setGiven 8 = .ok (.iload_n 1, 1) := by decide +kernel
theorem dX5_setGiven_9 : decode cX5_setGiven 9 = .ok (.dup2, 1) := by decide +kernel
theorem dX5_setGiven_10 : decode cX5_setGiven 10 = .ok (.iaload, 1) := by decide +kernel
theorem dX5_setGiven_11 : decode cX5_setGiven 11 = .ok (.iconst 1, 1) := by decide +kernel
theorem dX5_setGiven_12 : decode cX5_setGiven 12 = .ok (.iload_n 2, 1) := by decide +kernel
theorem dX5_setGiven_13 : decode cX5_setGiven 13 = .ok (.ishl, 1) := by decide +kernel
theorem dX5_setGiven_14 : decode cX5_setGiven 14 = .ok (.ior, 1) := by decide +kernel
theorem dX5_setGiven_15 : decode cX5_setGiven 15 = .ok (.iastore, 1) := by decide +kernel
theorem dX5_setGiven_16 : decode cX5_setGiven 16 = .ok (.aload_n 0, 1) := by decide +kernel
theorem dX5_setGiven_17 : decode cX5_setGiven 17 = .ok (.getfield 31, 3) := by decide +kernel
theorem dX5_setGiven_20 : decode cX5_setGiven 20 = .ok (.iload_n 2, 1) := by decide +kernel
theorem dX5_setGiven_21 : decode cX5_setGiven 21 = .ok (.dup2, 1) := by decide +kernel
theorem dX5_setGiven_22 : decode cX5_setGiven 22 = .ok (.iaload, 1) := by decide +kernel
theorem dX5_setGiven_23 : decode cX5_setGiven 23 = .ok (.iconst 1, 1) := by decide +kernel
theorem dX5_setGiven_24 : decode cX5_setGiven 24 = .ok (.iload_n 1, 1) := by decide +kernel
theorem dX5_setGiven_25 : decode cX5_setGiven 25 = .ok (.ishl, 1) := by decide +kernel
theorem dX5_setGiven_26 : decode cX5_setGiven 26 = .ok (.ior, 1) := by decide +kernel
theorem dX5_setGiven_27 : decode cX5_setGiven 27 = .ok (.iastore, 1) := by decide +kernel
theorem dX5_setGiven_28 : decode cX5_setGiven 28 = .ok (.goto 31, 3) := by decide +kernel
theorem dX5_setGiven_31 : decode cX5_setGiven 31 = .ok (.aload_n 0, 1) := by decide +kernel
theorem dX5_setGiven_32 : decode cX5_setGiven 32 = .ok (.getfield 34, 3) := by decide +kernel
theorem dX5_setGiven_35 : decode cX5_setGiven 35 = .ok (.iload_n 1, 1) := by decide +kernel
theorem dX5_setGiven_36 : decode cX5_setGiven 36 = .ok (.dup2, 1) := by decide +kernel
theorem dX5_setGiven_37 : decode cX5_setGiven 37 = .ok (.iaload, 1) := by decide +kernel
theorem dX5_setGiven_38 : decode cX5_setGiven 38 = .ok (.iconst 1, 1) := by decide +kernel
theorem dX5_setGiven_39 : decode cX5_setGiven 39 = .ok (.iload_n 2, 1) := by decide +kernel
theorem dX5_setGiven_40 : decode cX5_setGiven 40 = .ok (.ishl, 1) := by decide +kernel
theorem dX5_setGiven_41 : decode cX5_setGiven 41 = .ok (.iconst (-1), 1) := by decide +kernel
theorem dX5_setGiven_42 : decode cX5_setGiven 42 = .ok (.ixor, 1) := by decide +kernel
theorem dX5_setGiven_43 : decode cX5_setGiven 43 = .ok (.iand, 1) := by decide +kernel
theorem dX5_setGiven_44 : decode cX5_setGiven 44 = .ok (.iastore, 1) := by decide +kernel
theorem dX5_setGiven_45 : decode cX5_setGiven 45 = .ok (.aload_n 0, 1) := by decide +kernel
theorem dX5_setGiven_46 : decode cX5_setGiven 46 = .ok (.getfield 31, 3) := by decide +kernel
theorem dX5_setGiven_49 : decode cX5_setGiven 49 = .ok (.iload_n 2, 1) := by decide +kernel
theorem dX5_setGiven_50 : decode cX5_setGiven 50 = .ok (.dup2, 1) := by decide +kernel
theorem dX5_setGiven_51 : decode cX5_setGiven 51 = .ok (.iaload, 1) := by decide +kernel
theorem dX5_setGiven_52 : decode cX5_setGiven 52 = .ok (.iconst 1, 1) := by decide +kernel
theorem dX5_setGiven_53 : decode cX5_setGiven 53 = .ok (.iload_n 1, 1) := by decide +kernel
theorem dX5_setGiven_54 : decode cX5_setGiven 54 = .ok (.ishl, 1) := by decide +kernel
theorem dX5_setGiven_55 : decode cX5_setGiven 55 = .ok (.iconst (-1), 1) := by decide +kernel
theorem dX5_setGiven_56 : decode cX5_setGiven 56 = .ok (.ixor, 1) := by decide +kernel
theorem dX5_setGiven_57 : decode cX5_setGiven 57 = .ok (.iand, 1) := by decide +kernel
theorem dX5_setGiven_58 : decode cX5_setGiven 58 = .ok (.iastore, 1) := by decide +kernel
theorem dX5_setGiven_59 : decode cX5_setGiven 59 = .ok (.return_, 1) := by decide +kernel
set_option maxRecDepth 20000 in
theorem ggX5_leads_X7_contains : GoodIn wsX5_leads wsX7_contains := goodIn_r _ [5] (by decide +kernel) (by decide +kernel)
set_option maxRecDepth 20000 in
theorem gX5_leads_X7_contains_n51 : GoodIn wsX5_leads (wsX7_contains) := ggX5_leads_X7_contains
theorem dX5_leads_0 : decode cX5_leads 0 = .ok (.aload_n 0, 1) := by decide +kernel
theorem dX5_leads_1 : decode cX5_leads 1 = .ok (.getfield 34, 3) := by decide +kernel
theorem dX5_leads_4 : decode cX5_leads 4 = .ok (.iload_n 1, 1) := by decide +kernel
theorem dX5_leads_5 : decode cX5_leads 5 = .ok (.iaload, 1) := by decide +kernel
theorem dX5_leads_6 : decode cX5_leads 6 = .ok (.istore_n 3, 1) := by decide +kernel
theorem dX5_leads_7 : decode cX5_leads 7 = .ok (.iconst 0, 1) := by decide +kernel
theorem dX5_leads_8 : decode cX5_leads 8 = .ok (.istore 4, 2) := by decide +kernel
theorem dX5_leads_10 : decode cX5_leads 10 = .ok (.iload 4, 2) := by decide +kernel
theorem dX5_leads_12 : decode cX5_leads 12 = .ok (.aload_n 0, 1) := by decide +kernel
theorem dX5_leads_13 : decode cX5_leads 13 = .ok (.getfield 15, 3) := by decide +kernel
theorem dX5_leads_16 : decode cX5_leads 16 = .ok (.if_icmp .ge 54, 3) := by decide +kernel
theorem dX5_leads_19 : decode cX5_leads 19 = .ok (.iload_n 3, 1) := by decide +kernel
theorem dX5_leads_20 : decode cX5_leads 20 = .ok (.istore 5, 2) := by decide +kernel
theorem dX5_leads_22 : decode cX5_leads 22 = .ok (.iconst 0, 1) := by decide +kernel
theorem dX5_leads_23 : decode cX5_leads 23 = .ok (.istore 6, 2) := by decide +kernel
theorem dX5_leads_25 : decode cX5_leads 25 = .ok (.iload 6, 2) := by decide +kernel
theorem dX5_leads_27 : decode cX5_leads 27 = .ok (.aload_n 0, 1) := by decide +kernel
theorem dX5_leads_28 : decode cX5_leads 28 = .ok (.getfield 15, 3) := by decide +kernel
theorem dX5_leads_31 : decode cX5_leads 31 = .ok (.if_icmp .ge 30, 3) := by decide +kernel
theorem dX5_leads_34 : decode cX5_leads 34 = .ok (.iload_n 3, 1) := by decide +kernel
theorem dX5_leads_35 : decode cX5_leads 35 = .ok (.iload 6, 2) := by decide +kernel
theorem dX5_leads_37 : decode cX5_leads 37 = .ok (.invokestatic 51, 3) := by decide +kernel
theorem dX5_leads_40 : decode cX5_leads 40 = .ok (.ifCond .eq 15, 3) := by decide +kernel
theorem dX5_leads_43 : decode cX5_leads 43 = .ok (.iload 5, 2) := by decide +kernel
theorem dX5_leads_45 : decode cX5_leads 45 = .ok (.aload_n 0, 1) := by decide +kernel
theorem dX5_leads_46 : decode cX5_leads 46 = .ok (.getfield 34, 3) := by decide +kernel
theorem dX5_leads_49 : decode cX5_leads 49 = .ok (.iload 6, 2) := by decide +kernel
theorem dX5_leads_51 : decode cX5_leads 51 = .ok (.iaload, 1) := by decide +kernel
theorem dX5_leads_52 : decode cX5_leads 52 = .ok (.ior, 1) := by decide +kernel
theorem dX5_leads_53 : decode cX5_leads 53 = .ok (.istore 5, 2) := by decide +kernel
theorem dX5_leads_55 : decode cX5_leads 55 = .ok (.iinc 6 1, 3) := by decide +kernel
theorem dX5_leads_58 : decode cX5_leads 58 = .ok (.goto (-33), 3) := by decide +kernel
theorem dX5_leads_61 : decode cX5_leads 61 = .ok (.iload 5, 2) := by decide +kernel
theorem dX5_leads_63 : decode cX5_leads 63 = .ok (.istore_n 3, 1) := by decide +kernel
theorem dX5_leads_64 : decode cX5_leads 64 = .ok (.iinc 4 1, 3) := by decide +kernel
theorem dX5_leads_67 : decode cX5_leads 67 = .ok (.goto (-57), 3) := by decide +kernel
theorem dX5_leads_70 : decode cX5_leads 70 = .ok (.iload_n 3, 1) := by decide +kernel
theorem dX5_leads_71 : decode cX5_leads 71 = .ok (.iload_n 2, 1) := by decide +kernel
theorem dX5_leads_72 : decode cX5_leads 72 = .ok (.invokestatic 51, 3) := by decide +kernel
theorem dX5_leads_75 : decode cX5_leads 75 = .ok (.ireturn, 1) := by decide +kernel
set_option maxRecDepth 20000 in
theorem ggX5_countGiven_J6_bitCount_0f7a4 : GoodIn wsX5_countGiven wsJ6_bitCount_0f7a4 := goodIn_r _ [6, 7, 8, 9] (by decide +kernel) (by decide +kernel)
set_option maxRecDepth 20000 in
theorem gX5_countGiven_J6_bitCount_0f7a4 : GoodIn wsX5_countGiven (va_wsS RX5 54 yJ6_bitCount_0f7a4 wsJ6_bitCount_0f7a4) := goodIn_app (goodIn_of _ (by decide +kernel)) ggX5_countGiven_J6_bitCount_0f7a4
theorem dX5_countGiven_0 : decode cX5_countGiven 0 = .ok (.iconst 0, 1) := by decide +kernel
theorem dX5_countGiven_1 : decode cX5_countGiven 1 = .ok (.istore_n 1, 1) := by decide +kernel
theorem dX5_countGiven_2 : decode cX5_countGiven 2 = .ok (.iconst 0, 1) := by decide +kernel
theorem dX5_countGiven_3 : decode cX5_countGiven 3 = .ok (.istore_n 2, 1) := by decide +kernel
theorem dX5_countGiven_4 : decode cX5_countGiven 4 = .ok (.iload_n 2, 1) := by decide +kernel
theorem dX5_countGiven_5 : decode cX5_countGiven 5 = .ok (.aload_n 0, 1) := by decide +kernel
theorem dX5_countGiven_6 : decode cX5_countGiven 6 = .ok (.getfield 15, 3) := by decide +kernel
theorem dX5_countGiven_9 : decode cX5_countGiven 9 = .ok (.if_icmp .ge 21, 3) := by decide +kernel
theorem dX5_countGiven_12 : decode cX5_countGiven 12 = .ok (.iload_n 1, 1) := by decide +kernel
theorem dX5_countGiven_13 : decode cX5_countGiven 13 = .ok (.aload_n 0, 1) := by decide +kernel
theorem dX5_countGiven_14 : decode cX5_countGiven 14 = .ok (.getfield 34, 3) := by decide +kernel
theorem dX5_countGiven_17 : decode cX5_countGiven 17 = .ok (.iload_n 2, 1) := by decide +kernel
theorem dX5_countGiven_18 : decode cX5_countGiven 18 = .ok (.iaload, 1) := by decide +kernel
theorem dX5_countGiven_19 : decode cX5_countGiven 19 = .ok (.invokestatic 54, 3) := by decide +kernel
theorem dX5_countGiven_22 : decode cX5_countGiven 22 = .ok (.iadd, 1) := by decide +kernel
theorem dX5_countGiven_23 : decode cX5_countGiven 23 = .ok (.istore_n 1, 1) := by decide +kernel
theorem dX5_countGiven_24 : decode cX5_countGiven 24 = .ok (.iinc 2 1, 3) := by decide +kernel
theorem dX5_countGiven_27 : decode cX5_countGiven 27 = .ok (.goto (-23), 3) := by decide +kernel
theorem dX5_countGiven_30 : decode cX5_countGiven 30 = .ok (.iload_n 1, 1) := by decide +kernel
theorem dX5_countGiven_31 : decode cX5_countGiven 31 = .ok (.ireturn, 1) := by decide +kernel
theorem dX5_countPairs_0 : decode cX5_countPairs 0 = .ok (.iconst 0, 1) := by decide +kernel
theorem dX5_countPairs_1 : decode cX5_countPairs 1 = .ok (.istore_n 1, 1) := by decide +kernel
theorem dX5_countPairs_2 : decode cX5_countPairs 2 = .ok (.iconst 0, 1) := by decide +kernel
theorem dX5_countPairs_3 : decode cX5_countPairs 3 = .ok (.istore_n 2, 1) := by decide +kernel
theorem dX5_countPairs_4 : decode cX5_countPairs 4 = .ok (.iload_n 2, 1) := by decide +kernel
theorem dX5_countPairs_5 : decode cX5_countPairs 5 = .ok (.aload_n 0, 1) := by decide +kernel
theorem dX5_countPairs_6 : decode cX5_countPairs 6 = .ok (.getfield 15, 3) := by decide +kernel
theorem dX5_countPairs_9 : decode cX5_countPairs 9 = .ok (.if_icmp .ge 45, 3) := by decide +kernel
theorem dX5_countPairs_12 : decode cX5_countPairs 12 = .ok (.iload_n 2, 1) := by decide +kernel
theorem dX5_countPairs_13 : decode cX5_countPairs 13 = .ok (.iconst 1, 1) := by decide +kernel
theorem dX5_countPairs_14 : decode cX5_countPairs 14 = .ok (.iadd, 1) := by decide +kernel
theorem dX5_countPairs_15 : decode cX5_countPairs 15 = .ok (.istore_n 3, 1) := by decide +kernel
theorem dX5_countPairs_16 : decode cX5_countPairs 16 = .ok (.iload_n 3, 1) := by decide +kernel
theorem dX5_countPairs_17 : decode cX5_countPairs 17 = .ok (.aload_n 0, 1) := by decide +kernel
theorem dX5_countPairs_18 : decode cX5_countPairs 18 = .ok (.getfield 15, 3) := by decide +kernel
theorem dX5_countPairs_21 : decode cX5_countPairs 21 = .ok (.if_icmp .ge 27, 3) := by decide +kernel
theorem dX5_countPairs_24 : decode cX5_countPairs 24 = .ok (.aload_n 0, 1) := by decide +kernel
theorem dX5_countPairs_25 : decode cX5_countPairs 25 = .ok (.getfield 18, 3) := by decide +kernel
theorem dX5_countPairs_28 : decode cX5_countPairs 28 = .ok (.iload_n 2, 1) := by decide +kernel
theorem dX5_countPairs_29 : decode cX5_countPairs 29 = .ok (.iaload, 1) := by decide +kernel
theorem dX5_countPairs_30 : decode cX5_countPairs 30 = .ok (.aload_n 0, 1) := by decide +kernel
theorem dX5_countPairs_31 : decode cX5_countPairs 31 = .ok (.getfield 18, 3) := by decide +kernel
theorem dX5_countPairs_34 : decode cX5_countPairs 34 = .ok (.iload_n 3, 1) := by decide +kernel
theorem dX5_countPairs_35 : decode cX5_countPairs 35 = .ok (.iaload, 1) := by decide +kernel
theorem dX5_countPairs_36 : decode cX5_countPairs 36 = .ok (.if_icmp .ne 6, 3) := by decide +kernel
theorem dX5_countPairs_39 : decode cX5_countPairs 39 = .ok (.iinc 1 1, 3) := by decide +kernel
theorem dX5_countPairs_42 : decode cX5_countPairs 42 = .ok (.iinc 3 1, 3) := by decide +kernel
theorem dX5_countPairs_45 : decode cX5_countPairs 45 = .ok (.goto (-29), 3) := by decide +kernel
theorem dX5_countPairs_48 : decode cX5_countPairs 48 = .ok (.iinc 2 1, 3) := by decide +kernel
theorem dX5_countPairs_51 : decode cX5_countPairs 51 = .ok (.goto (-47), 3) := by decide +kernel
theorem dX5_countPairs_54 : decode cX5_countPairs 54 = .ok (.iload_n 1, 1) := by decide +kernel
theorem dX5_countPairs_55 : decode cX5_countPairs 55 = .ok (.ireturn, 1) := by decide +kernel
set_option maxRecDepth 20000 in
theorem ggX5_outranks_X5_isGiven : GoodIn wsX5_outranks wsX5_isGiven := goodIn_r _ [11, 6, 12, 13, 14, 15, 16, 17, 18, 19, 20, 21, 22] (by decide +kernel) (by decide +kernel)
set_option maxRecDepth 20000 in
theorem gX5_outranks_X5_isGiven : GoodIn wsX5_outranks (wsV RX5 45 RX5 yX5_isGiven wsX5_isGiven) := goodIn_app (goodIn_of _ (by decide +kernel)) ggX5_outranks_X5_isGiven
theorem dX5_outranks_0 : decode cX5_outranks 0 = .ok (.iload_n 1, 1) := by decide +kernel
theorem dX5_outranks_1 : decode cX5_outranks 1 = .ok (.iload_n 2, 1) := by decide +kernel
theorem dX5_outranks_2 : decode cX5_outranks 2 = .ok (.if_icmp .eq 33, 3) := by decide +kernel
theorem dX5_outranks_5 : decode cX5_outranks 5 = .ok (.aload_n 0, 1) := by decide +kernel
theorem dX5_outranks_6 : decode cX5_outranks 6 = .ok (.getfield 18, 3) := by decide +kernel
theorem dX5_outranks_9 : decode cX5_outranks 9 = .ok (.iload_n 1, 1) := by decide +kernel
theorem dX5_outranks_10 : decode cX5_outranks 10 = .ok (.iaload, 1) := by decide +kernel
theorem dX5_outranks_11 : decode cX5_outranks 11 = .ok (.aload_n 0, 1) := by decide +kernel
theorem dX5_outranks_12 : decode cX5_outranks 12 = .ok (.getfield 18, 3) := by decide +kernel
theorem dX5_outranks_15 : decode cX5_outranks 15 = .ok (.iload_n 2, 1) := by decide +kernel
theorem dX5_outranks_16 : decode cX5_outranks 16 = .ok (.iaload, 1) := by decide +kernel
theorem dX5_outranks_17 : decode cX5_outranks 17 = .ok (.if_icmp .ne 18, 3) := by decide +kernel
theorem dX5_outranks_20 : decode cX5_outranks 20 = .ok (.aload_n 0, 1) := by decide +kernel
theorem dX5_outranks_21 : decode cX5_outranks 21 = .ok (.getfield 28, 3) := by decide +kernel
theorem dX5_outranks_24 : decode cX5_outranks 24 = .ok (.iload_n 1, 1) := by decide +kernel
theorem dX5_outranks_25 : decode cX5_outranks 25 = .ok (.iaload, 1) := by decide +kernel
theorem dX5_outranks_26 : decode cX5_outranks 26 = .ok (.aload_n 0, 1) := by decide +kernel
theorem dX5_outranks_27 : decode cX5_outranks 27 = .ok (.getfield 28, 3) := by decide +kernel
theorem dX5_outranks_30 : decode cX5_outranks 30 = .ok (.iload_n 2, 1) := by decide +kernel
theorem dX5_outranks_31 : decode cX5_outranks 31 = .ok (.iaload, 1) := by decide +kernel
theorem dX5_outranks_32 : decode cX5_outranks 32 = .ok (.if_icmp .eq 5, 3) := by decide +kernel
theorem dX5_outranks_35 : decode cX5_outranks 35 = .ok (.iconst 0, 1) := by decide +kernel
theorem dX5_outranks_36 : decode cX5_outranks 36 = .ok (.ireturn, 1) := by decide +kernel
theorem dX5_outranks_37 : decode cX5_outranks 37 = .ok (.aload_n 0, 1) := by decide +kernel
theorem dX5_outranks_38 : decode cX5_outranks 38 = .ok (.getfield 22, 3) := by decide +kernel
theorem dX5_outranks_41 : decode cX5_outranks 41 = .ok (.iload_n 1, 1) := by decide +kernel
theorem dX5_outranks_42 : decode cX5_outranks 42 = .ok (.iaload, 1) := by decide +kernel
theorem dX5_outranks_43 : decode cX5_outranks 43 = .ok (.aload_n 0, 1) := by decide +kernel
theorem dX5_outranks_44 : decode cX5_outranks 44 = .ok (.getfield 22, 3) := by decide +kernel
theorem dX5_outranks_47 : decode cX5_outranks 47 = .ok (.iload_n 2, 1) := by decide +kernel
theorem dX5_outranks_48 : decode cX5_outranks 48 = .ok (.iaload, 1) := by decide +kernel
theorem dX5_outranks_49 : decode cX5_outranks 49 = .ok (.if_icmp .gt 27, 3) := by decide +kernel
theorem dX5_outranks_52 : decode cX5_outranks 52 = .ok (.aload_n 0, 1) := by decide +kernel
theorem dX5_outranks_53 : decode cX5_outranks 53 = .ok (.getfield 25, 3) := by decide +kernel
theorem dX5_outranks_56 : decode cX5_outranks 56 = .ok (.iload_n 1, 1) := by decide +kernel
theorem dX5_outranks_57 : decode cX5_outranks 57 = .ok (.iaload, 1) := by decide +kernel
theorem dX5_outranks_58 : decode cX5_outranks 58 = .ok (.aload_n 0, 1) := by decide +kernel
theorem dX5_outranks_59 : decode cX5_outranks 59 = .ok (.getfield 25, 3) := by decide +kernel
theorem dX5_outranks_62 : decode cX5_outranks 62 = .ok (.iload_n 2, 1) := by decide +kernel
theorem dX5_outranks_63 : decode cX5_outranks 63 = .ok (.iaload, 1) := by decide +kernel
theorem dX5_outranks_64 : decode cX5_outranks 64 = .ok (.if_icmp .gt 12, 3) := by decide +kernel
theorem dX5_outranks_67 : decode cX5_outranks 67 = .ok (.aload_n 0, 1) := by decide +kernel
theorem dX5_outranks_68 : decode cX5_outranks 68 = .ok (.iload_n 2, 1) := by decide +kernel
theorem dX5_outranks_69 : decode cX5_outranks 69 = .ok (.iload_n 1, 1) := by decide +kernel
theorem dX5_outranks_70 : decode cX5_outranks 70 = .ok (.invokevirtual 45, 3) := by decide +kernel
theorem dX5_outranks_73 : decode cX5_outranks 73 = .ok (.ifCond .eq 5, 3) := by decide +kernel
theorem dX5_outranks_76 : decode cX5_outranks 76 = .ok (.iconst 0, 1) := by decide +kernel
theorem dX5_outranks_77 : decode cX5_outranks 77 = .ok (.ireturn, 1) := by decide +kernel
theorem dX5_outranks_78 : decode cX5_outranks 78 = .ok (.iconst 1, 1) := by decide +kernel
theorem dX5_outranks_79 : decode cX5_outranks 79 = .ok (.iload_n 1, 1) := by decide +kernel
theorem dX5_outranks_80 : decode cX5_outranks 80 = .ok (.ishl, 1) := by decide +kernel
theorem dX5_outranks_81 : decode cX5_outranks 81 = .ok (.iconst 1, 1) := by decide +kernel
theorem dX5_outranks_82 : decode cX5_outranks 82 = .ok (.iload_n 2, 1) := by decide +kernel
theorem dX5_outranks_83 : decode cX5_outranks 83 = .ok (.ishl, 1) := by decide +kernel
theorem dX5_outranks_84 : decode cX5_outranks 84 = .ok (.ior, 1) := by decide +kernel
theorem dX5_outranks_85 : decode cX5_outranks 85 = .ok (.iconst (-1), 1) := by decide +kernel
theorem dX5_outranks_86 : decode cX5_outranks 86 = .ok (.ixor, 1) := by decide +kernel
theorem dX5_outranks_87 : decode cX5_outranks 87 = .ok (.istore_n 3, 1) := by decide +kernel
theorem dX5_outranks_88 : decode cX5_outranks 88 = .ok (.aload_n 0, 1) := by decide +kernel
theorem dX5_outranks_89 : decode cX5_outranks 89 = .ok (.getfield 31, 3) := by decide +kernel
theorem dX5_outranks_92 : decode cX5_outranks 92 = .ok (.iload_n 1, 1) := by decide +kernel
theorem dX5_outranks_93 : decode cX5_outranks 93 = .ok (.iaload, 1) := by decide +kernel
theorem dX5_outranks_94 : decode cX5_outranks 94 = .ok (.iload_n 3, 1) := by decide +kernel
theorem dX5_outranks_95 : decode cX5_outranks 95 = .ok (.iand, 1) := by decide +kernel
theorem dX5_outranks_96 : decode cX5_outranks 96 = .ok (.istore 4, 2) := by decide +kernel
theorem dX5_outranks_98 : decode cX5_outranks 98 = .ok (.aload_n 0, 1) := by decide +kernel
theorem dX5_outranks_99 : decode cX5_outranks 99 = .ok (.getfield 31, 3) := by decide +kernel
theorem dX5_outranks_102 : decode cX5_outranks 102 = .ok (.iload_n 2, 1) := by decide +kernel
theorem dX5_outranks_103 : decode cX5_outranks 103 = .ok (.iaload, 1) := by decide +kernel
theorem dX5_outranks_104 : decode cX5_outranks 104 = .ok (.iload_n 3, 1) := by decide +kernel
theorem dX5_outranks_105 : decode cX5_outranks 105 = .ok (.iand, 1) := by decide +kernel
theorem dX5_outranks_106 : decode cX5_outranks 106 = .ok (.istore 5, 2) := by decide +kernel
theorem dX5_outranks_108 : decode cX5_outranks 108 = .ok (.aload_n 0, 1) := by decide +kernel
theorem dX5_outranks_109 : decode cX5_outranks 109 = .ok (.getfield 34, 3) := by decide +kernel
theorem dX5_outranks_112 : decode cX5_outranks 112 = .ok (.iload_n 1, 1) := by decide +kernel
theorem dX5_outranks_113 : decode cX5_outranks 113 = .ok (.iaload, 1) := by decide +kernel
theorem dX5_outranks_114 : decode cX5_outranks 114 = .ok (.iload_n 3, 1) := by decide +kernel
theorem dX5_outranks_115 : decode cX5_outranks 115 = .ok (.iand, 1) := by decide +kernel
theorem dX5_outranks_116 : decode cX5_outranks 116 = .ok (.istore 6, 2) := by decide +kernel
theorem dX5_outranks_118 : decode cX5_outranks 118 = .ok (.aload_n 0, 1) := by decide +kernel
theorem dX5_outranks_119 : decode cX5_outranks 119 = .ok (.getfield 34, 3) := by decide +kernel
theorem dX5_outranks_122 : decode cX5_outranks 122 = .ok (.iload_n 2, 1) := by decide +kernel
theorem dX5_outranks_123 : decode cX5_outranks 123 = .ok (.iaload, 1) := by decide +kernel
theorem dX5_outranks_124 : decode cX5_outranks 124 = .ok (.iload_n 3, 1) := by decide +kernel
theorem dX5_outranks_125 : decode cX5_outranks 125 = .ok (.iand, 1) := by decide +kernel
theorem dX5_outranks_126 : decode cX5_outranks 126 = .ok (.istore 7, 2) := by decide +kernel
theorem dX5_outranks_128 : decode cX5_outranks 128 = .ok (.iload 4, 2) := by decide +kernel
theorem dX5_outranks_130 : decode cX5_outranks 130 = .ok (.iload 5, 2) := by decide +kernel
theorem dX5_outranks_132 : decode cX5_outranks 132 = .ok (.iconst (-1), 1) := by decide +kernel
theorem dX5_outranks_133 : decode cX5_outranks 133 = .ok (.ixor, 1) := by decide +kernel
theorem dX5_outranks_134 : decode cX5_outranks 134 = .ok (.iand, 1) := by decide +kernel
theorem dX5_outranks_135 : decode cX5_outranks 135 = .ok (.ifCond .ne 13, 3) := by decide +kernel
theorem dX5_outranks_138 : decode cX5_outranks 138 = .ok (.iload 7, 2) := by decide +kernel
theorem dX5_outranks_140 : decode cX5_outranks 140 = .ok (.iload 6, 2) := by decide +kernel
theorem dX5_outranks_142 : decode cX5_outranks 142 = .ok (.iconst (-1), 1) := by decide +kernel
theorem dX5_outranks_143 : decode cX5_outranks 143 = .ok (.ixor, 1) := by decide +kernel
theorem dX5_outranks_144 : decode cX5_outranks 144 = .ok (.iand, 1) := by decide +kernel
theorem dX5_outranks_145 : decode cX5_outranks 145 = .ok (.ifCond .eq 5, 3) := by decide +kernel
theorem dX5_outranks_148 : decode cX5_outranks 148 = .ok (.iconst 0, 1) := by decide +kernel
theorem dX5_outranks_149 : decode cX5_outranks 149 = .ok (.ireturn, 1) := by decide +kernel
theorem dX5_outranks_150 : decode cX5_outranks 150 = .ok (.aload_n 0, 1) := by decide +kernel
theorem dX5_outranks_151 : decode cX5_outranks 151 = .ok (.getfield 22, 3) := by decide +kernel
theorem dX5_outranks_154 : decode cX5_outranks 154 = .ok (.iload_n 1, 1) := by decide +kernel
theorem dX5_outranks_155 : decode cX5_outranks 155 = .ok (.iaload, 1) := by decide +kernel
theorem dX5_outranks_156 : decode cX5_outranks 156 = .ok (.aload_n 0, 1) := by decide +kernel
theorem dX5_outranks_157 : decode cX5_outranks 157 = .ok (.getfield 22, 3) := by decide +kernel
theorem dX5_outranks_160 : decode cX5_outranks 160 = .ok (.iload_n 2, 1) := by decide +kernel
theorem dX5_outranks_161 : decode cX5_outranks 161 = .ok (.iaload, 1) := by decide +kernel
theorem dX5_outranks_162 : decode cX5_outranks 162 = .ok (.if_icmp .ne 36, 3) := by decide +kernel
theorem dX5_outranks_165 : decode cX5_outranks 165 = .ok (.aload_n 0, 1) := by decide +kernel
theorem dX5_outranks_166 : decode cX5_outranks 166 = .ok (.getfield 25, 3) := by decide +kernel
theorem dX5_outranks_169 : decode cX5_outranks 169 = .ok (.iload_n 1, 1) := by decide +kernel
theorem dX5_outranks_170 : decode cX5_outranks 170 = .ok (.iaload, 1) := by decide +kernel
theorem dX5_outranks_171 : decode cX5_outranks 171 = .ok (.aload_n 0, 1) := by decide +kernel
theorem dX5_outranks_172 : decode cX5_outranks 172 = .ok (.getfield 25, 3) := by decide +kernel
theorem dX5_outranks_175 : decode cX5_outranks 175 = .ok (.iload_n 2, 1) := by decide +kernel
theorem dX5_outranks_176 : decode cX5_outranks 176 = .ok (.iaload, 1) := by decide +kernel
theorem dX5_outranks_177 : decode cX5_outranks 177 = .ok (.if_icmp .ne 21, 3) := by decide +kernel
theorem dX5_outranks_180 : decode cX5_outranks 180 = .ok (.iload 4, 2) := by decide +kernel
theorem dX5_outranks_182 : decode cX5_outranks 182 = .ok (.iload 5, 2) := by decide +kernel
theorem dX5_outranks_184 : decode cX5_outranks 184 = .ok (.if_icmp .ne 14, 3) := by decide +kernel
theorem dX5_outranks_187 : decode cX5_outranks 187 = .ok (.iload 6, 2) := by decide +kernel
theorem dX5_outranks_189 : decode cX5_outranks 189 = .ok (.iload 7, 2) := by decide +kernel
theorem dX5_outranks_191 : decode cX5_outranks 191 = .ok (.if_icmp .ne 7, 3) := by decide +kernel
theorem dX5_outranks_194 : decode cX5_outranks 194 = .ok (.iconst 1, 1) := by decide +kernel
theorem dX5_outranks_195 : decode cX5_outranks 195 = .ok (.goto 4, 3) := by decide +kernel
theorem dX5_outranks_198 : decode cX5_outranks 198 = .ok (.iconst 0, 1) := by decide +kernel
theorem dX5_outranks_199 : decode cX5_outranks 199 = .ok (.istore 8, 2) := by decide +kernel
theorem dX5_outranks_201 : decode cX5_outranks 201 = .ok (.iload 8, 2) := by decide +kernel
theorem dX5_outranks_203 : decode cX5_outranks 203 = .ok (.ifCond .eq 8, 3) := by decide +kernel
theorem dX5_outranks_206 : decode cX5_outranks 206 = .ok (.iload_n 1, 1) := by decide +kernel
theorem dX5_outranks_207 : decode cX5_outranks 207 = .ok (.iload_n 2, 1) := by decide +kernel
theorem dX5_outranks_208 : decode cX5_outranks 208 = .ok (.if_icmp .ge 7, 3) := by decide +kernel
theorem dX5_outranks_211 : decode cX5_outranks 211 = .ok (.iconst 1, 1) := by decide +kernel
theorem dX5_outranks_212 : decode cX5_outranks 212 = .ok (.goto 4, 3) := by decide +kernel
theorem dX5_outranks_215 : decode cX5_outranks 215 = .ok (.iconst 0, 1) := by decide +kernel
theorem dX5_outranks_216 : decode cX5_outranks 216 = .ok (.ireturn, 1) := by decide +kernel
theorem dX5_aspect_0 : decode cX5_aspect 0 = .ok (.iload_n 2, 1) := by decide +kernel
theorem dX5_aspect_1 : decode cX5_aspect 1 = .ok (.tableswitch 70 0 4 #[35, 42, 49, 56, 63], 35) := by decide +kernel
theorem dX5_aspect_36 : decode cX5_aspect 36 = .ok (.aload_n 0, 1) := by decide +kernel
theorem dX5_aspect_37 : decode cX5_aspect 37 = .ok (.getfield 18, 3) := by decide +kernel
theorem dX5_aspect_40 : decode cX5_aspect 40 = .ok (.iload_n 1, 1) := by decide +kernel
theorem dX5_aspect_41 : decode cX5_aspect 41 = .ok (.iaload, 1) := by decide +kernel
theorem dX5_aspect_42 : decode cX5_aspect 42 = .ok (.ireturn, 1) := by decide +kernel
theorem dX5_aspect_43 : decode cX5_aspect 43 = .ok (.aload_n 0, 1) := by decide +kernel
theorem dX5_aspect_44 : decode cX5_aspect 44 = .ok (.getfield 22, 3) := by decide +kernel
theorem dX5_aspect_47 : decode cX5_aspect 47 = .ok (.iload_n 1, 1) := by decide +kernel
theorem dX5_aspect_48 : decode cX5_aspect 48 = .ok (.iaload, 1) := by decide +kernel
theorem dX5_aspect_49 : decode cX5_aspect 49 = .ok (.ireturn, 1) := by decide +kernel
theorem dX5_aspect_50 : decode cX5_aspect 50 = .ok (.aload_n 0, 1) := by decide +kernel
theorem dX5_aspect_51 : decode cX5_aspect 51 = .ok (.getfield 25, 3) := by decide +kernel
theorem dX5_aspect_54 : decode cX5_aspect 54 = .ok (.iload_n 1, 1) := by decide +kernel
theorem dX5_aspect_55 : decode cX5_aspect 55 = .ok (.iaload, 1) := by decide +kernel
theorem dX5_aspect_56 : decode cX5_aspect 56 = .ok (.ireturn, 1) := by decide +kernel
theorem dX5_aspect_57 : decode cX5_aspect 57 = .ok (.aload_n 0, 1) := by decide +kernel
theorem dX5_aspect_58 : decode cX5_aspect 58 = .ok (.getfield 28, 3) := by decide +kernel
theorem dX5_aspect_61 : decode cX5_aspect 61 = .ok (.iload_n 1, 1) := by decide +kernel
theorem dX5_aspect_62 : decode cX5_aspect 62 = .ok (.iaload, 1) := by decide +kernel
theorem dX5_aspect_63 : decode cX5_aspect 63 = .ok (.ireturn, 1) := by decide +kernel
theorem dX5_aspect_64 : decode cX5_aspect 64 = .ok (.aload_n 0, 1) := by decide +kernel
theorem dX5_aspect_65 : decode cX5_aspect 65 = .ok (.getfield 31, 3) := by decide +kernel
theorem dX5_aspect_68 : decode cX5_aspect 68 = .ok (.iload_n 1, 1) := by decide +kernel
theorem dX5_aspect_69 : decode cX5_aspect 69 = .ok (.iaload, 1) := by decide +kernel
theorem dX5_aspect_70 : decode cX5_aspect 70 = .ok (.ireturn, 1) := by decide +kernel
theorem dX5_aspect_71 : decode cX5_aspect 71 = .ok (.aload_n 0, 1) := by decide +kernel
theorem dX5_aspect_72 : decode cX5_aspect 72 = .ok (.getfield 34, 3) := by decide +kernel
theorem dX5_aspect_75 : decode cX5_aspect 75 = .ok (.iload_n 1, 1) := by decide +kernel
theorem dX5_aspect_76 : decode cX5_aspect 76 = .ok (.iaload, 1) := by decide +kernel
theorem dX5_aspect_77 : decode cX5_aspect 77 = .ok (.ireturn, 1) := by decide +kernel
theorem dX6_init_0 : decode cX6_init 0 = .ok (.aload_n 0, 1) := by decide +kernel
theorem dX6_init_1 : decode cX6_init 1 = .ok (.invokespecial 3, 3) := by decide +kernel
theorem dX6_init_4 : decode cX6_init 4 = .ok (.aload_n 0, 1) := by decide +kernel
theorem dX6_init_5 : decode cX6_init 5 = .ok (.iconst 0, 1) := by decide +kernel
theorem dX6_init_6 : decode cX6_init 6 = .ok (.putfield 9, 3) := by decide +kernel
theorem dX6_init_9 : decode cX6_init 9 = .ok (.aload_n 0, 1) := by decide +kernel
theorem dX6_init_10 : decode cX6_init 10 = .ok (.bipush 8, 2) := by decide +kernel
theorem dX6_init_12 : decode cX6_init 12 = .ok (.newarray .int, 2) := by decide +kernel
theorem dX6_init_14 : decode cX6_init 14 = .ok (.putfield 15, 3) := by decide +kernel
theorem dX6_init_17 : decode cX6_init 17 = .ok (.aload_n 0, 1) := by decide +kernel
theorem dX6_init_18 : decode cX6_init 18 = .ok (.bipush 8, 2) := by decide +kernel
theorem dX6_init_20 : decode cX6_init 20 = .ok (.newarray .int, 2) := by decide +kernel
theorem dX6_init_22 : decode cX6_init 22 = .ok (.putfield 19, 3) := by decide +kernel
theorem dX6_init_25 : decode cX6_init 25 = .ok (.aload_n 0, 1) := by decide +kernel
theorem dX6_init_26 : decode cX6_init 26 = .ok (.bipush 8, 2) := by decide +kernel
theorem dX6_init_28 : decode cX6_init 28 = .ok (.newarray .int, 2) := by decide +kernel
theorem dX6_init_30 : decode cX6_init 30 = .ok (.putfield 22, 3) := by decide +kernel
theorem dX6_init_33 : decode cX6_init 33 = .ok (.aload_n 0, 1) := by decide +kernel
theorem dX6_init_34 : decode cX6_init 34 = .ok (.iconst 3, 1) := by decide +kernel
theorem dX6_init_35 : decode cX6_init 35 = .ok (.newarray .int, 2) := by decide +kernel
theorem dX6_init_37 : decode cX6_init 37 = .ok (.putfield 25, 3) := by decide +kernel
theorem dX6_init_40 : decode cX6_init 40 = .ok (.aload_n 0, 1) := by decide +kernel
theorem dX6_init_41 : decode cX6_init 41 = .ok (.sipush 256, 3) := by decide +kernel
theorem dX6_init_44 : decode cX6_init 44 = .ok (.newarray .int, 2) := by decide +kernel
theorem dX6_init_46 : decode cX6_init 46 = .ok (.putfield 28, 3) := by decide +kernel
theorem dX6_init_49 : decode cX6_init 49 = .ok (.aload_n 0, 1) := by decide +kernel
theorem dX6_init_50 : decode cX6_init 50 = .ok (.sipush 256, 3) := by decide +kernel
theorem dX6_init_53 : decode cX6_init 53 = .ok (.newarray .int, 2) := by decide +kernel
theorem dX6_init_55 : decode cX6_init 55 = .ok (.putfield 31, 3) := by decide +kernel
theorem dX6_init_58 : decode cX6_init 58 = .ok (.aload_n 0, 1) := by decide +kernel
theorem dX6_init_59 : decode cX6_init 59 = .ok (.sipush 256, 3) := by decide +kernel
theorem dX6_init_62 : decode cX6_init 62 = .ok (.newarray .int, 2) := by decide +kernel
theorem dX6_init_64 : decode cX6_init 64 = .ok (.putfield 34, 3) := by decide +kernel
theorem dX6_init_67 : decode cX6_init 67 = .ok (.aload_n 0, 1) := by decide +kernel
theorem dX6_init_68 : decode cX6_init 68 = .ok (.aload_n 1, 1) := by decide +kernel
theorem dX6_init_69 : decode cX6_init 69 = .ok (.putfield 37, 3) := by decide +kernel
theorem dX6_init_72 : decode cX6_init 72 = .ok (.return_, 1) := by decide +kernel
set_option maxRecDepth 20000 in
theorem ggX6_run_X6_load : GoodIn wsX6_run wsX6_load := goodIn_r _ [7, 8, 9, 10, 11, 12, 13, 14, 15, 16, 17, 89, 90, 91, 92, 93, 94, 95, 96, 97, 98, 99, 100, 101, 102, 103, 104, 105] (by decide +kernel) (by decide +kernel)
set_option maxRecDepth 20000 in
theorem gX6_run_X6_load : GoodIn wsX6_run (wsV RX6 41 RX6 yX6_load wsX6_load) := goodIn_app (goodIn_of _ (by decide +kernel)) ggX6_run_X6_load
set_option maxRecDepth 20000 in
theorem ggX6_run_X6_followRows : GoodIn wsX6_run wsX6_followRows := goodIn_r _ [21, 9, 10, 15, 22, 23, 24, 25, 26, 27, 6, 28, 89, 90, 91, 92, 93, 94, 95, 96, 97, 98, 99, 100, 101, 102, 103, 104, 105] (by decide +kernel) (by decide +kernel)
set_option maxRecDepth 20000 in
theorem gX6_run_X6_followRows : GoodIn wsX6_run (wsV RX6 45 RX6 yX6_followRows wsX6_followRows) := goodIn_app (goodIn_of _ (by decide +kernel)) ggX6_run_X6_followRows
set_option maxRecDepth 20000 in
theorem ggX6_run_X6_raiseFirsts : GoodIn wsX6_run wsX6_raiseFirsts := goodIn_r _ [32, 9, 10, 17, 11, 33, 34, 35, 36, 6, 37, 15, 22, 23, 24, 89, 90, 91, 92, 93, 94, 95, 96, 97, 98, 99, 100, 101, 102, 103, 104, 105] (by decide +kernel) (by decide +kernel)
set_option maxRecDepth 20000 in
theorem gX6_run_X6_raiseFirsts : GoodIn wsX6_run (wsV RX6 49 RX6 yX6_raiseFirsts wsX6_raiseFirsts) := goodIn_app (goodIn_of _ (by decide +kernel)) ggX6_run_X6_raiseFirsts
set_option maxRecDepth 20000 in
theorem ggX6_run_X6_lowerLasts : GoodIn wsX6_run wsX6_lowerLasts := goodIn_r _ [41, 9, 10, 15, 17, 13, 33, 22, 23, 24, 89, 90, 91, 92, 93, 94, 95, 96, 97, 98, 99, 100, 101, 102, 103, 104, 105] (by decide +kernel) (by decide +kernel)
set_option maxRecDepth 20000 in
theorem gX6_run_X6_lowerLasts : GoodIn wsX6_run (wsV RX6 52 RX6 yX6_lowerLasts wsX6_lowerLasts) := goodIn_app (goodIn_of _ (by decide +kernel)) ggX6_run_X6_lowerLasts
set_option maxRecDepth 20000 in
theorem ggX6_run_X6_weighSets : GoodIn wsX6_run wsX6_weighSets := goodIn_r _ [45, 46, 2, 47, 48, 49, 9, 10, 11, 50, 51, 52, 53, 13, 54, 55, 56, 33, 89, 90, 91, 92, 93, 94, 95, 96, 97, 98, 99, 100, 101, 102, 103, 104, 105] (by decide +kernel) (by decide +kernel)
set_option maxRecDepth 20000 in
theorem gX6_run_X6_weighSets : GoodIn wsX6_run (wsV RX6 55 RX6 yX6_weighSets wsX6_weighSets) := goodIn_app (goodIn_of _ (by decide +kernel)) ggX6_run_X6_weighSets
set_option maxRecDepth 20000 in
theorem ggX6_run_X6_someTaskPrecedesItself : GoodIn wsX6_run wsX6_someTaskPrecedesItself := goodIn_r _ [60, 9, 10, 15, 22, 23, 24, 89, 90, 91, 92, 93, 94, 95, 96, 97, 98, 99, 100, 101, 102, 103, 104, 105] (by decide +kernel) (by decide +kernel)
set_option maxRecDepth 20000 in
theorem gX6_run_X6_someTaskPrecedesItself : GoodIn wsX6_run (wsV RX6 58 RX6 yX6_someTaskPrecedesItself wsX6_someTaskPrecedesItself) := goodIn_app (goodIn_of _ (by decide +kernel)) ggX6_run_X6_someTaskPrecedesItself
set_option maxRecDepth 20000 in
theorem ggX6_run_X6_someSetIsTooTight : GoodIn wsX6_run wsX6_someSetIsTooTight := goodIn_r _ [64, 8, 46, 49, 47, 89, 90, 91, 92, 93, 94, 95, 96, 97] (by decide +kernel) (by decide +kernel)
set_option maxRecDepth 20000 in
theorem gX6_run_X6_someSetIsTooTight : GoodIn wsX6_run (wsV RX6 61 RX6 yX6_someSetIsTooTight wsX6_someSetIsTooTight) := goodIn_app (goodIn_of _ (by decide +kernel)) ggX6_run_X6_someSetIsTooTight
set_option maxRecDepth 20000 in
theorem ggX6_run_X6_orderByPairs : GoodIn wsX6_run wsX6_orderByPairs := goodIn_r _ [68, 9, 10, 69, 70, 71, 6, 72, 17, 11, 33, 13, 25, 26, 27, 28, 15, 89, 90, 91, 92, 93, 94, 95, 96, 97, 98, 99, 100, 101, 102, 103, 104, 105] (by decide +kernel) (by decide +kernel)
set_option maxRecDepth 20000 in
theorem gX6_run_X6_orderByPairs : GoodIn wsX6_run (wsV RX6 64 RX6 yX6_orderByPairs wsX6_orderByPairs) := goodIn_app (goodIn_of _ (by decide +kernel)) ggX6_run_X6_orderByPairs
set_option maxRecDepth 20000 in
theorem ggX6_run_X6_orderBySets : GoodIn wsX6_run wsX6_orderBySets := goodIn_r _ [76, 9, 10, 8, 17, 77, 78, 79, 6, 80, 46, 49, 47, 81, 82, 83, 84, 22, 23, 24, 25, 26, 27, 28, 15, 85, 86, 87, 88, 89, 90, 91, 92, 93, 94, 95, 96, 97, 98, 99, 100, 101, 102, 103, 104, 105] (by decide +kernel) (by decide +kernel)
set_option maxRecDepth 20000 in
theorem gX6_run_X6_orderBySets : GoodIn wsX6_run (wsV RX6 67 RX6 yX6_orderBySets wsX6_orderBySets) := goodIn_app (goodIn_of _ (by decide +kernel)) ggX6_run_X6_orderBySets
theorem dX6_run_0 : decode cX6_run 0 = .ok (.aload_n 0, 1) := by decide +kernel
theorem dX6_run_1 : decode cX6_run 1 = .ok (.invokevirtual 41, 3) := by decide +kernel
theorem dX6_run_4 : decode cX6_run 4 = .ok (.aload_n 0, 1) := by decide +kernel
theorem dX6_run_5 : decode cX6_run 5 = .ok (.iconst 0, 1) := by decide +kernel
theorem dX6_run_6 : decode cX6_run 6 = .ok (.putfield 9, 3) := by decide +kernel
theorem dX6_run_9 : decode cX6_run 9 = .ok (.iconst 1, 1) := by decide +kernel
theorem dX6_run_10 : decode cX6_run 10 = .ok (.istore_n 1, 1) := by decide +kernel
theorem dX6_run_11 : decode cX6_run 11 = .ok (.iconst 0, 1) := by decide +kernel
theorem dX6_run_12 : decode cX6_run 12 = .ok (.istore_n 2, 1) := by decide +kernel
theorem dX6_run_13 : decode cX6_run 13 = .ok (.iload_n 2, 1) := by decide +kernel
theorem dX6_run_14 : decode cX6_run 14 = .ok (.ldc 44, 2) := by decide +kernel
theorem dX6_run_16 : decode cX6_run 16 = .ok (.if_icmp .ge 120, 3) := by decide +kernel
theorem dX6_run_19 : decode cX6_run 19 = .ok (.iload_n 1, 1) := by decide +kernel
theorem dX6_run_20 : decode cX6_run 20 = .ok (.ifCond .eq 116, 3) := by decide +kernel
theorem dX6_run_23 : decode cX6_run 23 = .ok (.aload_n 0, 1) := by decide +kernel
theorem dX6_run_24 : decode cX6_run 24 = .ok (.getfield 9, 3) := by decide +kernel
theorem dX6_run_27 : decode cX6_run 27 = .ok (.ifCond .ne 109, 3) := by decide +kernel
theorem dX6_run_30 : decode cX6_run 30 = .ok (.aload_n 0, 1) := by decide +kernel
theorem dX6_run_31 : decode cX6_run 31 = .ok (.invokevirtual 45, 3) := by decide +kernel
theorem dX6_run_34 : decode cX6_run 34 = .ok (.istore_n 1, 1) := by decide +kernel
theorem dX6_run_35 : decode cX6_run 35 = .ok (.aload_n 0, 1) := by decide +kernel
theorem dX6_run_36 : decode cX6_run 36 = .ok (.invokevirtual 49, 3) := by decide +kernel
theorem dX6_run_39 : decode cX6_run 39 = .ok (.ifCond .ne 7, 3) := by decide +kernel
theorem dX6_run_42 : decode cX6_run 42 = .ok (.iload_n 1, 1) := by decide +kernel
theorem dX6_run_43 : decode cX6_run 43 = .ok (.ifCond .eq 7, 3) := by decide +kernel
theorem dX6_run_46 : decode cX6_run 46 = .ok (.iconst 1, 1) := by decide +kernel
theorem dX6_run_47 : decode cX6_run 47 = .ok (.goto 4, 3) := by decide +kernel
theorem dX6_run_50 : decode cX6_run 50 = .ok (.iconst 0, 1) := by decide +kernel
theorem dX6_run_51 : decode cX6_run 51 = .ok (.istore_n 1, 1) := by decide +kernel
theorem dX6_run_52 : decode cX6_run 52 = .ok (.aload_n 0, 1) := by decide +kernel
theorem dX6_run_53 : decode cX6_run 53 = .ok (.invokevirtual 52, 3) := by decide +kernel
theorem dX6_run_56 : decode cX6_run 56 = .ok (.ifCond .ne 7, 3) := by decide +kernel
theorem dX6_run_59 : decode cX6_run 59 = .ok (.iload_n 1, 1) := by decide +kernel
theorem dX6_run_60 : decode cX6_run 60 = .ok (.ifCond .eq 7, 3) := by decide +kernel
theorem dX6_run_63 : decode cX6_run 63 = .ok (.iconst 1, 1) := by decide +kernel
theorem dX6_run_64 : decode cX6_run 64 = .ok (.goto 4, 3) := by decide +kernel
theorem dX6_run_67 : decode cX6_run 67 = .ok (.iconst 0, 1) := by decide +kernel
theorem dX6_run_68 : decode cX6_run 68 = .ok (.istore_n 1, 1) := by decide +kernel
theorem dX6_run_69 : decode cX6_run 69 = .ok (.aload_n 0, 1) := by decide +kernel
theorem dX6_run_70 : decode cX6_run 70 = .ok (.invokevirtual 55, 3) := by decide +kernel
theorem dX6_run_73 : decode cX6_run 73 = .ok (.aload_n 0, 1) := by decide +kernel
theorem dX6_run_74 : decode cX6_run 74 = .ok (.aload_n 0, 1) := by decide +kernel
theorem dX6_run_75 : decode cX6_run 75 = .ok (.invokevirtual 58, 3) := by decide +kernel
theorem dX6_run_78 : decode cX6_run 78 = .ok (.ifCond .ne 10, 3) := by decide +kernel
theorem dX6_run_81 : decode cX6_run 81 = .ok (.aload_n 0, 1) := by decide +kernel
theorem dX6_run_82 : decode cX6_run 82 = .ok (.invokevirtual 61, 3) := by decide +kernel
theorem dX6_run_85 : decode cX6_run 85 = .ok (.ifCond .eq 7, 3) := by decide +kernel
theorem dX6_run_88 : decode cX6_run 88 = .ok (.iconst 1, 1) := by decide +kernel
theorem dX6_run_89 : decode cX6_run 89 = .ok (.goto 4, 3) := by decide +kernel
theorem dX6_run_92 : decode cX6_run 92 = .ok (.iconst 0, 1) := by decide +kernel
theorem dX6_run_93 : decode cX6_run 93 = .ok (.putfield 9, 3) := by decide +kernel
theorem dX6_run_96 : decode cX6_run 96 = .ok (.aload_n 0, 1) := by decide +kernel
theorem dX6_run_97 : decode cX6_run 97 = .ok (.invokevirtual 64, 3) := by decide +kernel
theorem dX6_run_100 : decode cX6_run 100 = .ok (.ifCond .ne 7, 3) := by decide +kernel
theorem dX6_run_103 : decode cX6_run 103 = .ok (.iload_n 1, 1) := by decide +kernel
theorem dX6_run_104 : decode cX6_run 104 = .ok (.ifCond .eq 7, 3) := by decide +kernel
theorem dX6_run_107 : decode cX6_run 107 = .ok (.iconst 1, 1) := by decide +kernel
theorem dX6_run_108 : decode cX6_run 108 = .ok (.goto 4, 3) := by decide +kernel
theorem dX6_run_111 : decode cX6_run 111 = .ok (.iconst 0, 1) := by decide +kernel
theorem dX6_run_112 : decode cX6_run 112 = .ok (.istore_n 1, 1) := by decide +kernel
theorem dX6_run_113 : decode cX6_run 113 = .ok (.aload_n 0, 1) := by decide +kernel
theorem dX6_run_114 : decode cX6_run 114 = .ok (.invokevirtual 67, 3) := by decide +kernel
theorem dX6_run_117 : decode cX6_run 117 = .ok (.ifCond .ne 7, 3) := by decide +kernel
theorem dX6_run_120 : decode cX6_run 120 = .ok (.iload_n 1, 1) := by decide +kernel
