theorem dX5_lasts_62 : decode cX5_lasts 62 = .ok (.getfield 64, 3) := by decide +kernel
theorem dX5_lasts_65 : decode cX5_lasts 65 = .ok (.if_icmp .ge 34, 3) := by decide +kernel
theorem dX5_lasts_68 : decode cX5_lasts 68 = .ok (.iload_n 1, 1) := by decide +kernel
theorem dX5_lasts_69 : decode cX5_lasts 69 = .ok (.ifCond .eq 22, 3) := by decide +kernel
theorem dX5_lasts_72 : decode cX5_lasts 72 = .ok (.aload_n 0, 1) := by decide +kernel
theorem dX5_lasts_73 : decode cX5_lasts 73 = .ok (.getfield 40, 3) := by decide +kernel
theorem dX5_lasts_76 : decode cX5_lasts 76 = .ok (.iload_n 3, 1) := by decide +kernel
theorem dX5_lasts_77 : decode cX5_lasts 77 = .ok (.iaload, 1) := by decide +kernel
theorem dX5_lasts_78 : decode cX5_lasts 78 = .ok (.aload_n 0, 1) := by decide +kernel
theorem dX5_lasts_79 : decode cX5_lasts 79 = .ok (.getfield 43, 3) := by decide +kernel
theorem dX5_lasts_82 : decode cX5_lasts 82 = .ok (.iload_n 3, 1) := by decide +kernel
theorem dX5_lasts_83 : decode cX5_lasts 83 = .ok (.iaload, 1) := by decide +kernel
theorem dX5_lasts_84 : decode cX5_lasts 84 = .ok (.if_icmp .ne 7, 3) := by decide +kernel
theorem dX5_lasts_87 : decode cX5_lasts 87 = .ok (.iconst 1, 1) := by decide +kernel
theorem dX5_lasts_88 : decode cX5_lasts 88 = .ok (.goto 4, 3) := by decide +kernel
theorem dX5_lasts_91 : decode cX5_lasts 91 = .ok (.iconst 0, 1) := by decide +kernel
theorem dX5_lasts_92 : decode cX5_lasts 92 = .ok (.istore_n 1, 1) := by decide +kernel
theorem dX5_lasts_93 : decode cX5_lasts 93 = .ok (.iinc 3 1, 3) := by decide +kernel
theorem dX5_lasts_96 : decode cX5_lasts 96 = .ok (.goto (-36), 3) := by decide +kernel
theorem dX5_lasts_99 : decode cX5_lasts 99 = .ok (.goto (-63), 3) := by decide +kernel
theorem dX5_lasts_102 : decode cX5_lasts 102 = .ok (.iload_n 2, 1) := by decide +kernel
theorem dX5_lasts_103 : decode cX5_lasts 103 = .ok (.ireturn, 1) := by decide +kernel
theorem dX5_isRow_0 : decode cX5_isRow 0 = .ok (.iconst 0, 1) := by decide +kernel
theorem dX5_isRow_1 : decode cX5_isRow 1 = .ok (.istore_n 1, 1) := by decide +kernel
theorem dX5_isRow_2 : decode cX5_isRow 2 = .ok (.iconst 1, 1) := by decide +kernel
theorem dX5_isRow_3 : decode cX5_isRow 3 = .ok (.istore_n 2, 1) := by decide +kernel
theorem dX5_isRow_4 : decode cX5_isRow 4 = .ok (.iconst 0, 1) := by decide +kernel
theorem dX5_isRow_5 : decode cX5_isRow 5 = .ok (.istore_n 3, 1) := by decide +kernel
theorem dX5_isRow_6 : decode cX5_isRow 6 = .ok (.iload_n 3, 1) := by decide +kernel
theorem dX5_isRow_7 : decode cX5_isRow 7 = .ok (.aload_n 0, 1) := by decide +kernel
theorem dX5_isRow_8 : decode cX5_isRow 8 = .ok (.getfield 164, 3) := by decide +kernel
theorem dX5_isRow_11 : decode cX5_isRow 11 = .ok (.if_icmp .ge 43, 3) := by decide +kernel
theorem dX5_isRow_14 : decode cX5_isRow 14 = .ok (.iload_n 2, 1) := by decide +kernel
theorem dX5_isRow_15 : decode cX5_isRow 15 = .ok (.ifCond .eq 20, 3) := by decide +kernel
theorem dX5_isRow_18 : decode cX5_isRow 18 = .ok (.iload_n 1, 1) := by decide +kernel
theorem dX5_isRow_19 : decode cX5_isRow 19 = .ok (.aload_n 0, 1) := by decide +kernel
theorem dX5_isRow_20 : decode cX5_isRow 20 = .ok (.getfield 31, 3) := by decide +kernel
theorem dX5_isRow_23 : decode cX5_isRow 23 = .ok (.iload_n 3, 1) := by decide +kernel
theorem dX5_isRow_24 : decode cX5_isRow 24 = .ok (.iaload, 1) := by decide +kernel
theorem dX5_isRow_25 : decode cX5_isRow 25 = .ok (.invokestatic 156, 3) := by decide +kernel
theorem dX5_isRow_28 : decode cX5_isRow 28 = .ok (.ifCond .ne 7, 3) := by decide +kernel
theorem dX5_isRow_31 : decode cX5_isRow 31 = .ok (.iconst 1, 1) := by decide +kernel
theorem dX5_isRow_32 : decode cX5_isRow 32 = .ok (.goto 4, 3) := by decide +kernel
theorem dX5_isRow_35 : decode cX5_isRow 35 = .ok (.iconst 0, 1) := by decide +kernel
theorem dX5_isRow_36 : decode cX5_isRow 36 = .ok (.istore_n 2, 1) := by decide +kernel
theorem dX5_isRow_37 : decode cX5_isRow 37 = .ok (.iload_n 1, 1) := by decide +kernel
theorem dX5_isRow_38 : decode cX5_isRow 38 = .ok (.iconst 1, 1) := by decide +kernel
theorem dX5_isRow_39 : decode cX5_isRow 39 = .ok (.aload_n 0, 1) := by decide +kernel
theorem dX5_isRow_40 : decode cX5_isRow 40 = .ok (.getfield 31, 3) := by decide +kernel
theorem dX5_isRow_43 : decode cX5_isRow 43 = .ok (.iload_n 3, 1) := by decide +kernel
theorem dX5_isRow_44 : decode cX5_isRow 44 = .ok (.iaload, 1) := by decide +kernel
theorem dX5_isRow_45 : decode cX5_isRow 45 = .ok (.ishl, 1) := by decide +kernel
theorem dX5_isRow_46 : decode cX5_isRow 46 = .ok (.ior, 1) := by decide +kernel
theorem dX5_isRow_47 : decode cX5_isRow 47 = .ok (.istore_n 1, 1) := by decide +kernel
theorem dX5_isRow_48 : decode cX5_isRow 48 = .ok (.iinc 3 1, 3) := by decide +kernel
theorem dX5_isRow_51 : decode cX5_isRow 51 = .ok (.goto (-45), 3) := by decide +kernel
theorem dX5_isRow_54 : decode cX5_isRow 54 = .ok (.iload_n 2, 1) := by decide +kernel
theorem dX5_isRow_55 : decode cX5_isRow 55 = .ok (.ireturn, 1) := by decide +kernel
theorem dX5_nextRow_0 : decode cX5_nextRow 0 = .ok (.aload_n 0, 1) := by decide +kernel
theorem dX5_nextRow_1 : decode cX5_nextRow 1 = .ok (.getfield 164, 3) := by decide +kernel
theorem dX5_nextRow_4 : decode cX5_nextRow 4 = .ok (.iconst 1, 1) := by decide +kernel
theorem dX5_nextRow_5 : decode cX5_nextRow 5 = .ok (.isub, 1) := by decide +kernel
theorem dX5_nextRow_6 : decode cX5_nextRow 6 = .ok (.istore_n 1, 1) := by decide +kernel
theorem dX5_nextRow_7 : decode cX5_nextRow 7 = .ok (.iload_n 1, 1) := by decide +kernel
theorem dX5_nextRow_8 : decode cX5_nextRow 8 = .ok (.ifCond .lt 41, 3) := by decide +kernel
theorem dX5_nextRow_11 : decode cX5_nextRow 11 = .ok (.aload_n 0, 1) := by decide +kernel
theorem dX5_nextRow_12 : decode cX5_nextRow 12 = .ok (.getfield 31, 3) := by decide +kernel
theorem dX5_nextRow_15 : decode cX5_nextRow 15 = .ok (.iload_n 1, 1) := by decide +kernel
theorem dX5_nextRow_16 : decode cX5_nextRow 16 = .ok (.dup2, 1) := by decide +kernel
theorem dX5_nextRow_17 : decode cX5_nextRow 17 = .ok (.iaload, 1) := by decide +kernel
theorem dX5_nextRow_18 : decode cX5_nextRow 18 = .ok (.iconst 1, 1) := by decide +kernel
theorem dX5_nextRow_19 : decode cX5_nextRow 19 = .ok (.iadd, 1) := by decide +kernel
theorem dX5_nextRow_20 : decode cX5_nextRow 20 = .ok (.iastore, 1) := by decide +kernel
theorem dX5_nextRow_21 : decode cX5_nextRow 21 = .ok (.aload_n 0, 1) := by decide +kernel
theorem dX5_nextRow_22 : decode cX5_nextRow 22 = .ok (.getfield 31, 3) := by decide +kernel
theorem dX5_nextRow_25 : decode cX5_nextRow 25 = .ok (.iload_n 1, 1) := by decide +kernel
theorem dX5_nextRow_26 : decode cX5_nextRow 26 = .ok (.iaload, 1) := by decide +kernel
theorem dX5_nextRow_27 : decode cX5_nextRow 27 = .ok (.aload_n 0, 1) := by decide +kernel
theorem dX5_nextRow_28 : decode cX5_nextRow 28 = .ok (.getfield 72, 3) := by decide +kernel
theorem dX5_nextRow_31 : decode cX5_nextRow 31 = .ok (.if_icmp .ge 5, 3) := by decide +kernel
theorem dX5_nextRow_34 : decode cX5_nextRow 34 = .ok (.iconst 1, 1) := by decide +kernel
theorem dX5_nextRow_35 : decode cX5_nextRow 35 = .ok (.ireturn, 1) := by decide +kernel
theorem dX5_nextRow_36 : decode cX5_nextRow 36 = .ok (.aload_n 0, 1) := by decide +kernel
theorem dX5_nextRow_37 : decode cX5_nextRow 37 = .ok (.getfield 31, 3) := by decide +kernel
theorem dX5_nextRow_40 : decode cX5_nextRow 40 = .ok (.iload_n 1, 1) := by decide +kernel
theorem dX5_nextRow_41 : decode cX5_nextRow 41 = .ok (.iconst 0, 1) := by decide +kernel
theorem dX5_nextRow_42 : decode cX5_nextRow 42 = .ok (.iastore, 1) := by decide +kernel
theorem dX5_nextRow_43 : decode cX5_nextRow 43 = .ok (.iinc 1 (-1), 3) := by decide +kernel
theorem dX5_nextRow_46 : decode cX5_nextRow 46 = .ok (.goto (-39), 3) := by decide +kernel
theorem dX5_nextRow_49 : decode cX5_nextRow 49 = .ok (.iconst 0, 1) := by decide +kernel
theorem dX5_nextRow_50 : decode cX5_nextRow 50 = .ok (.ireturn, 1) := by decide +kernel
theorem dX5_areParted_0 : decode cX5_areParted 0 = .ok (.iconst 0, 1) := by decide +kernel
theorem dX5_areParted_1 : decode cX5_areParted 1 = .ok (.istore_n 1, 1) := by decide +kernel
theorem dX5_areParted_2 : decode cX5_areParted 2 = .ok (.iconst 1, 1) := by decide +kernel
theorem dX5_areParted_3 : decode cX5_areParted 3 = .ok (.istore_n 2, 1) := by decide +kernel
theorem dX5_areParted_4 : decode cX5_areParted 4 = .ok (.iconst 0, 1) := by decide +kernel
theorem dX5_areParted_5 : decode cX5_areParted 5 = .ok (.istore_n 3, 1) := by decide +kernel
theorem dX5_areParted_6 : decode cX5_areParted 6 = .ok (.iload_n 3, 1) := by decide +kernel
theorem dX5_areParted_7 : decode cX5_areParted 7 = .ok (.aload_n 0, 1) := by decide +kernel
theorem dX5_areParted_8 : decode cX5_areParted 8 = .ok (.getfield 64, 3) := by decide +kernel
theorem dX5_areParted_11 : decode cX5_areParted 11 = .ok (.if_icmp .ge 63, 3) := by decide +kernel
theorem dX5_areParted_14 : decode cX5_areParted 14 = .ok (.aload_n 0, 1) := by decide +kernel
theorem dX5_areParted_15 : decode cX5_areParted 15 = .ok (.getfield 208, 3) := by decide +kernel
theorem dX5_areParted_18 : decode cX5_areParted 18 = .ok (.iload_n 3, 1) := by decide +kernel
theorem dX5_areParted_19 : decode cX5_areParted 19 = .ok (.invokestatic 156, 3) := by decide +kernel
theorem dX5_areParted_22 : decode cX5_areParted 22 = .ok (.ifCond .eq 46, 3) := by decide +kernel
theorem dX5_areParted_25 : decode cX5_areParted 25 = .ok (.aload_n 0, 1) := by decide +kernel
theorem dX5_areParted_26 : decode cX5_areParted 26 = .ok (.getfield 40, 3) := by decide +kernel
theorem dX5_areParted_29 : decode cX5_areParted 29 = .ok (.iload_n 3, 1) := by decide +kernel
theorem dX5_areParted_30 : decode cX5_areParted 30 = .ok (.iaload, 1) := by decide +kernel
theorem dX5_areParted_31 : decode cX5_areParted 31 = .ok (.ifCond .lt 37, 3) := by decide +kernel
theorem dX5_areParted_34 : decode cX5_areParted 34 = .ok (.iload_n 2, 1) := by decide +kernel
theorem dX5_areParted_35 : decode cX5_areParted 35 = .ok (.ifCond .eq 20, 3) := by decide +kernel
theorem dX5_areParted_38 : decode cX5_areParted 38 = .ok (.iload_n 1, 1) := by decide +kernel
theorem dX5_areParted_39 : decode cX5_areParted 39 = .ok (.aload_n 0, 1) := by decide +kernel
theorem dX5_areParted_40 : decode cX5_areParted 40 = .ok (.getfield 40, 3) := by decide +kernel
theorem dX5_areParted_43 : decode cX5_areParted 43 = .ok (.iload_n 3, 1) := by decide +kernel
theorem dX5_areParted_44 : decode cX5_areParted 44 = .ok (.iaload, 1) := by decide +kernel
theorem dX5_areParted_45 : decode cX5_areParted 45 = .ok (.invokestatic 156, 3) := by decide +kernel
theorem dX5_areParted_48 : decode cX5_areParted 48 = .ok (.ifCond .ne 7, 3) := by decide +kernel
theorem dX5_areParted_51 : decode cX5_areParted 51 = .ok (.iconst 1, 1) := by decide +kernel
theorem dX5_areParted_52 : decode cX5_areParted 52 = .ok (.goto 4, 3) := by decide +kernel
theorem dX5_areParted_55 : decode cX5_areParted 55 = .ok (.iconst 0, 1) := by decide +kernel
theorem dX5_areParted_56 : decode cX5_areParted 56 = .ok (.istore_n 2, 1) := by decide +kernel
theorem dX5_areParted_57 : decode cX5_areParted 57 = .ok (.iload_n 1, 1) := by decide +kernel
theorem dX5_areParted_58 : decode cX5_areParted 58 = .ok (.iconst 1, 1) := by decide +kernel
theorem dX5_areParted_59 : decode cX5_areParted 59 = .ok (.aload_n 0, 1) := by decide +kernel
theorem dX5_areParted_60 : decode cX5_areParted 60 = .ok (.getfield 40, 3) := by decide +kernel
theorem dX5_areParted_63 : decode cX5_areParted 63 = .ok (.iload_n 3, 1) := by decide +kernel
theorem dX5_areParted_64 : decode cX5_areParted 64 = .ok (.iaload, 1) := by decide +kernel
theorem dX5_areParted_65 : decode cX5_areParted 65 = .ok (.ishl, 1) := by decide +kernel
theorem dX5_areParted_66 : decode cX5_areParted 66 = .ok (.ior, 1) := by decide +kernel
theorem dX5_areParted_67 : decode cX5_areParted 67 = .ok (.istore_n 1, 1) := by decide +kernel
theorem dX5_areParted_68 : decode cX5_areParted 68 = .ok (.iinc 3 1, 3) := by decide +kernel
theorem dX5_areParted_71 : decode cX5_areParted 71 = .ok (.goto (-65), 3) := by decide +kernel
theorem dX5_areParted_74 : decode cX5_areParted 74 = .ok (.iload_n 2, 1) := by decide +kernel
theorem dX5_areParted_75 : decode cX5_areParted 75 = .ok (.ireturn, 1) := by decide +kernel
theorem dX5_takeBest_0 : decode cX5_takeBest 0 = .ok (.aload_n 0, 1) := by decide +kernel
theorem dX5_takeBest_1 : decode cX5_takeBest 1 = .ok (.iload_n 1, 1) := by decide +kernel
theorem dX5_takeBest_2 : decode cX5_takeBest 2 = .ok (.putfield 211, 3) := by decide +kernel
theorem dX5_takeBest_5 : decode cX5_takeBest 5 = .ok (.aload_n 0, 1) := by decide +kernel
theorem dX5_takeBest_6 : decode cX5_takeBest 6 = .ok (.aload_n 0, 1) := by decide +kernel
theorem dX5_takeBest_7 : decode cX5_takeBest 7 = .ok (.getfield 164, 3) := by decide +kernel
theorem dX5_takeBest_10 : decode cX5_takeBest 10 = .ok (.putfield 214, 3) := by decide +kernel
theorem dX5_takeBest_13 : decode cX5_takeBest 13 = .ok (.iconst 0, 1) := by decide +kernel
theorem dX5_takeBest_14 : decode cX5_takeBest 14 = .ok (.istore_n 2, 1) := by decide +kernel
theorem dX5_takeBest_15 : decode cX5_takeBest 15 = .ok (.iload_n 2, 1) := by decide +kernel
theorem dX5_takeBest_16 : decode cX5_takeBest 16 = .ok (.aload_n 0, 1) := by decide +kernel
theorem dX5_takeBest_17 : decode cX5_takeBest 17 = .ok (.getfield 164, 3) := by decide +kernel
theorem dX5_takeBest_20 : decode cX5_takeBest 20 = .ok (.if_icmp .ge 21, 3) := by decide +kernel
theorem dX5_takeBest_23 : decode cX5_takeBest 23 = .ok (.aload_n 0, 1) := by decide +kernel
theorem dX5_takeBest_24 : decode cX5_takeBest 24 = .ok (.getfield 46, 3) := by decide +kernel
theorem dX5_takeBest_27 : decode cX5_takeBest 27 = .ok (.iload_n 2, 1) := by decide +kernel
theorem dX5_takeBest_28 : decode cX5_takeBest 28 = .ok (.aload_n 0, 1) := by decide +kernel
theorem dX5_takeBest_29 : decode cX5_takeBest 29 = .ok (.getfield 31, 3) := by decide +kernel
theorem dX5_takeBest_32 : decode cX5_takeBest 32 = .ok (.iload_n 2, 1) := by decide +kernel
theorem dX5_takeBest_33 : decode cX5_takeBest 33 = .ok (.iaload, 1) := by decide +kernel
theorem dX5_takeBest_34 : decode cX5_takeBest 34 = .ok (.iastore, 1) := by decide +kernel
theorem dX5_takeBest_35 : decode cX5_takeBest 35 = .ok (.iinc 2 1, 3) := by decide +kernel
theorem dX5_takeBest_38 : decode cX5_takeBest 38 = .ok (.goto (-23), 3) := by decide +kernel
theorem dX5_takeBest_41 : decode cX5_takeBest 41 = .ok (.return_, 1) := by decide +kernel
theorem dX5_findBest_0 : decode cX5_findBest 0 = .ok (.aload_n 0, 1) := by decide +kernel
theorem dX5_findBest_1 : decode cX5_findBest 1 = .ok (.invokevirtual 183, 3) := by decide +kernel
theorem dX5_findBest_4 : decode cX5_findBest 4 = .ok (.aload_n 0, 1) := by decide +kernel
theorem dX5_findBest_5 : decode cX5_findBest 5 = .ok (.bipush (-4), 2) := by decide +kernel
theorem dX5_findBest_7 : decode cX5_findBest 7 = .ok (.putfield 214, 3) := by decide +kernel
theorem dX5_findBest_10 : decode cX5_findBest 10 = .ok (.aload_n 0, 1) := by decide +kernel
theorem dX5_findBest_11 : decode cX5_findBest 11 = .ok (.iconst (-1), 1) := by decide +kernel
theorem dX5_findBest_12 : decode cX5_findBest 12 = .ok (.putfield 211, 3) := by decide +kernel
theorem dX5_findBest_15 : decode cX5_findBest 15 = .ok (.iconst 0, 1) := by decide +kernel
theorem dX5_findBest_16 : decode cX5_findBest 16 = .ok (.istore_n 3, 1) := by decide +kernel
theorem dX5_findBest_17 : decode cX5_findBest 17 = .ok (.iload_n 3, 1) := by decide +kernel
theorem dX5_findBest_18 : decode cX5_findBest 18 = .ok (.iload_n 1, 1) := by decide +kernel
theorem dX5_findBest_19 : decode cX5_findBest 19 = .ok (.if_icmp .gt 113, 3) := by decide +kernel
theorem dX5_findBest_22 : decode cX5_findBest 22 = .ok (.iload_n 3, 1) := by decide +kernel
theorem dX5_findBest_23 : decode cX5_findBest 23 = .ok (.aload_n 0, 1) := by decide +kernel
theorem dX5_findBest_24 : decode cX5_findBest 24 = .ok (.getfield 72, 3) := by decide +kernel
theorem dX5_findBest_27 : decode cX5_findBest 27 = .ok (.if_icmp .gt 105, 3) := by decide +kernel
theorem dX5_findBest_30 : decode cX5_findBest 30 = .ok (.aload_n 0, 1) := by decide +kernel
theorem dX5_findBest_31 : decode cX5_findBest 31 = .ok (.iload_n 3, 1) := by decide +kernel
theorem dX5_findBest_32 : decode cX5_findBest 32 = .ok (.putfield 164, 3) := by decide +kernel
theorem dX5_findBest_35 : decode cX5_findBest 35 = .ok (.iconst 0, 1) := by decide +kernel
theorem dX5_findBest_36 : decode cX5_findBest 36 = .ok (.istore 4, 2) := by decide +kernel
theorem dX5_findBest_38 : decode cX5_findBest 38 = .ok (.iload 4, 2) := by decide +kernel
theorem dX5_findBest_40 : decode cX5_findBest 40 = .ok (.iload_n 3, 1) := by decide +kernel
theorem dX5_findBest_41 : decode cX5_findBest 41 = .ok (.if_icmp .ge 17, 3) := by decide +kernel
theorem dX5_findBest_44 : decode cX5_findBest 44 = .ok (.aload_n 0, 1) := by decide +kernel
theorem dX5_findBest_45 : decode cX5_findBest 45 = .ok (.getfield 31, 3) := by decide +kernel
theorem dX5_findBest_48 : decode cX5_findBest 48 = .ok (.iload 4, 2) := by decide +kernel
theorem dX5_findBest_50 : decode cX5_findBest 50 = .ok (.iconst 0, 1) := by decide +kernel
theorem dX5_findBest_51 : decode cX5_findBest 51 = .ok (.iastore, 1) := by decide +kernel
theorem dX5_findBest_52 : decode cX5_findBest 52 = .ok (.iinc 4 1, 3) := by decide +kernel
theorem dX5_findBest_55 : decode cX5_findBest 55 = .ok (.goto (-17), 3) := by decide +kernel
theorem dX5_findBest_58 : decode cX5_findBest 58 = .ok (.iconst 1, 1) := by decide +kernel
theorem dX5_findBest_59 : decode cX5_findBest 59 = .ok (.istore 4, 2) := by decide +kernel
theorem dX5_findBest_61 : decode cX5_findBest 61 = .ok (.iload 4, 2) := by decide +kernel
theorem dX5_findBest_63 : decode cX5_findBest 63 = .ok (.ifCond .eq 63, 3) := by decide +kernel
theorem dX5_findBest_66 : decode cX5_findBest 66 = .ok (.aload_n 0, 1) := by decide +kernel
theorem dX5_findBest_67 : decode cX5_findBest 67 = .ok (.invokevirtual 217, 3) := by decide +kernel
theorem dX5_findBest_70 : decode cX5_findBest 70 = .ok (.ifCond .eq 47, 3) := by decide +kernel
theorem dX5_findBest_73 : decode cX5_findBest 73 = .ok (.aload_n 0, 1) := by decide +kernel
theorem dX5_findBest_74 : decode cX5_findBest 74 = .ok (.invokevirtual 189, 3) := by decide +kernel
theorem dX5_findBest_77 : decode cX5_findBest 77 = .ok (.iload_n 2, 1) := by decide +kernel
theorem dX5_findBest_78 : decode cX5_findBest 78 = .ok (.ifCond .eq 18, 3) := by decide +kernel
theorem dX5_findBest_81 : decode cX5_findBest 81 = .ok (.aload_n 0, 1) := by decide +kernel
theorem dX5_findBest_82 : decode cX5_findBest 82 = .ok (.invokevirtual 220, 3) := by decide +kernel
theorem dX5_findBest_85 : decode cX5_findBest 85 = .ok (.ifCond .eq 7, 3) := by decide +kernel
theorem dX5_findBest_88 : decode cX5_findBest 88 = .ok (.iconst 1, 1) := by decide +kernel
theorem dX5_findBest_89 : decode cX5_findBest 89 = .ok (.goto 11, 3) := by decide +kernel
theorem dX5_findBest_92 : decode cX5_findBest 92 = .ok (.iconst (-1), 1) := by decide +kernel
theorem dX5_findBest_93 : decode cX5_findBest 93 = .ok (.goto 7, 3) := by decide +kernel
theorem dX5_findBest_96 : decode cX5_findBest 96 = .ok (.aload_n 0, 1) := by decide +kernel
theorem dX5_findBest_97 : decode cX5_findBest 97 = .ok (.invokevirtual 202, 3) := by decide +kernel
theorem dX5_findBest_100 : decode cX5_findBest 100 = .ok (.istore 5, 2) := by decide +kernel
theorem dX5_findBest_102 : decode cX5_findBest 102 = .ok (.iload 5, 2) := by decide +kernel
theorem dX5_findBest_104 : decode cX5_findBest 104 = .ok (.aload_n 0, 1) := by decide +kernel
theorem dX5_findBest_105 : decode cX5_findBest 105 = .ok (.getfield 211, 3) := by decide +kernel
theorem dX5_findBest_108 : decode cX5_findBest 108 = .ok (.if_icmp .le 9, 3) := by decide +kernel
theorem dX5_findBest_111 : decode cX5_findBest 111 = .ok (.aload_n 0, 1) := by decide +kernel
theorem dX5_findBest_112 : decode cX5_findBest 112 = .ok (.iload 5, 2) := by decide +kernel
theorem dX5_findBest_114 : decode cX5_findBest 114 = .ok (.invokevirtual 223, 3) := by decide +kernel
theorem dX5_findBest_117 : decode cX5_findBest 117 = .ok (.aload_n 0, 1) := by decide +kernel
theorem dX5_findBest_118 : decode cX5_findBest 118 = .ok (.invokevirtual 227, 3) := by decide +kernel
theorem dX5_findBest_121 : decode cX5_findBest 121 = .ok (.istore 4, 2) := by decide +kernel
theorem dX5_findBest_123 : decode cX5_findBest 123 = .ok (.goto (-62), 3) := by decide +kernel
theorem dX5_findBest_126 : decode cX5_findBest 126 = .ok (.iinc 3 1, 3) := by decide +kernel
theorem dX5_findBest_129 : decode cX5_findBest 129 = .ok (.goto (-112), 3) := by decide +kernel
theorem dX5_findBest_132 : decode cX5_findBest 132 = .ok (.return_, 1) := by decide +kernel
theorem dX5_best_0 : decode cX5_best 0 = .ok (.iload_n 1, 1) := by decide +kernel
theorem dX5_best_1 : decode cX5_best 1 = .ok (.i2l, 1) := by decide +kernel
theorem dX5_best_2 : decode cX5_best 2 = .ok (.lconst 0, 1) := by decide +kernel
theorem dX5_best_3 : decode cX5_best 3 = .ok (.ldc2_w 230, 3) := by decide +kernel
theorem dX5_best_6 : decode cX5_best 6 = .ok (.invokestatic 68, 3) := by decide +kernel
theorem dX5_best_9 : decode cX5_best 9 = .ok (.ifCond .eq 17, 3) := by decide +kernel
theorem dX5_best_12 : decode cX5_best 12 = .ok (.iload_n 2, 1) := by decide +kernel
theorem dX5_best_13 : decode cX5_best 13 = .ok (.i2l, 1) := by decide +kernel
theorem dX5_best_14 : decode cX5_best 14 = .ok (.ldc2_w 232, 3) := by decide +kernel
theorem dX5_best_17 : decode cX5_best 17 = .ok (.ldc2_w 91, 3) := by decide +kernel
theorem dX5_best_20 : decode cX5_best 20 = .ok (.invokestatic 68, 3) := by decide +kernel
theorem dX5_best_23 : decode cX5_best 23 = .ok (.ifCond .ne 5, 3) := by decide +kernel
theorem dX5_best_26 : decode cX5_best 26 = .ok (.iconst (-1), 1) := by decide +kernel
theorem dX5_best_27 : decode cX5_best 27 = .ok (.ireturn, 1) := by decide +kernel
theorem dX5_best_28 : decode cX5_best 28 = .ok (.aload_n 0, 1) := by decide +kernel
theorem dX5_best_29 : decode cX5_best 29 = .ok (.iload_n 1, 1) := by decide +kernel
theorem dX5_best_30 : decode cX5_best 30 = .ok (.iconst 0, 1) := by decide +kernel
theorem dX5_best_31 : decode cX5_best 31 = .ok (.invokevirtual 234, 3) := by decide +kernel
theorem dX5_best_34 : decode cX5_best 34 = .ok (.iload_n 2, 1) := by decide +kernel
theorem dX5_best_35 : decode cX5_best 35 = .ok (.bipush (-2), 2) := by decide +kernel
theorem dX5_best_37 : decode cX5_best 37 = .ok (.if_icmp .ne 10, 3) := by decide +kernel
theorem dX5_best_40 : decode cX5_best 40 = .ok (.aload_n 0, 1) := by decide +kernel
theorem dX5_best_41 : decode cX5_best 41 = .ok (.getfield 211, 3) := by decide +kernel
theorem dX5_best_44 : decode cX5_best 44 = .ok (.goto 34, 3) := by decide +kernel
theorem dX5_best_47 : decode cX5_best 47 = .ok (.iload_n 2, 1) := by decide +kernel
theorem dX5_best_48 : decode cX5_best 48 = .ok (.iconst (-1), 1) := by decide +kernel
theorem dX5_best_49 : decode cX5_best 49 = .ok (.if_icmp .ne 10, 3) := by decide +kernel
theorem dX5_best_52 : decode cX5_best 52 = .ok (.aload_n 0, 1) := by decide +kernel
theorem dX5_best_53 : decode cX5_best 53 = .ok (.getfield 214, 3) := by decide +kernel
theorem dX5_best_56 : decode cX5_best 56 = .ok (.goto 22, 3) := by decide +kernel
theorem dX5_best_59 : decode cX5_best 59 = .ok (.iload_n 2, 1) := by decide +kernel
theorem dX5_best_60 : decode cX5_best 60 = .ok (.aload_n 0, 1) := by decide +kernel
theorem dX5_best_61 : decode cX5_best 61 = .ok (.getfield 214, 3) := by decide +kernel
theorem dX5_best_64 : decode cX5_best 64 = .ok (.if_icmp .ge 12, 3) := by decide +kernel
theorem dX5_best_67 : decode cX5_best 67 = .ok (.aload_n 0, 1) := by decide +kernel
theorem dX5_best_68 : decode cX5_best 68 = .ok (.getfield 46, 3) := by decide +kernel
theorem dX5_best_71 : decode cX5_best 71 = .ok (.iload_n 2, 1) := by decide +kernel
theorem dX5_best_72 : decode cX5_best 72 = .ok (.iaload, 1) := by decide +kernel
theorem dX5_best_73 : decode cX5_best 73 = .ok (.goto 5, 3) := by decide +kernel
theorem dX5_best_76 : decode cX5_best 76 = .ok (.bipush (-4), 2) := by decide +kernel
theorem dX5_best_78 : decode cX5_best 78 = .ok (.ireturn, 1) := by decide +kernel
theorem dX5_parted_0 : decode cX5_parted 0 = .ok (.iload_n 1, 1) := by decide +kernel
theorem dX5_parted_1 : decode cX5_parted 1 = .ok (.i2l, 1) := by decide +kernel
theorem dX5_parted_2 : decode cX5_parted 2 = .ok (.lconst 0, 1) := by decide +kernel
theorem dX5_parted_3 : decode cX5_parted 3 = .ok (.iconst 1, 1) := by decide +kernel
theorem dX5_parted_4 : decode cX5_parted 4 = .ok (.aload_n 0, 1) := by decide +kernel
theorem dX5_parted_5 : decode cX5_parted 5 = .ok (.getfield 64, 3) := by decide +kernel
theorem dX5_parted_8 : decode cX5_parted 8 = .ok (.ishl, 1) := by decide +kernel
theorem dX5_parted_9 : decode cX5_parted 9 = .ok (.iconst 1, 1) := by decide +kernel
theorem dX5_parted_10 : decode cX5_parted 10 = .ok (.isub, 1) := by decide +kernel
theorem dX5_parted_11 : decode cX5_parted 11 = .ok (.i2l, 1) := by decide +kernel
theorem dX5_parted_12 : decode cX5_parted 12 = .ok (.invokestatic 68, 3) := by decide +kernel
theorem dX5_parted_15 : decode cX5_parted 15 = .ok (.ifCond .eq 17, 3) := by decide +kernel
theorem dX5_parted_18 : decode cX5_parted 18 = .ok (.iload_n 2, 1) := by decide +kernel
theorem dX5_parted_19 : decode cX5_parted 19 = .ok (.i2l, 1) := by decide +kernel
theorem dX5_parted_20 : decode cX5_parted 20 = .ok (.ldc2_w 238, 3) := by decide +kernel
theorem dX5_parted_23 : decode cX5_parted 23 = .ok (.ldc2_w 91, 3) := by decide +kernel
theorem dX5_parted_26 : decode cX5_parted 26 = .ok (.invokestatic 68, 3) := by decide +kernel
theorem dX5_parted_29 : decode cX5_parted 29 = .ok (.ifCond .ne 5, 3) := by decide +kernel
theorem dX5_parted_32 : decode cX5_parted 32 = .ok (.iconst (-1), 1) := by decide +kernel
theorem dX5_parted_33 : decode cX5_parted 33 = .ok (.ireturn, 1) := by decide +kernel
theorem dX5_parted_34 : decode cX5_parted 34 = .ok (.aload_n 0, 1) := by decide +kernel
theorem dX5_parted_35 : decode cX5_parted 35 = .ok (.iload_n 1, 1) := by decide +kernel
theorem dX5_parted_36 : decode cX5_parted 36 = .ok (.putfield 208, 3) := by decide +kernel
theorem dX5_parted_39 : decode cX5_parted 39 = .ok (.aload_n 0, 1) := by decide +kernel
theorem dX5_parted_40 : decode cX5_parted 40 = .ok (.iconst 4, 1) := by decide +kernel
theorem dX5_parted_41 : decode cX5_parted 41 = .ok (.iconst 1, 1) := by decide +kernel
theorem dX5_parted_42 : decode cX5_parted 42 = .ok (.invokevirtual 234, 3) := by decide +kernel
theorem dX5_parted_45 : decode cX5_parted 45 = .ok (.aload_n 0, 1) := by decide +kernel
theorem dX5_parted_46 : decode cX5_parted 46 = .ok (.getfield 214, 3) := by decide +kernel
theorem dX5_parted_49 : decode cX5_parted 49 = .ok (.ifCond .ge 8, 3) := by decide +kernel
theorem dX5_parted_52 : decode cX5_parted 52 = .ok (.bipush (-4), 2) := by decide +kernel
theorem dX5_parted_54 : decode cX5_parted 54 = .ok (.goto 33, 3) := by decide +kernel
theorem dX5_parted_57 : decode cX5_parted 57 = .ok (.iload_n 2, 1) := by decide +kernel
theorem dX5_parted_58 : decode cX5_parted 58 = .ok (.ifCond .ge 10, 3) := by decide +kernel
theorem dX5_parted_61 : decode cX5_parted 61 = .ok (.aload_n 0, 1) := by decide +kernel
theorem dX5_parted_62 : decode cX5_parted 62 = .ok (.getfield 214, 3) := by decide +kernel
theorem dX5_parted_65 : decode cX5_parted 65 = .ok (.goto 22, 3) := by decide +kernel
theorem dX5_parted_68 : decode cX5_parted 68 = .ok (.iload_n 2, 1) := by decide +kernel
theorem dX5_parted_69 : decode cX5_parted 69 = .ok (.aload_n 0, 1) := by decide +kernel
theorem dX5_parted_70 : decode cX5_parted 70 = .ok (.getfield 214, 3) := by decide +kernel
theorem dX5_parted_73 : decode cX5_parted 73 = .ok (.if_icmp .ge 12, 3) := by decide +kernel
theorem dX5_parted_76 : decode cX5_parted 76 = .ok (.aload_n 0, 1) := by decide +kernel
theorem dX5_parted_77 : decode cX5_parted 77 = .ok (.getfield 46, 3) := by decide +kernel
theorem dX5_parted_80 : decode cX5_parted 80 = .ok (.iload_n 2, 1) := by decide +kernel
theorem dX5_parted_81 : decode cX5_parted 81 = .ok (.iaload, 1) := by decide +kernel
theorem dX5_parted_82 : decode cX5_parted 82 = .ok (.goto 5, 3) := by decide +kernel
theorem dX5_parted_85 : decode cX5_parted 85 = .ok (.bipush (-4), 2) := by decide +kernel
theorem dX5_parted_87 : decode cX5_parted 87 = .ok (.ireturn, 1) := by decide +kernel
theorem dX5_season_0 : decode cX5_season 0 = .ok (.iload_n 1, 1) := by decide +kernel
theorem dX5_season_1 : decode cX5_season 1 = .ok (.i2l, 1) := by decide +kernel
theorem dX5_season_2 : decode cX5_season 2 = .ok (.lconst 1, 1) := by decide +kernel
theorem dX5_season_3 : decode cX5_season 3 = .ok (.ldc2_w 240, 3) := by decide +kernel
theorem dX5_season_6 : decode cX5_season 6 = .ok (.invokestatic 68, 3) := by decide +kernel
theorem dX5_season_9 : decode cX5_season 9 = .ok (.ifCond .eq 15, 3) := by decide +kernel
theorem dX5_season_12 : decode cX5_season 12 = .ok (.iload_n 2, 1) := by decide +kernel
theorem dX5_season_13 : decode cX5_season 13 = .ok (.i2l, 1) := by decide +kernel
theorem dX5_season_14 : decode cX5_season 14 = .ok (.lconst 0, 1) := by decide +kernel
theorem dX5_season_15 : decode cX5_season 15 = .ok (.ldc2_w 91, 3) := by decide +kernel
theorem dX5_season_18 : decode cX5_season 18 = .ok (.invokestatic 68, 3) := by decide +kernel
theorem dX5_season_21 : decode cX5_season 21 = .ok (.ifCond .ne 5, 3) := by decide +kernel
theorem dX5_season_24 : decode cX5_season 24 = .ok (.iconst (-1), 1) := by decide +kernel
theorem dX5_season_25 : decode cX5_season 25 = .ok (.ireturn, 1) := by decide +kernel
theorem dX5_season_26 : decode cX5_season 26 = .ok (.iconst 0, 1) := by decide +kernel
theorem dX5_season_27 : decode cX5_season 27 = .ok (.istore_n 3, 1) := by decide +kernel
theorem dX5_season_28 : decode cX5_season 28 = .ok (.iconst 0, 1) := by decide +kernel
theorem dX5_season_29 : decode cX5_season 29 = .ok (.istore 4, 2) := by decide +kernel
theorem dX5_season_31 : decode cX5_season 31 = .ok (.iload 4, 2) := by decide +kernel
theorem dX5_season_33 : decode cX5_season 33 = .ok (.iload_n 1, 1) := by decide +kernel
theorem dX5_season_34 : decode cX5_season 34 = .ok (.if_icmp .ge 70, 3) := by decide +kernel
theorem dX5_season_37 : decode cX5_season 37 = .ok (.aload_n 0, 1) := by decide +kernel
theorem dX5_season_38 : decode cX5_season 38 = .ok (.iload_n 2, 1) := by decide +kernel
theorem dX5_season_39 : decode cX5_season 39 = .ok (.iconst 0, 1) := by decide +kernel
theorem dX5_season_40 : decode cX5_season 40 = .ok (.invokevirtual 234, 3) := by decide +kernel
theorem dX5_season_43 : decode cX5_season 43 = .ok (.iload_n 3, 1) := by decide +kernel
theorem dX5_season_44 : decode cX5_season 44 = .ok (.aload_n 0, 1) := by decide +kernel
theorem dX5_season_45 : decode cX5_season 45 = .ok (.getfield 211, 3) := by decide +kernel
theorem dX5_season_48 : decode cX5_season 48 = .ok (.iadd, 1) := by decide +kernel
theorem dX5_season_49 : decode cX5_season 49 = .ok (.istore_n 3, 1) := by decide +kernel
theorem dX5_season_50 : decode cX5_season 50 = .ok (.aload_n 0, 1) := by decide +kernel
theorem dX5_season_51 : decode cX5_season 51 = .ok (.aload_n 0, 1) := by decide +kernel
theorem dX5_season_52 : decode cX5_season 52 = .ok (.getfield 214, 3) := by decide +kernel
theorem dX5_season_55 : decode cX5_season 55 = .ok (.putfield 164, 3) := by decide +kernel
theorem dX5_season_58 : decode cX5_season 58 = .ok (.iconst 0, 1) := by decide +kernel
theorem dX5_season_59 : decode cX5_season 59 = .ok (.istore 5, 2) := by decide +kernel
theorem dX5_season_61 : decode cX5_season 61 = .ok (.iload 5, 2) := by decide +kernel
theorem dX5_season_63 : decode cX5_season 63 = .ok (.aload_n 0, 1) := by decide +kernel
theorem dX5_season_64 : decode cX5_season 64 = .ok (.getfield 214, 3) := by decide +kernel
theorem dX5_season_67 : decode cX5_season 67 = .ok (.if_icmp .ge 23, 3) := by decide +kernel
theorem dX5_season_70 : decode cX5_season 70 = .ok (.aload_n 0, 1) := by decide +kernel
theorem dX5_season_71 : decode cX5_season 71 = .ok (.getfield 31, 3) := by decide +kernel
theorem dX5_season_74 : decode cX5_season 74 = .ok (.iload 5, 2) := by decide +kernel
theorem dX5_season_76 : decode cX5_season 76 = .ok (.aload_n 0, 1) := by decide +kernel
theorem dX5_season_77 : decode cX5_season 77 = .ok (.getfield 46, 3) := by decide +kernel
theorem dX5_season_80 : decode cX5_season 80 = .ok (.iload 5, 2) := by decide +kernel
theorem dX5_season_82 : decode cX5_season 82 = .ok (.iaload, 1) := by decide +kernel
theorem dX5_season_83 : decode cX5_season 83 = .ok (.iastore, 1) := by decide +kernel
theorem dX5_season_84 : decode cX5_season 84 = .ok (.iinc 5 1, 3) := by decide +kernel
theorem dX5_season_87 : decode cX5_season 87 = .ok (.goto (-26), 3) := by decide +kernel
theorem dX5_season_90 : decode cX5_season 90 = .ok (.aload_n 0, 1) := by decide +kernel
theorem dX5_season_91 : decode cX5_season 91 = .ok (.invokevirtual 189, 3) := by decide +kernel
theorem dX5_season_94 : decode cX5_season 94 = .ok (.aload_n 0, 1) := by decide +kernel
theorem dX5_season_95 : decode cX5_season 95 = .ok (.invokevirtual 205, 3) := by decide +kernel
theorem dX5_season_98 : decode cX5_season 98 = .ok (.iinc 4 1, 3) := by decide +kernel
theorem dX5_season_101 : decode cX5_season 101 = .ok (.goto (-70), 3) := by decide +kernel
theorem dX5_season_104 : decode cX5_season 104 = .ok (.iload_n 3, 1) := by decide +kernel
theorem dX5_season_105 : decode cX5_season 105 = .ok (.ireturn, 1) := by decide +kernel
theorem dX5_fits_0 : decode cX5_fits 0 = .ok (.iload_n 1, 1) := by decide +kernel
theorem dX5_fits_1 : decode cX5_fits 1 = .ok (.i2l, 1) := by decide +kernel
theorem dX5_fits_2 : decode cX5_fits 2 = .ok (.lconst 0, 1) := by decide +kernel
theorem dX5_fits_3 : decode cX5_fits 3 = .ok (.aload_n 0, 1) := by decide +kernel
theorem dX5_fits_4 : decode cX5_fits 4 = .ok (.getfield 102, 3) := by decide +kernel
theorem dX5_fits_7 : decode cX5_fits 7 = .ok (.i2l, 1) := by decide +kernel
theorem dX5_fits_8 : decode cX5_fits 8 = .ok (.invokestatic 68, 3) := by decide +kernel
theorem dX5_fits_11 : decode cX5_fits 11 = .ok (.ifCond .ne 7, 3) := by decide +kernel
theorem dX5_fits_14 : decode cX5_fits 14 = .ok (.ldc2_w 238, 3) := by decide +kernel
theorem dX5_fits_17 : decode cX5_fits 17 = .ok (.lreturn, 1) := by decide +kernel
theorem dX5_fits_18 : decode cX5_fits 18 = .ok (.aload_n 0, 1) := by decide +kernel
theorem dX5_fits_19 : decode cX5_fits 19 = .ok (.invokevirtual 183, 3) := by decide +kernel
theorem dX5_fits_22 : decode cX5_fits 22 = .ok (.aload_n 0, 1) := by decide +kernel
theorem dX5_fits_23 : decode cX5_fits 23 = .ok (.invokevirtual 186, 3) := by decide +kernel
theorem dX5_fits_26 : decode cX5_fits 26 = .ok (.lconst 0, 1) := by decide +kernel
theorem dX5_fits_27 : decode cX5_fits 27 = .ok (.lstore_n 2, 1) := by decide +kernel
theorem dX5_fits_28 : decode cX5_fits 28 = .ok (.iconst 1, 1) := by decide +kernel
theorem dX5_fits_29 : decode cX5_fits 29 = .ok (.istore 4, 2) := by decide +kernel
theorem dX5_fits_31 : decode cX5_fits 31 = .ok (.iload 4, 2) := by decide +kernel
theorem dX5_fits_33 : decode cX5_fits 33 = .ok (.bipush 60, 2) := by decide +kernel
theorem dX5_fits_35 : decode cX5_fits 35 = .ok (.if_icmp .gt 62, 3) := by decide +kernel
theorem dX5_fits_38 : decode cX5_fits 38 = .ok (.iconst 0, 1) := by decide +kernel
theorem dX5_fits_39 : decode cX5_fits 39 = .ok (.istore 5, 2) := by decide +kernel
theorem dX5_fits_41 : decode cX5_fits 41 = .ok (.iload 5, 2) := by decide +kernel
theorem dX5_fits_43 : decode cX5_fits 43 = .ok (.aload_n 0, 1) := by decide +kernel
theorem dX5_fits_44 : decode cX5_fits 44 = .ok (.getfield 164, 3) := by decide +kernel
theorem dX5_fits_47 : decode cX5_fits 47 = .ok (.if_icmp .ge 25, 3) := by decide +kernel
theorem dX5_fits_50 : decode cX5_fits 50 = .ok (.aload_n 0, 1) := by decide +kernel
theorem dX5_fits_51 : decode cX5_fits 51 = .ok (.aload_n 0, 1) := by decide +kernel
theorem dX5_fits_52 : decode cX5_fits 52 = .ok (.getfield 31, 3) := by decide +kernel
theorem dX5_fits_55 : decode cX5_fits 55 = .ok (.iload 5, 2) := by decide +kernel
theorem dX5_fits_57 : decode cX5_fits 57 = .ok (.iaload, 1) := by decide +kernel
theorem dX5_fits_58 : decode cX5_fits 58 = .ok (.iload 4, 2) := by decide +kernel
theorem dX5_fits_60 : decode cX5_fits 60 = .ok (.invokevirtual 173, 3) := by decide +kernel
theorem dX5_fits_63 : decode cX5_fits 63 = .ok (.ifCond .eq 9, 3) := by decide +kernel
theorem dX5_fits_66 : decode cX5_fits 66 = .ok (.iinc 5 1, 3) := by decide +kernel
theorem dX5_fits_69 : decode cX5_fits 69 = .ok (.goto (-28), 3) := by decide +kernel
theorem dX5_fits_72 : decode cX5_fits 72 = .ok (.lload_n 2, 1) := by decide +kernel
theorem dX5_fits_73 : decode cX5_fits 73 = .ok (.iload 5, 2) := by decide +kernel
theorem dX5_fits_75 : decode cX5_fits 75 = .ok (.iload_n 1, 1) := by decide +kernel
theorem dX5_fits_76 : decode cX5_fits 76 = .ok (.if_icmp .ne 12, 3) := by decide +kernel
theorem dX5_fits_79 : decode cX5_fits 79 = .ok (.lconst 1, 1) := by decide +kernel
theorem dX5_fits_80 : decode cX5_fits 80 = .ok (.iload 4, 2) := by decide +kernel
theorem dX5_fits_82 : decode cX5_fits 82 = .ok (.iconst 1, 1) := by decide +kernel
theorem dX5_fits_83 : decode cX5_fits 83 = .ok (.isub, 1) := by decide +kernel
theorem dX5_fits_84 : decode cX5_fits 84 = .ok (.lshl, 1) := by decide +kernel
theorem dX5_fits_85 : decode cX5_fits 85 = .ok (.goto 4, 3) := by decide +kernel
theorem dX5_fits_88 : decode cX5_fits 88 = .ok (.lconst 0, 1) := by decide +kernel
theorem dX5_fits_89 : decode cX5_fits 89 = .ok (.lor, 1) := by decide +kernel
theorem dX5_fits_90 : decode cX5_fits 90 = .ok (.lstore_n 2, 1) := by decide +kernel
theorem dX5_fits_91 : decode cX5_fits 91 = .ok (.iinc 4 1, 3) := by decide +kernel
theorem dX5_fits_94 : decode cX5_fits 94 = .ok (.goto (-63), 3) := by decide +kernel
theorem dX5_fits_97 : decode cX5_fits 97 = .ok (.lload_n 2, 1) := by decide +kernel
theorem dX5_fits_98 : decode cX5_fits 98 = .ok (.lreturn, 1) := by decide +kernel
theorem dX5_shares_0 : decode cX5_shares 0 = .ok (.iload_n 1, 1) := by decide +kernel
theorem dX5_shares_1 : decode cX5_shares 1 = .ok (.i2l, 1) := by decide +kernel
theorem dX5_shares_2 : decode cX5_shares 2 = .ok (.lconst 1, 1) := by decide +kernel
theorem dX5_shares_3 : decode cX5_shares 3 = .ok (.ldc2_w 77, 3) := by decide +kernel
theorem dX5_shares_6 : decode cX5_shares 6 = .ok (.invokestatic 68, 3) := by decide +kernel
theorem dX5_shares_9 : decode cX5_shares 9 = .ok (.ifCond .eq 46, 3) := by decide +kernel
theorem dX5_shares_12 : decode cX5_shares 12 = .ok (.iload_n 2, 1) := by decide +kernel
theorem dX5_shares_13 : decode cX5_shares 13 = .ok (.i2l, 1) := by decide +kernel
theorem dX5_shares_14 : decode cX5_shares 14 = .ok (.lconst 1, 1) := by decide +kernel
theorem dX5_shares_15 : decode cX5_shares 15 = .ok (.ldc2_w 242, 3) := by decide +kernel
theorem dX5_shares_18 : decode cX5_shares 18 = .ok (.invokestatic 68, 3) := by decide +kernel
theorem dX5_shares_21 : decode cX5_shares 21 = .ok (.ifCond .eq 34, 3) := by decide +kernel
theorem dX5_shares_24 : decode cX5_shares 24 = .ok (.iload_n 3, 1) := by decide +kernel
theorem dX5_shares_25 : decode cX5_shares 25 = .ok (.i2l, 1) := by decide +kernel
theorem dX5_shares_26 : decode cX5_shares 26 = .ok (.lconst 1, 1) := by decide +kernel
theorem dX5_shares_27 : decode cX5_shares 27 = .ok (.ldc2_w 244, 3) := by decide +kernel
theorem dX5_shares_30 : decode cX5_shares 30 = .ok (.invokestatic 68, 3) := by decide +kernel
theorem dX5_shares_33 : decode cX5_shares 33 = .ok (.ifCond .eq 22, 3) := by decide +kernel
theorem dX5_shares_36 : decode cX5_shares 36 = .ok (.iload 4, 2) := by decide +kernel
theorem dX5_shares_38 : decode cX5_shares 38 = .ok (.i2l, 1) := by decide +kernel
theorem dX5_shares_39 : decode cX5_shares 39 = .ok (.lconst 1, 1) := by decide +kernel
theorem dX5_shares_40 : decode cX5_shares 40 = .ok (.ldc2_w 244, 3) := by decide +kernel
theorem dX5_shares_43 : decode cX5_shares 43 = .ok (.invokestatic 68, 3) := by decide +kernel
theorem dX5_shares_46 : decode cX5_shares 46 = .ok (.ifCond .eq 9, 3) := by decide +kernel
theorem dX5_shares_49 : decode cX5_shares 49 = .ok (.iload_n 3, 1) := by decide +kernel
theorem dX5_shares_50 : decode cX5_shares 50 = .ok (.iload 4, 2) := by decide +kernel
theorem dX5_shares_52 : decode cX5_shares 52 = .ok (.if_icmp .ne 5, 3) := by decide +kernel
theorem dX5_shares_55 : decode cX5_shares 55 = .ok (.iconst (-1), 1) := by decide +kernel
theorem dX5_shares_56 : decode cX5_shares 56 = .ok (.ireturn, 1) := by decide +kernel
theorem dX5_shares_57 : decode cX5_shares 57 = .ok (.iload_n 2, 1) := by decide +kernel
theorem dX5_shares_58 : decode cX5_shares 58 = .ok (.iload_n 1, 1) := by decide +kernel
theorem dX5_shares_59 : decode cX5_shares 59 = .ok (.iload 4, 2) := by decide +kernel
theorem dX5_shares_61 : decode cX5_shares 61 = .ok (.imul, 1) := by decide +kernel
theorem dX5_shares_62 : decode cX5_shares 62 = .ok (.isub, 1) := by decide +kernel
theorem dX5_shares_63 : decode cX5_shares 63 = .ok (.istore 5, 2) := by decide +kernel
theorem dX5_shares_65 : decode cX5_shares 65 = .ok (.iload_n 3, 1) := by decide +kernel
theorem dX5_shares_66 : decode cX5_shares 66 = .ok (.iload 4, 2) := by decide +kernel
theorem dX5_shares_68 : decode cX5_shares 68 = .ok (.isub, 1) := by decide +kernel
theorem dX5_shares_69 : decode cX5_shares 69 = .ok (.istore 6, 2) := by decide +kernel
theorem dX5_shares_71 : decode cX5_shares 71 = .ok (.iload 5, 2) := by decide +kernel
theorem dX5_shares_73 : decode cX5_shares 73 = .ok (.iload 6, 2) := by decide +kernel
theorem dX5_shares_75 : decode cX5_shares 75 = .ok (.irem, 1) := by decide +kernel
theorem dX5_shares_76 : decode cX5_shares 76 = .ok (.ifCond .ne 18, 3) := by decide +kernel
theorem dX5_shares_79 : decode cX5_shares 79 = .ok (.iload 5, 2) := by decide +kernel
theorem dX5_shares_81 : decode cX5_shares 81 = .ok (.iload 6, 2) := by decide +kernel
theorem dX5_shares_83 : decode cX5_shares 83 = .ok (.idiv, 1) := by decide +kernel
theorem dX5_shares_84 : decode cX5_shares 84 = .ok (.i2l, 1) := by decide +kernel
theorem dX5_shares_85 : decode cX5_shares 85 = .ok (.lconst 0, 1) := by decide +kernel
theorem dX5_shares_86 : decode cX5_shares 86 = .ok (.iload_n 1, 1) := by decide +kernel
theorem dX5_shares_87 : decode cX5_shares 87 = .ok (.i2l, 1) := by decide +kernel
theorem dX5_shares_88 : decode cX5_shares 88 = .ok (.invokestatic 68, 3) := by decide +kernel
theorem dX5_shares_91 : decode cX5_shares 91 = .ok (.ifCond .ne 8, 3) := by decide +kernel
theorem dX5_shares_94 : decode cX5_shares 94 = .ok (.bipush (-4), 2) := by decide +kernel
theorem dX5_shares_96 : decode cX5_shares 96 = .ok (.goto 8, 3) := by decide +kernel
theorem dX5_shares_99 : decode cX5_shares 99 = .ok (.iload 5, 2) := by decide +kernel
theorem dX5_shares_101 : decode cX5_shares 101 = .ok (.iload 6, 2) := by decide +kernel
theorem dX5_shares_103 : decode cX5_shares 103 = .ok (.idiv, 1) := by decide +kernel
theorem dX5_shares_104 : decode cX5_shares 104 = .ok (.ireturn, 1) := by decide +kernel
theorem dX5_carried_0 : decode cX5_carried 0 = .ok (.iload_n 1, 1) := by decide +kernel
theorem dX5_carried_1 : decode cX5_carried 1 = .ok (.bipush 18, 2) := by decide +kernel
theorem dX5_carried_3 : decode cX5_carried 3 = .ok (.if_icmp .ge 137, 3) := by decide +kernel
theorem dX5_carried_6 : decode cX5_carried 6 = .ok (.iload_n 1, 1) := by decide +kernel
theorem dX5_carried_7 : decode cX5_carried 7 = .ok (.bipush 6, 2) := by decide +kernel
theorem dX5_carried_9 : decode cX5_carried 9 = .ok (.irem, 1) := by decide +kernel
theorem dX5_carried_10 : decode cX5_carried 10 = .ok (.istore 4, 2) := by decide +kernel
theorem dX5_carried_12 : decode cX5_carried 12 = .ok (.iload_n 1, 1) := by decide +kernel
theorem dX5_carried_13 : decode cX5_carried 13 = .ok (.bipush 6, 2) := by decide +kernel
theorem dX5_carried_15 : decode cX5_carried 15 = .ok (.idiv, 1) := by decide +kernel
theorem dX5_carried_16 : decode cX5_carried 16 = .ok (.istore 5, 2) := by decide +kernel
theorem dX5_carried_18 : decode cX5_carried 18 = .ok (.aload_n 0, 1) := by decide +kernel
theorem dX5_carried_19 : decode cX5_carried 19 = .ok (.getfield 7, 3) := by decide +kernel
theorem dX5_carried_22 : decode cX5_carried 22 = .ok (.iload 4, 2) := by decide +kernel
theorem dX5_carried_24 : decode cX5_carried 24 = .ok (.iload_n 3, 1) := by decide +kernel
theorem dX5_carried_25 : decode cX5_carried 25 = .ok (.ifCond .eq 12, 3) := by decide +kernel
theorem dX5_carried_28 : decode cX5_carried 28 = .ok (.iload 5, 2) := by decide +kernel
theorem dX5_carried_30 : decode cX5_carried 30 = .ok (.ifCond .ne 7, 3) := by decide +kernel
theorem dX5_carried_33 : decode cX5_carried 33 = .ok (.iload_n 2, 1) := by decide +kernel
theorem dX5_carried_34 : decode cX5_carried 34 = .ok (.goto 10, 3) := by decide +kernel
theorem dX5_carried_37 : decode cX5_carried 37 = .ok (.aload_n 0, 1) := by decide +kernel
theorem dX5_carried_38 : decode cX5_carried 38 = .ok (.getfield 7, 3) := by decide +kernel
theorem dX5_carried_41 : decode cX5_carried 41 = .ok (.iload 4, 2) := by decide +kernel
theorem dX5_carried_43 : decode cX5_carried 43 = .ok (.iaload, 1) := by decide +kernel
theorem dX5_carried_44 : decode cX5_carried 44 = .ok (.iastore, 1) := by decide +kernel
theorem dX5_carried_45 : decode cX5_carried 45 = .ok (.aload_n 0, 1) := by decide +kernel
theorem dX5_carried_46 : decode cX5_carried 46 = .ok (.getfield 13, 3) := by decide +kernel
theorem dX5_carried_49 : decode cX5_carried 49 = .ok (.iload 4, 2) := by decide +kernel
theorem dX5_carried_51 : decode cX5_carried 51 = .ok (.iload_n 3, 1) := by decide +kernel
theorem dX5_carried_52 : decode cX5_carried 52 = .ok (.ifCond .eq 13, 3) := by decide +kernel
theorem dX5_carried_55 : decode cX5_carried 55 = .ok (.iload 5, 2) := by decide +kernel
theorem dX5_carried_57 : decode cX5_carried 57 = .ok (.iconst 1, 1) := by decide +kernel
theorem dX5_carried_58 : decode cX5_carried 58 = .ok (.if_icmp .ne 7, 3) := by decide +kernel
theorem dX5_carried_61 : decode cX5_carried 61 = .ok (.iload_n 2, 1) := by decide +kernel
theorem dX5_carried_62 : decode cX5_carried 62 = .ok (.goto 10, 3) := by decide +kernel
theorem dX5_carried_65 : decode cX5_carried 65 = .ok (.aload_n 0, 1) := by decide +kernel
theorem dX5_carried_66 : decode cX5_carried 66 = .ok (.getfield 13, 3) := by decide +kernel
theorem dX5_carried_69 : decode cX5_carried 69 = .ok (.iload 4, 2) := by decide +kernel
theorem dX5_carried_71 : decode cX5_carried 71 = .ok (.iaload, 1) := by decide +kernel
theorem dX5_carried_72 : decode cX5_carried 72 = .ok (.iastore, 1) := by decide +kernel
theorem dX5_carried_73 : decode cX5_carried 73 = .ok (.aload_n 0, 1) := by decide +kernel
theorem dX5_carried_74 : decode cX5_carried 74 = .ok (.getfield 16, 3) := by decide +kernel
theorem dX5_carried_77 : decode cX5_carried 77 = .ok (.iload 4, 2) := by decide +kernel
theorem dX5_carried_79 : decode cX5_carried 79 = .ok (.iload_n 3, 1) := by decide +kernel
theorem dX5_carried_80 : decode cX5_carried 80 = .ok (.ifCond .eq 13, 3) := by decide +kernel
theorem dX5_carried_83 : decode cX5_carried 83 = .ok (.iload 5, 2) := by decide +kernel
theorem dX5_carried_85 : decode cX5_carried 85 = .ok (.iconst 2, 1) := by decide +kernel
theorem dX5_carried_86 : decode cX5_carried 86 = .ok (.if_icmp .ne 7, 3) := by decide +kernel
theorem dX5_carried_89 : decode cX5_carried 89 = .ok (.iload_n 2, 1) := by decide +kernel
theorem dX5_carried_90 : decode cX5_carried 90 = .ok (.goto 10, 3) := by decide +kernel
theorem dX5_carried_93 : decode cX5_carried 93 = .ok (.aload_n 0, 1) := by decide +kernel
theorem dX5_carried_94 : decode cX5_carried 94 = .ok (.getfield 16, 3) := by decide +kernel
theorem dX5_carried_97 : decode cX5_carried 97 = .ok (.iload 4, 2) := by decide +kernel
theorem dX5_carried_99 : decode cX5_carried 99 = .ok (.iaload, 1) := by decide +kernel
theorem dX5_carried_100 : decode cX5_carried 100 = .ok (.iastore, 1) := by decide +kernel
theorem dX5_carried_101 : decode cX5_carried 101 = .ok (.iload 5, 2) := by decide +kernel
theorem dX5_carried_103 : decode cX5_carried 103 = .ok (.ifCond .ne 13, 3) := by decide +kernel
theorem dX5_carried_106 : decode cX5_carried 106 = .ok (.aload_n 0, 1) := by decide +kernel
theorem dX5_carried_107 : decode cX5_carried 107 = .ok (.getfield 7, 3) := by decide +kernel
theorem dX5_carried_110 : decode cX5_carried 110 = .ok (.iload 4, 2) := by decide +kernel
theorem dX5_carried_112 : decode cX5_carried 112 = .ok (.iaload, 1) := by decide +kernel
theorem dX5_carried_113 : decode cX5_carried 113 = .ok (.goto 26, 3) := by decide +kernel
theorem dX5_carried_116 : decode cX5_carried 116 = .ok (.iload 5, 2) := by decide +kernel
theorem dX5_carried_118 : decode cX5_carried 118 = .ok (.iconst 1, 1) := by decide +kernel
theorem dX5_carried_119 : decode cX5_carried 119 = .ok (.if_icmp .ne 13, 3) := by decide +kernel
theorem dX5_carried_122 : decode cX5_carried 122 = .ok (.aload_n 0, 1) := by decide +kernel
theorem dX5_carried_123 : decode cX5_carried 123 = .ok (.getfield 13, 3) := by decide +kernel
theorem dX5_carried_126 : decode cX5_carried 126 = .ok (.iload 4, 2) := by decide +kernel
theorem dX5_carried_128 : decode cX5_carried 128 = .ok (.iaload, 1) := by decide +kernel
theorem dX5_carried_129 : decode cX5_carried 129 = .ok (.goto 10, 3) := by decide +kernel
theorem dX5_carried_132 : decode cX5_carried 132 = .ok (.aload_n 0, 1) := by decide +kernel
theorem dX5_carried_133 : decode cX5_carried 133 = .ok (.getfield 16, 3) := by decide +kernel
theorem dX5_carried_136 : decode cX5_carried 136 = .ok (.iload 4, 2) := by decide +kernel
theorem dX5_carried_138 : decode cX5_carried 138 = .ok (.iaload, 1) := by decide +kernel
theorem dX5_carried_139 : decode cX5_carried 139 = .ok (.ireturn, 1) := by decide +kernel
theorem dX5_carried_140 : decode cX5_carried 140 = .ok (.iload_n 1, 1) := by decide +kernel
theorem dX5_carried_141 : decode cX5_carried 141 = .ok (.bipush 50, 2) := by decide +kernel
theorem dX5_carried_143 : decode cX5_carried 143 = .ok (.if_icmp .ge 39, 3) := by decide +kernel
theorem dX5_carried_146 : decode cX5_carried 146 = .ok (.aload_n 0, 1) := by decide +kernel
theorem dX5_carried_147 : decode cX5_carried 147 = .ok (.getfield 19, 3) := by decide +kernel
theorem dX5_carried_150 : decode cX5_carried 150 = .ok (.iload_n 1, 1) := by decide +kernel
theorem dX5_carried_151 : decode cX5_carried 151 = .ok (.bipush 18, 2) := by decide +kernel
theorem dX5_carried_153 : decode cX5_carried 153 = .ok (.isub, 1) := by decide +kernel
theorem dX5_carried_154 : decode cX5_carried 154 = .ok (.iload_n 3, 1) := by decide +kernel
theorem dX5_carried_155 : decode cX5_carried 155 = .ok (.ifCond .eq 7, 3) := by decide +kernel
theorem dX5_carried_158 : decode cX5_carried 158 = .ok (.iload_n 2, 1) := by decide +kernel
theorem dX5_carried_159 : decode cX5_carried 159 = .ok (.goto 12, 3) := by decide +kernel
theorem dX5_carried_162 : decode cX5_carried 162 = .ok (.aload_n 0, 1) := by decide +kernel
theorem dX5_carried_163 : decode cX5_carried 163 = .ok (.getfield 19, 3) := by decide +kernel
theorem dX5_carried_166 : decode cX5_carried 166 = .ok (.iload_n 1, 1) := by decide +kernel
theorem dX5_carried_167 : decode cX5_carried 167 = .ok (.bipush 18, 2) := by decide +kernel
theorem dX5_carried_169 : decode cX5_carried 169 = .ok (.isub, 1) := by decide +kernel
theorem dX5_carried_170 : decode cX5_carried 170 = .ok (.iaload, 1) := by decide +kernel
theorem dX5_carried_171 : decode cX5_carried 171 = .ok (.iastore, 1) := by decide +kernel
theorem dX5_carried_172 : decode cX5_carried 172 = .ok (.aload_n 0, 1) := by decide +kernel
theorem dX5_carried_173 : decode cX5_carried 173 = .ok (.getfield 19, 3) := by decide +kernel
theorem dX5_carried_176 : decode cX5_carried 176 = .ok (.iload_n 1, 1) := by decide +kernel
theorem dX5_carried_177 : decode cX5_carried 177 = .ok (.bipush 18, 2) := by decide +kernel
theorem dX5_carried_179 : decode cX5_carried 179 = .ok (.isub, 1) := by decide +kernel
theorem dX5_carried_180 : decode cX5_carried 180 = .ok (.iaload, 1) := by decide +kernel
theorem dX5_carried_181 : decode cX5_carried 181 = .ok (.ireturn, 1) := by decide +kernel
theorem dX5_carried_182 : decode cX5_carried 182 = .ok (.iload_n 1, 1) := by decide +kernel
theorem dX5_carried_183 : decode cX5_carried 183 = .ok (.bipush 56, 2) := by decide +kernel
theorem dX5_carried_185 : decode cX5_carried 185 = .ok (.if_icmp .ge 39, 3) := by decide +kernel
theorem dX5_carried_188 : decode cX5_carried 188 = .ok (.aload_n 0, 1) := by decide +kernel
theorem dX5_carried_189 : decode cX5_carried 189 = .ok (.getfield 22, 3) := by decide +kernel
theorem dX5_carried_192 : decode cX5_carried 192 = .ok (.iload_n 1, 1) := by decide +kernel
theorem dX5_carried_193 : decode cX5_carried 193 = .ok (.bipush 50, 2) := by decide +kernel
theorem dX5_carried_195 : decode cX5_carried 195 = .ok (.isub, 1) := by decide +kernel
theorem dX5_carried_196 : decode cX5_carried 196 = .ok (.iload_n 3, 1) := by decide +kernel
theorem dX5_carried_197 : decode cX5_carried 197 = .ok (.ifCond .eq 7, 3) := by decide +kernel
theorem dX5_carried_200 : decode cX5_carried 200 = .ok (.iload_n 2, 1) := by decide +kernel
theorem dX5_carried_201 : decode cX5_carried 201 = .ok (.goto 12, 3) := by decide +kernel
theorem dX5_carried_204 : decode cX5_carried 204 = .ok (.aload_n 0, 1) := by decide +kernel
theorem dX5_carried_205 : decode cX5_carried 205 = .ok (.getfield 22, 3) := by decide +kernel
theorem dX5_carried_208 : decode cX5_carried 208 = .ok (.iload_n 1, 1) := by decide +kernel
theorem dX5_carried_209 : decode cX5_carried 209 = .ok (.bipush 50, 2) := by decide +kernel
theorem dX5_carried_211 : decode cX5_carried 211 = .ok (.isub, 1) := by decide +kernel
theorem dX5_carried_212 : decode cX5_carried 212 = .ok (.iaload, 1) := by decide +kernel
theorem dX5_carried_213 : decode cX5_carried 213 = .ok (.iastore, 1) := by decide +kernel
theorem dX5_carried_214 : decode cX5_carried 214 = .ok (.aload_n 0, 1) := by decide +kernel
theorem dX5_carried_215 : decode cX5_carried 215 = .ok (.getfield 22, 3) := by decide +kernel
theorem dX5_carried_218 : decode cX5_carried 218 = .ok (.iload_n 1, 1) := by decide +kernel
theorem dX5_carried_219 : decode cX5_carried 219 = .ok (.bipush 50, 2) := by decide +kernel
theorem dX5_carried_221 : decode cX5_carried 221 = .ok (.isub, 1) := by decide +kernel
theorem dX5_carried_222 : decode cX5_carried 222 = .ok (.iaload, 1) := by decide +kernel
theorem dX5_carried_223 : decode cX5_carried 223 = .ok (.ireturn, 1) := by decide +kernel
theorem dX5_carried_224 : decode cX5_carried 224 = .ok (.aload_n 0, 1) := by decide +kernel
theorem dX5_carried_225 : decode cX5_carried 225 = .ok (.iload_n 3, 1) := by decide +kernel
theorem dX5_carried_226 : decode cX5_carried 226 = .ok (.ifCond .eq 13, 3) := by decide +kernel
theorem dX5_carried_229 : decode cX5_carried 229 = .ok (.iload_n 1, 1) := by decide +kernel
theorem dX5_carried_230 : decode cX5_carried 230 = .ok (.bipush 56, 2) := by decide +kernel
theorem dX5_carried_232 : decode cX5_carried 232 = .ok (.if_icmp .ne 7, 3) := by decide +kernel
theorem dX5_carried_235 : decode cX5_carried 235 = .ok (.iload_n 2, 1) := by decide +kernel
theorem dX5_carried_236 : decode cX5_carried 236 = .ok (.goto 7, 3) := by decide +kernel
theorem dX5_carried_239 : decode cX5_carried 239 = .ok (.aload_n 0, 1) := by decide +kernel
theorem dX5_carried_240 : decode cX5_carried 240 = .ok (.getfield 64, 3) := by decide +kernel
theorem dX5_carried_243 : decode cX5_carried 243 = .ok (.putfield 64, 3) := by decide +kernel
theorem dX5_carried_246 : decode cX5_carried 246 = .ok (.aload_n 0, 1) := by decide +kernel
theorem dX5_carried_247 : decode cX5_carried 247 = .ok (.iload_n 3, 1) := by decide +kernel
theorem dX5_carried_248 : decode cX5_carried 248 = .ok (.ifCond .eq 13, 3) := by decide +kernel
theorem dX5_carried_251 : decode cX5_carried 251 = .ok (.iload_n 1, 1) := by decide +kernel
theorem dX5_carried_252 : decode cX5_carried 252 = .ok (.bipush 57, 2) := by decide +kernel
theorem dX5_carried_254 : decode cX5_carried 254 = .ok (.if_icmp .ne 7, 3) := by decide +kernel
theorem dX5_carried_257 : decode cX5_carried 257 = .ok (.iload_n 2, 1) := by decide +kernel
theorem dX5_carried_258 : decode cX5_carried 258 = .ok (.goto 7, 3) := by decide +kernel
theorem dX5_carried_261 : decode cX5_carried 261 = .ok (.aload_n 0, 1) := by decide +kernel
theorem dX5_carried_262 : decode cX5_carried 262 = .ok (.getfield 72, 3) := by decide +kernel
theorem dX5_carried_265 : decode cX5_carried 265 = .ok (.putfield 72, 3) := by decide +kernel
theorem dX5_carried_268 : decode cX5_carried 268 = .ok (.aload_n 0, 1) := by decide +kernel
theorem dX5_carried_269 : decode cX5_carried 269 = .ok (.iload_n 3, 1) := by decide +kernel
theorem dX5_carried_270 : decode cX5_carried 270 = .ok (.ifCond .eq 13, 3) := by decide +kernel
theorem dX5_carried_273 : decode cX5_carried 273 = .ok (.iload_n 1, 1) := by decide +kernel
theorem dX5_carried_274 : decode cX5_carried 274 = .ok (.bipush 58, 2) := by decide +kernel
theorem dX5_carried_276 : decode cX5_carried 276 = .ok (.if_icmp .ne 7, 3) := by decide +kernel
theorem dX5_carried_279 : decode cX5_carried 279 = .ok (.iload_n 2, 1) := by decide +kernel
theorem dX5_carried_280 : decode cX5_carried 280 = .ok (.goto 7, 3) := by decide +kernel
theorem dX5_carried_283 : decode cX5_carried 283 = .ok (.aload_n 0, 1) := by decide +kernel
theorem dX5_carried_284 : decode cX5_carried 284 = .ok (.getfield 102, 3) := by decide +kernel
theorem dX5_carried_287 : decode cX5_carried 287 = .ok (.putfield 102, 3) := by decide +kernel
theorem dX5_carried_290 : decode cX5_carried 290 = .ok (.aload_n 0, 1) := by decide +kernel
theorem dX5_carried_291 : decode cX5_carried 291 = .ok (.iload_n 3, 1) := by decide +kernel
theorem dX5_carried_292 : decode cX5_carried 292 = .ok (.ifCond .eq 13, 3) := by decide +kernel
theorem dX5_carried_295 : decode cX5_carried 295 = .ok (.iload_n 1, 1) := by decide +kernel
theorem dX5_carried_296 : decode cX5_carried 296 = .ok (.bipush 59, 2) := by decide +kernel
theorem dX5_carried_298 : decode cX5_carried 298 = .ok (.if_icmp .ne 7, 3) := by decide +kernel
theorem dX5_carried_301 : decode cX5_carried 301 = .ok (.iload_n 2, 1) := by decide +kernel
theorem dX5_carried_302 : decode cX5_carried 302 = .ok (.goto 7, 3) := by decide +kernel
theorem dX5_carried_305 : decode cX5_carried 305 = .ok (.aload_n 0, 1) := by decide +kernel
theorem dX5_carried_306 : decode cX5_carried 306 = .ok (.getfield 105, 3) := by decide +kernel
theorem dX5_carried_309 : decode cX5_carried 309 = .ok (.putfield 105, 3) := by decide +kernel
theorem dX5_carried_312 : decode cX5_carried 312 = .ok (.iload_n 1, 1) := by decide +kernel
theorem dX5_carried_313 : decode cX5_carried 313 = .ok (.bipush 56, 2) := by decide +kernel
theorem dX5_carried_315 : decode cX5_carried 315 = .ok (.if_icmp .ne 10, 3) := by decide +kernel
theorem dX5_carried_318 : decode cX5_carried 318 = .ok (.aload_n 0, 1) := by decide +kernel
theorem dX5_carried_319 : decode cX5_carried 319 = .ok (.getfield 64, 3) := by decide +kernel
theorem dX5_carried_322 : decode cX5_carried 322 = .ok (.goto 33, 3) := by decide +kernel
theorem dX5_carried_325 : decode cX5_carried 325 = .ok (.iload_n 1, 1) := by decide +kernel
theorem dX5_carried_326 : decode cX5_carried 326 = .ok (.bipush 57, 2) := by decide +kernel
theorem dX5_carried_328 : decode cX5_carried 328 = .ok (.if_icmp .ne 10, 3) := by decide +kernel
theorem dX5_carried_331 : decode cX5_carried 331 = .ok (.aload_n 0, 1) := by decide +kernel
theorem dX5_carried_332 : decode cX5_carried 332 = .ok (.getfield 72, 3) := by decide +kernel
theorem dX5_carried_335 : decode cX5_carried 335 = .ok (.goto 20, 3) := by decide +kernel
theorem dX5_carried_338 : decode cX5_carried 338 = .ok (.iload_n 1, 1) := by decide +kernel
theorem dX5_carried_339 : decode cX5_carried 339 = .ok (.bipush 58, 2) := by decide +kernel
theorem dX5_carried_341 : decode cX5_carried 341 = .ok (.if_icmp .ne 10, 3) := by decide +kernel
theorem dX5_carried_344 : decode cX5_carried 344 = .ok (.aload_n 0, 1) := by decide +kernel
theorem dX5_carried_345 : decode cX5_carried 345 = .ok (.getfield 102, 3) := by decide +kernel
theorem dX5_carried_348 : decode cX5_carried 348 = .ok (.goto 7, 3) := by decide +kernel
theorem dX5_carried_351 : decode cX5_carried 351 = .ok (.aload_n 0, 1) := by decide +kernel
theorem dX5_carried_352 : decode cX5_carried 352 = .ok (.getfield 105, 3) := by decide +kernel
theorem dX5_carried_355 : decode cX5_carried 355 = .ok (.ireturn, 1) := by decide +kernel
theorem dX5_image_0 : decode cX5_image 0 = .ok (.iconst 0, 1) := by decide +kernel
theorem dX5_image_1 : decode cX5_image 1 = .ok (.istore_n 1, 1) := by decide +kernel
theorem dX5_image_2 : decode cX5_image 2 = .ok (.iload_n 1, 1) := by decide +kernel
theorem dX5_image_3 : decode cX5_image 3 = .ok (.bipush 60, 2) := by decide +kernel
theorem dX5_image_5 : decode cX5_image 5 = .ok (.if_icmp .ge 22, 3) := by decide +kernel
theorem dX5_image_8 : decode cX5_image 8 = .ok (.aload_n 0, 1) := by decide +kernel
theorem dX5_image_9 : decode cX5_image 9 = .ok (.getfield 49, 3) := by decide +kernel
theorem dX5_image_12 : decode cX5_image 12 = .ok (.iload_n 1, 1) := by decide +kernel
theorem dX5_image_13 : decode cX5_image 13 = .ok (.aload_n 0, 1) := by decide +kernel
theorem dX5_image_14 : decode cX5_image 14 = .ok (.iload_n 1, 1) := by decide +kernel
theorem dX5_image_15 : decode cX5_image 15 = .ok (.iconst 0, 1) := by decide +kernel
theorem dX5_image_16 : decode cX5_image 16 = .ok (.iconst 0, 1) := by decide +kernel
theorem dX5_image_17 : decode cX5_image 17 = .ok (.invokevirtual 246, 3) := by decide +kernel
theorem dX5_image_20 : decode cX5_image 20 = .ok (.iastore, 1) := by decide +kernel
theorem dX5_image_21 : decode cX5_image 21 = .ok (.iinc 1 1, 3) := by decide +kernel
theorem dX5_image_24 : decode cX5_image 24 = .ok (.goto (-22), 3) := by decide +kernel
theorem dX5_image_27 : decode cX5_image 27 = .ok (.aload_n 0, 1) := by decide +kernel
theorem dX5_image_28 : decode cX5_image 28 = .ok (.iconst 1, 1) := by decide +kernel
theorem dX5_image_29 : decode cX5_image 29 = .ok (.putfield 250, 3) := by decide +kernel
theorem dX5_image_32 : decode cX5_image 32 = .ok (.iconst 1, 1) := by decide +kernel
theorem dX5_image_33 : decode cX5_image 33 = .ok (.ireturn, 1) := by decide +kernel
theorem dX5_restore_0 : decode cX5_restore 0 = .ok (.aload_n 0, 1) := by decide +kernel
theorem dX5_restore_1 : decode cX5_restore 1 = .ok (.getfield 250, 3) := by decide +kernel
theorem dX5_restore_4 : decode cX5_restore 4 = .ok (.ifCond .ne 6, 3) := by decide +kernel
theorem dX5_restore_7 : decode cX5_restore 7 = .ok (.bipush (-4), 2) := by decide +kernel
theorem dX5_restore_9 : decode cX5_restore 9 = .ok (.ireturn, 1) := by decide +kernel
theorem dX5_restore_10 : decode cX5_restore 10 = .ok (.iconst 0, 1) := by decide +kernel
theorem dX5_restore_11 : decode cX5_restore 11 = .ok (.istore_n 1, 1) := by decide +kernel
theorem dX5_restore_12 : decode cX5_restore 12 = .ok (.iload_n 1, 1) := by decide +kernel
theorem dX5_restore_13 : decode cX5_restore 13 = .ok (.bipush 60, 2) := by decide +kernel
theorem dX5_restore_15 : decode cX5_restore 15 = .ok (.if_icmp .ge 22, 3) := by decide +kernel
theorem dX5_restore_18 : decode cX5_restore 18 = .ok (.aload_n 0, 1) := by decide +kernel
theorem dX5_restore_19 : decode cX5_restore 19 = .ok (.iload_n 1, 1) := by decide +kernel
theorem dX5_restore_20 : decode cX5_restore 20 = .ok (.aload_n 0, 1) := by decide +kernel
theorem dX5_restore_21 : decode cX5_restore 21 = .ok (.getfield 49, 3) := by decide +kernel
theorem dX5_restore_24 : decode cX5_restore 24 = .ok (.iload_n 1, 1) := by decide +kernel
theorem dX5_restore_25 : decode cX5_restore 25 = .ok (.iaload, 1) := by decide +kernel
theorem dX5_restore_26 : decode cX5_restore 26 = .ok (.iconst 1, 1) := by decide +kernel
theorem dX5_restore_27 : decode cX5_restore 27 = .ok (.invokevirtual 246, 3) := by decide +kernel
theorem dX5_restore_30 : decode cX5_restore 30 = .ok (.pop, 1) := by decide +kernel
theorem dX5_restore_31 : decode cX5_restore 31 = .ok (.iinc 1 1, 3) := by decide +kernel
theorem dX5_restore_34 : decode cX5_restore 34 = .ok (.goto (-22), 3) := by decide +kernel
theorem dX5_restore_37 : decode cX5_restore 37 = .ok (.iconst 1, 1) := by decide +kernel
theorem dX5_restore_38 : decode cX5_restore 38 = .ok (.ireturn, 1) := by decide +kernel
theorem dX5_isSheet_0 : decode cX5_isSheet 0 = .ok (.iload_n 0, 1) := by decide +kernel
theorem dX5_isSheet_1 : decode cX5_isSheet 1 = .ok (.i2l, 1) := by decide +kernel
theorem dX5_isSheet_2 : decode cX5_isSheet 2 = .ok (.lconst 0, 1) := by decide +kernel
theorem dX5_isSheet_3 : decode cX5_isSheet 3 = .ok (.ldc2_w 91, 3) := by decide +kernel
theorem dX5_isSheet_6 : decode cX5_isSheet 6 = .ok (.invokestatic 68, 3) := by decide +kernel
theorem dX5_isSheet_9 : decode cX5_isSheet 9 = .ok (.ifCond .eq 19, 3) := by decide +kernel
theorem dX5_isSheet_12 : decode cX5_isSheet 12 = .ok (.iload_n 1, 1) := by decide +kernel
theorem dX5_isSheet_13 : decode cX5_isSheet 13 = .ok (.i2l, 1) := by decide +kernel
theorem dX5_isSheet_14 : decode cX5_isSheet 14 = .ok (.lconst 0, 1) := by decide +kernel
theorem dX5_isSheet_15 : decode cX5_isSheet 15 = .ok (.ldc2_w 89, 3) := by decide +kernel
theorem dX5_isSheet_18 : decode cX5_isSheet 18 = .ok (.invokestatic 68, 3) := by decide +kernel
theorem dX5_isSheet_21 : decode cX5_isSheet 21 = .ok (.ifCond .eq 7, 3) := by decide +kernel
theorem dX5_isSheet_24 : decode cX5_isSheet 24 = .ok (.iconst 1, 1) := by decide +kernel
theorem dX5_isSheet_25 : decode cX5_isSheet 25 = .ok (.goto 4, 3) := by decide +kernel
theorem dX5_isSheet_28 : decode cX5_isSheet 28 = .ok (.iconst 0, 1) := by decide +kernel
theorem dX5_isSheet_29 : decode cX5_isSheet 29 = .ok (.ireturn, 1) := by decide +kernel
theorem dX5_asLane_0 : decode cX5_asLane 0 = .ok (.iload_n 0, 1) := by decide +kernel
theorem dX5_asLane_1 : decode cX5_asLane 1 = .ok (.ifCond .ne 13, 3) := by decide +kernel
theorem dX5_asLane_4 : decode cX5_asLane 4 = .ok (.iload_n 1, 1) := by decide +kernel
theorem dX5_asLane_5 : decode cX5_asLane 5 = .ok (.bipush 24, 2) := by decide +kernel
theorem dX5_asLane_7 : decode cX5_asLane 7 = .ok (.ishl, 1) := by decide +kernel
theorem dX5_asLane_8 : decode cX5_asLane 8 = .ok (.bipush 24, 2) := by decide +kernel
theorem dX5_asLane_10 : decode cX5_asLane 10 = .ok (.ishr, 1) := by decide +kernel
theorem dX5_asLane_11 : decode cX5_asLane 11 = .ok (.goto 19, 3) := by decide +kernel
theorem dX5_asLane_14 : decode cX5_asLane 14 = .ok (.iload_n 0, 1) := by decide +kernel
theorem dX5_asLane_15 : decode cX5_asLane 15 = .ok (.iconst 1, 1) := by decide +kernel
theorem dX5_asLane_16 : decode cX5_asLane 16 = .ok (.if_icmp .ne 13, 3) := by decide +kernel
theorem dX5_asLane_19 : decode cX5_asLane 19 = .ok (.iload_n 1, 1) := by decide +kernel
theorem dX5_asLane_20 : decode cX5_asLane 20 = .ok (.bipush 16, 2) := by decide +kernel
theorem dX5_asLane_22 : decode cX5_asLane 22 = .ok (.ishl, 1) := by decide +kernel
theorem dX5_asLane_23 : decode cX5_asLane 23 = .ok (.bipush 16, 2) := by decide +kernel
theorem dX5_asLane_25 : decode cX5_asLane 25 = .ok (.ishr, 1) := by decide +kernel
theorem dX5_asLane_26 : decode cX5_asLane 26 = .ok (.goto 4, 3) := by decide +kernel
theorem dX5_asLane_29 : decode cX5_asLane 29 = .ok (.iload_n 1, 1) := by decide +kernel
theorem dX5_asLane_30 : decode cX5_asLane 30 = .ok (.ireturn, 1) := by decide +kernel
theorem dX5_sheet_0 : decode cX5_sheet 0 = .ok (.iload_n 1, 1) := by decide +kernel
theorem dX5_sheet_1 : decode cX5_sheet 1 = .ok (.iload_n 2, 1) := by decide +kernel
theorem dX5_sheet_2 : decode cX5_sheet 2 = .ok (.invokestatic 254, 3) := by decide +kernel
theorem dX5_sheet_5 : decode cX5_sheet 5 = .ok (.ifCond .eq 9, 3) := by decide +kernel
theorem dX5_sheet_8 : decode cX5_sheet 8 = .ok (.iload_n 3, 1) := by decide +kernel
theorem dX5_sheet_9 : decode cX5_sheet 9 = .ok (.bipush 24, 2) := by decide +kernel
theorem dX5_sheet_11 : decode cX5_sheet 11 = .ok (.if_icmp .le 5, 3) := by decide +kernel
theorem dX5_sheet_14 : decode cX5_sheet 14 = .ok (.iconst (-1), 1) := by decide +kernel
theorem dX5_sheet_15 : decode cX5_sheet 15 = .ok (.ireturn, 1) := by decide +kernel
theorem dX5_sheet_16 : decode cX5_sheet 16 = .ok (.iload_n 3, 1) := by decide +kernel
theorem dX5_sheet_17 : decode cX5_sheet 17 = .ok (.ifCond .ge 6, 3) := by decide +kernel
theorem dX5_sheet_20 : decode cX5_sheet 20 = .ok (.bipush (-14), 2) := by decide +kernel
theorem dX5_sheet_22 : decode cX5_sheet 22 = .ok (.ireturn, 1) := by decide +kernel
theorem dX5_sheet_23 : decode cX5_sheet 23 = .ok (.aload_n 0, 1) := by decide +kernel
theorem dX5_sheet_24 : decode cX5_sheet 24 = .ok (.getfield 52, 3) := by decide +kernel
theorem dX5_sheet_27 : decode cX5_sheet 27 = .ok (.iload_n 1, 1) := by decide +kernel
theorem dX5_sheet_28 : decode cX5_sheet 28 = .ok (.iload_n 2, 1) := by decide +kernel
theorem dX5_sheet_29 : decode cX5_sheet 29 = .ok (.iastore, 1) := by decide +kernel
theorem dX5_sheet_30 : decode cX5_sheet 30 = .ok (.aload_n 0, 1) := by decide +kernel
theorem dX5_sheet_31 : decode cX5_sheet 31 = .ok (.getfield 55, 3) := by decide +kernel
theorem dX5_sheet_34 : decode cX5_sheet 34 = .ok (.iload_n 1, 1) := by decide +kernel
theorem dX5_sheet_35 : decode cX5_sheet 35 = .ok (.iload_n 3, 1) := by decide +kernel
theorem dX5_sheet_36 : decode cX5_sheet 36 = .ok (.iastore, 1) := by decide +kernel
theorem dX5_sheet_37 : decode cX5_sheet 37 = .ok (.iconst 0, 1) := by decide +kernel
theorem dX5_sheet_38 : decode cX5_sheet 38 = .ok (.istore 4, 2) := by decide +kernel
theorem dX5_sheet_40 : decode cX5_sheet 40 = .ok (.iload 4, 2) := by decide +kernel
theorem dX5_sheet_42 : decode cX5_sheet 42 = .ok (.bipush 24, 2) := by decide +kernel
theorem dX5_sheet_44 : decode cX5_sheet 44 = .ok (.if_icmp .ge 22, 3) := by decide +kernel
theorem dX5_sheet_47 : decode cX5_sheet 47 = .ok (.aload_n 0, 1) := by decide +kernel
theorem dX5_sheet_48 : decode cX5_sheet 48 = .ok (.getfield 58, 3) := by decide +kernel
theorem dX5_sheet_51 : decode cX5_sheet 51 = .ok (.bipush 24, 2) := by decide +kernel
theorem dX5_sheet_53 : decode cX5_sheet 53 = .ok (.iload_n 1, 1) := by decide +kernel
theorem dX5_sheet_54 : decode cX5_sheet 54 = .ok (.imul, 1) := by decide +kernel
theorem dX5_sheet_55 : decode cX5_sheet 55 = .ok (.iload 4, 2) := by decide +kernel
theorem dX5_sheet_57 : decode cX5_sheet 57 = .ok (.iadd, 1) := by decide +kernel
theorem dX5_sheet_58 : decode cX5_sheet 58 = .ok (.iconst 0, 1) := by decide +kernel
theorem dX5_sheet_59 : decode cX5_sheet 59 = .ok (.iastore, 1) := by decide +kernel
theorem dX5_sheet_60 : decode cX5_sheet 60 = .ok (.iinc 4 1, 3) := by decide +kernel
theorem dX5_sheet_63 : decode cX5_sheet 63 = .ok (.goto (-23), 3) := by decide +kernel
theorem dX5_sheet_66 : decode cX5_sheet 66 = .ok (.iload_n 3, 1) := by decide +kernel
theorem dX5_sheet_67 : decode cX5_sheet 67 = .ok (.ireturn, 1) := by decide +kernel
theorem dX5_drop_0 : decode cX5_drop 0 = .ok (.iload_n 1, 1) := by decide +kernel
theorem dX5_drop_1 : decode cX5_drop 1 = .ok (.i2l, 1) := by decide +kernel
theorem dX5_drop_2 : decode cX5_drop 2 = .ok (.lconst 0, 1) := by decide +kernel
theorem dX5_drop_3 : decode cX5_drop 3 = .ok (.ldc2_w 91, 3) := by decide +kernel
theorem dX5_drop_6 : decode cX5_drop 6 = .ok (.invokestatic 68, 3) := by decide +kernel
theorem dX5_drop_9 : decode cX5_drop 9 = .ok (.ifCond .ne 5, 3) := by decide +kernel
theorem dX5_drop_12 : decode cX5_drop 12 = .ok (.iconst (-1), 1) := by decide +kernel
theorem dX5_drop_13 : decode cX5_drop 13 = .ok (.ireturn, 1) := by decide +kernel
theorem dX5_drop_14 : decode cX5_drop 14 = .ok (.aload_n 0, 1) := by decide +kernel
theorem dX5_drop_15 : decode cX5_drop 15 = .ok (.getfield 52, 3) := by decide +kernel
theorem dX5_drop_18 : decode cX5_drop 18 = .ok (.iload_n 1, 1) := by decide +kernel
theorem dX5_drop_19 : decode cX5_drop 19 = .ok (.iaload, 1) := by decide +kernel
theorem dX5_drop_20 : decode cX5_drop 20 = .ok (.ifCond .ge 6, 3) := by decide +kernel
theorem dX5_drop_23 : decode cX5_drop 23 = .ok (.bipush (-11), 2) := by decide +kernel
theorem dX5_drop_25 : decode cX5_drop 25 = .ok (.ireturn, 1) := by decide +kernel
theorem dX5_drop_26 : decode cX5_drop 26 = .ok (.aload_n 0, 1) := by decide +kernel
theorem dX5_drop_27 : decode cX5_drop 27 = .ok (.getfield 52, 3) := by decide +kernel
theorem dX5_drop_30 : decode cX5_drop 30 = .ok (.iload_n 1, 1) := by decide +kernel
theorem dX5_drop_31 : decode cX5_drop 31 = .ok (.iconst (-1), 1) := by decide +kernel
theorem dX5_drop_32 : decode cX5_drop 32 = .ok (.iastore, 1) := by decide +kernel
theorem dX5_drop_33 : decode cX5_drop 33 = .ok (.aload_n 0, 1) := by decide +kernel
theorem dX5_drop_34 : decode cX5_drop 34 = .ok (.getfield 55, 3) := by decide +kernel
theorem dX5_drop_37 : decode cX5_drop 37 = .ok (.iload_n 1, 1) := by decide +kernel
theorem dX5_drop_38 : decode cX5_drop 38 = .ok (.iaload, 1) := by decide +kernel
theorem dX5_drop_39 : decode cX5_drop 39 = .ok (.ireturn, 1) := by decide +kernel
theorem dX5_lacksRow_0 : decode cX5_lacksRow 0 = .ok (.aload_n 0, 1) := by decide +kernel
theorem dX5_lacksRow_1 : decode cX5_lacksRow 1 = .ok (.getfield 52, 3) := by decide +kernel
theorem dX5_lacksRow_4 : decode cX5_lacksRow 4 = .ok (.iload_n 1, 1) := by decide +kernel
theorem dX5_lacksRow_5 : decode cX5_lacksRow 5 = .ok (.iaload, 1) := by decide +kernel
theorem dX5_lacksRow_6 : decode cX5_lacksRow 6 = .ok (.iload_n 2, 1) := by decide +kernel
theorem dX5_lacksRow_7 : decode cX5_lacksRow 7 = .ok (.if_icmp .eq 20, 3) := by decide +kernel
theorem dX5_lacksRow_10 : decode cX5_lacksRow 10 = .ok (.aload_n 0, 1) := by decide +kernel
theorem dX5_lacksRow_11 : decode cX5_lacksRow 11 = .ok (.getfield 52, 3) := by decide +kernel
theorem dX5_lacksRow_14 : decode cX5_lacksRow 14 = .ok (.iload_n 1, 1) := by decide +kernel
theorem dX5_lacksRow_15 : decode cX5_lacksRow 15 = .ok (.iaload, 1) := by decide +kernel
theorem dX5_lacksRow_16 : decode cX5_lacksRow 16 = .ok (.ifCond .ge 8, 3) := by decide +kernel
theorem dX5_lacksRow_19 : decode cX5_lacksRow 19 = .ok (.bipush (-11), 2) := by decide +kernel
theorem dX5_lacksRow_21 : decode cX5_lacksRow 21 = .ok (.goto 5, 3) := by decide +kernel
theorem dX5_lacksRow_24 : decode cX5_lacksRow 24 = .ok (.bipush (-12), 2) := by decide +kernel
theorem dX5_lacksRow_26 : decode cX5_lacksRow 26 = .ok (.ireturn, 1) := by decide +kernel
theorem dX5_lacksRow_27 : decode cX5_lacksRow 27 = .ok (.iload_n 3, 1) := by decide +kernel
theorem dX5_lacksRow_28 : decode cX5_lacksRow 28 = .ok (.i2l, 1) := by decide +kernel
theorem dX5_lacksRow_29 : decode cX5_lacksRow 29 = .ok (.lconst 0, 1) := by decide +kernel
theorem dX5_lacksRow_30 : decode cX5_lacksRow 30 = .ok (.aload_n 0, 1) := by decide +kernel
theorem dX5_lacksRow_31 : decode cX5_lacksRow 31 = .ok (.getfield 55, 3) := by decide +kernel
theorem dX5_lacksRow_34 : decode cX5_lacksRow 34 = .ok (.iload_n 1, 1) := by decide +kernel
theorem dX5_lacksRow_35 : decode cX5_lacksRow 35 = .ok (.iaload, 1) := by decide +kernel
theorem dX5_lacksRow_36 : decode cX5_lacksRow 36 = .ok (.iload 4, 2) := by decide +kernel
theorem dX5_lacksRow_38 : decode cX5_lacksRow 38 = .ok (.isub, 1) := by decide +kernel
theorem dX5_lacksRow_39 : decode cX5_lacksRow 39 = .ok (.i2l, 1) := by decide +kernel
theorem dX5_lacksRow_40 : decode cX5_lacksRow 40 = .ok (.invokestatic 68, 3) := by decide +kernel
theorem dX5_lacksRow_43 : decode cX5_lacksRow 43 = .ok (.ifCond .eq 7, 3) := by decide +kernel
theorem dX5_lacksRow_46 : decode cX5_lacksRow 46 = .ok (.iconst 0, 1) := by decide +kernel
theorem dX5_lacksRow_47 : decode cX5_lacksRow 47 = .ok (.goto 5, 3) := by decide +kernel
theorem dX5_lacksRow_50 : decode cX5_lacksRow 50 = .ok (.bipush (-13), 2) := by decide +kernel
theorem dX5_lacksRow_52 : decode cX5_lacksRow 52 = .ok (.ireturn, 1) := by decide +kernel
theorem dX5_item_0 : decode cX5_item 0 = .ok (.iload_n 1, 1) := by decide +kernel
theorem dX5_item_1 : decode cX5_item 1 = .ok (.iload_n 2, 1) := by decide +kernel
theorem dX5_item_2 : decode cX5_item 2 = .ok (.invokestatic 254, 3) := by decide +kernel
theorem dX5_item_5 : decode cX5_item 5 = .ok (.ifCond .ne 5, 3) := by decide +kernel
theorem dX5_item_8 : decode cX5_item 8 = .ok (.iconst (-1), 1) := by decide +kernel
theorem dX5_item_9 : decode cX5_item 9 = .ok (.ireturn, 1) := by decide +kernel
theorem dX5_item_10 : decode cX5_item 10 = .ok (.aload_n 0, 1) := by decide +kernel
theorem dX5_item_11 : decode cX5_item 11 = .ok (.iload_n 1, 1) := by decide +kernel
theorem dX5_item_12 : decode cX5_item 12 = .ok (.iload_n 2, 1) := by decide +kernel
theorem dX5_item_13 : decode cX5_item 13 = .ok (.iload_n 3, 1) := by decide +kernel
theorem dX5_item_14 : decode cX5_item 14 = .ok (.iconst 1, 1) := by decide +kernel
theorem dX5_item_15 : decode cX5_item 15 = .ok (.invokevirtual 257, 3) := by decide +kernel
theorem dX5_item_18 : decode cX5_item 18 = .ok (.istore 5, 2) := by decide +kernel
theorem dX5_item_20 : decode cX5_item 20 = .ok (.iload 5, 2) := by decide +kernel
theorem dX5_item_22 : decode cX5_item 22 = .ok (.ifCond .ge 6, 3) := by decide +kernel
theorem dX5_item_25 : decode cX5_item 25 = .ok (.iload 5, 2) := by decide +kernel
theorem dX5_item_27 : decode cX5_item 27 = .ok (.ireturn, 1) := by decide +kernel
theorem dX5_item_28 : decode cX5_item 28 = .ok (.aload_n 0, 1) := by decide +kernel
theorem dX5_item_29 : decode cX5_item 29 = .ok (.getfield 58, 3) := by decide +kernel
theorem dX5_item_32 : decode cX5_item 32 = .ok (.bipush 24, 2) := by decide +kernel
theorem dX5_item_34 : decode cX5_item 34 = .ok (.iload_n 1, 1) := by decide +kernel
theorem dX5_item_35 : decode cX5_item 35 = .ok (.imul, 1) := by decide +kernel
theorem dX5_item_36 : decode cX5_item 36 = .ok (.iload_n 3, 1) := by decide +kernel
theorem dX5_item_37 : decode cX5_item 37 = .ok (.iadd, 1) := by decide +kernel
theorem dX5_item_38 : decode cX5_item 38 = .ok (.iload_n 2, 1) := by decide +kernel
theorem dX5_item_39 : decode cX5_item 39 = .ok (.iload 4, 2) := by decide +kernel
theorem dX5_item_41 : decode cX5_item 41 = .ok (.invokestatic 261, 3) := by decide +kernel
theorem dX5_item_44 : decode cX5_item 44 = .ok (.iastore, 1) := by decide +kernel
theorem dX5_item_45 : decode cX5_item 45 = .ok (.iconst 1, 1) := by decide +kernel
theorem dX5_item_46 : decode cX5_item 46 = .ok (.ireturn, 1) := by decide +kernel
theorem dX5_areFound_0 : decode cX5_areFound 0 = .ok (.aload_n 0, 1) := by decide +kernel
theorem dX5_areFound_1 : decode cX5_areFound 1 = .ok (.invokevirtual 189, 3) := by decide +kernel
theorem dX5_areFound_4 : decode cX5_areFound 4 = .ok (.iconst 1, 1) := by decide +kernel
theorem dX5_areFound_5 : decode cX5_areFound 5 = .ok (.istore_n 2, 1) := by decide +kernel
theorem dX5_areFound_6 : decode cX5_areFound 6 = .ok (.iconst 0, 1) := by decide +kernel
theorem dX5_areFound_7 : decode cX5_areFound 7 = .ok (.istore_n 3, 1) := by decide +kernel
theorem dX5_areFound_8 : decode cX5_areFound 8 = .ok (.iload_n 3, 1) := by decide +kernel
theorem dX5_areFound_9 : decode cX5_areFound 9 = .ok (.aload_n 0, 1) := by decide +kernel
theorem dX5_areFound_10 : decode cX5_areFound 10 = .ok (.getfield 64, 3) := by decide +kernel
theorem dX5_areFound_13 : decode cX5_areFound 13 = .ok (.if_icmp .ge 45, 3) := by decide +kernel
theorem dX5_areFound_16 : decode cX5_areFound 16 = .ok (.iload_n 2, 1) := by decide +kernel
theorem dX5_areFound_17 : decode cX5_areFound 17 = .ok (.ifCond .eq 33, 3) := by decide +kernel
theorem dX5_areFound_20 : decode cX5_areFound 20 = .ok (.aload_n 0, 1) := by decide +kernel
theorem dX5_areFound_21 : decode cX5_areFound 21 = .ok (.getfield 13, 3) := by decide +kernel
theorem dX5_areFound_24 : decode cX5_areFound 24 = .ok (.iload_n 3, 1) := by decide +kernel
theorem dX5_areFound_25 : decode cX5_areFound 25 = .ok (.iaload, 1) := by decide +kernel
theorem dX5_areFound_26 : decode cX5_areFound 26 = .ok (.ifCond .eq 20, 3) := by decide +kernel
theorem dX5_areFound_29 : decode cX5_areFound 29 = .ok (.aload_n 0, 1) := by decide +kernel
theorem dX5_areFound_30 : decode cX5_areFound 30 = .ok (.getfield 40, 3) := by decide +kernel
theorem dX5_areFound_33 : decode cX5_areFound 33 = .ok (.iload_n 3, 1) := by decide +kernel
theorem dX5_areFound_34 : decode cX5_areFound 34 = .ok (.iaload, 1) := by decide +kernel
theorem dX5_areFound_35 : decode cX5_areFound 35 = .ok (.aload_n 0, 1) := by decide +kernel
theorem dX5_areFound_36 : decode cX5_areFound 36 = .ok (.getfield 58, 3) := by decide +kernel
theorem dX5_areFound_39 : decode cX5_areFound 39 = .ok (.iload_n 1, 1) := by decide +kernel
theorem dX5_areFound_40 : decode cX5_areFound 40 = .ok (.iload_n 3, 1) := by decide +kernel
theorem dX5_areFound_41 : decode cX5_areFound 41 = .ok (.iadd, 1) := by decide +kernel
theorem dX5_areFound_42 : decode cX5_areFound 42 = .ok (.iaload, 1) := by decide +kernel
theorem dX5_areFound_43 : decode cX5_areFound 43 = .ok (.if_icmp .ne 7, 3) := by decide +kernel
theorem dX5_areFound_46 : decode cX5_areFound 46 = .ok (.iconst 1, 1) := by decide +kernel
theorem dX5_areFound_47 : decode cX5_areFound 47 = .ok (.goto 4, 3) := by decide +kernel
theorem dX5_areFound_50 : decode cX5_areFound 50 = .ok (.iconst 0, 1) := by decide +kernel
theorem dX5_areFound_51 : decode cX5_areFound 51 = .ok (.istore_n 2, 1) := by decide +kernel
theorem dX5_areFound_52 : decode cX5_areFound 52 = .ok (.iinc 3 1, 3) := by decide +kernel
theorem dX5_areFound_55 : decode cX5_areFound 55 = .ok (.goto (-47), 3) := by decide +kernel
theorem dX5_areFound_58 : decode cX5_areFound 58 = .ok (.iload_n 2, 1) := by decide +kernel
theorem dX5_areFound_59 : decode cX5_areFound 59 = .ok (.ireturn, 1) := by decide +kernel
theorem dX5_meshes_0 : decode cX5_meshes 0 = .ok (.aload_n 0, 1) := by decide +kernel
theorem dX5_meshes_1 : decode cX5_meshes 1 = .ok (.iload_n 1, 1) := by decide +kernel
theorem dX5_meshes_2 : decode cX5_meshes 2 = .ok (.invokevirtual 99, 3) := by decide +kernel
theorem dX5_meshes_5 : decode cX5_meshes 5 = .ok (.ifCond .eq 11, 3) := by decide +kernel
theorem dX5_meshes_8 : decode cX5_meshes 8 = .ok (.iload_n 2, 1) := by decide +kernel
theorem dX5_meshes_9 : decode cX5_meshes 9 = .ok (.iload_n 3, 1) := by decide +kernel
theorem dX5_meshes_10 : decode cX5_meshes 10 = .ok (.invokestatic 254, 3) := by decide +kernel
theorem dX5_meshes_13 : decode cX5_meshes 13 = .ok (.ifCond .ne 7, 3) := by decide +kernel
theorem dX5_meshes_16 : decode cX5_meshes 16 = .ok (.ldc2_w 238, 3) := by decide +kernel
theorem dX5_meshes_19 : decode cX5_meshes 19 = .ok (.lreturn, 1) := by decide +kernel
theorem dX5_meshes_20 : decode cX5_meshes 20 = .ok (.aload_n 0, 1) := by decide +kernel
theorem dX5_meshes_21 : decode cX5_meshes 21 = .ok (.invokevirtual 183, 3) := by decide +kernel
theorem dX5_meshes_24 : decode cX5_meshes 24 = .ok (.aload_n 0, 1) := by decide +kernel
theorem dX5_meshes_25 : decode cX5_meshes 25 = .ok (.invokevirtual 186, 3) := by decide +kernel
theorem dX5_meshes_28 : decode cX5_meshes 28 = .ok (.iconst 0, 1) := by decide +kernel
theorem dX5_meshes_29 : decode cX5_meshes 29 = .ok (.istore 5, 2) := by decide +kernel
theorem dX5_meshes_31 : decode cX5_meshes 31 = .ok (.iconst 0, 1) := by decide +kernel
theorem dX5_meshes_32 : decode cX5_meshes 32 = .ok (.istore 6, 2) := by decide +kernel
theorem dX5_meshes_34 : decode cX5_meshes 34 = .ok (.iload 6, 2) := by decide +kernel
theorem dX5_meshes_36 : decode cX5_meshes 36 = .ok (.aload_n 0, 1) := by decide +kernel
theorem dX5_meshes_37 : decode cX5_meshes 37 = .ok (.getfield 164, 3) := by decide +kernel
theorem dX5_meshes_40 : decode cX5_meshes 40 = .ok (.if_icmp .ge 32, 3) := by decide +kernel
theorem dX5_meshes_43 : decode cX5_meshes 43 = .ok (.iload 5, 2) := by decide +kernel
theorem dX5_meshes_45 : decode cX5_meshes 45 = .ok (.ifCond .ne 14, 3) := by decide +kernel
theorem dX5_meshes_48 : decode cX5_meshes 48 = .ok (.aload_n 0, 1) := by decide +kernel
theorem dX5_meshes_49 : decode cX5_meshes 49 = .ok (.getfield 31, 3) := by decide +kernel
theorem dX5_meshes_52 : decode cX5_meshes 52 = .ok (.iload 6, 2) := by decide +kernel
theorem dX5_meshes_54 : decode cX5_meshes 54 = .ok (.iaload, 1) := by decide +kernel
theorem dX5_meshes_55 : decode cX5_meshes 55 = .ok (.iload_n 1, 1) := by decide +kernel
theorem dX5_meshes_56 : decode cX5_meshes 56 = .ok (.if_icmp .ne 7, 3) := by decide +kernel
theorem dX5_meshes_59 : decode cX5_meshes 59 = .ok (.iconst 1, 1) := by decide +kernel
theorem dX5_meshes_60 : decode cX5_meshes 60 = .ok (.goto 4, 3) := by decide +kernel
theorem dX5_meshes_63 : decode cX5_meshes 63 = .ok (.iconst 0, 1) := by decide +kernel
theorem dX5_meshes_64 : decode cX5_meshes 64 = .ok (.istore 5, 2) := by decide +kernel
theorem dX5_meshes_66 : decode cX5_meshes 66 = .ok (.iinc 6 1, 3) := by decide +kernel
theorem dX5_meshes_69 : decode cX5_meshes 69 = .ok (.goto (-35), 3) := by decide +kernel
theorem dX5_meshes_72 : decode cX5_meshes 72 = .ok (.iload 5, 2) := by decide +kernel
theorem dX5_meshes_74 : decode cX5_meshes 74 = .ok (.ifCond .eq 13, 3) := by decide +kernel
theorem dX5_meshes_77 : decode cX5_meshes 77 = .ok (.aload_n 0, 1) := by decide +kernel
theorem dX5_meshes_78 : decode cX5_meshes 78 = .ok (.getfield 34, 3) := by decide +kernel
theorem dX5_meshes_81 : decode cX5_meshes 81 = .ok (.iload_n 1, 1) := by decide +kernel
theorem dX5_meshes_82 : decode cX5_meshes 82 = .ok (.iaload, 1) := by decide +kernel
theorem dX5_meshes_83 : decode cX5_meshes 83 = .ok (.iconst 3, 1) := by decide +kernel
theorem dX5_meshes_84 : decode cX5_meshes 84 = .ok (.if_icmp .ne 7, 3) := by decide +kernel
theorem dX5_meshes_87 : decode cX5_meshes 87 = .ok (.ldc2_w 232, 3) := by decide +kernel
theorem dX5_meshes_90 : decode cX5_meshes 90 = .ok (.lreturn, 1) := by decide +kernel
theorem dX5_meshes_91 : decode cX5_meshes 91 = .ok (.aload_n 0, 1) := by decide +kernel
theorem dX5_meshes_92 : decode cX5_meshes 92 = .ok (.iload_n 2, 1) := by decide +kernel
theorem dX5_meshes_93 : decode cX5_meshes 93 = .ok (.iload_n 3, 1) := by decide +kernel
theorem dX5_meshes_94 : decode cX5_meshes 94 = .ok (.iload 4, 2) := by decide +kernel
theorem dX5_meshes_96 : decode cX5_meshes 96 = .ok (.aload_n 0, 1) := by decide +kernel
theorem dX5_meshes_97 : decode cX5_meshes 97 = .ok (.getfield 64, 3) := by decide +kernel
theorem dX5_meshes_100 : decode cX5_meshes 100 = .ok (.invokevirtual 257, 3) := by decide +kernel
theorem dX5_meshes_103 : decode cX5_meshes 103 = .ok (.istore 6, 2) := by decide +kernel
theorem dX5_meshes_105 : decode cX5_meshes 105 = .ok (.iload 6, 2) := by decide +kernel
theorem dX5_meshes_107 : decode cX5_meshes 107 = .ok (.ifCond .ge 7, 3) := by decide +kernel
theorem dX5_meshes_110 : decode cX5_meshes 110 = .ok (.iload 6, 2) := by decide +kernel
theorem dX5_meshes_112 : decode cX5_meshes 112 = .ok (.i2l, 1) := by decide +kernel
theorem dX5_meshes_113 : decode cX5_meshes 113 = .ok (.lreturn, 1) := by decide +kernel
theorem dX5_meshes_114 : decode cX5_meshes 114 = .ok (.lconst 0, 1) := by decide +kernel
theorem dX5_meshes_115 : decode cX5_meshes 115 = .ok (.lstore 7, 2) := by decide +kernel
theorem dX5_meshes_117 : decode cX5_meshes 117 = .ok (.iconst 1, 1) := by decide +kernel
theorem dX5_meshes_118 : decode cX5_meshes 118 = .ok (.istore 9, 2) := by decide +kernel
theorem dX5_meshes_120 : decode cX5_meshes 120 = .ok (.iload 9, 2) := by decide +kernel
theorem dX5_meshes_122 : decode cX5_meshes 122 = .ok (.bipush 60, 2) := by decide +kernel
theorem dX5_meshes_124 : decode cX5_meshes 124 = .ok (.if_icmp .gt 46, 3) := by decide +kernel
theorem dX5_meshes_127 : decode cX5_meshes 127 = .ok (.aload_n 0, 1) := by decide +kernel
theorem dX5_meshes_128 : decode cX5_meshes 128 = .ok (.getfield 37, 3) := by decide +kernel
theorem dX5_meshes_131 : decode cX5_meshes 131 = .ok (.iload_n 1, 1) := by decide +kernel
theorem dX5_meshes_132 : decode cX5_meshes 132 = .ok (.iload 9, 2) := by decide +kernel
theorem dX5_meshes_134 : decode cX5_meshes 134 = .ok (.iastore, 1) := by decide +kernel
theorem dX5_meshes_135 : decode cX5_meshes 135 = .ok (.lload 7, 2) := by decide +kernel
theorem dX5_meshes_137 : decode cX5_meshes 137 = .ok (.aload_n 0, 1) := by decide +kernel
theorem dX5_meshes_138 : decode cX5_meshes 138 = .ok (.bipush 24, 2) := by decide +kernel
theorem dX5_meshes_140 : decode cX5_meshes 140 = .ok (.iload_n 2, 1) := by decide +kernel
theorem dX5_meshes_141 : decode cX5_meshes 141 = .ok (.imul, 1) := by decide +kernel
theorem dX5_meshes_142 : decode cX5_meshes 142 = .ok (.iload 4, 2) := by decide +kernel
theorem dX5_meshes_144 : decode cX5_meshes 144 = .ok (.iadd, 1) := by decide +kernel
theorem dX5_meshes_145 : decode cX5_meshes 145 = .ok (.invokevirtual 264, 3) := by decide +kernel
theorem dX5_meshes_148 : decode cX5_meshes 148 = .ok (.ifCond .eq 12, 3) := by decide +kernel
theorem dX5_meshes_151 : decode cX5_meshes 151 = .ok (.lconst 1, 1) := by decide +kernel
theorem dX5_meshes_152 : decode cX5_meshes 152 = .ok (.iload 9, 2) := by decide +kernel
theorem dX5_meshes_154 : decode cX5_meshes 154 = .ok (.iconst 1, 1) := by decide +kernel
theorem dX5_meshes_155 : decode cX5_meshes 155 = .ok (.isub, 1) := by decide +kernel
theorem dX5_meshes_156 : decode cX5_meshes 156 = .ok (.lshl, 1) := by decide +kernel
theorem dX5_meshes_157 : decode cX5_meshes 157 = .ok (.goto 4, 3) := by decide +kernel
theorem dX5_meshes_160 : decode cX5_meshes 160 = .ok (.lconst 0, 1) := by decide +kernel
theorem dX5_meshes_161 : decode cX5_meshes 161 = .ok (.lor, 1) := by decide +kernel
theorem dX5_meshes_162 : decode cX5_meshes 162 = .ok (.lstore 7, 2) := by decide +kernel
theorem dX5_meshes_164 : decode cX5_meshes 164 = .ok (.iinc 9 1, 3) := by decide +kernel
theorem dX5_meshes_167 : decode cX5_meshes 167 = .ok (.goto (-47), 3) := by decide +kernel
theorem dX5_meshes_170 : decode cX5_meshes 170 = .ok (.lload 7, 2) := by decide +kernel
theorem dX5_meshes_172 : decode cX5_meshes 172 = .ok (.lreturn, 1) := by decide +kernel
theorem dX5_torn_0 : decode cX5_torn 0 = .ok (.iload_n 1, 1) := by decide +kernel
theorem dX5_torn_1 : decode cX5_torn 1 = .ok (.iload_n 2, 1) := by decide +kernel
theorem dX5_torn_2 : decode cX5_torn 2 = .ok (.invokestatic 254, 3) := by decide +kernel
theorem dX5_torn_5 : decode cX5_torn 5 = .ok (.ifCond .ne 5, 3) := by decide +kernel
theorem dX5_torn_8 : decode cX5_torn 8 = .ok (.iconst (-1), 1) := by decide +kernel
theorem dX5_torn_9 : decode cX5_torn 9 = .ok (.ireturn, 1) := by decide +kernel
theorem dX5_torn_10 : decode cX5_torn 10 = .ok (.aload_n 0, 1) := by decide +kernel
theorem dX5_torn_11 : decode cX5_torn 11 = .ok (.iload_n 1, 1) := by decide +kernel
theorem dX5_torn_12 : decode cX5_torn 12 = .ok (.iload_n 2, 1) := by decide +kernel
theorem dX5_torn_13 : decode cX5_torn 13 = .ok (.iload_n 3, 1) := by decide +kernel
theorem dX5_torn_14 : decode cX5_torn 14 = .ok (.aload_n 0, 1) := by decide +kernel
theorem dX5_torn_15 : decode cX5_torn 15 = .ok (.getfield 64, 3) := by decide +kernel
theorem dX5_torn_18 : decode cX5_torn 18 = .ok (.invokevirtual 257, 3) := by decide +kernel
theorem dX5_torn_21 : decode cX5_torn 21 = .ok (.istore 4, 2) := by decide +kernel
theorem dX5_torn_23 : decode cX5_torn 23 = .ok (.iload 4, 2) := by decide +kernel
theorem dX5_torn_25 : decode cX5_torn 25 = .ok (.ifCond .ge 6, 3) := by decide +kernel
theorem dX5_torn_28 : decode cX5_torn 28 = .ok (.iload 4, 2) := by decide +kernel
theorem dX5_torn_30 : decode cX5_torn 30 = .ok (.ireturn, 1) := by decide +kernel
theorem dX5_torn_31 : decode cX5_torn 31 = .ok (.aload_n 0, 1) := by decide +kernel
theorem dX5_torn_32 : decode cX5_torn 32 = .ok (.invokevirtual 183, 3) := by decide +kernel
theorem dX5_torn_35 : decode cX5_torn 35 = .ok (.aload_n 0, 1) := by decide +kernel
theorem dX5_torn_36 : decode cX5_torn 36 = .ok (.invokevirtual 186, 3) := by decide +kernel
theorem dX5_torn_39 : decode cX5_torn 39 = .ok (.bipush 24, 2) := by decide +kernel
theorem dX5_torn_41 : decode cX5_torn 41 = .ok (.iload_n 1, 1) := by decide +kernel
theorem dX5_torn_42 : decode cX5_torn 42 = .ok (.imul, 1) := by decide +kernel
theorem dX5_torn_43 : decode cX5_torn 43 = .ok (.iload_n 3, 1) := by decide +kernel
theorem dX5_torn_44 : decode cX5_torn 44 = .ok (.iadd, 1) := by decide +kernel
theorem dX5_torn_45 : decode cX5_torn 45 = .ok (.istore 5, 2) := by decide +kernel
theorem dX5_torn_47 : decode cX5_torn 47 = .ok (.aload_n 0, 1) := by decide +kernel
theorem dX5_torn_48 : decode cX5_torn 48 = .ok (.iload 5, 2) := by decide +kernel
theorem dX5_torn_50 : decode cX5_torn 50 = .ok (.invokevirtual 264, 3) := by decide +kernel
theorem dX5_torn_53 : decode cX5_torn 53 = .ok (.ifCond .eq 9, 3) := by decide +kernel
theorem dX5_torn_56 : decode cX5_torn 56 = .ok (.sipush 128, 3) := by decide +kernel
theorem dX5_torn_59 : decode cX5_torn 59 = .ok (.goto 4, 3) := by decide +kernel
theorem dX5_torn_62 : decode cX5_torn 62 = .ok (.iconst 0, 1) := by decide +kernel
theorem dX5_torn_63 : decode cX5_torn 63 = .ok (.istore 6, 2) := by decide +kernel
theorem dX5_torn_65 : decode cX5_torn 65 = .ok (.iconst 0, 1) := by decide +kernel
theorem dX5_torn_66 : decode cX5_torn 66 = .ok (.istore 7, 2) := by decide +kernel
theorem dX5_torn_68 : decode cX5_torn 68 = .ok (.iload 7, 2) := by decide +kernel
theorem dX5_torn_70 : decode cX5_torn 70 = .ok (.aload_n 0, 1) := by decide +kernel
theorem dX5_torn_71 : decode cX5_torn 71 = .ok (.getfield 164, 3) := by decide +kernel
theorem dX5_torn_74 : decode cX5_torn 74 = .ok (.if_icmp .ge 64, 3) := by decide +kernel
theorem dX5_torn_77 : decode cX5_torn 77 = .ok (.aload_n 0, 1) := by decide +kernel
theorem dX5_torn_78 : decode cX5_torn 78 = .ok (.getfield 31, 3) := by decide +kernel
theorem dX5_torn_81 : decode cX5_torn 81 = .ok (.iload 7, 2) := by decide +kernel
theorem dX5_torn_83 : decode cX5_torn 83 = .ok (.iaload, 1) := by decide +kernel
theorem dX5_torn_84 : decode cX5_torn 84 = .ok (.istore 8, 2) := by decide +kernel
theorem dX5_torn_86 : decode cX5_torn 86 = .ok (.aload_n 0, 1) := by decide +kernel
theorem dX5_torn_87 : decode cX5_torn 87 = .ok (.getfield 34, 3) := by decide +kernel
theorem dX5_torn_90 : decode cX5_torn 90 = .ok (.iload 8, 2) := by decide +kernel
theorem dX5_torn_92 : decode cX5_torn 92 = .ok (.iconst 3, 1) := by decide +kernel
theorem dX5_torn_93 : decode cX5_torn 93 = .ok (.iastore, 1) := by decide +kernel
theorem dX5_torn_94 : decode cX5_torn 94 = .ok (.iload 6, 2) := by decide +kernel
theorem dX5_torn_96 : decode cX5_torn 96 = .ok (.aload_n 0, 1) := by decide +kernel
theorem dX5_torn_97 : decode cX5_torn 97 = .ok (.iload 5, 2) := by decide +kernel
theorem dX5_torn_99 : decode cX5_torn 99 = .ok (.invokevirtual 264, 3) := by decide +kernel
theorem dX5_torn_102 : decode cX5_torn 102 = .ok (.ifCond .eq 10, 3) := by decide +kernel
theorem dX5_torn_105 : decode cX5_torn 105 = .ok (.iconst 1, 1) := by decide +kernel
theorem dX5_torn_106 : decode cX5_torn 106 = .ok (.iload 7, 2) := by decide +kernel
theorem dX5_torn_108 : decode cX5_torn 108 = .ok (.ishl, 1) := by decide +kernel
theorem dX5_torn_109 : decode cX5_torn 109 = .ok (.goto 4, 3) := by decide +kernel
theorem dX5_torn_112 : decode cX5_torn 112 = .ok (.iconst 0, 1) := by decide +kernel
theorem dX5_torn_113 : decode cX5_torn 113 = .ok (.ior, 1) := by decide +kernel
theorem dX5_torn_114 : decode cX5_torn 114 = .ok (.istore 6, 2) := by decide +kernel
theorem dX5_torn_116 : decode cX5_torn 116 = .ok (.aload_n 0, 1) := by decide +kernel
theorem dX5_torn_117 : decode cX5_torn 117 = .ok (.getfield 34, 3) := by decide +kernel
theorem dX5_torn_120 : decode cX5_torn 120 = .ok (.iload 8, 2) := by decide +kernel
theorem dX5_torn_122 : decode cX5_torn 122 = .ok (.aload_n 0, 1) := by decide +kernel
theorem dX5_torn_123 : decode cX5_torn 123 = .ok (.getfield 19, 3) := by decide +kernel
theorem dX5_torn_126 : decode cX5_torn 126 = .ok (.iconst 4, 1) := by decide +kernel
theorem dX5_torn_127 : decode cX5_torn 127 = .ok (.iload 8, 2) := by decide +kernel
theorem dX5_torn_129 : decode cX5_torn 129 = .ok (.imul, 1) := by decide +kernel
theorem dX5_torn_130 : decode cX5_torn 130 = .ok (.iaload, 1) := by decide +kernel
theorem dX5_torn_131 : decode cX5_torn 131 = .ok (.iastore, 1) := by decide +kernel
theorem dX5_torn_132 : decode cX5_torn 132 = .ok (.iinc 7 1, 3) := by decide +kernel
theorem dX5_torn_135 : decode cX5_torn 135 = .ok (.goto (-67), 3) := by decide +kernel
theorem dX5_torn_138 : decode cX5_torn 138 = .ok (.iload 6, 2) := by decide +kernel
theorem dX5_torn_140 : decode cX5_torn 140 = .ok (.ireturn, 1) := by decide +kernel
theorem dX5_film_0 : decode cX5_film 0 = .ok (.iload_n 1, 1) := by decide +kernel
theorem dX5_film_1 : decode cX5_film 1 = .ok (.iload_n 2, 1) := by decide +kernel
theorem dX5_film_2 : decode cX5_film 2 = .ok (.invokestatic 254, 3) := by decide +kernel
theorem dX5_film_5 : decode cX5_film 5 = .ok (.ifCond .ne 5, 3) := by decide +kernel
theorem dX5_film_8 : decode cX5_film 8 = .ok (.iconst (-1), 1) := by decide +kernel
theorem dX5_film_9 : decode cX5_film 9 = .ok (.ireturn, 1) := by decide +kernel
theorem dX5_film_10 : decode cX5_film 10 = .ok (.aload_n 0, 1) := by decide +kernel
theorem dX5_film_11 : decode cX5_film 11 = .ok (.iload_n 1, 1) := by decide +kernel
theorem dX5_film_12 : decode cX5_film 12 = .ok (.iload_n 2, 1) := by decide +kernel
theorem dX5_film_13 : decode cX5_film 13 = .ok (.iload_n 3, 1) := by decide +kernel
theorem dX5_film_14 : decode cX5_film 14 = .ok (.aload_n 0, 1) := by decide +kernel
theorem dX5_film_15 : decode cX5_film 15 = .ok (.getfield 64, 3) := by decide +kernel
theorem dX5_film_18 : decode cX5_film 18 = .ok (.invokevirtual 257, 3) := by decide +kernel
theorem dX5_film_21 : decode cX5_film 21 = .ok (.istore 4, 2) := by decide +kernel
theorem dX5_film_23 : decode cX5_film 23 = .ok (.iload 4, 2) := by decide +kernel
theorem dX5_film_25 : decode cX5_film 25 = .ok (.ifCond .ge 6, 3) := by decide +kernel
theorem dX5_film_28 : decode cX5_film 28 = .ok (.iload 4, 2) := by decide +kernel
theorem dX5_film_30 : decode cX5_film 30 = .ok (.ireturn, 1) := by decide +kernel
theorem dX5_film_31 : decode cX5_film 31 = .ok (.aload_n 0, 1) := by decide +kernel
theorem dX5_film_32 : decode cX5_film 32 = .ok (.invokevirtual 192, 3) := by decide +kernel
theorem dX5_film_35 : decode cX5_film 35 = .ok (.iconst 0, 1) := by decide +kernel
theorem dX5_film_36 : decode cX5_film 36 = .ok (.istore 5, 2) := by decide +kernel
theorem dX5_film_38 : decode cX5_film 38 = .ok (.iload 5, 2) := by decide +kernel
theorem dX5_film_40 : decode cX5_film 40 = .ok (.aload_n 0, 1) := by decide +kernel
theorem dX5_film_41 : decode cX5_film 41 = .ok (.getfield 64, 3) := by decide +kernel
theorem dX5_film_44 : decode cX5_film 44 = .ok (.if_icmp .ge 30, 3) := by decide +kernel
theorem dX5_film_47 : decode cX5_film 47 = .ok (.aload_n 0, 1) := by decide +kernel
theorem dX5_film_48 : decode cX5_film 48 = .ok (.getfield 58, 3) := by decide +kernel
theorem dX5_film_51 : decode cX5_film 51 = .ok (.bipush 24, 2) := by decide +kernel
theorem dX5_film_53 : decode cX5_film 53 = .ok (.iload_n 1, 1) := by decide +kernel
theorem dX5_film_54 : decode cX5_film 54 = .ok (.imul, 1) := by decide +kernel
theorem dX5_film_55 : decode cX5_film 55 = .ok (.iload_n 3, 1) := by decide +kernel
theorem dX5_film_56 : decode cX5_film 56 = .ok (.iadd, 1) := by decide +kernel
theorem dX5_film_57 : decode cX5_film 57 = .ok (.iload 5, 2) := by decide +kernel
theorem dX5_film_59 : decode cX5_film 59 = .ok (.iadd, 1) := by decide +kernel
theorem dX5_film_60 : decode cX5_film 60 = .ok (.aload_n 0, 1) := by decide +kernel
theorem dX5_film_61 : decode cX5_film 61 = .ok (.getfield 40, 3) := by decide +kernel
theorem dX5_film_64 : decode cX5_film 64 = .ok (.iload 5, 2) := by decide +kernel
theorem dX5_film_66 : decode cX5_film 66 = .ok (.iaload, 1) := by decide +kernel
theorem dX5_film_67 : decode cX5_film 67 = .ok (.iastore, 1) := by decide +kernel
theorem dX5_film_68 : decode cX5_film 68 = .ok (.iinc 5 1, 3) := by decide +kernel
theorem dX5_film_71 : decode cX5_film 71 = .ok (.goto (-33), 3) := by decide +kernel
theorem dX5_film_74 : decode cX5_film 74 = .ok (.aload_n 0, 1) := by decide +kernel
theorem dX5_film_75 : decode cX5_film 75 = .ok (.getfield 64, 3) := by decide +kernel
theorem dX5_film_78 : decode cX5_film 78 = .ok (.ireturn, 1) := by decide +kernel
theorem dX5_copy_0 : decode cX5_copy 0 = .ok (.iload_n 1, 1) := by decide +kernel
theorem dX5_copy_1 : decode cX5_copy 1 = .ok (.i2l, 1) := by decide +kernel
theorem dX5_copy_2 : decode cX5_copy 2 = .ok (.lconst 0, 1) := by decide +kernel
theorem dX5_copy_3 : decode cX5_copy 3 = .ok (.ldc2_w 91, 3) := by decide +kernel
theorem dX5_copy_6 : decode cX5_copy 6 = .ok (.invokestatic 68, 3) := by decide +kernel
theorem dX5_copy_9 : decode cX5_copy 9 = .ok (.ifCond .eq 15, 3) := by decide +kernel
theorem dX5_copy_12 : decode cX5_copy 12 = .ok (.iload_n 3, 1) := by decide +kernel
theorem dX5_copy_13 : decode cX5_copy 13 = .ok (.i2l, 1) := by decide +kernel
theorem dX5_copy_14 : decode cX5_copy 14 = .ok (.lconst 0, 1) := by decide +kernel
theorem dX5_copy_15 : decode cX5_copy 15 = .ok (.ldc2_w 91, 3) := by decide +kernel
theorem dX5_copy_18 : decode cX5_copy 18 = .ok (.invokestatic 68, 3) := by decide +kernel
theorem dX5_copy_21 : decode cX5_copy 21 = .ok (.ifCond .ne 5, 3) := by decide +kernel
theorem dX5_copy_24 : decode cX5_copy 24 = .ok (.iconst (-1), 1) := by decide +kernel
theorem dX5_copy_25 : decode cX5_copy 25 = .ok (.ireturn, 1) := by decide +kernel
theorem dX5_copy_26 : decode cX5_copy 26 = .ok (.aload_n 0, 1) := by decide +kernel
theorem dX5_copy_27 : decode cX5_copy 27 = .ok (.getfield 52, 3) := by decide +kernel
theorem dX5_copy_30 : decode cX5_copy 30 = .ok (.iload_n 1, 1) := by decide +kernel
theorem dX5_copy_31 : decode cX5_copy 31 = .ok (.iaload, 1) := by decide +kernel
theorem dX5_copy_32 : decode cX5_copy 32 = .ok (.ifCond .lt 12, 3) := by decide +kernel
theorem dX5_copy_35 : decode cX5_copy 35 = .ok (.aload_n 0, 1) := by decide +kernel
theorem dX5_copy_36 : decode cX5_copy 36 = .ok (.getfield 52, 3) := by decide +kernel
theorem dX5_copy_39 : decode cX5_copy 39 = .ok (.iload_n 3, 1) := by decide +kernel
theorem dX5_copy_40 : decode cX5_copy 40 = .ok (.iaload, 1) := by decide +kernel
theorem dX5_copy_41 : decode cX5_copy 41 = .ok (.ifCond .ge 6, 3) := by decide +kernel
theorem dX5_copy_44 : decode cX5_copy 44 = .ok (.bipush (-11), 2) := by decide +kernel
theorem dX5_copy_46 : decode cX5_copy 46 = .ok (.ireturn, 1) := by decide +kernel
theorem dX5_copy_47 : decode cX5_copy 47 = .ok (.aload_n 0, 1) := by decide +kernel
theorem dX5_copy_48 : decode cX5_copy 48 = .ok (.getfield 52, 3) := by decide +kernel
theorem dX5_copy_51 : decode cX5_copy 51 = .ok (.iload_n 1, 1) := by decide +kernel
theorem dX5_copy_52 : decode cX5_copy 52 = .ok (.iaload, 1) := by decide +kernel
theorem dX5_copy_53 : decode cX5_copy 53 = .ok (.aload_n 0, 1) := by decide +kernel
theorem dX5_copy_54 : decode cX5_copy 54 = .ok (.getfield 52, 3) := by decide +kernel
theorem dX5_copy_57 : decode cX5_copy 57 = .ok (.iload_n 3, 1) := by decide +kernel
theorem dX5_copy_58 : decode cX5_copy 58 = .ok (.iaload, 1) := by decide +kernel
theorem dX5_copy_59 : decode cX5_copy 59 = .ok (.if_icmp .eq 6, 3) := by decide +kernel
theorem dX5_copy_62 : decode cX5_copy 62 = .ok (.bipush (-12), 2) := by decide +kernel
theorem dX5_copy_64 : decode cX5_copy 64 = .ok (.ireturn, 1) := by decide +kernel
theorem dX5_copy_65 : decode cX5_copy 65 = .ok (.iload 5, 2) := by decide +kernel
theorem dX5_copy_67 : decode cX5_copy 67 = .ok (.ifCond .lt 44, 3) := by decide +kernel
theorem dX5_copy_70 : decode cX5_copy 70 = .ok (.iload_n 2, 1) := by decide +kernel
theorem dX5_copy_71 : decode cX5_copy 71 = .ok (.i2l, 1) := by decide +kernel
theorem dX5_copy_72 : decode cX5_copy 72 = .ok (.lconst 0, 1) := by decide +kernel
theorem dX5_copy_73 : decode cX5_copy 73 = .ok (.aload_n 0, 1) := by decide +kernel
theorem dX5_copy_74 : decode cX5_copy 74 = .ok (.getfield 55, 3) := by decide +kernel
theorem dX5_copy_77 : decode cX5_copy 77 = .ok (.iload_n 1, 1) := by decide +kernel
theorem dX5_copy_78 : decode cX5_copy 78 = .ok (.iaload, 1) := by decide +kernel
theorem dX5_copy_79 : decode cX5_copy 79 = .ok (.i2l, 1) := by decide +kernel
theorem dX5_copy_80 : decode cX5_copy 80 = .ok (.iload 5, 2) := by decide +kernel
theorem dX5_copy_82 : decode cX5_copy 82 = .ok (.i2l, 1) := by decide +kernel
theorem dX5_copy_83 : decode cX5_copy 83 = .ok (.lsub, 1) := by decide +kernel
theorem dX5_copy_84 : decode cX5_copy 84 = .ok (.invokestatic 68, 3) := by decide +kernel
theorem dX5_copy_87 : decode cX5_copy 87 = .ok (.ifCond .eq 24, 3) := by decide +kernel
theorem dX5_copy_90 : decode cX5_copy 90 = .ok (.iload 4, 2) := by decide +kernel
theorem dX5_copy_92 : decode cX5_copy 92 = .ok (.i2l, 1) := by decide +kernel
theorem dX5_copy_93 : decode cX5_copy 93 = .ok (.lconst 0, 1) := by decide +kernel
theorem dX5_copy_94 : decode cX5_copy 94 = .ok (.aload_n 0, 1) := by decide +kernel
theorem dX5_copy_95 : decode cX5_copy 95 = .ok (.getfield 55, 3) := by decide +kernel
theorem dX5_copy_98 : decode cX5_copy 98 = .ok (.iload_n 3, 1) := by decide +kernel
theorem dX5_copy_99 : decode cX5_copy 99 = .ok (.iaload, 1) := by decide +kernel
theorem dX5_copy_100 : decode cX5_copy 100 = .ok (.i2l, 1) := by decide +kernel
theorem dX5_copy_101 : decode cX5_copy 101 = .ok (.iload 5, 2) := by decide +kernel
theorem dX5_copy_103 : decode cX5_copy 103 = .ok (.i2l, 1) := by decide +kernel
theorem dX5_copy_104 : decode cX5_copy 104 = .ok (.lsub, 1) := by decide +kernel
theorem dX5_copy_105 : decode cX5_copy 105 = .ok (.invokestatic 68, 3) := by decide +kernel
theorem dX5_copy_108 : decode cX5_copy 108 = .ok (.ifCond .ne 6, 3) := by decide +kernel
theorem dX5_copy_111 : decode cX5_copy 111 = .ok (.bipush (-13), 2) := by decide +kernel
theorem dX5_copy_113 : decode cX5_copy 113 = .ok (.ireturn, 1) := by decide +kernel
theorem dX5_copy_114 : decode cX5_copy 114 = .ok (.iconst 0, 1) := by decide +kernel
theorem dX5_copy_115 : decode cX5_copy 115 = .ok (.istore 6, 2) := by decide +kernel
theorem dX5_copy_117 : decode cX5_copy 117 = .ok (.iload 6, 2) := by decide +kernel
theorem dX5_copy_119 : decode cX5_copy 119 = .ok (.iload 5, 2) := by decide +kernel
theorem dX5_copy_121 : decode cX5_copy 121 = .ok (.if_icmp .ge 30, 3) := by decide +kernel
theorem dX5_copy_124 : decode cX5_copy 124 = .ok (.aload_n 0, 1) := by decide +kernel
theorem dX5_copy_125 : decode cX5_copy 125 = .ok (.getfield 61, 3) := by decide +kernel
theorem dX5_copy_128 : decode cX5_copy 128 = .ok (.iload 6, 2) := by decide +kernel
theorem dX5_copy_130 : decode cX5_copy 130 = .ok (.aload_n 0, 1) := by decide +kernel
theorem dX5_copy_131 : decode cX5_copy 131 = .ok (.getfield 58, 3) := by decide +kernel
theorem dX5_copy_134 : decode cX5_copy 134 = .ok (.bipush 24, 2) := by decide +kernel
theorem dX5_copy_136 : decode cX5_copy 136 = .ok (.iload_n 1, 1) := by decide +kernel
theorem dX5_copy_137 : decode cX5_copy 137 = .ok (.imul, 1) := by decide +kernel
theorem dX5_copy_138 : decode cX5_copy 138 = .ok (.iload_n 2, 1) := by decide +kernel
theorem dX5_copy_139 : decode cX5_copy 139 = .ok (.iadd, 1) := by decide +kernel
theorem dX5_copy_140 : decode cX5_copy 140 = .ok (.iload 6, 2) := by decide +kernel
theorem dX5_copy_142 : decode cX5_copy 142 = .ok (.iadd, 1) := by decide +kernel
theorem dX5_copy_143 : decode cX5_copy 143 = .ok (.iaload, 1) := by decide +kernel
theorem dX5_copy_144 : decode cX5_copy 144 = .ok (.iastore, 1) := by decide +kernel
theorem dX5_copy_145 : decode cX5_copy 145 = .ok (.iinc 6 1, 3) := by decide +kernel
theorem dX5_copy_148 : decode cX5_copy 148 = .ok (.goto (-31), 3) := by decide +kernel
theorem dX5_copy_151 : decode cX5_copy 151 = .ok (.iconst 0, 1) := by decide +kernel
theorem dX5_copy_152 : decode cX5_copy 152 = .ok (.istore 6, 2) := by decide +kernel
theorem dX5_copy_154 : decode cX5_copy 154 = .ok (.iload 6, 2) := by decide +kernel
theorem dX5_copy_156 : decode cX5_copy 156 = .ok (.iload 5, 2) := by decide +kernel
theorem dX5_copy_158 : decode cX5_copy 158 = .ok (.if_icmp .ge 31, 3) := by decide +kernel
theorem dX5_copy_161 : decode cX5_copy 161 = .ok (.aload_n 0, 1) := by decide +kernel
theorem dX5_copy_162 : decode cX5_copy 162 = .ok (.getfield 58, 3) := by decide +kernel
theorem dX5_copy_165 : decode cX5_copy 165 = .ok (.bipush 24, 2) := by decide +kernel
theorem dX5_copy_167 : decode cX5_copy 167 = .ok (.iload_n 3, 1) := by decide +kernel
theorem dX5_copy_168 : decode cX5_copy 168 = .ok (.imul, 1) := by decide +kernel
theorem dX5_copy_169 : decode cX5_copy 169 = .ok (.iload 4, 2) := by decide +kernel
theorem dX5_copy_171 : decode cX5_copy 171 = .ok (.iadd, 1) := by decide +kernel
theorem dX5_copy_172 : decode cX5_copy 172 = .ok (.iload 6, 2) := by decide +kernel
theorem dX5_copy_174 : decode cX5_copy 174 = .ok (.iadd, 1) := by decide +kernel
theorem dX5_copy_175 : decode cX5_copy 175 = .ok (.aload_n 0, 1) := by decide +kernel
theorem dX5_copy_176 : decode cX5_copy 176 = .ok (.getfield 61, 3) := by decide +kernel
theorem dX5_copy_179 : decode cX5_copy 179 = .ok (.iload 6, 2) := by decide +kernel
theorem dX5_copy_181 : decode cX5_copy 181 = .ok (.iaload, 1) := by decide +kernel
theorem dX5_copy_182 : decode cX5_copy 182 = .ok (.iastore, 1) := by decide +kernel
theorem dX5_copy_183 : decode cX5_copy 183 = .ok (.iinc 6 1, 3) := by decide +kernel
theorem dX5_copy_186 : decode cX5_copy 186 = .ok (.goto (-32), 3) := by decide +kernel
theorem dX5_copy_189 : decode cX5_copy 189 = .ok (.iload 5, 2) := by decide +kernel
theorem dX5_copy_191 : decode cX5_copy 191 = .ok (.ireturn, 1) := by decide +kernel
theorem dJ6_bitCount_0f7a4_0 : decode cJ6_bitCount_0f7a4 0 = .ok (.iload_n 0, 1) := by decide +kernel
theorem dJ6_bitCount_0f7a4_1 : decode cJ6_bitCount_0f7a4 1 = .ok (.iload_n 0, 1) := by decide +kernel
theorem dJ6_bitCount_0f7a4_2 : decode cJ6_bitCount_0f7a4 2 = .ok (.iconst 1, 1) := by decide +kernel
theorem dJ6_bitCount_0f7a4_3 : decode cJ6_bitCount_0f7a4 3 = .ok (.iushr, 1) := by decide +kernel
theorem dJ6_bitCount_0f7a4_4 : decode cJ6_bitCount_0f7a4 4 = .ok (.ldc_w 265, 3) := by decide +kernel
theorem dJ6_bitCount_0f7a4_7 : decode cJ6_bitCount_0f7a4 7 = .ok (.iand, 1) := by decide +kernel
theorem dJ6_bitCount_0f7a4_8 : decode cJ6_bitCount_0f7a4 8 = .ok (.isub, 1) := by decide +kernel
theorem dJ6_bitCount_0f7a4_9 : decode cJ6_bitCount_0f7a4 9 = .ok (.istore_n 0, 1) := by decide +kernel
theorem dJ6_bitCount_0f7a4_10 : decode cJ6_bitCount_0f7a4 10 = .ok (.iload_n 0, 1) := by decide +kernel
theorem dJ6_bitCount_0f7a4_11 : decode cJ6_bitCount_0f7a4 11 = .ok (.ldc_w 266, 3) := by decide +kernel
theorem dJ6_bitCount_0f7a4_14 : decode cJ6_bitCount_0f7a4 14 = .ok (.iand, 1) := by decide +kernel
theorem dJ6_bitCount_0f7a4_15 : decode cJ6_bitCount_0f7a4 15 = .ok (.iload_n 0, 1) := by decide +kernel
theorem dJ6_bitCount_0f7a4_16 : decode cJ6_bitCount_0f7a4 16 = .ok (.iconst 2, 1) := by decide +kernel
theorem dJ6_bitCount_0f7a4_17 : decode cJ6_bitCount_0f7a4 17 = .ok (.iushr, 1) := by decide +kernel
theorem dJ6_bitCount_0f7a4_18 : decode cJ6_bitCount_0f7a4 18 = .ok (.ldc_w 266, 3) := by decide +kernel
theorem dJ6_bitCount_0f7a4_21 : decode cJ6_bitCount_0f7a4 21 = .ok (.iand, 1) := by decide +kernel
theorem dJ6_bitCount_0f7a4_22 : decode cJ6_bitCount_0f7a4 22 = .ok (.iadd, 1) := by decide +kernel
theorem dJ6_bitCount_0f7a4_23 : decode cJ6_bitCount_0f7a4 23 = .ok (.istore_n 0, 1) := by decide +kernel
theorem dJ6_bitCount_0f7a4_24 : decode cJ6_bitCount_0f7a4 24 = .ok (.iload_n 0, 1) := by decide +kernel
theorem dJ6_bitCount_0f7a4_25 : decode cJ6_bitCount_0f7a4 25 = .ok (.iload_n 0, 1) := by decide +kernel
theorem dJ6_bitCount_0f7a4_26 : decode cJ6_bitCount_0f7a4 26 = .ok (.iconst 4, 1) := by decide +kernel
theorem dJ6_bitCount_0f7a4_27 : decode cJ6_bitCount_0f7a4 27 = .ok (.iushr, 1) := by decide +kernel
theorem dJ6_bitCount_0f7a4_28 : decode cJ6_bitCount_0f7a4 28 = .ok (.iadd, 1) := by decide +kernel
theorem dJ6_bitCount_0f7a4_29 : decode cJ6_bitCount_0f7a4 29 = .ok (.ldc_w 267, 3) := by decide +kernel
theorem dJ6_bitCount_0f7a4_32 : decode cJ6_bitCount_0f7a4 32 = .ok (.iand, 1) := by decide +kernel
theorem dJ6_bitCount_0f7a4_33 : decode cJ6_bitCount_0f7a4 33 = .ok (.istore_n 0, 1) := by decide +kernel
theorem dJ6_bitCount_0f7a4_34 : decode cJ6_bitCount_0f7a4 34 = .ok (.iload_n 0, 1) := by decide +kernel
theorem dJ6_bitCount_0f7a4_35 : decode cJ6_bitCount_0f7a4 35 = .ok (.iload_n 0, 1) := by decide +kernel
theorem dJ6_bitCount_0f7a4_36 : decode cJ6_bitCount_0f7a4 36 = .ok (.bipush 8, 2) := by decide +kernel
theorem dJ6_bitCount_0f7a4_38 : decode cJ6_bitCount_0f7a4 38 = .ok (.iushr, 1) := by decide +kernel
theorem dJ6_bitCount_0f7a4_39 : decode cJ6_bitCount_0f7a4 39 = .ok (.iadd, 1) := by decide +kernel
theorem dJ6_bitCount_0f7a4_40 : decode cJ6_bitCount_0f7a4 40 = .ok (.istore_n 0, 1) := by decide +kernel
theorem dJ6_bitCount_0f7a4_41 : decode cJ6_bitCount_0f7a4 41 = .ok (.iload_n 0, 1) := by decide +kernel
theorem dJ6_bitCount_0f7a4_42 : decode cJ6_bitCount_0f7a4 42 = .ok (.iload_n 0, 1) := by decide +kernel
theorem dJ6_bitCount_0f7a4_43 : decode cJ6_bitCount_0f7a4 43 = .ok (.bipush 16, 2) := by decide +kernel
theorem dJ6_bitCount_0f7a4_45 : decode cJ6_bitCount_0f7a4 45 = .ok (.iushr, 1) := by decide +kernel
theorem dJ6_bitCount_0f7a4_46 : decode cJ6_bitCount_0f7a4 46 = .ok (.iadd, 1) := by decide +kernel
theorem dJ6_bitCount_0f7a4_47 : decode cJ6_bitCount_0f7a4 47 = .ok (.istore_n 0, 1) := by decide +kernel
theorem dJ6_bitCount_0f7a4_48 : decode cJ6_bitCount_0f7a4 48 = .ok (.iload_n 0, 1) := by decide +kernel
theorem dJ6_bitCount_0f7a4_49 : decode cJ6_bitCount_0f7a4 49 = .ok (.bipush 63, 2) := by decide +kernel
theorem dJ6_bitCount_0f7a4_51 : decode cJ6_bitCount_0f7a4 51 = .ok (.iand, 1) := by decide +kernel
theorem dJ6_bitCount_0f7a4_52 : decode cJ6_bitCount_0f7a4 52 = .ok (.ireturn, 1) := by decide +kernel
theorem dJ9_min_7cf53_0 : decode cJ9_min_7cf53 0 = .ok (.iload_n 0, 1) := by decide +kernel
theorem dJ9_min_7cf53_1 : decode cJ9_min_7cf53 1 = .ok (.iload_n 1, 1) := by decide +kernel
theorem dJ9_min_7cf53_2 : decode cJ9_min_7cf53 2 = .ok (.if_icmp .gt 7, 3) := by decide +kernel
theorem dJ9_min_7cf53_5 : decode cJ9_min_7cf53 5 = .ok (.iload_n 0, 1) := by decide +kernel
theorem dJ9_min_7cf53_6 : decode cJ9_min_7cf53 6 = .ok (.goto 4, 3) := by decide +kernel
theorem dJ9_min_7cf53_9 : decode cJ9_min_7cf53 9 = .ok (.iload_n 1, 1) := by decide +kernel
theorem dJ9_min_7cf53_10 : decode cJ9_min_7cf53 10 = .ok (.ireturn, 1) := by decide +kernel
theorem dL_law_0 : decode cL_law 0 = .ok (.new 7, 3) := by decide +kernel
theorem dL_law_3 : decode cL_law 3 = .ok (.dup, 1) := by decide +kernel
theorem dL_law_4 : decode cL_law 4 = .ok (.invokespecial 9, 3) := by decide +kernel
theorem dL_law_7 : decode cL_law 7 = .ok (.astore_n 1, 1) := by decide +kernel
theorem dL_law_8 : decode cL_law 8 = .ok (.new 10, 3) := by decide +kernel
theorem dL_law_11 : decode cL_law 11 = .ok (.dup, 1) := by decide +kernel
theorem dL_law_12 : decode cL_law 12 = .ok (.invokespecial 12, 3) := by decide +kernel
theorem dL_law_15 : decode cL_law 15 = .ok (.astore_n 2, 1) := by decide +kernel
theorem dL_law_16 : decode cL_law 16 = .ok (.iconst 0, 1) := by decide +kernel
theorem dL_law_17 : decode cL_law 17 = .ok (.istore_n 3, 1) := by decide +kernel
theorem dL_law_18 : decode cL_law 18 = .ok (.iload_n 3, 1) := by decide +kernel
theorem dL_law_19 : decode cL_law 19 = .ok (.aload_n 0, 1) := by decide +kernel
theorem dL_law_20 : decode cL_law 20 = .ok (.arraylength, 1) := by decide +kernel
theorem dL_law_21 : decode cL_law 21 = .ok (.bipush 6, 2) := by decide +kernel
theorem dL_law_23 : decode cL_law 23 = .ok (.isub, 1) := by decide +kernel
theorem dL_law_24 : decode cL_law 24 = .ok (.if_icmp .gt 1095, 3) := by decide +kernel
theorem dL_law_27 : decode cL_law 27 = .ok (.aload_n 0, 1) := by decide +kernel
theorem dL_law_28 : decode cL_law 28 = .ok (.iload_n 3, 1) := by decide +kernel
theorem dL_law_29 : decode cL_law 29 = .ok (.iaload, 1) := by decide +kernel
theorem dL_law_30 : decode cL_law 30 = .ok (.bipush 31, 2) := by decide +kernel
theorem dL_law_32 : decode cL_law 32 = .ok (.iand, 1) := by decide +kernel
theorem dL_law_33 : decode cL_law 33 = .ok (.tableswitch 1080 0 28 #[131, 174, 217, 270, 303, 336, 399, 412, 425, 438, 461, 494, 517, 530, 543, 556, 589, 622, 655, 679, 732, 745, 758, 812, 855, 898, 921, 974, 1017], 131) := by decide +kernel
theorem dL_law_164 : decode cL_law 164 = .ok (.aload_n 1, 1) := by decide +kernel
theorem dL_law_165 : decode cL_law 165 = .ok (.aload_n 0, 1) := by decide +kernel
theorem dL_law_166 : decode cL_law 166 = .ok (.iload_n 3, 1) := by decide +kernel
theorem dL_law_167 : decode cL_law 167 = .ok (.iconst 1, 1) := by decide +kernel
theorem dL_law_168 : decode cL_law 168 = .ok (.iadd, 1) := by decide +kernel
theorem dL_law_169 : decode cL_law 169 = .ok (.iaload, 1) := by decide +kernel
theorem dL_law_170 : decode cL_law 170 = .ok (.aload_n 0, 1) := by decide +kernel
theorem dL_law_171 : decode cL_law 171 = .ok (.iload_n 3, 1) := by decide +kernel
theorem dL_law_172 : decode cL_law 172 = .ok (.iconst 2, 1) := by decide +kernel
theorem dL_law_173 : decode cL_law 173 = .ok (.iadd, 1) := by decide +kernel
theorem dL_law_174 : decode cL_law 174 = .ok (.iaload, 1) := by decide +kernel
theorem dL_law_175 : decode cL_law 175 = .ok (.aload_n 0, 1) := by decide +kernel
theorem dL_law_176 : decode cL_law 176 = .ok (.iload_n 3, 1) := by decide +kernel
theorem dL_law_177 : decode cL_law 177 = .ok (.iconst 3, 1) := by decide +kernel
theorem dL_law_178 : decode cL_law 178 = .ok (.iadd, 1) := by decide +kernel
theorem dL_law_179 : decode cL_law 179 = .ok (.iaload, 1) := by decide +kernel
theorem dL_law_180 : decode cL_law 180 = .ok (.invokevirtual 13, 3) := by decide +kernel
theorem dL_law_183 : decode cL_law 183 = .ok (.aload_n 2, 1) := by decide +kernel
theorem dL_law_184 : decode cL_law 184 = .ok (.aload_n 0, 1) := by decide +kernel
theorem dL_law_185 : decode cL_law 185 = .ok (.iload_n 3, 1) := by decide +kernel
theorem dL_law_186 : decode cL_law 186 = .ok (.iconst 1, 1) := by decide +kernel
theorem dL_law_187 : decode cL_law 187 = .ok (.iadd, 1) := by decide +kernel
theorem dL_law_188 : decode cL_law 188 = .ok (.iaload, 1) := by decide +kernel
theorem dL_law_189 : decode cL_law 189 = .ok (.aload_n 0, 1) := by decide +kernel
theorem dL_law_190 : decode cL_law 190 = .ok (.iload_n 3, 1) := by decide +kernel
theorem dL_law_191 : decode cL_law 191 = .ok (.iconst 2, 1) := by decide +kernel
theorem dL_law_192 : decode cL_law 192 = .ok (.iadd, 1) := by decide +kernel
theorem dL_law_193 : decode cL_law 193 = .ok (.iaload, 1) := by decide +kernel
theorem dL_law_194 : decode cL_law 194 = .ok (.aload_n 0, 1) := by decide +kernel
theorem dL_law_195 : decode cL_law 195 = .ok (.iload_n 3, 1) := by decide +kernel
theorem dL_law_196 : decode cL_law 196 = .ok (.iconst 3, 1) := by decide +kernel
theorem dL_law_197 : decode cL_law 197 = .ok (.iadd, 1) := by decide +kernel
theorem dL_law_198 : decode cL_law 198 = .ok (.iaload, 1) := by decide +kernel
theorem dL_law_199 : decode cL_law 199 = .ok (.invokevirtual 17, 3) := by decide +kernel
theorem dL_law_202 : decode cL_law 202 = .ok (.if_icmp .eq 911, 3) := by decide +kernel
theorem dL_law_205 : decode cL_law 205 = .ok (.iconst 0, 1) := by decide +kernel
theorem dL_law_206 : decode cL_law 206 = .ok (.ireturn, 1) := by decide +kernel
theorem dL_law_207 : decode cL_law 207 = .ok (.aload_n 1, 1) := by decide +kernel
theorem dL_law_208 : decode cL_law 208 = .ok (.aload_n 0, 1) := by decide +kernel
theorem dL_law_209 : decode cL_law 209 = .ok (.iload_n 3, 1) := by decide +kernel
theorem dL_law_210 : decode cL_law 210 = .ok (.iconst 1, 1) := by decide +kernel
theorem dL_law_211 : decode cL_law 211 = .ok (.iadd, 1) := by decide +kernel
theorem dL_law_212 : decode cL_law 212 = .ok (.iaload, 1) := by decide +kernel
theorem dL_law_213 : decode cL_law 213 = .ok (.aload_n 0, 1) := by decide +kernel
theorem dL_law_214 : decode cL_law 214 = .ok (.iload_n 3, 1) := by decide +kernel
theorem dL_law_215 : decode cL_law 215 = .ok (.iconst 2, 1) := by decide +kernel
theorem dL_law_216 : decode cL_law 216 = .ok (.iadd, 1) := by decide +kernel
theorem dL_law_217 : decode cL_law 217 = .ok (.iaload, 1) := by decide +kernel
theorem dL_law_218 : decode cL_law 218 = .ok (.aload_n 0, 1) := by decide +kernel
theorem dL_law_219 : decode cL_law 219 = .ok (.iload_n 3, 1) := by decide +kernel
theorem dL_law_220 : decode cL_law 220 = .ok (.iconst 3, 1) := by decide +kernel
theorem dL_law_221 : decode cL_law 221 = .ok (.iadd, 1) := by decide +kernel
theorem dL_law_222 : decode cL_law 222 = .ok (.iaload, 1) := by decide +kernel
theorem dL_law_223 : decode cL_law 223 = .ok (.invokevirtual 18, 3) := by decide +kernel
theorem dL_law_226 : decode cL_law 226 = .ok (.aload_n 2, 1) := by decide +kernel
theorem dL_law_227 : decode cL_law 227 = .ok (.aload_n 0, 1) := by decide +kernel
theorem dL_law_228 : decode cL_law 228 = .ok (.iload_n 3, 1) := by decide +kernel
theorem dL_law_229 : decode cL_law 229 = .ok (.iconst 1, 1) := by decide +kernel
theorem dL_law_230 : decode cL_law 230 = .ok (.iadd, 1) := by decide +kernel
theorem dL_law_231 : decode cL_law 231 = .ok (.iaload, 1) := by decide +kernel
theorem dL_law_232 : decode cL_law 232 = .ok (.aload_n 0, 1) := by decide +kernel
theorem dL_law_233 : decode cL_law 233 = .ok (.iload_n 3, 1) := by decide +kernel
theorem dL_law_234 : decode cL_law 234 = .ok (.iconst 2, 1) := by decide +kernel
theorem dL_law_235 : decode cL_law 235 = .ok (.iadd, 1) := by decide +kernel
theorem dL_law_236 : decode cL_law 236 = .ok (.iaload, 1) := by decide +kernel
theorem dL_law_237 : decode cL_law 237 = .ok (.aload_n 0, 1) := by decide +kernel
theorem dL_law_238 : decode cL_law 238 = .ok (.iload_n 3, 1) := by decide +kernel
theorem dL_law_239 : decode cL_law 239 = .ok (.iconst 3, 1) := by decide +kernel
theorem dL_law_240 : decode cL_law 240 = .ok (.iadd, 1) := by decide +kernel
theorem dL_law_241 : decode cL_law 241 = .ok (.iaload, 1) := by decide +kernel
theorem dL_law_242 : decode cL_law 242 = .ok (.invokevirtual 21, 3) := by decide +kernel
theorem dL_law_245 : decode cL_law 245 = .ok (.if_icmp .eq 868, 3) := by decide +kernel
theorem dL_law_248 : decode cL_law 248 = .ok (.iconst 0, 1) := by decide +kernel
theorem dL_law_249 : decode cL_law 249 = .ok (.ireturn, 1) := by decide +kernel
theorem dL_law_250 : decode cL_law 250 = .ok (.aload_n 1, 1) := by decide +kernel
theorem dL_law_251 : decode cL_law 251 = .ok (.aload_n 0, 1) := by decide +kernel
theorem dL_law_252 : decode cL_law 252 = .ok (.iload_n 3, 1) := by decide +kernel
theorem dL_law_253 : decode cL_law 253 = .ok (.iconst 1, 1) := by decide +kernel
theorem dL_law_254 : decode cL_law 254 = .ok (.iadd, 1) := by decide +kernel
theorem dL_law_255 : decode cL_law 255 = .ok (.iaload, 1) := by decide +kernel
theorem dL_law_256 : decode cL_law 256 = .ok (.aload_n 0, 1) := by decide +kernel
theorem dL_law_257 : decode cL_law 257 = .ok (.iload_n 3, 1) := by decide +kernel
theorem dL_law_258 : decode cL_law 258 = .ok (.iconst 2, 1) := by decide +kernel
theorem dL_law_259 : decode cL_law 259 = .ok (.iadd, 1) := by decide +kernel
theorem dL_law_260 : decode cL_law 260 = .ok (.iaload, 1) := by decide +kernel
theorem dL_law_261 : decode cL_law 261 = .ok (.aload_n 0, 1) := by decide +kernel
theorem dL_law_262 : decode cL_law 262 = .ok (.iload_n 3, 1) := by decide +kernel
theorem dL_law_263 : decode cL_law 263 = .ok (.iconst 3, 1) := by decide +kernel
theorem dL_law_264 : decode cL_law 264 = .ok (.iadd, 1) := by decide +kernel
theorem dL_law_265 : decode cL_law 265 = .ok (.iaload, 1) := by decide +kernel
theorem dL_law_266 : decode cL_law 266 = .ok (.aload_n 0, 1) := by decide +kernel
theorem dL_law_267 : decode cL_law 267 = .ok (.iload_n 3, 1) := by decide +kernel
theorem dL_law_268 : decode cL_law 268 = .ok (.iconst 4, 1) := by decide +kernel
theorem dL_law_269 : decode cL_law 269 = .ok (.iadd, 1) := by decide +kernel
theorem dL_law_270 : decode cL_law 270 = .ok (.iaload, 1) := by decide +kernel
theorem dL_law_271 : decode cL_law 271 = .ok (.invokevirtual 22, 3) := by decide +kernel
theorem dL_law_274 : decode cL_law 274 = .ok (.aload_n 2, 1) := by decide +kernel
theorem dL_law_275 : decode cL_law 275 = .ok (.aload_n 0, 1) := by decide +kernel
theorem dL_law_276 : decode cL_law 276 = .ok (.iload_n 3, 1) := by decide +kernel
theorem dL_law_277 : decode cL_law 277 = .ok (.iconst 1, 1) := by decide +kernel
theorem dL_law_278 : decode cL_law 278 = .ok (.iadd, 1) := by decide +kernel
theorem dL_law_279 : decode cL_law 279 = .ok (.iaload, 1) := by decide +kernel
theorem dL_law_280 : decode cL_law 280 = .ok (.aload_n 0, 1) := by decide +kernel
theorem dL_law_281 : decode cL_law 281 = .ok (.iload_n 3, 1) := by decide +kernel
theorem dL_law_282 : decode cL_law 282 = .ok (.iconst 2, 1) := by decide +kernel
theorem dL_law_283 : decode cL_law 283 = .ok (.iadd, 1) := by decide +kernel
theorem dL_law_284 : decode cL_law 284 = .ok (.iaload, 1) := by decide +kernel
theorem dL_law_285 : decode cL_law 285 = .ok (.aload_n 0, 1) := by decide +kernel
theorem dL_law_286 : decode cL_law 286 = .ok (.iload_n 3, 1) := by decide +kernel
theorem dL_law_287 : decode cL_law 287 = .ok (.iconst 3, 1) := by decide +kernel
theorem dL_law_288 : decode cL_law 288 = .ok (.iadd, 1) := by decide +kernel
theorem dL_law_289 : decode cL_law 289 = .ok (.iaload, 1) := by decide +kernel
theorem dL_law_290 : decode cL_law 290 = .ok (.aload_n 0, 1) := by decide +kernel
theorem dL_law_291 : decode cL_law 291 = .ok (.iload_n 3, 1) := by decide +kernel
theorem dL_law_292 : decode cL_law 292 = .ok (.iconst 4, 1) := by decide +kernel
theorem dL_law_293 : decode cL_law 293 = .ok (.iadd, 1) := by decide +kernel
theorem dL_law_294 : decode cL_law 294 = .ok (.iaload, 1) := by decide +kernel
theorem dL_law_295 : decode cL_law 295 = .ok (.invokevirtual 26, 3) := by decide +kernel
theorem dL_law_298 : decode cL_law 298 = .ok (.if_icmp .eq 815, 3) := by decide +kernel
theorem dL_law_301 : decode cL_law 301 = .ok (.iconst 0, 1) := by decide +kernel
theorem dL_law_302 : decode cL_law 302 = .ok (.ireturn, 1) := by decide +kernel
theorem dL_law_303 : decode cL_law 303 = .ok (.aload_n 1, 1) := by decide +kernel
theorem dL_law_304 : decode cL_law 304 = .ok (.aload_n 0, 1) := by decide +kernel
theorem dL_law_305 : decode cL_law 305 = .ok (.iload_n 3, 1) := by decide +kernel
theorem dL_law_306 : decode cL_law 306 = .ok (.iconst 1, 1) := by decide +kernel
theorem dL_law_307 : decode cL_law 307 = .ok (.iadd, 1) := by decide +kernel
theorem dL_law_308 : decode cL_law 308 = .ok (.iaload, 1) := by decide +kernel
theorem dL_law_309 : decode cL_law 309 = .ok (.aload_n 0, 1) := by decide +kernel
theorem dL_law_310 : decode cL_law 310 = .ok (.iload_n 3, 1) := by decide +kernel
theorem dL_law_311 : decode cL_law 311 = .ok (.iconst 2, 1) := by decide +kernel
theorem dL_law_312 : decode cL_law 312 = .ok (.iadd, 1) := by decide +kernel
theorem dL_law_313 : decode cL_law 313 = .ok (.iaload, 1) := by decide +kernel
theorem dL_law_314 : decode cL_law 314 = .ok (.invokevirtual 27, 3) := by decide +kernel
theorem dL_law_317 : decode cL_law 317 = .ok (.aload_n 2, 1) := by decide +kernel
theorem dL_law_318 : decode cL_law 318 = .ok (.aload_n 0, 1) := by decide +kernel
theorem dL_law_319 : decode cL_law 319 = .ok (.iload_n 3, 1) := by decide +kernel
theorem dL_law_320 : decode cL_law 320 = .ok (.iconst 1, 1) := by decide +kernel
theorem dL_law_321 : decode cL_law 321 = .ok (.iadd, 1) := by decide +kernel
theorem dL_law_322 : decode cL_law 322 = .ok (.iaload, 1) := by decide +kernel
theorem dL_law_323 : decode cL_law 323 = .ok (.aload_n 0, 1) := by decide +kernel
theorem dL_law_324 : decode cL_law 324 = .ok (.iload_n 3, 1) := by decide +kernel
theorem dL_law_325 : decode cL_law 325 = .ok (.iconst 2, 1) := by decide +kernel
theorem dL_law_326 : decode cL_law 326 = .ok (.iadd, 1) := by decide +kernel
theorem dL_law_327 : decode cL_law 327 = .ok (.iaload, 1) := by decide +kernel
theorem dL_law_328 : decode cL_law 328 = .ok (.invokevirtual 31, 3) := by decide +kernel
theorem dL_law_331 : decode cL_law 331 = .ok (.if_icmp .eq 782, 3) := by decide +kernel
theorem dL_law_334 : decode cL_law 334 = .ok (.iconst 0, 1) := by decide +kernel
theorem dL_law_335 : decode cL_law 335 = .ok (.ireturn, 1) := by decide +kernel
theorem dL_law_336 : decode cL_law 336 = .ok (.aload_n 1, 1) := by decide +kernel
theorem dL_law_337 : decode cL_law 337 = .ok (.aload_n 0, 1) := by decide +kernel
theorem dL_law_338 : decode cL_law 338 = .ok (.iload_n 3, 1) := by decide +kernel
theorem dL_law_339 : decode cL_law 339 = .ok (.iconst 1, 1) := by decide +kernel
theorem dL_law_340 : decode cL_law 340 = .ok (.iadd, 1) := by decide +kernel
theorem dL_law_341 : decode cL_law 341 = .ok (.iaload, 1) := by decide +kernel
theorem dL_law_342 : decode cL_law 342 = .ok (.aload_n 0, 1) := by decide +kernel
theorem dL_law_343 : decode cL_law 343 = .ok (.iload_n 3, 1) := by decide +kernel
theorem dL_law_344 : decode cL_law 344 = .ok (.iconst 2, 1) := by decide +kernel
theorem dL_law_345 : decode cL_law 345 = .ok (.iadd, 1) := by decide +kernel
theorem dL_law_346 : decode cL_law 346 = .ok (.iaload, 1) := by decide +kernel
theorem dL_law_347 : decode cL_law 347 = .ok (.invokevirtual 32, 3) := by decide +kernel
theorem dL_law_350 : decode cL_law 350 = .ok (.aload_n 2, 1) := by decide +kernel
theorem dL_law_351 : decode cL_law 351 = .ok (.aload_n 0, 1) := by decide +kernel
theorem dL_law_352 : decode cL_law 352 = .ok (.iload_n 3, 1) := by decide +kernel
theorem dL_law_353 : decode cL_law 353 = .ok (.iconst 1, 1) := by decide +kernel
theorem dL_law_354 : decode cL_law 354 = .ok (.iadd, 1) := by decide +kernel
theorem dL_law_355 : decode cL_law 355 = .ok (.iaload, 1) := by decide +kernel
theorem dL_law_356 : decode cL_law 356 = .ok (.aload_n 0, 1) := by decide +kernel
theorem dL_law_357 : decode cL_law 357 = .ok (.iload_n 3, 1) := by decide +kernel
theorem dL_law_358 : decode cL_law 358 = .ok (.iconst 2, 1) := by decide +kernel
theorem dL_law_359 : decode cL_law 359 = .ok (.iadd, 1) := by decide +kernel
theorem dL_law_360 : decode cL_law 360 = .ok (.iaload, 1) := by decide +kernel
theorem dL_law_361 : decode cL_law 361 = .ok (.invokevirtual 35, 3) := by decide +kernel
theorem dL_law_364 : decode cL_law 364 = .ok (.if_icmp .eq 749, 3) := by decide +kernel
theorem dL_law_367 : decode cL_law 367 = .ok (.iconst 0, 1) := by decide +kernel
theorem dL_law_368 : decode cL_law 368 = .ok (.ireturn, 1) := by decide +kernel
theorem dL_law_369 : decode cL_law 369 = .ok (.aload_n 1, 1) := by decide +kernel
theorem dL_law_370 : decode cL_law 370 = .ok (.aload_n 0, 1) := by decide +kernel
theorem dL_law_371 : decode cL_law 371 = .ok (.iload_n 3, 1) := by decide +kernel
theorem dL_law_372 : decode cL_law 372 = .ok (.iconst 1, 1) := by decide +kernel
theorem dL_law_373 : decode cL_law 373 = .ok (.iadd, 1) := by decide +kernel
theorem dL_law_374 : decode cL_law 374 = .ok (.iaload, 1) := by decide +kernel
theorem dL_law_375 : decode cL_law 375 = .ok (.i2l, 1) := by decide +kernel
theorem dL_law_376 : decode cL_law 376 = .ok (.bipush 32, 2) := by decide +kernel
theorem dL_law_378 : decode cL_law 378 = .ok (.lshl, 1) := by decide +kernel
theorem dL_law_379 : decode cL_law 379 = .ok (.aload_n 0, 1) := by decide +kernel
theorem dL_law_380 : decode cL_law 380 = .ok (.iload_n 3, 1) := by decide +kernel
theorem dL_law_381 : decode cL_law 381 = .ok (.iconst 2, 1) := by decide +kernel
theorem dL_law_382 : decode cL_law 382 = .ok (.iadd, 1) := by decide +kernel
theorem dL_law_383 : decode cL_law 383 = .ok (.iaload, 1) := by decide +kernel
theorem dL_law_384 : decode cL_law 384 = .ok (.i2l, 1) := by decide +kernel
theorem dL_law_385 : decode cL_law 385 = .ok (.ldc2_w 36, 3) := by decide +kernel
theorem dL_law_388 : decode cL_law 388 = .ok (.land, 1) := by decide +kernel
theorem dL_law_389 : decode cL_law 389 = .ok (.lor, 1) := by decide +kernel
theorem dL_law_390 : decode cL_law 390 = .ok (.aload_n 0, 1) := by decide +kernel
theorem dL_law_391 : decode cL_law 391 = .ok (.iload_n 3, 1) := by decide +kernel
theorem dL_law_392 : decode cL_law 392 = .ok (.iconst 3, 1) := by decide +kernel
theorem dL_law_393 : decode cL_law 393 = .ok (.iadd, 1) := by decide +kernel
theorem dL_law_394 : decode cL_law 394 = .ok (.iaload, 1) := by decide +kernel
theorem dL_law_395 : decode cL_law 395 = .ok (.invokevirtual 38, 3) := by decide +kernel
theorem dL_law_398 : decode cL_law 398 = .ok (.aload_n 2, 1) := by decide +kernel
theorem dL_law_399 : decode cL_law 399 = .ok (.aload_n 0, 1) := by decide +kernel
theorem dL_law_400 : decode cL_law 400 = .ok (.iload_n 3, 1) := by decide +kernel
theorem dL_law_401 : decode cL_law 401 = .ok (.iconst 1, 1) := by decide +kernel
theorem dL_law_402 : decode cL_law 402 = .ok (.iadd, 1) := by decide +kernel
theorem dL_law_403 : decode cL_law 403 = .ok (.iaload, 1) := by decide +kernel
theorem dL_law_404 : decode cL_law 404 = .ok (.i2l, 1) := by decide +kernel
theorem dL_law_405 : decode cL_law 405 = .ok (.bipush 32, 2) := by decide +kernel
theorem dL_law_407 : decode cL_law 407 = .ok (.lshl, 1) := by decide +kernel
theorem dL_law_408 : decode cL_law 408 = .ok (.aload_n 0, 1) := by decide +kernel
theorem dL_law_409 : decode cL_law 409 = .ok (.iload_n 3, 1) := by decide +kernel
theorem dL_law_410 : decode cL_law 410 = .ok (.iconst 2, 1) := by decide +kernel
theorem dL_law_411 : decode cL_law 411 = .ok (.iadd, 1) := by decide +kernel
theorem dL_law_412 : decode cL_law 412 = .ok (.iaload, 1) := by decide +kernel
theorem dL_law_413 : decode cL_law 413 = .ok (.i2l, 1) := by decide +kernel
theorem dL_law_414 : decode cL_law 414 = .ok (.ldc2_w 36, 3) := by decide +kernel
theorem dL_law_417 : decode cL_law 417 = .ok (.land, 1) := by decide +kernel
theorem dL_law_418 : decode cL_law 418 = .ok (.lor, 1) := by decide +kernel
theorem dL_law_419 : decode cL_law 419 = .ok (.aload_n 0, 1) := by decide +kernel
theorem dL_law_420 : decode cL_law 420 = .ok (.iload_n 3, 1) := by decide +kernel
theorem dL_law_421 : decode cL_law 421 = .ok (.iconst 3, 1) := by decide +kernel
theorem dL_law_422 : decode cL_law 422 = .ok (.iadd, 1) := by decide +kernel
theorem dL_law_423 : decode cL_law 423 = .ok (.iaload, 1) := by decide +kernel
theorem dL_law_424 : decode cL_law 424 = .ok (.invokevirtual 42, 3) := by decide +kernel
theorem dL_law_427 : decode cL_law 427 = .ok (.if_icmp .eq 686, 3) := by decide +kernel
theorem dL_law_430 : decode cL_law 430 = .ok (.iconst 0, 1) := by decide +kernel
theorem dL_law_431 : decode cL_law 431 = .ok (.ireturn, 1) := by decide +kernel
theorem dL_law_432 : decode cL_law 432 = .ok (.aload_n 1, 1) := by decide +kernel
theorem dL_law_433 : decode cL_law 433 = .ok (.invokevirtual 43, 3) := by decide +kernel
theorem dL_law_436 : decode cL_law 436 = .ok (.aload_n 2, 1) := by decide +kernel
theorem dL_law_437 : decode cL_law 437 = .ok (.invokevirtual 47, 3) := by decide +kernel
theorem dL_law_440 : decode cL_law 440 = .ok (.if_icmp .eq 673, 3) := by decide +kernel
theorem dL_law_443 : decode cL_law 443 = .ok (.iconst 0, 1) := by decide +kernel
theorem dL_law_444 : decode cL_law 444 = .ok (.ireturn, 1) := by decide +kernel
theorem dL_law_445 : decode cL_law 445 = .ok (.aload_n 1, 1) := by decide +kernel
theorem dL_law_446 : decode cL_law 446 = .ok (.invokevirtual 48, 3) := by decide +kernel
theorem dL_law_449 : decode cL_law 449 = .ok (.aload_n 2, 1) := by decide +kernel
theorem dL_law_450 : decode cL_law 450 = .ok (.invokevirtual 51, 3) := by decide +kernel
theorem dL_law_453 : decode cL_law 453 = .ok (.if_icmp .eq 660, 3) := by decide +kernel
theorem dL_law_456 : decode cL_law 456 = .ok (.iconst 0, 1) := by decide +kernel
theorem dL_law_457 : decode cL_law 457 = .ok (.ireturn, 1) := by decide +kernel
theorem dL_law_458 : decode cL_law 458 = .ok (.aload_n 1, 1) := by decide +kernel
theorem dL_law_459 : decode cL_law 459 = .ok (.invokevirtual 52, 3) := by decide +kernel
theorem dL_law_462 : decode cL_law 462 = .ok (.aload_n 2, 1) := by decide +kernel
theorem dL_law_463 : decode cL_law 463 = .ok (.invokevirtual 55, 3) := by decide +kernel
theorem dL_law_466 : decode cL_law 466 = .ok (.if_icmp .eq 647, 3) := by decide +kernel
theorem dL_law_469 : decode cL_law 469 = .ok (.iconst 0, 1) := by decide +kernel
theorem dL_law_470 : decode cL_law 470 = .ok (.ireturn, 1) := by decide +kernel
theorem dL_law_471 : decode cL_law 471 = .ok (.aload_n 1, 1) := by decide +kernel
theorem dL_law_472 : decode cL_law 472 = .ok (.aload_n 0, 1) := by decide +kernel
theorem dL_law_473 : decode cL_law 473 = .ok (.iload_n 3, 1) := by decide +kernel
theorem dL_law_474 : decode cL_law 474 = .ok (.iconst 1, 1) := by decide +kernel
theorem dL_law_475 : decode cL_law 475 = .ok (.iadd, 1) := by decide +kernel
theorem dL_law_476 : decode cL_law 476 = .ok (.iaload, 1) := by decide +kernel
theorem dL_law_477 : decode cL_law 477 = .ok (.invokevirtual 56, 3) := by decide +kernel
theorem dL_law_480 : decode cL_law 480 = .ok (.aload_n 2, 1) := by decide +kernel
theorem dL_law_481 : decode cL_law 481 = .ok (.aload_n 0, 1) := by decide +kernel
theorem dL_law_482 : decode cL_law 482 = .ok (.iload_n 3, 1) := by decide +kernel
theorem dL_law_483 : decode cL_law 483 = .ok (.iconst 1, 1) := by decide +kernel
theorem dL_law_484 : decode cL_law 484 = .ok (.iadd, 1) := by decide +kernel
theorem dL_law_485 : decode cL_law 485 = .ok (.iaload, 1) := by decide +kernel
theorem dL_law_486 : decode cL_law 486 = .ok (.invokevirtual 60, 3) := by decide +kernel
theorem dL_law_489 : decode cL_law 489 = .ok (.if_icmp .eq 624, 3) := by decide +kernel
theorem dL_law_492 : decode cL_law 492 = .ok (.iconst 0, 1) := by decide +kernel
theorem dL_law_493 : decode cL_law 493 = .ok (.ireturn, 1) := by decide +kernel
theorem dL_law_494 : decode cL_law 494 = .ok (.aload_n 1, 1) := by decide +kernel
theorem dL_law_495 : decode cL_law 495 = .ok (.aload_n 0, 1) := by decide +kernel
theorem dL_law_496 : decode cL_law 496 = .ok (.iload_n 3, 1) := by decide +kernel
theorem dL_law_497 : decode cL_law 497 = .ok (.iconst 1, 1) := by decide +kernel
theorem dL_law_498 : decode cL_law 498 = .ok (.iadd, 1) := by decide +kernel
theorem dL_law_499 : decode cL_law 499 = .ok (.iaload, 1) := by decide +kernel
theorem dL_law_500 : decode cL_law 500 = .ok (.aload_n 0, 1) := by decide +kernel
theorem dL_law_501 : decode cL_law 501 = .ok (.iload_n 3, 1) := by decide +kernel
theorem dL_law_502 : decode cL_law 502 = .ok (.iconst 2, 1) := by decide +kernel
theorem dL_law_503 : decode cL_law 503 = .ok (.iadd, 1) := by decide +kernel
theorem dL_law_504 : decode cL_law 504 = .ok (.iaload, 1) := by decide +kernel
theorem dL_law_505 : decode cL_law 505 = .ok (.invokevirtual 61, 3) := by decide +kernel
theorem dL_law_508 : decode cL_law 508 = .ok (.aload_n 2, 1) := by decide +kernel
theorem dL_law_509 : decode cL_law 509 = .ok (.aload_n 0, 1) := by decide +kernel
theorem dL_law_510 : decode cL_law 510 = .ok (.iload_n 3, 1) := by decide +kernel
theorem dL_law_511 : decode cL_law 511 = .ok (.iconst 1, 1) := by decide +kernel
theorem dL_law_512 : decode cL_law 512 = .ok (.iadd, 1) := by decide +kernel
theorem dL_law_513 : decode cL_law 513 = .ok (.iaload, 1) := by decide +kernel
theorem dL_law_514 : decode cL_law 514 = .ok (.aload_n 0, 1) := by decide +kernel
theorem dL_law_515 : decode cL_law 515 = .ok (.iload_n 3, 1) := by decide +kernel
theorem dL_law_516 : decode cL_law 516 = .ok (.iconst 2, 1) := by decide +kernel
theorem dL_law_517 : decode cL_law 517 = .ok (.iadd, 1) := by decide +kernel
theorem dL_law_518 : decode cL_law 518 = .ok (.iaload, 1) := by decide +kernel
theorem dL_law_519 : decode cL_law 519 = .ok (.invokevirtual 64, 3) := by decide +kernel
theorem dL_law_522 : decode cL_law 522 = .ok (.if_icmp .eq 591, 3) := by decide +kernel
theorem dL_law_525 : decode cL_law 525 = .ok (.iconst 0, 1) := by decide +kernel
theorem dL_law_526 : decode cL_law 526 = .ok (.ireturn, 1) := by decide +kernel
theorem dL_law_527 : decode cL_law 527 = .ok (.aload_n 1, 1) := by decide +kernel
theorem dL_law_528 : decode cL_law 528 = .ok (.aload_n 0, 1) := by decide +kernel
theorem dL_law_529 : decode cL_law 529 = .ok (.iload_n 3, 1) := by decide +kernel
theorem dL_law_530 : decode cL_law 530 = .ok (.iconst 1, 1) := by decide +kernel
theorem dL_law_531 : decode cL_law 531 = .ok (.iadd, 1) := by decide +kernel
theorem dL_law_532 : decode cL_law 532 = .ok (.iaload, 1) := by decide +kernel
theorem dL_law_533 : decode cL_law 533 = .ok (.invokevirtual 65, 3) := by decide +kernel
theorem dL_law_536 : decode cL_law 536 = .ok (.aload_n 2, 1) := by decide +kernel
theorem dL_law_537 : decode cL_law 537 = .ok (.aload_n 0, 1) := by decide +kernel
theorem dL_law_538 : decode cL_law 538 = .ok (.iload_n 3, 1) := by decide +kernel
theorem dL_law_539 : decode cL_law 539 = .ok (.iconst 1, 1) := by decide +kernel
theorem dL_law_540 : decode cL_law 540 = .ok (.iadd, 1) := by decide +kernel
theorem dL_law_541 : decode cL_law 541 = .ok (.iaload, 1) := by decide +kernel
theorem dL_law_542 : decode cL_law 542 = .ok (.invokevirtual 68, 3) := by decide +kernel
theorem dL_law_545 : decode cL_law 545 = .ok (.if_icmp .eq 568, 3) := by decide +kernel
theorem dL_law_548 : decode cL_law 548 = .ok (.iconst 0, 1) := by decide +kernel
theorem dL_law_549 : decode cL_law 549 = .ok (.ireturn, 1) := by decide +kernel
theorem dL_law_550 : decode cL_law 550 = .ok (.aload_n 1, 1) := by decide +kernel
theorem dL_law_551 : decode cL_law 551 = .ok (.invokevirtual 69, 3) := by decide +kernel
theorem dL_law_554 : decode cL_law 554 = .ok (.aload_n 2, 1) := by decide +kernel
theorem dL_law_555 : decode cL_law 555 = .ok (.invokevirtual 72, 3) := by decide +kernel
theorem dL_law_558 : decode cL_law 558 = .ok (.if_icmp .eq 555, 3) := by decide +kernel
theorem dL_law_561 : decode cL_law 561 = .ok (.iconst 0, 1) := by decide +kernel
theorem dL_law_562 : decode cL_law 562 = .ok (.ireturn, 1) := by decide +kernel
theorem dL_law_563 : decode cL_law 563 = .ok (.aload_n 1, 1) := by decide +kernel
theorem dL_law_564 : decode cL_law 564 = .ok (.invokevirtual 73, 3) := by decide +kernel
theorem dL_law_567 : decode cL_law 567 = .ok (.aload_n 2, 1) := by decide +kernel
theorem dL_law_568 : decode cL_law 568 = .ok (.invokevirtual 76, 3) := by decide +kernel
theorem dL_law_571 : decode cL_law 571 = .ok (.if_icmp .eq 542, 3) := by decide +kernel
theorem dL_law_574 : decode cL_law 574 = .ok (.iconst 0, 1) := by decide +kernel
theorem dL_law_575 : decode cL_law 575 = .ok (.ireturn, 1) := by decide +kernel
theorem dL_law_576 : decode cL_law 576 = .ok (.aload_n 1, 1) := by decide +kernel
theorem dL_law_577 : decode cL_law 577 = .ok (.invokevirtual 77, 3) := by decide +kernel
theorem dL_law_580 : decode cL_law 580 = .ok (.aload_n 2, 1) := by decide +kernel
theorem dL_law_581 : decode cL_law 581 = .ok (.invokevirtual 80, 3) := by decide +kernel
theorem dL_law_584 : decode cL_law 584 = .ok (.if_icmp .eq 529, 3) := by decide +kernel
theorem dL_law_587 : decode cL_law 587 = .ok (.iconst 0, 1) := by decide +kernel
theorem dL_law_588 : decode cL_law 588 = .ok (.ireturn, 1) := by decide +kernel
theorem dL_law_589 : decode cL_law 589 = .ok (.aload_n 1, 1) := by decide +kernel
theorem dL_law_590 : decode cL_law 590 = .ok (.aload_n 0, 1) := by decide +kernel
theorem dL_law_591 : decode cL_law 591 = .ok (.iload_n 3, 1) := by decide +kernel
theorem dL_law_592 : decode cL_law 592 = .ok (.iconst 1, 1) := by decide +kernel
theorem dL_law_593 : decode cL_law 593 = .ok (.iadd, 1) := by decide +kernel
theorem dL_law_594 : decode cL_law 594 = .ok (.iaload, 1) := by decide +kernel
theorem dL_law_595 : decode cL_law 595 = .ok (.aload_n 0, 1) := by decide +kernel
theorem dL_law_596 : decode cL_law 596 = .ok (.iload_n 3, 1) := by decide +kernel
theorem dL_law_597 : decode cL_law 597 = .ok (.iconst 2, 1) := by decide +kernel
theorem dL_law_598 : decode cL_law 598 = .ok (.iadd, 1) := by decide +kernel
theorem dL_law_599 : decode cL_law 599 = .ok (.iaload, 1) := by decide +kernel
theorem dL_law_600 : decode cL_law 600 = .ok (.invokevirtual 81, 3) := by decide +kernel
theorem dL_law_603 : decode cL_law 603 = .ok (.aload_n 2, 1) := by decide +kernel
theorem dL_law_604 : decode cL_law 604 = .ok (.aload_n 0, 1) := by decide +kernel
theorem dL_law_605 : decode cL_law 605 = .ok (.iload_n 3, 1) := by decide +kernel
theorem dL_law_606 : decode cL_law 606 = .ok (.iconst 1, 1) := by decide +kernel
theorem dL_law_607 : decode cL_law 607 = .ok (.iadd, 1) := by decide +kernel
theorem dL_law_608 : decode cL_law 608 = .ok (.iaload, 1) := by decide +kernel
theorem dL_law_609 : decode cL_law 609 = .ok (.aload_n 0, 1) := by decide +kernel
theorem dL_law_610 : decode cL_law 610 = .ok (.iload_n 3, 1) := by decide +kernel
theorem dL_law_611 : decode cL_law 611 = .ok (.iconst 2, 1) := by decide +kernel
theorem dL_law_612 : decode cL_law 612 = .ok (.iadd, 1) := by decide +kernel
theorem dL_law_613 : decode cL_law 613 = .ok (.iaload, 1) := by decide +kernel
theorem dL_law_614 : decode cL_law 614 = .ok (.invokevirtual 84, 3) := by decide +kernel
theorem dL_law_617 : decode cL_law 617 = .ok (.if_icmp .eq 496, 3) := by decide +kernel
theorem dL_law_620 : decode cL_law 620 = .ok (.iconst 0, 1) := by decide +kernel
theorem dL_law_621 : decode cL_law 621 = .ok (.ireturn, 1) := by decide +kernel
theorem dL_law_622 : decode cL_law 622 = .ok (.aload_n 1, 1) := by decide +kernel
theorem dL_law_623 : decode cL_law 623 = .ok (.aload_n 0, 1) := by decide +kernel
theorem dL_law_624 : decode cL_law 624 = .ok (.iload_n 3, 1) := by decide +kernel
theorem dL_law_625 : decode cL_law 625 = .ok (.iconst 1, 1) := by decide +kernel
theorem dL_law_626 : decode cL_law 626 = .ok (.iadd, 1) := by decide +kernel
theorem dL_law_627 : decode cL_law 627 = .ok (.iaload, 1) := by decide +kernel
theorem dL_law_628 : decode cL_law 628 = .ok (.aload_n 0, 1) := by decide +kernel
theorem dL_law_629 : decode cL_law 629 = .ok (.iload_n 3, 1) := by decide +kernel
theorem dL_law_630 : decode cL_law 630 = .ok (.iconst 2, 1) := by decide +kernel
theorem dL_law_631 : decode cL_law 631 = .ok (.iadd, 1) := by decide +kernel
theorem dL_law_632 : decode cL_law 632 = .ok (.iaload, 1) := by decide +kernel
theorem dL_law_633 : decode cL_law 633 = .ok (.invokevirtual 85, 3) := by decide +kernel
theorem dL_law_636 : decode cL_law 636 = .ok (.aload_n 2, 1) := by decide +kernel
theorem dL_law_637 : decode cL_law 637 = .ok (.aload_n 0, 1) := by decide +kernel
theorem dL_law_638 : decode cL_law 638 = .ok (.iload_n 3, 1) := by decide +kernel
theorem dL_law_639 : decode cL_law 639 = .ok (.iconst 1, 1) := by decide +kernel
theorem dL_law_640 : decode cL_law 640 = .ok (.iadd, 1) := by decide +kernel
theorem dL_law_641 : decode cL_law 641 = .ok (.iaload, 1) := by decide +kernel
theorem dL_law_642 : decode cL_law 642 = .ok (.aload_n 0, 1) := by decide +kernel
theorem dL_law_643 : decode cL_law 643 = .ok (.iload_n 3, 1) := by decide +kernel
theorem dL_law_644 : decode cL_law 644 = .ok (.iconst 2, 1) := by decide +kernel
theorem dL_law_645 : decode cL_law 645 = .ok (.iadd, 1) := by decide +kernel
theorem dL_law_646 : decode cL_law 646 = .ok (.iaload, 1) := by decide +kernel
theorem dL_law_647 : decode cL_law 647 = .ok (.invokevirtual 88, 3) := by decide +kernel
theorem dL_law_650 : decode cL_law 650 = .ok (.if_icmp .eq 463, 3) := by decide +kernel
theorem dL_law_653 : decode cL_law 653 = .ok (.iconst 0, 1) := by decide +kernel
theorem dL_law_654 : decode cL_law 654 = .ok (.ireturn, 1) := by decide +kernel
theorem dL_law_655 : decode cL_law 655 = .ok (.aload_n 1, 1) := by decide +kernel
theorem dL_law_656 : decode cL_law 656 = .ok (.aload_n 0, 1) := by decide +kernel
theorem dL_law_657 : decode cL_law 657 = .ok (.iload_n 3, 1) := by decide +kernel
theorem dL_law_658 : decode cL_law 658 = .ok (.iconst 1, 1) := by decide +kernel
theorem dL_law_659 : decode cL_law 659 = .ok (.iadd, 1) := by decide +kernel
theorem dL_law_660 : decode cL_law 660 = .ok (.iaload, 1) := by decide +kernel
theorem dL_law_661 : decode cL_law 661 = .ok (.aload_n 0, 1) := by decide +kernel
theorem dL_law_662 : decode cL_law 662 = .ok (.iload_n 3, 1) := by decide +kernel
theorem dL_law_663 : decode cL_law 663 = .ok (.iconst 2, 1) := by decide +kernel
theorem dL_law_664 : decode cL_law 664 = .ok (.iadd, 1) := by decide +kernel
theorem dL_law_665 : decode cL_law 665 = .ok (.iaload, 1) := by decide +kernel
theorem dL_law_666 : decode cL_law 666 = .ok (.invokevirtual 89, 3) := by decide +kernel
theorem dL_law_669 : decode cL_law 669 = .ok (.aload_n 2, 1) := by decide +kernel
theorem dL_law_670 : decode cL_law 670 = .ok (.aload_n 0, 1) := by decide +kernel
theorem dL_law_671 : decode cL_law 671 = .ok (.iload_n 3, 1) := by decide +kernel
theorem dL_law_672 : decode cL_law 672 = .ok (.iconst 1, 1) := by decide +kernel
theorem dL_law_673 : decode cL_law 673 = .ok (.iadd, 1) := by decide +kernel
theorem dL_law_674 : decode cL_law 674 = .ok (.iaload, 1) := by decide +kernel
theorem dL_law_675 : decode cL_law 675 = .ok (.aload_n 0, 1) := by decide +kernel
theorem dL_law_676 : decode cL_law 676 = .ok (.iload_n 3, 1) := by decide +kernel
theorem dL_law_677 : decode cL_law 677 = .ok (.iconst 2, 1) := by decide +kernel
theorem dL_law_678 : decode cL_law 678 = .ok (.iadd, 1) := by decide +kernel
theorem dL_law_679 : decode cL_law 679 = .ok (.iaload, 1) := by decide +kernel
theorem dL_law_680 : decode cL_law 680 = .ok (.invokevirtual 92, 3) := by decide +kernel
theorem dL_law_683 : decode cL_law 683 = .ok (.if_icmp .eq 430, 3) := by decide +kernel
theorem dL_law_686 : decode cL_law 686 = .ok (.iconst 0, 1) := by decide +kernel
theorem dL_law_687 : decode cL_law 687 = .ok (.ireturn, 1) := by decide +kernel
theorem dL_law_688 : decode cL_law 688 = .ok (.aload_n 1, 1) := by decide +kernel
theorem dL_law_689 : decode cL_law 689 = .ok (.aload_n 0, 1) := by decide +kernel
theorem dL_law_690 : decode cL_law 690 = .ok (.iload_n 3, 1) := by decide +kernel
theorem dL_law_691 : decode cL_law 691 = .ok (.iconst 1, 1) := by decide +kernel
theorem dL_law_692 : decode cL_law 692 = .ok (.iadd, 1) := by decide +kernel
theorem dL_law_693 : decode cL_law 693 = .ok (.iaload, 1) := by decide +kernel
theorem dL_law_694 : decode cL_law 694 = .ok (.invokevirtual 93, 3) := by decide +kernel
theorem dL_law_697 : decode cL_law 697 = .ok (.aload_n 2, 1) := by decide +kernel
theorem dL_law_698 : decode cL_law 698 = .ok (.aload_n 0, 1) := by decide +kernel
theorem dL_law_699 : decode cL_law 699 = .ok (.iload_n 3, 1) := by decide +kernel
theorem dL_law_700 : decode cL_law 700 = .ok (.iconst 1, 1) := by decide +kernel
theorem dL_law_701 : decode cL_law 701 = .ok (.iadd, 1) := by decide +kernel
theorem dL_law_702 : decode cL_law 702 = .ok (.iaload, 1) := by decide +kernel
theorem dL_law_703 : decode cL_law 703 = .ok (.invokevirtual 97, 3) := by decide +kernel
theorem dL_law_706 : decode cL_law 706 = .ok (.lcmp, 1) := by decide +kernel
theorem dL_law_707 : decode cL_law 707 = .ok (.ifCond .eq 406, 3) := by decide +kernel
theorem dL_law_710 : decode cL_law 710 = .ok (.iconst 0, 1) := by decide +kernel
theorem dL_law_711 : decode cL_law 711 = .ok (.ireturn, 1) := by decide +kernel
theorem dL_law_712 : decode cL_law 712 = .ok (.aload_n 1, 1) := by decide +kernel
theorem dL_law_713 : decode cL_law 713 = .ok (.aload_n 0, 1) := by decide +kernel
theorem dL_law_714 : decode cL_law 714 = .ok (.iload_n 3, 1) := by decide +kernel
theorem dL_law_715 : decode cL_law 715 = .ok (.iconst 1, 1) := by decide +kernel
theorem dL_law_716 : decode cL_law 716 = .ok (.iadd, 1) := by decide +kernel
theorem dL_law_717 : decode cL_law 717 = .ok (.iaload, 1) := by decide +kernel
theorem dL_law_718 : decode cL_law 718 = .ok (.aload_n 0, 1) := by decide +kernel
theorem dL_law_719 : decode cL_law 719 = .ok (.iload_n 3, 1) := by decide +kernel
theorem dL_law_720 : decode cL_law 720 = .ok (.iconst 2, 1) := by decide +kernel
theorem dL_law_721 : decode cL_law 721 = .ok (.iadd, 1) := by decide +kernel
theorem dL_law_722 : decode cL_law 722 = .ok (.iaload, 1) := by decide +kernel
theorem dL_law_723 : decode cL_law 723 = .ok (.aload_n 0, 1) := by decide +kernel
theorem dL_law_724 : decode cL_law 724 = .ok (.iload_n 3, 1) := by decide +kernel
theorem dL_law_725 : decode cL_law 725 = .ok (.iconst 3, 1) := by decide +kernel
theorem dL_law_726 : decode cL_law 726 = .ok (.iadd, 1) := by decide +kernel
theorem dL_law_727 : decode cL_law 727 = .ok (.iaload, 1) := by decide +kernel
theorem dL_law_728 : decode cL_law 728 = .ok (.aload_n 0, 1) := by decide +kernel
theorem dL_law_729 : decode cL_law 729 = .ok (.iload_n 3, 1) := by decide +kernel
theorem dL_law_730 : decode cL_law 730 = .ok (.iconst 4, 1) := by decide +kernel
theorem dL_law_731 : decode cL_law 731 = .ok (.iadd, 1) := by decide +kernel
theorem dL_law_732 : decode cL_law 732 = .ok (.iaload, 1) := by decide +kernel
theorem dL_law_733 : decode cL_law 733 = .ok (.invokevirtual 98, 3) := by decide +kernel
theorem dL_law_736 : decode cL_law 736 = .ok (.aload_n 2, 1) := by decide +kernel
theorem dL_law_737 : decode cL_law 737 = .ok (.aload_n 0, 1) := by decide +kernel
theorem dL_law_738 : decode cL_law 738 = .ok (.iload_n 3, 1) := by decide +kernel
theorem dL_law_739 : decode cL_law 739 = .ok (.iconst 1, 1) := by decide +kernel
theorem dL_law_740 : decode cL_law 740 = .ok (.iadd, 1) := by decide +kernel
theorem dL_law_741 : decode cL_law 741 = .ok (.iaload, 1) := by decide +kernel
theorem dL_law_742 : decode cL_law 742 = .ok (.aload_n 0, 1) := by decide +kernel
theorem dL_law_743 : decode cL_law 743 = .ok (.iload_n 3, 1) := by decide +kernel
theorem dL_law_744 : decode cL_law 744 = .ok (.iconst 2, 1) := by decide +kernel
theorem dL_law_745 : decode cL_law 745 = .ok (.iadd, 1) := by decide +kernel
theorem dL_law_746 : decode cL_law 746 = .ok (.iaload, 1) := by decide +kernel
theorem dL_law_747 : decode cL_law 747 = .ok (.aload_n 0, 1) := by decide +kernel
theorem dL_law_748 : decode cL_law 748 = .ok (.iload_n 3, 1) := by decide +kernel
theorem dL_law_749 : decode cL_law 749 = .ok (.iconst 3, 1) := by decide +kernel
theorem dL_law_750 : decode cL_law 750 = .ok (.iadd, 1) := by decide +kernel
theorem dL_law_751 : decode cL_law 751 = .ok (.iaload, 1) := by decide +kernel
theorem dL_law_752 : decode cL_law 752 = .ok (.aload_n 0, 1) := by decide +kernel
theorem dL_law_753 : decode cL_law 753 = .ok (.iload_n 3, 1) := by decide +kernel
theorem dL_law_754 : decode cL_law 754 = .ok (.iconst 4, 1) := by decide +kernel
theorem dL_law_755 : decode cL_law 755 = .ok (.iadd, 1) := by decide +kernel
theorem dL_law_756 : decode cL_law 756 = .ok (.iaload, 1) := by decide +kernel
theorem dL_law_757 : decode cL_law 757 = .ok (.invokevirtual 101, 3) := by decide +kernel
theorem dL_law_760 : decode cL_law 760 = .ok (.if_icmp .eq 353, 3) := by decide +kernel
theorem dL_law_763 : decode cL_law 763 = .ok (.iconst 0, 1) := by decide +kernel
theorem dL_law_764 : decode cL_law 764 = .ok (.ireturn, 1) := by decide +kernel
theorem dL_law_765 : decode cL_law 765 = .ok (.aload_n 1, 1) := by decide +kernel
theorem dL_law_766 : decode cL_law 766 = .ok (.invokevirtual 102, 3) := by decide +kernel
theorem dL_law_769 : decode cL_law 769 = .ok (.aload_n 2, 1) := by decide +kernel
theorem dL_law_770 : decode cL_law 770 = .ok (.invokevirtual 105, 3) := by decide +kernel
theorem dL_law_773 : decode cL_law 773 = .ok (.if_icmp .eq 340, 3) := by decide +kernel
theorem dL_law_776 : decode cL_law 776 = .ok (.iconst 0, 1) := by decide +kernel
theorem dL_law_777 : decode cL_law 777 = .ok (.ireturn, 1) := by decide +kernel
theorem dL_law_778 : decode cL_law 778 = .ok (.aload_n 1, 1) := by decide +kernel
theorem dL_law_779 : decode cL_law 779 = .ok (.invokevirtual 106, 3) := by decide +kernel
theorem dL_law_782 : decode cL_law 782 = .ok (.aload_n 2, 1) := by decide +kernel
theorem dL_law_783 : decode cL_law 783 = .ok (.invokevirtual 109, 3) := by decide +kernel
theorem dL_law_786 : decode cL_law 786 = .ok (.if_icmp .eq 327, 3) := by decide +kernel
theorem dL_law_789 : decode cL_law 789 = .ok (.iconst 0, 1) := by decide +kernel
theorem dL_law_790 : decode cL_law 790 = .ok (.ireturn, 1) := by decide +kernel
theorem dL_law_791 : decode cL_law 791 = .ok (.aload_n 1, 1) := by decide +kernel
theorem dL_law_792 : decode cL_law 792 = .ok (.aload_n 0, 1) := by decide +kernel
theorem dL_law_793 : decode cL_law 793 = .ok (.iload_n 3, 1) := by decide +kernel
theorem dL_law_794 : decode cL_law 794 = .ok (.iconst 1, 1) := by decide +kernel
theorem dL_law_795 : decode cL_law 795 = .ok (.iadd, 1) := by decide +kernel
theorem dL_law_796 : decode cL_law 796 = .ok (.iaload, 1) := by decide +kernel
theorem dL_law_797 : decode cL_law 797 = .ok (.aload_n 0, 1) := by decide +kernel
theorem dL_law_798 : decode cL_law 798 = .ok (.iload_n 3, 1) := by decide +kernel
theorem dL_law_799 : decode cL_law 799 = .ok (.iconst 2, 1) := by decide +kernel
theorem dL_law_800 : decode cL_law 800 = .ok (.iadd, 1) := by decide +kernel
theorem dL_law_801 : decode cL_law 801 = .ok (.iaload, 1) := by decide +kernel
theorem dL_law_802 : decode cL_law 802 = .ok (.aload_n 0, 1) := by decide +kernel
theorem dL_law_803 : decode cL_law 803 = .ok (.iload_n 3, 1) := by decide +kernel
theorem dL_law_804 : decode cL_law 804 = .ok (.iconst 3, 1) := by decide +kernel
theorem dL_law_805 : decode cL_law 805 = .ok (.iadd, 1) := by decide +kernel
theorem dL_law_806 : decode cL_law 806 = .ok (.iaload, 1) := by decide +kernel
theorem dL_law_807 : decode cL_law 807 = .ok (.aload_n 0, 1) := by decide +kernel
theorem dL_law_808 : decode cL_law 808 = .ok (.iload_n 3, 1) := by decide +kernel
theorem dL_law_809 : decode cL_law 809 = .ok (.iconst 4, 1) := by decide +kernel
theorem dL_law_810 : decode cL_law 810 = .ok (.iadd, 1) := by decide +kernel
theorem dL_law_811 : decode cL_law 811 = .ok (.iaload, 1) := by decide +kernel
theorem dL_law_812 : decode cL_law 812 = .ok (.invokevirtual 110, 3) := by decide +kernel
theorem dL_law_815 : decode cL_law 815 = .ok (.aload_n 2, 1) := by decide +kernel
theorem dL_law_816 : decode cL_law 816 = .ok (.aload_n 0, 1) := by decide +kernel
theorem dL_law_817 : decode cL_law 817 = .ok (.iload_n 3, 1) := by decide +kernel
theorem dL_law_818 : decode cL_law 818 = .ok (.iconst 1, 1) := by decide +kernel
theorem dL_law_819 : decode cL_law 819 = .ok (.iadd, 1) := by decide +kernel
theorem dL_law_820 : decode cL_law 820 = .ok (.iaload, 1) := by decide +kernel
theorem dL_law_821 : decode cL_law 821 = .ok (.aload_n 0, 1) := by decide +kernel
theorem dL_law_822 : decode cL_law 822 = .ok (.iload_n 3, 1) := by decide +kernel
theorem dL_law_823 : decode cL_law 823 = .ok (.iconst 2, 1) := by decide +kernel
theorem dL_law_824 : decode cL_law 824 = .ok (.iadd, 1) := by decide +kernel
theorem dL_law_825 : decode cL_law 825 = .ok (.iaload, 1) := by decide +kernel
theorem dL_law_826 : decode cL_law 826 = .ok (.aload_n 0, 1) := by decide +kernel
theorem dL_law_827 : decode cL_law 827 = .ok (.iload_n 3, 1) := by decide +kernel
theorem dL_law_828 : decode cL_law 828 = .ok (.iconst 3, 1) := by decide +kernel
theorem dL_law_829 : decode cL_law 829 = .ok (.iadd, 1) := by decide +kernel
theorem dL_law_830 : decode cL_law 830 = .ok (.iaload, 1) := by decide +kernel
theorem dL_law_831 : decode cL_law 831 = .ok (.aload_n 0, 1) := by decide +kernel
theorem dL_law_832 : decode cL_law 832 = .ok (.iload_n 3, 1) := by decide +kernel
theorem dL_law_833 : decode cL_law 833 = .ok (.iconst 4, 1) := by decide +kernel
theorem dL_law_834 : decode cL_law 834 = .ok (.iadd, 1) := by decide +kernel
theorem dL_law_835 : decode cL_law 835 = .ok (.iaload, 1) := by decide +kernel
theorem dL_law_836 : decode cL_law 836 = .ok (.invokevirtual 114, 3) := by decide +kernel
theorem dL_law_839 : decode cL_law 839 = .ok (.lcmp, 1) := by decide +kernel
theorem dL_law_840 : decode cL_law 840 = .ok (.ifCond .eq 273, 3) := by decide +kernel
theorem dL_law_843 : decode cL_law 843 = .ok (.iconst 0, 1) := by decide +kernel
theorem dL_law_844 : decode cL_law 844 = .ok (.ireturn, 1) := by decide +kernel
theorem dL_law_845 : decode cL_law 845 = .ok (.aload_n 1, 1) := by decide +kernel
theorem dL_law_846 : decode cL_law 846 = .ok (.aload_n 0, 1) := by decide +kernel
theorem dL_law_847 : decode cL_law 847 = .ok (.iload_n 3, 1) := by decide +kernel
theorem dL_law_848 : decode cL_law 848 = .ok (.iconst 1, 1) := by decide +kernel
theorem dL_law_849 : decode cL_law 849 = .ok (.iadd, 1) := by decide +kernel
theorem dL_law_850 : decode cL_law 850 = .ok (.iaload, 1) := by decide +kernel
theorem dL_law_851 : decode cL_law 851 = .ok (.aload_n 0, 1) := by decide +kernel
theorem dL_law_852 : decode cL_law 852 = .ok (.iload_n 3, 1) := by decide +kernel
theorem dL_law_853 : decode cL_law 853 = .ok (.iconst 2, 1) := by decide +kernel
theorem dL_law_854 : decode cL_law 854 = .ok (.iadd, 1) := by decide +kernel
theorem dL_law_855 : decode cL_law 855 = .ok (.iaload, 1) := by decide +kernel
theorem dL_law_856 : decode cL_law 856 = .ok (.aload_n 0, 1) := by decide +kernel
theorem dL_law_857 : decode cL_law 857 = .ok (.iload_n 3, 1) := by decide +kernel
theorem dL_law_858 : decode cL_law 858 = .ok (.iconst 3, 1) := by decide +kernel
theorem dL_law_859 : decode cL_law 859 = .ok (.iadd, 1) := by decide +kernel
theorem dL_law_860 : decode cL_law 860 = .ok (.iaload, 1) := by decide +kernel
theorem dL_law_861 : decode cL_law 861 = .ok (.invokevirtual 115, 3) := by decide +kernel
theorem dL_law_864 : decode cL_law 864 = .ok (.aload_n 2, 1) := by decide +kernel
theorem dL_law_865 : decode cL_law 865 = .ok (.aload_n 0, 1) := by decide +kernel
theorem dL_law_866 : decode cL_law 866 = .ok (.iload_n 3, 1) := by decide +kernel
theorem dL_law_867 : decode cL_law 867 = .ok (.iconst 1, 1) := by decide +kernel
theorem dL_law_868 : decode cL_law 868 = .ok (.iadd, 1) := by decide +kernel
theorem dL_law_869 : decode cL_law 869 = .ok (.iaload, 1) := by decide +kernel
theorem dL_law_870 : decode cL_law 870 = .ok (.aload_n 0, 1) := by decide +kernel
theorem dL_law_871 : decode cL_law 871 = .ok (.iload_n 3, 1) := by decide +kernel
theorem dL_law_872 : decode cL_law 872 = .ok (.iconst 2, 1) := by decide +kernel
theorem dL_law_873 : decode cL_law 873 = .ok (.iadd, 1) := by decide +kernel
theorem dL_law_874 : decode cL_law 874 = .ok (.iaload, 1) := by decide +kernel
theorem dL_law_875 : decode cL_law 875 = .ok (.aload_n 0, 1) := by decide +kernel
theorem dL_law_876 : decode cL_law 876 = .ok (.iload_n 3, 1) := by decide +kernel
theorem dL_law_877 : decode cL_law 877 = .ok (.iconst 3, 1) := by decide +kernel
theorem dL_law_878 : decode cL_law 878 = .ok (.iadd, 1) := by decide +kernel
theorem dL_law_879 : decode cL_law 879 = .ok (.iaload, 1) := by decide +kernel
theorem dL_law_880 : decode cL_law 880 = .ok (.invokevirtual 118, 3) := by decide +kernel
theorem dL_law_883 : decode cL_law 883 = .ok (.if_icmp .eq 230, 3) := by decide +kernel
theorem dL_law_886 : decode cL_law 886 = .ok (.iconst 0, 1) := by decide +kernel
theorem dL_law_887 : decode cL_law 887 = .ok (.ireturn, 1) := by decide +kernel
theorem dL_law_888 : decode cL_law 888 = .ok (.aload_n 1, 1) := by decide +kernel
theorem dL_law_889 : decode cL_law 889 = .ok (.aload_n 0, 1) := by decide +kernel
theorem dL_law_890 : decode cL_law 890 = .ok (.iload_n 3, 1) := by decide +kernel
theorem dL_law_891 : decode cL_law 891 = .ok (.iconst 1, 1) := by decide +kernel
theorem dL_law_892 : decode cL_law 892 = .ok (.iadd, 1) := by decide +kernel
theorem dL_law_893 : decode cL_law 893 = .ok (.iaload, 1) := by decide +kernel
theorem dL_law_894 : decode cL_law 894 = .ok (.aload_n 0, 1) := by decide +kernel
theorem dL_law_895 : decode cL_law 895 = .ok (.iload_n 3, 1) := by decide +kernel
theorem dL_law_896 : decode cL_law 896 = .ok (.iconst 2, 1) := by decide +kernel
theorem dL_law_897 : decode cL_law 897 = .ok (.iadd, 1) := by decide +kernel
theorem dL_law_898 : decode cL_law 898 = .ok (.iaload, 1) := by decide +kernel
theorem dL_law_899 : decode cL_law 899 = .ok (.aload_n 0, 1) := by decide +kernel
theorem dL_law_900 : decode cL_law 900 = .ok (.iload_n 3, 1) := by decide +kernel
theorem dL_law_901 : decode cL_law 901 = .ok (.iconst 3, 1) := by decide +kernel
theorem dL_law_902 : decode cL_law 902 = .ok (.iadd, 1) := by decide +kernel
theorem dL_law_903 : decode cL_law 903 = .ok (.iaload, 1) := by decide +kernel
theorem dL_law_904 : decode cL_law 904 = .ok (.invokevirtual 119, 3) := by decide +kernel
theorem dL_law_907 : decode cL_law 907 = .ok (.aload_n 2, 1) := by decide +kernel
theorem dL_law_908 : decode cL_law 908 = .ok (.aload_n 0, 1) := by decide +kernel
theorem dL_law_909 : decode cL_law 909 = .ok (.iload_n 3, 1) := by decide +kernel
theorem dL_law_910 : decode cL_law 910 = .ok (.iconst 1, 1) := by decide +kernel
theorem dL_law_911 : decode cL_law 911 = .ok (.iadd, 1) := by decide +kernel
theorem dL_law_912 : decode cL_law 912 = .ok (.iaload, 1) := by decide +kernel
theorem dL_law_913 : decode cL_law 913 = .ok (.aload_n 0, 1) := by decide +kernel
theorem dL_law_914 : decode cL_law 914 = .ok (.iload_n 3, 1) := by decide +kernel
theorem dL_law_915 : decode cL_law 915 = .ok (.iconst 2, 1) := by decide +kernel
theorem dL_law_916 : decode cL_law 916 = .ok (.iadd, 1) := by decide +kernel
theorem dL_law_917 : decode cL_law 917 = .ok (.iaload, 1) := by decide +kernel
theorem dL_law_918 : decode cL_law 918 = .ok (.aload_n 0, 1) := by decide +kernel
theorem dL_law_919 : decode cL_law 919 = .ok (.iload_n 3, 1) := by decide +kernel
theorem dL_law_920 : decode cL_law 920 = .ok (.iconst 3, 1) := by decide +kernel
theorem dL_law_921 : decode cL_law 921 = .ok (.iadd, 1) := by decide +kernel
theorem dL_law_922 : decode cL_law 922 = .ok (.iaload, 1) := by decide +kernel
theorem dL_law_923 : decode cL_law 923 = .ok (.invokevirtual 122, 3) := by decide +kernel
theorem dL_law_926 : decode cL_law 926 = .ok (.if_icmp .eq 187, 3) := by decide +kernel
theorem dL_law_929 : decode cL_law 929 = .ok (.iconst 0, 1) := by decide +kernel
theorem dL_law_930 : decode cL_law 930 = .ok (.ireturn, 1) := by decide +kernel
theorem dL_law_931 : decode cL_law 931 = .ok (.aload_n 1, 1) := by decide +kernel
theorem dL_law_932 : decode cL_law 932 = .ok (.aload_n 0, 1) := by decide +kernel
theorem dL_law_933 : decode cL_law 933 = .ok (.iload_n 3, 1) := by decide +kernel
theorem dL_law_934 : decode cL_law 934 = .ok (.iconst 1, 1) := by decide +kernel
theorem dL_law_935 : decode cL_law 935 = .ok (.iadd, 1) := by decide +kernel
theorem dL_law_936 : decode cL_law 936 = .ok (.iaload, 1) := by decide +kernel
theorem dL_law_937 : decode cL_law 937 = .ok (.invokevirtual 123, 3) := by decide +kernel
theorem dL_law_940 : decode cL_law 940 = .ok (.aload_n 2, 1) := by decide +kernel
theorem dL_law_941 : decode cL_law 941 = .ok (.aload_n 0, 1) := by decide +kernel
theorem dL_law_942 : decode cL_law 942 = .ok (.iload_n 3, 1) := by decide +kernel
theorem dL_law_943 : decode cL_law 943 = .ok (.iconst 1, 1) := by decide +kernel
theorem dL_law_944 : decode cL_law 944 = .ok (.iadd, 1) := by decide +kernel
theorem dL_law_945 : decode cL_law 945 = .ok (.iaload, 1) := by decide +kernel
theorem dL_law_946 : decode cL_law 946 = .ok (.invokevirtual 126, 3) := by decide +kernel
theorem dL_law_949 : decode cL_law 949 = .ok (.if_icmp .eq 164, 3) := by decide +kernel
theorem dL_law_952 : decode cL_law 952 = .ok (.iconst 0, 1) := by decide +kernel
theorem dL_law_953 : decode cL_law 953 = .ok (.ireturn, 1) := by decide +kernel
theorem dL_law_954 : decode cL_law 954 = .ok (.aload_n 1, 1) := by decide +kernel
theorem dL_law_955 : decode cL_law 955 = .ok (.aload_n 0, 1) := by decide +kernel
theorem dL_law_956 : decode cL_law 956 = .ok (.iload_n 3, 1) := by decide +kernel
theorem dL_law_957 : decode cL_law 957 = .ok (.iconst 1, 1) := by decide +kernel
theorem dL_law_958 : decode cL_law 958 = .ok (.iadd, 1) := by decide +kernel
theorem dL_law_959 : decode cL_law 959 = .ok (.iaload, 1) := by decide +kernel
theorem dL_law_960 : decode cL_law 960 = .ok (.aload_n 0, 1) := by decide +kernel
theorem dL_law_961 : decode cL_law 961 = .ok (.iload_n 3, 1) := by decide +kernel
theorem dL_law_962 : decode cL_law 962 = .ok (.iconst 2, 1) := by decide +kernel
theorem dL_law_963 : decode cL_law 963 = .ok (.iadd, 1) := by decide +kernel
theorem dL_law_964 : decode cL_law 964 = .ok (.iaload, 1) := by decide +kernel
theorem dL_law_965 : decode cL_law 965 = .ok (.aload_n 0, 1) := by decide +kernel
theorem dL_law_966 : decode cL_law 966 = .ok (.iload_n 3, 1) := by decide +kernel
theorem dL_law_967 : decode cL_law 967 = .ok (.iconst 3, 1) := by decide +kernel
theorem dL_law_968 : decode cL_law 968 = .ok (.iadd, 1) := by decide +kernel
theorem dL_law_969 : decode cL_law 969 = .ok (.iaload, 1) := by decide +kernel
theorem dL_law_970 : decode cL_law 970 = .ok (.aload_n 0, 1) := by decide +kernel
theorem dL_law_971 : decode cL_law 971 = .ok (.iload_n 3, 1) := by decide +kernel
theorem dL_law_972 : decode cL_law 972 = .ok (.iconst 4, 1) := by decide +kernel
theorem dL_law_973 : decode cL_law 973 = .ok (.iadd, 1) := by decide +kernel
theorem dL_law_974 : decode cL_law 974 = .ok (.iaload, 1) := by decide +kernel
theorem dL_law_975 : decode cL_law 975 = .ok (.invokevirtual 127, 3) := by decide +kernel
theorem dL_law_978 : decode cL_law 978 = .ok (.aload_n 2, 1) := by decide +kernel
theorem dL_law_979 : decode cL_law 979 = .ok (.aload_n 0, 1) := by decide +kernel
theorem dL_law_980 : decode cL_law 980 = .ok (.iload_n 3, 1) := by decide +kernel
theorem dL_law_981 : decode cL_law 981 = .ok (.iconst 1, 1) := by decide +kernel
theorem dL_law_982 : decode cL_law 982 = .ok (.iadd, 1) := by decide +kernel
theorem dL_law_983 : decode cL_law 983 = .ok (.iaload, 1) := by decide +kernel
theorem dL_law_984 : decode cL_law 984 = .ok (.aload_n 0, 1) := by decide +kernel
theorem dL_law_985 : decode cL_law 985 = .ok (.iload_n 3, 1) := by decide +kernel
theorem dL_law_986 : decode cL_law 986 = .ok (.iconst 2, 1) := by decide +kernel
theorem dL_law_987 : decode cL_law 987 = .ok (.iadd, 1) := by decide +kernel
theorem dL_law_988 : decode cL_law 988 = .ok (.iaload, 1) := by decide +kernel
theorem dL_law_989 : decode cL_law 989 = .ok (.aload_n 0, 1) := by decide +kernel
theorem dL_law_990 : decode cL_law 990 = .ok (.iload_n 3, 1) := by decide +kernel
theorem dL_law_991 : decode cL_law 991 = .ok (.iconst 3, 1) := by decide +kernel
theorem dL_law_992 : decode cL_law 992 = .ok (.iadd, 1) := by decide +kernel
theorem dL_law_993 : decode cL_law 993 = .ok (.iaload, 1) := by decide +kernel
theorem dL_law_994 : decode cL_law 994 = .ok (.aload_n 0, 1) := by decide +kernel
theorem dL_law_995 : decode cL_law 995 = .ok (.iload_n 3, 1) := by decide +kernel
theorem dL_law_996 : decode cL_law 996 = .ok (.iconst 4, 1) := by decide +kernel
theorem dL_law_997 : decode cL_law 997 = .ok (.iadd, 1) := by decide +kernel
theorem dL_law_998 : decode cL_law 998 = .ok (.iaload, 1) := by decide +kernel
theorem dL_law_999 : decode cL_law 999 = .ok (.invokevirtual 130, 3) := by decide +kernel
theorem dL_law_1002 : decode cL_law 1002 = .ok (.if_icmp .eq 111, 3) := by decide +kernel
theorem dL_law_1005 : decode cL_law 1005 = .ok (.iconst 0, 1) := by decide +kernel
theorem dL_law_1006 : decode cL_law 1006 = .ok (.ireturn, 1) := by decide +kernel
theorem dL_law_1007 : decode cL_law 1007 = .ok (.aload_n 1, 1) := by decide +kernel
theorem dL_law_1008 : decode cL_law 1008 = .ok (.aload_n 0, 1) := by decide +kernel
theorem dL_law_1009 : decode cL_law 1009 = .ok (.iload_n 3, 1) := by decide +kernel
theorem dL_law_1010 : decode cL_law 1010 = .ok (.iconst 1, 1) := by decide +kernel
theorem dL_law_1011 : decode cL_law 1011 = .ok (.iadd, 1) := by decide +kernel
theorem dL_law_1012 : decode cL_law 1012 = .ok (.iaload, 1) := by decide +kernel
theorem dL_law_1013 : decode cL_law 1013 = .ok (.aload_n 0, 1) := by decide +kernel
theorem dL_law_1014 : decode cL_law 1014 = .ok (.iload_n 3, 1) := by decide +kernel
theorem dL_law_1015 : decode cL_law 1015 = .ok (.iconst 2, 1) := by decide +kernel
theorem dL_law_1016 : decode cL_law 1016 = .ok (.iadd, 1) := by decide +kernel
theorem dL_law_1017 : decode cL_law 1017 = .ok (.iaload, 1) := by decide +kernel
theorem dL_law_1018 : decode cL_law 1018 = .ok (.aload_n 0, 1) := by decide +kernel
theorem dL_law_1019 : decode cL_law 1019 = .ok (.iload_n 3, 1) := by decide +kernel
theorem dL_law_1020 : decode cL_law 1020 = .ok (.iconst 3, 1) := by decide +kernel
theorem dL_law_1021 : decode cL_law 1021 = .ok (.iadd, 1) := by decide +kernel
theorem dL_law_1022 : decode cL_law 1022 = .ok (.iaload, 1) := by decide +kernel
theorem dL_law_1023 : decode cL_law 1023 = .ok (.invokevirtual 131, 3) := by decide +kernel
theorem dL_law_1026 : decode cL_law 1026 = .ok (.aload_n 2, 1) := by decide +kernel
theorem dL_law_1027 : decode cL_law 1027 = .ok (.aload_n 0, 1) := by decide +kernel
theorem dL_law_1028 : decode cL_law 1028 = .ok (.iload_n 3, 1) := by decide +kernel
theorem dL_law_1029 : decode cL_law 1029 = .ok (.iconst 1, 1) := by decide +kernel
theorem dL_law_1030 : decode cL_law 1030 = .ok (.iadd, 1) := by decide +kernel
theorem dL_law_1031 : decode cL_law 1031 = .ok (.iaload, 1) := by decide +kernel
theorem dL_law_1032 : decode cL_law 1032 = .ok (.aload_n 0, 1) := by decide +kernel
theorem dL_law_1033 : decode cL_law 1033 = .ok (.iload_n 3, 1) := by decide +kernel
theorem dL_law_1034 : decode cL_law 1034 = .ok (.iconst 2, 1) := by decide +kernel
theorem dL_law_1035 : decode cL_law 1035 = .ok (.iadd, 1) := by decide +kernel
theorem dL_law_1036 : decode cL_law 1036 = .ok (.iaload, 1) := by decide +kernel
theorem dL_law_1037 : decode cL_law 1037 = .ok (.aload_n 0, 1) := by decide +kernel
theorem dL_law_1038 : decode cL_law 1038 = .ok (.iload_n 3, 1) := by decide +kernel
theorem dL_law_1039 : decode cL_law 1039 = .ok (.iconst 3, 1) := by decide +kernel
theorem dL_law_1040 : decode cL_law 1040 = .ok (.iadd, 1) := by decide +kernel
theorem dL_law_1041 : decode cL_law 1041 = .ok (.iaload, 1) := by decide +kernel
theorem dL_law_1042 : decode cL_law 1042 = .ok (.invokevirtual 134, 3) := by decide +kernel
theorem dL_law_1045 : decode cL_law 1045 = .ok (.if_icmp .eq 68, 3) := by decide +kernel
theorem dL_law_1048 : decode cL_law 1048 = .ok (.iconst 0, 1) := by decide +kernel
theorem dL_law_1049 : decode cL_law 1049 = .ok (.ireturn, 1) := by decide +kernel
theorem dL_law_1050 : decode cL_law 1050 = .ok (.aload_n 1, 1) := by decide +kernel
theorem dL_law_1051 : decode cL_law 1051 = .ok (.aload_n 0, 1) := by decide +kernel
theorem dL_law_1052 : decode cL_law 1052 = .ok (.iload_n 3, 1) := by decide +kernel
theorem dL_law_1053 : decode cL_law 1053 = .ok (.iconst 1, 1) := by decide +kernel
theorem dL_law_1054 : decode cL_law 1054 = .ok (.iadd, 1) := by decide +kernel
theorem dL_law_1055 : decode cL_law 1055 = .ok (.iaload, 1) := by decide +kernel
theorem dL_law_1056 : decode cL_law 1056 = .ok (.aload_n 0, 1) := by decide +kernel
theorem dL_law_1057 : decode cL_law 1057 = .ok (.iload_n 3, 1) := by decide +kernel
theorem dL_law_1058 : decode cL_law 1058 = .ok (.iconst 2, 1) := by decide +kernel
theorem dL_law_1059 : decode cL_law 1059 = .ok (.iadd, 1) := by decide +kernel
theorem dL_law_1060 : decode cL_law 1060 = .ok (.iaload, 1) := by decide +kernel
theorem dL_law_1061 : decode cL_law 1061 = .ok (.aload_n 0, 1) := by decide +kernel
theorem dL_law_1062 : decode cL_law 1062 = .ok (.iload_n 3, 1) := by decide +kernel
theorem dL_law_1063 : decode cL_law 1063 = .ok (.iconst 3, 1) := by decide +kernel
theorem dL_law_1064 : decode cL_law 1064 = .ok (.iadd, 1) := by decide +kernel
theorem dL_law_1065 : decode cL_law 1065 = .ok (.iaload, 1) := by decide +kernel
theorem dL_law_1066 : decode cL_law 1066 = .ok (.aload_n 0, 1) := by decide +kernel
theorem dL_law_1067 : decode cL_law 1067 = .ok (.iload_n 3, 1) := by decide +kernel
theorem dL_law_1068 : decode cL_law 1068 = .ok (.iconst 4, 1) := by decide +kernel
theorem dL_law_1069 : decode cL_law 1069 = .ok (.iadd, 1) := by decide +kernel
theorem dL_law_1070 : decode cL_law 1070 = .ok (.iaload, 1) := by decide +kernel
theorem dL_law_1071 : decode cL_law 1071 = .ok (.aload_n 0, 1) := by decide +kernel
theorem dL_law_1072 : decode cL_law 1072 = .ok (.iload_n 3, 1) := by decide +kernel
theorem dL_law_1073 : decode cL_law 1073 = .ok (.iconst 5, 1) := by decide +kernel
theorem dL_law_1074 : decode cL_law 1074 = .ok (.iadd, 1) := by decide +kernel
theorem dL_law_1075 : decode cL_law 1075 = .ok (.iaload, 1) := by decide +kernel
theorem dL_law_1076 : decode cL_law 1076 = .ok (.invokevirtual 135, 3) := by decide +kernel
theorem dL_law_1079 : decode cL_law 1079 = .ok (.aload_n 2, 1) := by decide +kernel
theorem dL_law_1080 : decode cL_law 1080 = .ok (.aload_n 0, 1) := by decide +kernel
theorem dL_law_1081 : decode cL_law 1081 = .ok (.iload_n 3, 1) := by decide +kernel
theorem dL_law_1082 : decode cL_law 1082 = .ok (.iconst 1, 1) := by decide +kernel
theorem dL_law_1083 : decode cL_law 1083 = .ok (.iadd, 1) := by decide +kernel
theorem dL_law_1084 : decode cL_law 1084 = .ok (.iaload, 1) := by decide +kernel
theorem dL_law_1085 : decode cL_law 1085 = .ok (.aload_n 0, 1) := by decide +kernel
theorem dL_law_1086 : decode cL_law 1086 = .ok (.iload_n 3, 1) := by decide +kernel
theorem dL_law_1087 : decode cL_law 1087 = .ok (.iconst 2, 1) := by decide +kernel
theorem dL_law_1088 : decode cL_law 1088 = .ok (.iadd, 1) := by decide +kernel
theorem dL_law_1089 : decode cL_law 1089 = .ok (.iaload, 1) := by decide +kernel
theorem dL_law_1090 : decode cL_law 1090 = .ok (.aload_n 0, 1) := by decide +kernel
theorem dL_law_1091 : decode cL_law 1091 = .ok (.iload_n 3, 1) := by decide +kernel
theorem dL_law_1092 : decode cL_law 1092 = .ok (.iconst 3, 1) := by decide +kernel
theorem dL_law_1093 : decode cL_law 1093 = .ok (.iadd, 1) := by decide +kernel
theorem dL_law_1094 : decode cL_law 1094 = .ok (.iaload, 1) := by decide +kernel
theorem dL_law_1095 : decode cL_law 1095 = .ok (.aload_n 0, 1) := by decide +kernel
theorem dL_law_1096 : decode cL_law 1096 = .ok (.iload_n 3, 1) := by decide +kernel
theorem dL_law_1097 : decode cL_law 1097 = .ok (.iconst 4, 1) := by decide +kernel
theorem dL_law_1098 : decode cL_law 1098 = .ok (.iadd, 1) := by decide +kernel
theorem dL_law_1099 : decode cL_law 1099 = .ok (.iaload, 1) := by decide +kernel
theorem dL_law_1100 : decode cL_law 1100 = .ok (.aload_n 0, 1) := by decide +kernel
theorem dL_law_1101 : decode cL_law 1101 = .ok (.iload_n 3, 1) := by decide +kernel
theorem dL_law_1102 : decode cL_law 1102 = .ok (.iconst 5, 1) := by decide +kernel
theorem dL_law_1103 : decode cL_law 1103 = .ok (.iadd, 1) := by decide +kernel
theorem dL_law_1104 : decode cL_law 1104 = .ok (.iaload, 1) := by decide +kernel
theorem dL_law_1105 : decode cL_law 1105 = .ok (.invokevirtual 139, 3) := by decide +kernel
theorem dL_law_1108 : decode cL_law 1108 = .ok (.if_icmp .eq 5, 3) := by decide +kernel
theorem dL_law_1111 : decode cL_law 1111 = .ok (.iconst 0, 1) := by decide +kernel
theorem dL_law_1112 : decode cL_law 1112 = .ok (.ireturn, 1) := by decide +kernel
theorem dL_law_1113 : decode cL_law 1113 = .ok (.iinc 3 6, 3) := by decide +kernel
theorem dL_law_1116 : decode cL_law 1116 = .ok (.goto (-1098), 3) := by decide +kernel
theorem dL_law_1119 : decode cL_law 1119 = .ok (.iconst 1, 1) := by decide +kernel
theorem dL_law_1120 : decode cL_law 1120 = .ok (.ireturn, 1) := by decide +kernel
