theorem dX4_item_20 : decode cX4_item 20 = .ok (.ireturn, 1) := by decide +kernel
theorem dX4_item_21 : decode cX4_item 21 = .ok (.aload 5, 2) := by decide +kernel
theorem dX4_item_23 : decode cX4_item 23 = .ok (.iload_n 2, 1) := by decide +kernel
theorem dX4_item_24 : decode cX4_item 24 = .ok (.iload_n 3, 1) := by decide +kernel
theorem dX4_item_25 : decode cX4_item 25 = .ok (.iconst 1, 1) := by decide +kernel
theorem dX4_item_26 : decode cX4_item 26 = .ok (.invokevirtual 233, 3) := by decide +kernel
theorem dX4_item_29 : decode cX4_item 29 = .ok (.istore 6, 2) := by decide +kernel
theorem dX4_item_31 : decode cX4_item 31 = .ok (.iload 6, 2) := by decide +kernel
theorem dX4_item_33 : decode cX4_item 33 = .ok (.ifCond .eq 6, 3) := by decide +kernel
theorem dX4_item_36 : decode cX4_item 36 = .ok (.iload 6, 2) := by decide +kernel
theorem dX4_item_38 : decode cX4_item 38 = .ok (.ireturn, 1) := by decide +kernel
theorem dX4_item_39 : decode cX4_item 39 = .ok (.aload 5, 2) := by decide +kernel
theorem dX4_item_41 : decode cX4_item 41 = .ok (.iload_n 3, 1) := by decide +kernel
theorem dX4_item_42 : decode cX4_item 42 = .ok (.iload 4, 2) := by decide +kernel
theorem dX4_item_44 : decode cX4_item 44 = .ok (.invokevirtual 251, 3) := by decide +kernel
theorem dX4_item_47 : decode cX4_item 47 = .ok (.iconst 1, 1) := by decide +kernel
theorem dX4_item_48 : decode cX4_item 48 = .ok (.ireturn, 1) := by decide +kernel
theorem dX4_film_0 : decode cX4_film 0 = .ok (.aload_n 0, 1) := by decide +kernel
theorem dX4_film_1 : decode cX4_film 1 = .ok (.iload_n 1, 1) := by decide +kernel
theorem dX4_film_2 : decode cX4_film 2 = .ok (.invokevirtual 221, 3) := by decide +kernel
theorem dX4_film_5 : decode cX4_film 5 = .ok (.astore 4, 2) := by decide +kernel
theorem dX4_film_7 : decode cX4_film 7 = .ok (.aload 4, 2) := by decide +kernel
theorem dX4_film_9 : decode cX4_film 9 = .ok (.ifnull 10, 3) := by decide +kernel
theorem dX4_film_12 : decode cX4_film 12 = .ok (.iload_n 2, 1) := by decide +kernel
theorem dX4_film_13 : decode cX4_film 13 = .ok (.invokestatic 225, 3) := by decide +kernel
theorem dX4_film_16 : decode cX4_film 16 = .ok (.ifCond .ne 5, 3) := by decide +kernel
theorem dX4_film_19 : decode cX4_film 19 = .ok (.iconst (-1), 1) := by decide +kernel
theorem dX4_film_20 : decode cX4_film 20 = .ok (.ireturn, 1) := by decide +kernel
theorem dX4_film_21 : decode cX4_film 21 = .ok (.aload 4, 2) := by decide +kernel
theorem dX4_film_23 : decode cX4_film 23 = .ok (.iload_n 2, 1) := by decide +kernel
theorem dX4_film_24 : decode cX4_film 24 = .ok (.iload_n 3, 1) := by decide +kernel
theorem dX4_film_25 : decode cX4_film 25 = .ok (.aload_n 0, 1) := by decide +kernel
theorem dX4_film_26 : decode cX4_film 26 = .ok (.getfield 10, 3) := by decide +kernel
theorem dX4_film_29 : decode cX4_film 29 = .ok (.getfield 51, 3) := by decide +kernel
theorem dX4_film_32 : decode cX4_film 32 = .ok (.invokevirtual 233, 3) := by decide +kernel
theorem dX4_film_35 : decode cX4_film 35 = .ok (.istore 5, 2) := by decide +kernel
theorem dX4_film_37 : decode cX4_film 37 = .ok (.iload 5, 2) := by decide +kernel
theorem dX4_film_39 : decode cX4_film 39 = .ok (.ifCond .eq 6, 3) := by decide +kernel
theorem dX4_film_42 : decode cX4_film 42 = .ok (.iload 5, 2) := by decide +kernel
theorem dX4_film_44 : decode cX4_film 44 = .ok (.ireturn, 1) := by decide +kernel
theorem dX4_film_45 : decode cX4_film 45 = .ok (.aload_n 0, 1) := by decide +kernel
theorem dX4_film_46 : decode cX4_film 46 = .ok (.getfield 10, 3) := by decide +kernel
theorem dX4_film_49 : decode cX4_film 49 = .ok (.invokevirtual 158, 3) := by decide +kernel
theorem dX4_film_52 : decode cX4_film 52 = .ok (.iconst 0, 1) := by decide +kernel
theorem dX4_film_53 : decode cX4_film 53 = .ok (.istore 6, 2) := by decide +kernel
theorem dX4_film_55 : decode cX4_film 55 = .ok (.iload 6, 2) := by decide +kernel
theorem dX4_film_57 : decode cX4_film 57 = .ok (.aload_n 0, 1) := by decide +kernel
theorem dX4_film_58 : decode cX4_film 58 = .ok (.getfield 10, 3) := by decide +kernel
theorem dX4_film_61 : decode cX4_film 61 = .ok (.getfield 51, 3) := by decide +kernel
theorem dX4_film_64 : decode cX4_film 64 = .ok (.if_icmp .ge 27, 3) := by decide +kernel
theorem dX4_film_67 : decode cX4_film 67 = .ok (.aload 4, 2) := by decide +kernel
theorem dX4_film_69 : decode cX4_film 69 = .ok (.iload_n 3, 1) := by decide +kernel
theorem dX4_film_70 : decode cX4_film 70 = .ok (.iload 6, 2) := by decide +kernel
theorem dX4_film_72 : decode cX4_film 72 = .ok (.iadd, 1) := by decide +kernel
theorem dX4_film_73 : decode cX4_film 73 = .ok (.aload_n 0, 1) := by decide +kernel
theorem dX4_film_74 : decode cX4_film 74 = .ok (.getfield 10, 3) := by decide +kernel
theorem dX4_film_77 : decode cX4_film 77 = .ok (.iload 6, 2) := by decide +kernel
theorem dX4_film_79 : decode cX4_film 79 = .ok (.invokevirtual 167, 3) := by decide +kernel
theorem dX4_film_82 : decode cX4_film 82 = .ok (.invokevirtual 251, 3) := by decide +kernel
theorem dX4_film_85 : decode cX4_film 85 = .ok (.iinc 6 1, 3) := by decide +kernel
theorem dX4_film_88 : decode cX4_film 88 = .ok (.goto (-33), 3) := by decide +kernel
theorem dX4_film_91 : decode cX4_film 91 = .ok (.aload_n 0, 1) := by decide +kernel
theorem dX4_film_92 : decode cX4_film 92 = .ok (.getfield 10, 3) := by decide +kernel
theorem dX4_film_95 : decode cX4_film 95 = .ok (.getfield 51, 3) := by decide +kernel
theorem dX4_film_98 : decode cX4_film 98 = .ok (.ireturn, 1) := by decide +kernel
theorem dX4_copy_0 : decode cX4_copy 0 = .ok (.aload_n 0, 1) := by decide +kernel
theorem dX4_copy_1 : decode cX4_copy 1 = .ok (.iload_n 1, 1) := by decide +kernel
theorem dX4_copy_2 : decode cX4_copy 2 = .ok (.invokevirtual 221, 3) := by decide +kernel
theorem dX4_copy_5 : decode cX4_copy 5 = .ok (.astore 6, 2) := by decide +kernel
theorem dX4_copy_7 : decode cX4_copy 7 = .ok (.aload_n 0, 1) := by decide +kernel
theorem dX4_copy_8 : decode cX4_copy 8 = .ok (.iload_n 3, 1) := by decide +kernel
theorem dX4_copy_9 : decode cX4_copy 9 = .ok (.invokevirtual 221, 3) := by decide +kernel
theorem dX4_copy_12 : decode cX4_copy 12 = .ok (.astore 7, 2) := by decide +kernel
theorem dX4_copy_14 : decode cX4_copy 14 = .ok (.aload 6, 2) := by decide +kernel
theorem dX4_copy_16 : decode cX4_copy 16 = .ok (.ifnull 8, 3) := by decide +kernel
theorem dX4_copy_19 : decode cX4_copy 19 = .ok (.aload 7, 2) := by decide +kernel
theorem dX4_copy_21 : decode cX4_copy 21 = .ok (.ifnonnull 5, 3) := by decide +kernel
theorem dX4_copy_24 : decode cX4_copy 24 = .ok (.iconst (-1), 1) := by decide +kernel
theorem dX4_copy_25 : decode cX4_copy 25 = .ok (.ireturn, 1) := by decide +kernel
theorem dX4_copy_26 : decode cX4_copy 26 = .ok (.aload 6, 2) := by decide +kernel
theorem dX4_copy_28 : decode cX4_copy 28 = .ok (.getfield 247, 3) := by decide +kernel
theorem dX4_copy_31 : decode cX4_copy 31 = .ok (.iconst (-1), 1) := by decide +kernel
theorem dX4_copy_32 : decode cX4_copy 32 = .ok (.if_icmp .eq 12, 3) := by decide +kernel
theorem dX4_copy_35 : decode cX4_copy 35 = .ok (.aload 7, 2) := by decide +kernel
theorem dX4_copy_37 : decode cX4_copy 37 = .ok (.getfield 247, 3) := by decide +kernel
theorem dX4_copy_40 : decode cX4_copy 40 = .ok (.iconst (-1), 1) := by decide +kernel
theorem dX4_copy_41 : decode cX4_copy 41 = .ok (.if_icmp .ne 6, 3) := by decide +kernel
theorem dX4_copy_44 : decode cX4_copy 44 = .ok (.bipush (-11), 2) := by decide +kernel
theorem dX4_copy_46 : decode cX4_copy 46 = .ok (.ireturn, 1) := by decide +kernel
theorem dX4_copy_47 : decode cX4_copy 47 = .ok (.aload 6, 2) := by decide +kernel
theorem dX4_copy_49 : decode cX4_copy 49 = .ok (.getfield 247, 3) := by decide +kernel
theorem dX4_copy_52 : decode cX4_copy 52 = .ok (.aload 7, 2) := by decide +kernel
theorem dX4_copy_54 : decode cX4_copy 54 = .ok (.getfield 247, 3) := by decide +kernel
theorem dX4_copy_57 : decode cX4_copy 57 = .ok (.if_icmp .eq 6, 3) := by decide +kernel
theorem dX4_copy_60 : decode cX4_copy 60 = .ok (.bipush (-12), 2) := by decide +kernel
theorem dX4_copy_62 : decode cX4_copy 62 = .ok (.ireturn, 1) := by decide +kernel
theorem dX4_copy_63 : decode cX4_copy 63 = .ok (.aload 6, 2) := by decide +kernel
theorem dX4_copy_65 : decode cX4_copy 65 = .ok (.iload_n 2, 1) := by decide +kernel
theorem dX4_copy_66 : decode cX4_copy 66 = .ok (.iload 5, 2) := by decide +kernel
theorem dX4_copy_68 : decode cX4_copy 68 = .ok (.invokevirtual 254, 3) := by decide +kernel
theorem dX4_copy_71 : decode cX4_copy 71 = .ok (.ifCond .eq 15, 3) := by decide +kernel
theorem dX4_copy_74 : decode cX4_copy 74 = .ok (.aload 7, 2) := by decide +kernel
theorem dX4_copy_76 : decode cX4_copy 76 = .ok (.iload 4, 2) := by decide +kernel
theorem dX4_copy_78 : decode cX4_copy 78 = .ok (.iload 5, 2) := by decide +kernel
theorem dX4_copy_80 : decode cX4_copy 80 = .ok (.invokevirtual 254, 3) := by decide +kernel
theorem dX4_copy_83 : decode cX4_copy 83 = .ok (.ifCond .ne 6, 3) := by decide +kernel
theorem dX4_copy_86 : decode cX4_copy 86 = .ok (.bipush (-13), 2) := by decide +kernel
theorem dX4_copy_88 : decode cX4_copy 88 = .ok (.ireturn, 1) := by decide +kernel
theorem dX4_copy_89 : decode cX4_copy 89 = .ok (.aload 6, 2) := by decide +kernel
theorem dX4_copy_91 : decode cX4_copy 91 = .ok (.getfield 257, 3) := by decide +kernel
theorem dX4_copy_94 : decode cX4_copy 94 = .ok (.iload_n 2, 1) := by decide +kernel
theorem dX4_copy_95 : decode cX4_copy 95 = .ok (.aload 7, 2) := by decide +kernel
theorem dX4_copy_97 : decode cX4_copy 97 = .ok (.getfield 257, 3) := by decide +kernel
theorem dX4_copy_100 : decode cX4_copy 100 = .ok (.iload 4, 2) := by decide +kernel
theorem dX4_copy_102 : decode cX4_copy 102 = .ok (.iload 5, 2) := by decide +kernel
theorem dX4_copy_104 : decode cX4_copy 104 = .ok (.invokestatic 260, 3) := by decide +kernel
theorem dX4_copy_107 : decode cX4_copy 107 = .ok (.iload 5, 2) := by decide +kernel
theorem dX4_copy_109 : decode cX4_copy 109 = .ok (.ireturn, 1) := by decide +kernel
theorem dX4_within_0 : decode cX4_within 0 = .ok (.iload_n 0, 1) := by decide +kernel
theorem dX4_within_1 : decode cX4_within 1 = .ok (.iload_n 1, 1) := by decide +kernel
theorem dX4_within_2 : decode cX4_within 2 = .ok (.if_icmp .lt 12, 3) := by decide +kernel
theorem dX4_within_5 : decode cX4_within 5 = .ok (.iload_n 0, 1) := by decide +kernel
theorem dX4_within_6 : decode cX4_within 6 = .ok (.iload_n 2, 1) := by decide +kernel
theorem dX4_within_7 : decode cX4_within 7 = .ok (.if_icmp .gt 7, 3) := by decide +kernel
theorem dX4_within_10 : decode cX4_within 10 = .ok (.iconst 1, 1) := by decide +kernel
theorem dX4_within_11 : decode cX4_within 11 = .ok (.goto 4, 3) := by decide +kernel
theorem dX4_within_14 : decode cX4_within 14 = .ok (.iconst 0, 1) := by decide +kernel
theorem dX4_within_15 : decode cX4_within 15 = .ok (.ireturn, 1) := by decide +kernel
theorem dX4_at_0 : decode cX4_at 0 = .ok (.iload_n 1, 1) := by decide +kernel
theorem dX4_at_1 : decode cX4_at 1 = .ok (.ifCond .lt 15, 3) := by decide +kernel
theorem dX4_at_4 : decode cX4_at 4 = .ok (.iload_n 1, 1) := by decide +kernel
theorem dX4_at_5 : decode cX4_at 5 = .ok (.aload_n 0, 1) := by decide +kernel
theorem dX4_at_6 : decode cX4_at 6 = .ok (.arraylength, 1) := by decide +kernel
theorem dX4_at_7 : decode cX4_at 7 = .ok (.if_icmp .ge 9, 3) := by decide +kernel
theorem dX4_at_10 : decode cX4_at 10 = .ok (.aload_n 0, 1) := by decide +kernel
theorem dX4_at_11 : decode cX4_at 11 = .ok (.iload_n 1, 1) := by decide +kernel
theorem dX4_at_12 : decode cX4_at 12 = .ok (.iaload, 1) := by decide +kernel
theorem dX4_at_13 : decode cX4_at 13 = .ok (.goto 4, 3) := by decide +kernel
theorem dX4_at_16 : decode cX4_at 16 = .ok (.iconst 0, 1) := by decide +kernel
theorem dX4_at_17 : decode cX4_at 17 = .ok (.ireturn, 1) := by decide +kernel
theorem dX4_put_0 : decode cX4_put 0 = .ok (.iload_n 1, 1) := by decide +kernel
theorem dX4_put_1 : decode cX4_put 1 = .ok (.ifCond .lt 13, 3) := by decide +kernel
theorem dX4_put_4 : decode cX4_put 4 = .ok (.iload_n 1, 1) := by decide +kernel
theorem dX4_put_5 : decode cX4_put 5 = .ok (.aload_n 0, 1) := by decide +kernel
theorem dX4_put_6 : decode cX4_put 6 = .ok (.arraylength, 1) := by decide +kernel
theorem dX4_put_7 : decode cX4_put 7 = .ok (.if_icmp .ge 7, 3) := by decide +kernel
theorem dX4_put_10 : decode cX4_put 10 = .ok (.aload_n 0, 1) := by decide +kernel
theorem dX4_put_11 : decode cX4_put 11 = .ok (.iload_n 1, 1) := by decide +kernel
theorem dX4_put_12 : decode cX4_put 12 = .ok (.iload_n 2, 1) := by decide +kernel
theorem dX4_put_13 : decode cX4_put 13 = .ok (.iastore, 1) := by decide +kernel
theorem dX4_put_14 : decode cX4_put 14 = .ok (.return_, 1) := by decide +kernel
theorem dX4_exchange_0 : decode cX4_exchange 0 = .ok (.aload_n 0, 1) := by decide +kernel
theorem dX4_exchange_1 : decode cX4_exchange 1 = .ok (.iload_n 1, 1) := by decide +kernel
theorem dX4_exchange_2 : decode cX4_exchange 2 = .ok (.invokestatic 91, 3) := by decide +kernel
theorem dX4_exchange_5 : decode cX4_exchange 5 = .ok (.istore_n 3, 1) := by decide +kernel
theorem dX4_exchange_6 : decode cX4_exchange 6 = .ok (.aload_n 0, 1) := by decide +kernel
theorem dX4_exchange_7 : decode cX4_exchange 7 = .ok (.iload_n 1, 1) := by decide +kernel
theorem dX4_exchange_8 : decode cX4_exchange 8 = .ok (.iload_n 2, 1) := by decide +kernel
theorem dX4_exchange_9 : decode cX4_exchange 9 = .ok (.invokestatic 236, 3) := by decide +kernel
theorem dX4_exchange_12 : decode cX4_exchange 12 = .ok (.iload_n 3, 1) := by decide +kernel
theorem dX4_exchange_13 : decode cX4_exchange 13 = .ok (.ireturn, 1) := by decide +kernel
theorem dX4_copyAll_0 : decode cX4_copyAll 0 = .ok (.iconst 0, 1) := by decide +kernel
theorem dX4_copyAll_1 : decode cX4_copyAll 1 = .ok (.istore_n 2, 1) := by decide +kernel
theorem dX4_copyAll_2 : decode cX4_copyAll 2 = .ok (.iload_n 2, 1) := by decide +kernel
theorem dX4_copyAll_3 : decode cX4_copyAll 3 = .ok (.aload_n 0, 1) := by decide +kernel
theorem dX4_copyAll_4 : decode cX4_copyAll 4 = .ok (.arraylength, 1) := by decide +kernel
theorem dX4_copyAll_5 : decode cX4_copyAll 5 = .ok (.if_icmp .ge 21, 3) := by decide +kernel
theorem dX4_copyAll_8 : decode cX4_copyAll 8 = .ok (.iload_n 2, 1) := by decide +kernel
theorem dX4_copyAll_9 : decode cX4_copyAll 9 = .ok (.aload_n 1, 1) := by decide +kernel
theorem dX4_copyAll_10 : decode cX4_copyAll 10 = .ok (.arraylength, 1) := by decide +kernel
theorem dX4_copyAll_11 : decode cX4_copyAll 11 = .ok (.if_icmp .ge 15, 3) := by decide +kernel
theorem dX4_copyAll_14 : decode cX4_copyAll 14 = .ok (.aload_n 1, 1) := by decide +kernel
theorem dX4_copyAll_15 : decode cX4_copyAll 15 = .ok (.iload_n 2, 1) := by decide +kernel
theorem dX4_copyAll_16 : decode cX4_copyAll 16 = .ok (.aload_n 0, 1) := by decide +kernel
theorem dX4_copyAll_17 : decode cX4_copyAll 17 = .ok (.iload_n 2, 1) := by decide +kernel
theorem dX4_copyAll_18 : decode cX4_copyAll 18 = .ok (.iaload, 1) := by decide +kernel
theorem dX4_copyAll_19 : decode cX4_copyAll 19 = .ok (.iastore, 1) := by decide +kernel
theorem dX4_copyAll_20 : decode cX4_copyAll 20 = .ok (.iinc 2 1, 3) := by decide +kernel
theorem dX4_copyAll_23 : decode cX4_copyAll 23 = .ok (.goto (-21), 3) := by decide +kernel
theorem dX4_copyAll_26 : decode cX4_copyAll 26 = .ok (.return_, 1) := by decide +kernel
theorem dX4_byteOf_0 : decode cX4_byteOf 0 = .ok (.lload_n 0, 1) := by decide +kernel
theorem dX4_byteOf_1 : decode cX4_byteOf 1 = .ok (.bipush 8, 2) := by decide +kernel
theorem dX4_byteOf_3 : decode cX4_byteOf 3 = .ok (.iload_n 2, 1) := by decide +kernel
theorem dX4_byteOf_4 : decode cX4_byteOf 4 = .ok (.imul, 1) := by decide +kernel
theorem dX4_byteOf_5 : decode cX4_byteOf 5 = .ok (.lshr, 1) := by decide +kernel
theorem dX4_byteOf_6 : decode cX4_byteOf 6 = .ok (.l2i, 1) := by decide +kernel
theorem dX4_byteOf_7 : decode cX4_byteOf 7 = .ok (.sipush 255, 3) := by decide +kernel
theorem dX4_byteOf_10 : decode cX4_byteOf 10 = .ok (.iand, 1) := by decide +kernel
theorem dX4_byteOf_11 : decode cX4_byteOf 11 = .ok (.ireturn, 1) := by decide +kernel
theorem dX4_isLane_0 : decode cX4_isLane 0 = .ok (.iload_n 0, 1) := by decide +kernel
theorem dX4_isLane_1 : decode cX4_isLane 1 = .ok (.iconst 0, 1) := by decide +kernel
theorem dX4_isLane_2 : decode cX4_isLane 2 = .ok (.iconst 2, 1) := by decide +kernel
theorem dX4_isLane_3 : decode cX4_isLane 3 = .ok (.invokestatic 47, 3) := by decide +kernel
theorem dX4_isLane_6 : decode cX4_isLane 6 = .ok (.ireturn, 1) := by decide +kernel
theorem dX4_sheetAt_0 : decode cX4_sheetAt 0 = .ok (.iload_n 1, 1) := by decide +kernel
theorem dX4_sheetAt_1 : decode cX4_sheetAt 1 = .ok (.ifCond .lt 21, 3) := by decide +kernel
theorem dX4_sheetAt_4 : decode cX4_sheetAt 4 = .ok (.iload_n 1, 1) := by decide +kernel
theorem dX4_sheetAt_5 : decode cX4_sheetAt 5 = .ok (.aload_n 0, 1) := by decide +kernel
theorem dX4_sheetAt_6 : decode cX4_sheetAt 6 = .ok (.getfield 42, 3) := by decide +kernel
theorem dX4_sheetAt_9 : decode cX4_sheetAt 9 = .ok (.arraylength, 1) := by decide +kernel
theorem dX4_sheetAt_10 : decode cX4_sheetAt 10 = .ok (.if_icmp .ge 12, 3) := by decide +kernel
theorem dX4_sheetAt_13 : decode cX4_sheetAt 13 = .ok (.aload_n 0, 1) := by decide +kernel
theorem dX4_sheetAt_14 : decode cX4_sheetAt 14 = .ok (.getfield 42, 3) := by decide +kernel
theorem dX4_sheetAt_17 : decode cX4_sheetAt 17 = .ok (.iload_n 1, 1) := by decide +kernel
theorem dX4_sheetAt_18 : decode cX4_sheetAt 18 = .ok (.aaload, 1) := by decide +kernel
theorem dX4_sheetAt_19 : decode cX4_sheetAt 19 = .ok (.goto 4, 3) := by decide +kernel
theorem dX4_sheetAt_22 : decode cX4_sheetAt 22 = .ok (.aconst_null, 1) := by decide +kernel
theorem dX4_sheetAt_23 : decode cX4_sheetAt 23 = .ok (.areturn, 1) := by decide +kernel
theorem dX4_sameHeaps_0 : decode cX4_sameHeaps 0 = .ok (.iconst 0, 1) := by decide +kernel
theorem dX4_sameHeaps_1 : decode cX4_sameHeaps 1 = .ok (.istore_n 1, 1) := by decide +kernel
theorem dX4_sameHeaps_2 : decode cX4_sameHeaps 2 = .ok (.iload_n 1, 1) := by decide +kernel
theorem dX4_sameHeaps_3 : decode cX4_sameHeaps 3 = .ok (.aload_n 0, 1) := by decide +kernel
theorem dX4_sameHeaps_4 : decode cX4_sameHeaps 4 = .ok (.getfield 10, 3) := by decide +kernel
theorem dX4_sameHeaps_7 : decode cX4_sameHeaps 7 = .ok (.getfield 125, 3) := by decide +kernel
theorem dX4_sameHeaps_10 : decode cX4_sameHeaps 10 = .ok (.if_icmp .gt 36, 3) := by decide +kernel
theorem dX4_sameHeaps_13 : decode cX4_sameHeaps 13 = .ok (.aload_n 0, 1) := by decide +kernel
theorem dX4_sameHeaps_14 : decode cX4_sameHeaps 14 = .ok (.getfield 10, 3) := by decide +kernel
theorem dX4_sameHeaps_17 : decode cX4_sameHeaps 17 = .ok (.getfield 161, 3) := by decide +kernel
theorem dX4_sameHeaps_20 : decode cX4_sameHeaps 20 = .ok (.iload_n 1, 1) := by decide +kernel
theorem dX4_sameHeaps_21 : decode cX4_sameHeaps 21 = .ok (.invokestatic 91, 3) := by decide +kernel
theorem dX4_sameHeaps_24 : decode cX4_sameHeaps 24 = .ok (.aload_n 0, 1) := by decide +kernel
theorem dX4_sameHeaps_25 : decode cX4_sameHeaps 25 = .ok (.getfield 16, 3) := by decide +kernel
theorem dX4_sameHeaps_28 : decode cX4_sameHeaps 28 = .ok (.getfield 161, 3) := by decide +kernel
theorem dX4_sameHeaps_31 : decode cX4_sameHeaps 31 = .ok (.iload_n 1, 1) := by decide +kernel
theorem dX4_sameHeaps_32 : decode cX4_sameHeaps 32 = .ok (.invokestatic 91, 3) := by decide +kernel
theorem dX4_sameHeaps_35 : decode cX4_sameHeaps 35 = .ok (.if_icmp .eq 5, 3) := by decide +kernel
theorem dX4_sameHeaps_38 : decode cX4_sameHeaps 38 = .ok (.iconst 0, 1) := by decide +kernel
theorem dX4_sameHeaps_39 : decode cX4_sameHeaps 39 = .ok (.ireturn, 1) := by decide +kernel
theorem dX4_sameHeaps_40 : decode cX4_sameHeaps 40 = .ok (.iinc 1 1, 3) := by decide +kernel
theorem dX4_sameHeaps_43 : decode cX4_sameHeaps 43 = .ok (.goto (-41), 3) := by decide +kernel
theorem dX4_sameHeaps_46 : decode cX4_sameHeaps 46 = .ok (.iconst 1, 1) := by decide +kernel
theorem dX4_sameHeaps_47 : decode cX4_sameHeaps 47 = .ok (.ireturn, 1) := by decide +kernel
theorem dX4_bearsOut_0 : decode cX4_bearsOut 0 = .ok (.aload_n 0, 1) := by decide +kernel
theorem dX4_bearsOut_1 : decode cX4_bearsOut 1 = .ok (.invokevirtual 158, 3) := by decide +kernel
theorem dX4_bearsOut_4 : decode cX4_bearsOut 4 = .ok (.iconst 0, 1) := by decide +kernel
theorem dX4_bearsOut_5 : decode cX4_bearsOut 5 = .ok (.istore_n 3, 1) := by decide +kernel
theorem dX4_bearsOut_6 : decode cX4_bearsOut 6 = .ok (.iload_n 3, 1) := by decide +kernel
theorem dX4_bearsOut_7 : decode cX4_bearsOut 7 = .ok (.aload_n 0, 1) := by decide +kernel
theorem dX4_bearsOut_8 : decode cX4_bearsOut 8 = .ok (.getfield 51, 3) := by decide +kernel
theorem dX4_bearsOut_11 : decode cX4_bearsOut 11 = .ok (.if_icmp .ge 40, 3) := by decide +kernel
theorem dX4_bearsOut_14 : decode cX4_bearsOut 14 = .ok (.aload_n 0, 1) := by decide +kernel
theorem dX4_bearsOut_15 : decode cX4_bearsOut 15 = .ok (.iload_n 3, 1) := by decide +kernel
theorem dX4_bearsOut_16 : decode cX4_bearsOut 16 = .ok (.invokevirtual 167, 3) := by decide +kernel
theorem dX4_bearsOut_19 : decode cX4_bearsOut 19 = .ok (.istore 4, 2) := by decide +kernel
theorem dX4_bearsOut_21 : decode cX4_bearsOut 21 = .ok (.iload 4, 2) := by decide +kernel
theorem dX4_bearsOut_23 : decode cX4_bearsOut 23 = .ok (.bipush (-4), 2) := by decide +kernel
theorem dX4_bearsOut_25 : decode cX4_bearsOut 25 = .ok (.if_icmp .eq 20, 3) := by decide +kernel
theorem dX4_bearsOut_28 : decode cX4_bearsOut 28 = .ok (.iload 4, 2) := by decide +kernel
theorem dX4_bearsOut_30 : decode cX4_bearsOut 30 = .ok (.aload_n 1, 1) := by decide +kernel
theorem dX4_bearsOut_31 : decode cX4_bearsOut 31 = .ok (.getfield 257, 3) := by decide +kernel
theorem dX4_bearsOut_34 : decode cX4_bearsOut 34 = .ok (.iload_n 2, 1) := by decide +kernel
theorem dX4_bearsOut_35 : decode cX4_bearsOut 35 = .ok (.iload_n 3, 1) := by decide +kernel
theorem dX4_bearsOut_36 : decode cX4_bearsOut 36 = .ok (.iadd, 1) := by decide +kernel
theorem dX4_bearsOut_37 : decode cX4_bearsOut 37 = .ok (.invokestatic 91, 3) := by decide +kernel
theorem dX4_bearsOut_40 : decode cX4_bearsOut 40 = .ok (.if_icmp .eq 5, 3) := by decide +kernel
theorem dX4_bearsOut_43 : decode cX4_bearsOut 43 = .ok (.iconst 0, 1) := by decide +kernel
theorem dX4_bearsOut_44 : decode cX4_bearsOut 44 = .ok (.ireturn, 1) := by decide +kernel
theorem dX4_bearsOut_45 : decode cX4_bearsOut 45 = .ok (.iinc 3 1, 3) := by decide +kernel
theorem dX4_bearsOut_48 : decode cX4_bearsOut 48 = .ok (.goto (-42), 3) := by decide +kernel
theorem dX4_bearsOut_51 : decode cX4_bearsOut 51 = .ok (.iconst 1, 1) := by decide +kernel
theorem dX4_bearsOut_52 : decode cX4_bearsOut 52 = .ok (.ireturn, 1) := by decide +kernel
theorem dX4_seekBest_0 : decode cX4_seekBest 0 = .ok (.aload_n 0, 1) := by decide +kernel
theorem dX4_seekBest_1 : decode cX4_seekBest 1 = .ok (.getfield 29, 3) := by decide +kernel
theorem dX4_seekBest_4 : decode cX4_seekBest 4 = .ok (.iload_n 1, 1) := by decide +kernel
theorem dX4_seekBest_5 : decode cX4_seekBest 5 = .ok (.iconst 0, 1) := by decide +kernel
theorem dX4_seekBest_6 : decode cX4_seekBest 6 = .ok (.invokevirtual 204, 3) := by decide +kernel
theorem dX4_seekBest_9 : decode cX4_seekBest 9 = .ok (.aload_n 0, 1) := by decide +kernel
theorem dX4_seekBest_10 : decode cX4_seekBest 10 = .ok (.getfield 10, 3) := by decide +kernel
theorem dX4_seekBest_13 : decode cX4_seekBest 13 = .ok (.aload_n 0, 1) := by decide +kernel
theorem dX4_seekBest_14 : decode cX4_seekBest 14 = .ok (.getfield 29, 3) := by decide +kernel
theorem dX4_seekBest_17 : decode cX4_seekBest 17 = .ok (.iconst 0, 1) := by decide +kernel
theorem dX4_seekBest_18 : decode cX4_seekBest 18 = .ok (.aload_n 0, 1) := by decide +kernel
theorem dX4_seekBest_19 : decode cX4_seekBest 19 = .ok (.getfield 10, 3) := by decide +kernel
theorem dX4_seekBest_22 : decode cX4_seekBest 22 = .ok (.invokevirtual 148, 3) := by decide +kernel
theorem dX4_seekBest_25 : decode cX4_seekBest 25 = .ok (.iconst 0, 1) := by decide +kernel
theorem dX4_seekBest_26 : decode cX4_seekBest 26 = .ok (.invokestatic 266, 3) := by decide +kernel
theorem dX4_seekBest_29 : decode cX4_seekBest 29 = .ok (.return_, 1) := by decide +kernel
theorem dX4_tryBest_0 : decode cX4_tryBest 0 = .ok (.iload 4, 2) := by decide +kernel
theorem dX4_tryBest_2 : decode cX4_tryBest 2 = .ok (.aload_n 0, 1) := by decide +kernel
theorem dX4_tryBest_3 : decode cX4_tryBest 3 = .ok (.iload_n 3, 1) := by decide +kernel
theorem dX4_tryBest_4 : decode cX4_tryBest 4 = .ok (.invokevirtual 164, 3) := by decide +kernel
theorem dX4_tryBest_7 : decode cX4_tryBest 7 = .ok (.iadd, 1) := by decide +kernel
theorem dX4_tryBest_8 : decode cX4_tryBest 8 = .ok (.istore 5, 2) := by decide +kernel
theorem dX4_tryBest_10 : decode cX4_tryBest 10 = .ok (.aload_n 1, 1) := by decide +kernel
theorem dX4_tryBest_11 : decode cX4_tryBest 11 = .ok (.getfield 200, 3) := by decide +kernel
theorem dX4_tryBest_14 : decode cX4_tryBest 14 = .ok (.ifCond .lt 29, 3) := by decide +kernel
theorem dX4_tryBest_17 : decode cX4_tryBest 17 = .ok (.iload 5, 2) := by decide +kernel
theorem dX4_tryBest_19 : decode cX4_tryBest 19 = .ok (.aload_n 1, 1) := by decide +kernel
theorem dX4_tryBest_20 : decode cX4_tryBest 20 = .ok (.getfield 197, 3) := by decide +kernel
theorem dX4_tryBest_23 : decode cX4_tryBest 23 = .ok (.if_icmp .gt 20, 3) := by decide +kernel
theorem dX4_tryBest_26 : decode cX4_tryBest 26 = .ok (.iload 5, 2) := by decide +kernel
theorem dX4_tryBest_28 : decode cX4_tryBest 28 = .ok (.aload_n 1, 1) := by decide +kernel
theorem dX4_tryBest_29 : decode cX4_tryBest 29 = .ok (.getfield 197, 3) := by decide +kernel
theorem dX4_tryBest_32 : decode cX4_tryBest 32 = .ok (.if_icmp .ne 18, 3) := by decide +kernel
theorem dX4_tryBest_35 : decode cX4_tryBest 35 = .ok (.iload_n 2, 1) := by decide +kernel
theorem dX4_tryBest_36 : decode cX4_tryBest 36 = .ok (.aload_n 1, 1) := by decide +kernel
theorem dX4_tryBest_37 : decode cX4_tryBest 37 = .ok (.getfield 200, 3) := by decide +kernel
theorem dX4_tryBest_40 : decode cX4_tryBest 40 = .ok (.if_icmp .ge 10, 3) := by decide +kernel
theorem dX4_tryBest_43 : decode cX4_tryBest 43 = .ok (.aload_n 1, 1) := by decide +kernel
theorem dX4_tryBest_44 : decode cX4_tryBest 44 = .ok (.iload_n 2, 1) := by decide +kernel
theorem dX4_tryBest_45 : decode cX4_tryBest 45 = .ok (.iload 5, 2) := by decide +kernel
theorem dX4_tryBest_47 : decode cX4_tryBest 47 = .ok (.invokevirtual 270, 3) := by decide +kernel
theorem dX4_tryBest_50 : decode cX4_tryBest 50 = .ok (.iload_n 2, 1) := by decide +kernel
theorem dX4_tryBest_51 : decode cX4_tryBest 51 = .ok (.aload_n 1, 1) := by decide +kernel
theorem dX4_tryBest_52 : decode cX4_tryBest 52 = .ok (.getfield 273, 3) := by decide +kernel
theorem dX4_tryBest_55 : decode cX4_tryBest 55 = .ok (.if_icmp .ge 8, 3) := by decide +kernel
theorem dX4_tryBest_58 : decode cX4_tryBest 58 = .ok (.iload_n 2, 1) := by decide +kernel
theorem dX4_tryBest_59 : decode cX4_tryBest 59 = .ok (.iconst 4, 1) := by decide +kernel
theorem dX4_tryBest_60 : decode cX4_tryBest 60 = .ok (.if_icmp .lt 4, 3) := by decide +kernel
theorem dX4_tryBest_63 : decode cX4_tryBest 63 = .ok (.return_, 1) := by decide +kernel
theorem dX4_tryBest_64 : decode cX4_tryBest 64 = .ok (.iconst 0, 1) := by decide +kernel
theorem dX4_tryBest_65 : decode cX4_tryBest 65 = .ok (.istore 6, 2) := by decide +kernel
theorem dX4_tryBest_67 : decode cX4_tryBest 67 = .ok (.iload 6, 2) := by decide +kernel
theorem dX4_tryBest_69 : decode cX4_tryBest 69 = .ok (.aload_n 0, 1) := by decide +kernel
theorem dX4_tryBest_70 : decode cX4_tryBest 70 = .ok (.getfield 78, 3) := by decide +kernel
theorem dX4_tryBest_73 : decode cX4_tryBest 73 = .ok (.if_icmp .ge 60, 3) := by decide +kernel
theorem dX4_tryBest_76 : decode cX4_tryBest 76 = .ok (.aload_n 0, 1) := by decide +kernel
theorem dX4_tryBest_77 : decode cX4_tryBest 77 = .ok (.iload 6, 2) := by decide +kernel
theorem dX4_tryBest_79 : decode cX4_tryBest 79 = .ok (.iload_n 3, 1) := by decide +kernel
theorem dX4_tryBest_80 : decode cX4_tryBest 80 = .ok (.invokevirtual 181, 3) := by decide +kernel
theorem dX4_tryBest_83 : decode cX4_tryBest 83 = .ok (.istore 7, 2) := by decide +kernel
theorem dX4_tryBest_85 : decode cX4_tryBest 85 = .ok (.iload 7, 2) := by decide +kernel
theorem dX4_tryBest_87 : decode cX4_tryBest 87 = .ok (.iload_n 3, 1) := by decide +kernel
theorem dX4_tryBest_88 : decode cX4_tryBest 88 = .ok (.if_icmp .ne 6, 3) := by decide +kernel
theorem dX4_tryBest_91 : decode cX4_tryBest 91 = .ok (.goto 36, 3) := by decide +kernel
theorem dX4_tryBest_94 : decode cX4_tryBest 94 = .ok (.aload_n 1, 1) := by decide +kernel
theorem dX4_tryBest_95 : decode cX4_tryBest 95 = .ok (.getfield 276, 3) := by decide +kernel
theorem dX4_tryBest_98 : decode cX4_tryBest 98 = .ok (.iload_n 2, 1) := by decide +kernel
theorem dX4_tryBest_99 : decode cX4_tryBest 99 = .ok (.iload 6, 2) := by decide +kernel
theorem dX4_tryBest_101 : decode cX4_tryBest 101 = .ok (.invokestatic 236, 3) := by decide +kernel
theorem dX4_tryBest_104 : decode cX4_tryBest 104 = .ok (.aload_n 0, 1) := by decide +kernel
theorem dX4_tryBest_105 : decode cX4_tryBest 105 = .ok (.aload_n 1, 1) := by decide +kernel
theorem dX4_tryBest_106 : decode cX4_tryBest 106 = .ok (.iload_n 2, 1) := by decide +kernel
theorem dX4_tryBest_107 : decode cX4_tryBest 107 = .ok (.iconst 1, 1) := by decide +kernel
theorem dX4_tryBest_108 : decode cX4_tryBest 108 = .ok (.iadd, 1) := by decide +kernel
theorem dX4_tryBest_109 : decode cX4_tryBest 109 = .ok (.iload 7, 2) := by decide +kernel
theorem dX4_tryBest_111 : decode cX4_tryBest 111 = .ok (.iload 4, 2) := by decide +kernel
theorem dX4_tryBest_113 : decode cX4_tryBest 113 = .ok (.aload_n 0, 1) := by decide +kernel
theorem dX4_tryBest_114 : decode cX4_tryBest 114 = .ok (.iload_n 3, 1) := by decide +kernel
theorem dX4_tryBest_115 : decode cX4_tryBest 115 = .ok (.iload 7, 2) := by decide +kernel
theorem dX4_tryBest_117 : decode cX4_tryBest 117 = .ok (.iconst (-1), 1) := by decide +kernel
theorem dX4_tryBest_118 : decode cX4_tryBest 118 = .ok (.ixor, 1) := by decide +kernel
theorem dX4_tryBest_119 : decode cX4_tryBest 119 = .ok (.iand, 1) := by decide +kernel
theorem dX4_tryBest_120 : decode cX4_tryBest 120 = .ok (.invokevirtual 164, 3) := by decide +kernel
theorem dX4_tryBest_123 : decode cX4_tryBest 123 = .ok (.iadd, 1) := by decide +kernel
theorem dX4_tryBest_124 : decode cX4_tryBest 124 = .ok (.invokestatic 266, 3) := by decide +kernel
theorem dX4_tryBest_127 : decode cX4_tryBest 127 = .ok (.iinc 6 1, 3) := by decide +kernel
theorem dX4_tryBest_130 : decode cX4_tryBest 130 = .ok (.goto (-63), 3) := by decide +kernel
theorem dX4_tryBest_133 : decode cX4_tryBest 133 = .ok (.return_, 1) := by decide +kernel
theorem dX4_tryParted_0 : decode cX4_tryParted 0 = .ok (.aload_n 1, 1) := by decide +kernel
theorem dX4_tryParted_1 : decode cX4_tryParted 1 = .ok (.iload_n 3, 1) := by decide +kernel
theorem dX4_tryParted_2 : decode cX4_tryParted 2 = .ok (.invokevirtual 279, 3) := by decide +kernel
theorem dX4_tryParted_5 : decode cX4_tryParted 5 = .ok (.ifCond .ne 24, 3) := by decide +kernel
theorem dX4_tryParted_8 : decode cX4_tryParted 8 = .ok (.aload_n 1, 1) := by decide +kernel
theorem dX4_tryParted_9 : decode cX4_tryParted 9 = .ok (.getfield 200, 3) := by decide +kernel
theorem dX4_tryParted_12 : decode cX4_tryParted 12 = .ok (.ifCond .lt 11, 3) := by decide +kernel
theorem dX4_tryParted_15 : decode cX4_tryParted 15 = .ok (.iload_n 2, 1) := by decide +kernel
theorem dX4_tryParted_16 : decode cX4_tryParted 16 = .ok (.aload_n 1, 1) := by decide +kernel
theorem dX4_tryParted_17 : decode cX4_tryParted 17 = .ok (.getfield 200, 3) := by decide +kernel
theorem dX4_tryParted_20 : decode cX4_tryParted 20 = .ok (.if_icmp .ge 9, 3) := by decide +kernel
theorem dX4_tryParted_23 : decode cX4_tryParted 23 = .ok (.aload_n 1, 1) := by decide +kernel
theorem dX4_tryParted_24 : decode cX4_tryParted 24 = .ok (.iload_n 2, 1) := by decide +kernel
theorem dX4_tryParted_25 : decode cX4_tryParted 25 = .ok (.iconst 0, 1) := by decide +kernel
theorem dX4_tryParted_26 : decode cX4_tryParted 26 = .ok (.invokevirtual 270, 3) := by decide +kernel
theorem dX4_tryParted_29 : decode cX4_tryParted 29 = .ok (.iload_n 2, 1) := by decide +kernel
theorem dX4_tryParted_30 : decode cX4_tryParted 30 = .ok (.aload_n 1, 1) := by decide +kernel
theorem dX4_tryParted_31 : decode cX4_tryParted 31 = .ok (.getfield 273, 3) := by decide +kernel
theorem dX4_tryParted_34 : decode cX4_tryParted 34 = .ok (.if_icmp .ge 8, 3) := by decide +kernel
theorem dX4_tryParted_37 : decode cX4_tryParted 37 = .ok (.iload_n 2, 1) := by decide +kernel
theorem dX4_tryParted_38 : decode cX4_tryParted 38 = .ok (.iconst 4, 1) := by decide +kernel
theorem dX4_tryParted_39 : decode cX4_tryParted 39 = .ok (.if_icmp .lt 4, 3) := by decide +kernel
theorem dX4_tryParted_42 : decode cX4_tryParted 42 = .ok (.return_, 1) := by decide +kernel
theorem dX4_tryParted_43 : decode cX4_tryParted 43 = .ok (.iconst 0, 1) := by decide +kernel
theorem dX4_tryParted_44 : decode cX4_tryParted 44 = .ok (.istore 4, 2) := by decide +kernel
theorem dX4_tryParted_46 : decode cX4_tryParted 46 = .ok (.iload 4, 2) := by decide +kernel
theorem dX4_tryParted_48 : decode cX4_tryParted 48 = .ok (.aload_n 0, 1) := by decide +kernel
theorem dX4_tryParted_49 : decode cX4_tryParted 49 = .ok (.getfield 78, 3) := by decide +kernel
theorem dX4_tryParted_52 : decode cX4_tryParted 52 = .ok (.if_icmp .ge 60, 3) := by decide +kernel
theorem dX4_tryParted_55 : decode cX4_tryParted 55 = .ok (.aload_n 0, 1) := by decide +kernel
theorem dX4_tryParted_56 : decode cX4_tryParted 56 = .ok (.iload 4, 2) := by decide +kernel
theorem dX4_tryParted_58 : decode cX4_tryParted 58 = .ok (.iload_n 3, 1) := by decide +kernel
theorem dX4_tryParted_59 : decode cX4_tryParted 59 = .ok (.invokevirtual 181, 3) := by decide +kernel
theorem dX4_tryParted_62 : decode cX4_tryParted 62 = .ok (.istore 5, 2) := by decide +kernel
theorem dX4_tryParted_64 : decode cX4_tryParted 64 = .ok (.iload 5, 2) := by decide +kernel
theorem dX4_tryParted_66 : decode cX4_tryParted 66 = .ok (.iload_n 3, 1) := by decide +kernel
theorem dX4_tryParted_67 : decode cX4_tryParted 67 = .ok (.if_icmp .eq 39, 3) := by decide +kernel
theorem dX4_tryParted_70 : decode cX4_tryParted 70 = .ok (.aload_n 1, 1) := by decide +kernel
theorem dX4_tryParted_71 : decode cX4_tryParted 71 = .ok (.iload_n 3, 1) := by decide +kernel
theorem dX4_tryParted_72 : decode cX4_tryParted 72 = .ok (.iload 5, 2) := by decide +kernel
theorem dX4_tryParted_74 : decode cX4_tryParted 74 = .ok (.iconst (-1), 1) := by decide +kernel
theorem dX4_tryParted_75 : decode cX4_tryParted 75 = .ok (.ixor, 1) := by decide +kernel
theorem dX4_tryParted_76 : decode cX4_tryParted 76 = .ok (.iand, 1) := by decide +kernel
theorem dX4_tryParted_77 : decode cX4_tryParted 77 = .ok (.invokevirtual 279, 3) := by decide +kernel
theorem dX4_tryParted_80 : decode cX4_tryParted 80 = .ok (.ifCond .eq 6, 3) := by decide +kernel
theorem dX4_tryParted_83 : decode cX4_tryParted 83 = .ok (.goto 23, 3) := by decide +kernel
theorem dX4_tryParted_86 : decode cX4_tryParted 86 = .ok (.aload_n 1, 1) := by decide +kernel
theorem dX4_tryParted_87 : decode cX4_tryParted 87 = .ok (.getfield 276, 3) := by decide +kernel
theorem dX4_tryParted_90 : decode cX4_tryParted 90 = .ok (.iload_n 2, 1) := by decide +kernel
theorem dX4_tryParted_91 : decode cX4_tryParted 91 = .ok (.iload 4, 2) := by decide +kernel
theorem dX4_tryParted_93 : decode cX4_tryParted 93 = .ok (.invokestatic 236, 3) := by decide +kernel
theorem dX4_tryParted_96 : decode cX4_tryParted 96 = .ok (.aload_n 0, 1) := by decide +kernel
theorem dX4_tryParted_97 : decode cX4_tryParted 97 = .ok (.aload_n 1, 1) := by decide +kernel
theorem dX4_tryParted_98 : decode cX4_tryParted 98 = .ok (.iload_n 2, 1) := by decide +kernel
theorem dX4_tryParted_99 : decode cX4_tryParted 99 = .ok (.iconst 1, 1) := by decide +kernel
theorem dX4_tryParted_100 : decode cX4_tryParted 100 = .ok (.iadd, 1) := by decide +kernel
theorem dX4_tryParted_101 : decode cX4_tryParted 101 = .ok (.iload 5, 2) := by decide +kernel
theorem dX4_tryParted_103 : decode cX4_tryParted 103 = .ok (.invokestatic 208, 3) := by decide +kernel
theorem dX4_tryParted_106 : decode cX4_tryParted 106 = .ok (.iinc 4 1, 3) := by decide +kernel
theorem dX4_tryParted_109 : decode cX4_tryParted 109 = .ok (.goto (-63), 3) := by decide +kernel
theorem dX4_tryParted_112 : decode cX4_tryParted 112 = .ok (.return_, 1) := by decide +kernel
theorem dX5_init_0 : decode cX5_init 0 = .ok (.aload_n 0, 1) := by decide +kernel
theorem dX5_init_1 : decode cX5_init 1 = .ok (.invokespecial 1, 3) := by decide +kernel
theorem dX5_init_4 : decode cX5_init 4 = .ok (.aload_n 0, 1) := by decide +kernel
theorem dX5_init_5 : decode cX5_init 5 = .ok (.bipush 6, 2) := by decide +kernel
theorem dX5_init_7 : decode cX5_init 7 = .ok (.newarray .int, 2) := by decide +kernel
theorem dX5_init_9 : decode cX5_init 9 = .ok (.putfield 7, 3) := by decide +kernel
theorem dX5_init_12 : decode cX5_init 12 = .ok (.aload_n 0, 1) := by decide +kernel
theorem dX5_init_13 : decode cX5_init 13 = .ok (.bipush 6, 2) := by decide +kernel
theorem dX5_init_15 : decode cX5_init 15 = .ok (.newarray .int, 2) := by decide +kernel
theorem dX5_init_17 : decode cX5_init 17 = .ok (.putfield 13, 3) := by decide +kernel
theorem dX5_init_20 : decode cX5_init 20 = .ok (.aload_n 0, 1) := by decide +kernel
theorem dX5_init_21 : decode cX5_init 21 = .ok (.bipush 6, 2) := by decide +kernel
theorem dX5_init_23 : decode cX5_init 23 = .ok (.newarray .int, 2) := by decide +kernel
theorem dX5_init_25 : decode cX5_init 25 = .ok (.putfield 16, 3) := by decide +kernel
theorem dX5_init_28 : decode cX5_init 28 = .ok (.aload_n 0, 1) := by decide +kernel
theorem dX5_init_29 : decode cX5_init 29 = .ok (.bipush 32, 2) := by decide +kernel
theorem dX5_init_31 : decode cX5_init 31 = .ok (.newarray .int, 2) := by decide +kernel
theorem dX5_init_33 : decode cX5_init 33 = .ok (.putfield 19, 3) := by decide +kernel
theorem dX5_init_36 : decode cX5_init 36 = .ok (.aload_n 0, 1) := by decide +kernel
theorem dX5_init_37 : decode cX5_init 37 = .ok (.bipush 6, 2) := by decide +kernel
theorem dX5_init_39 : decode cX5_init 39 = .ok (.newarray .int, 2) := by decide +kernel
theorem dX5_init_41 : decode cX5_init 41 = .ok (.putfield 22, 3) := by decide +kernel
theorem dX5_init_44 : decode cX5_init 44 = .ok (.aload_n 0, 1) := by decide +kernel
theorem dX5_init_45 : decode cX5_init 45 = .ok (.bipush 120, 2) := by decide +kernel
theorem dX5_init_47 : decode cX5_init 47 = .ok (.newarray .int, 2) := by decide +kernel
theorem dX5_init_49 : decode cX5_init 49 = .ok (.putfield 25, 3) := by decide +kernel
theorem dX5_init_52 : decode cX5_init 52 = .ok (.aload_n 0, 1) := by decide +kernel
theorem dX5_init_53 : decode cX5_init 53 = .ok (.bipush 32, 2) := by decide +kernel
theorem dX5_init_55 : decode cX5_init 55 = .ok (.newarray .int, 2) := by decide +kernel
theorem dX5_init_57 : decode cX5_init 57 = .ok (.putfield 28, 3) := by decide +kernel
theorem dX5_init_60 : decode cX5_init 60 = .ok (.aload_n 0, 1) := by decide +kernel
theorem dX5_init_61 : decode cX5_init 61 = .ok (.bipush 6, 2) := by decide +kernel
theorem dX5_init_63 : decode cX5_init 63 = .ok (.newarray .int, 2) := by decide +kernel
theorem dX5_init_65 : decode cX5_init 65 = .ok (.putfield 31, 3) := by decide +kernel
theorem dX5_init_68 : decode cX5_init 68 = .ok (.aload_n 0, 1) := by decide +kernel
theorem dX5_init_69 : decode cX5_init 69 = .ok (.bipush 8, 2) := by decide +kernel
theorem dX5_init_71 : decode cX5_init 71 = .ok (.newarray .int, 2) := by decide +kernel
theorem dX5_init_73 : decode cX5_init 73 = .ok (.putfield 34, 3) := by decide +kernel
theorem dX5_init_76 : decode cX5_init 76 = .ok (.aload_n 0, 1) := by decide +kernel
theorem dX5_init_77 : decode cX5_init 77 = .ok (.bipush 8, 2) := by decide +kernel
theorem dX5_init_79 : decode cX5_init 79 = .ok (.newarray .int, 2) := by decide +kernel
theorem dX5_init_81 : decode cX5_init 81 = .ok (.putfield 37, 3) := by decide +kernel
theorem dX5_init_84 : decode cX5_init 84 = .ok (.aload_n 0, 1) := by decide +kernel
theorem dX5_init_85 : decode cX5_init 85 = .ok (.bipush 6, 2) := by decide +kernel
theorem dX5_init_87 : decode cX5_init 87 = .ok (.newarray .int, 2) := by decide +kernel
theorem dX5_init_89 : decode cX5_init 89 = .ok (.putfield 40, 3) := by decide +kernel
theorem dX5_init_92 : decode cX5_init 92 = .ok (.aload_n 0, 1) := by decide +kernel
theorem dX5_init_93 : decode cX5_init 93 = .ok (.bipush 6, 2) := by decide +kernel
theorem dX5_init_95 : decode cX5_init 95 = .ok (.newarray .int, 2) := by decide +kernel
theorem dX5_init_97 : decode cX5_init 97 = .ok (.putfield 43, 3) := by decide +kernel
theorem dX5_init_100 : decode cX5_init 100 = .ok (.aload_n 0, 1) := by decide +kernel
theorem dX5_init_101 : decode cX5_init 101 = .ok (.iconst 4, 1) := by decide +kernel
theorem dX5_init_102 : decode cX5_init 102 = .ok (.newarray .int, 2) := by decide +kernel
theorem dX5_init_104 : decode cX5_init 104 = .ok (.putfield 46, 3) := by decide +kernel
theorem dX5_init_107 : decode cX5_init 107 = .ok (.aload_n 0, 1) := by decide +kernel
theorem dX5_init_108 : decode cX5_init 108 = .ok (.bipush 60, 2) := by decide +kernel
theorem dX5_init_110 : decode cX5_init 110 = .ok (.newarray .int, 2) := by decide +kernel
theorem dX5_init_112 : decode cX5_init 112 = .ok (.putfield 49, 3) := by decide +kernel
theorem dX5_init_115 : decode cX5_init 115 = .ok (.aload_n 0, 1) := by decide +kernel
theorem dX5_init_116 : decode cX5_init 116 = .ok (.iconst 4, 1) := by decide +kernel
theorem dX5_init_117 : decode cX5_init 117 = .ok (.newarray .int, 2) := by decide +kernel
theorem dX5_init_119 : decode cX5_init 119 = .ok (.putfield 52, 3) := by decide +kernel
theorem dX5_init_122 : decode cX5_init 122 = .ok (.aload_n 0, 1) := by decide +kernel
theorem dX5_init_123 : decode cX5_init 123 = .ok (.iconst 4, 1) := by decide +kernel
theorem dX5_init_124 : decode cX5_init 124 = .ok (.newarray .int, 2) := by decide +kernel
theorem dX5_init_126 : decode cX5_init 126 = .ok (.putfield 55, 3) := by decide +kernel
theorem dX5_init_129 : decode cX5_init 129 = .ok (.aload_n 0, 1) := by decide +kernel
theorem dX5_init_130 : decode cX5_init 130 = .ok (.bipush 96, 2) := by decide +kernel
theorem dX5_init_132 : decode cX5_init 132 = .ok (.newarray .int, 2) := by decide +kernel
theorem dX5_init_134 : decode cX5_init 134 = .ok (.putfield 58, 3) := by decide +kernel
theorem dX5_init_137 : decode cX5_init 137 = .ok (.aload_n 0, 1) := by decide +kernel
theorem dX5_init_138 : decode cX5_init 138 = .ok (.bipush 24, 2) := by decide +kernel
theorem dX5_init_140 : decode cX5_init 140 = .ok (.newarray .int, 2) := by decide +kernel
theorem dX5_init_142 : decode cX5_init 142 = .ok (.putfield 61, 3) := by decide +kernel
theorem dX5_init_145 : decode cX5_init 145 = .ok (.iconst 0, 1) := by decide +kernel
theorem dX5_init_146 : decode cX5_init 146 = .ok (.istore_n 1, 1) := by decide +kernel
theorem dX5_init_147 : decode cX5_init 147 = .ok (.iload_n 1, 1) := by decide +kernel
theorem dX5_init_148 : decode cX5_init 148 = .ok (.iconst 4, 1) := by decide +kernel
theorem dX5_init_149 : decode cX5_init 149 = .ok (.if_icmp .ge 16, 3) := by decide +kernel
theorem dX5_init_152 : decode cX5_init 152 = .ok (.aload_n 0, 1) := by decide +kernel
theorem dX5_init_153 : decode cX5_init 153 = .ok (.getfield 52, 3) := by decide +kernel
theorem dX5_init_156 : decode cX5_init 156 = .ok (.iload_n 1, 1) := by decide +kernel
theorem dX5_init_157 : decode cX5_init 157 = .ok (.iconst (-1), 1) := by decide +kernel
theorem dX5_init_158 : decode cX5_init 158 = .ok (.iastore, 1) := by decide +kernel
theorem dX5_init_159 : decode cX5_init 159 = .ok (.iinc 1 1, 3) := by decide +kernel
theorem dX5_init_162 : decode cX5_init 162 = .ok (.goto (-15), 3) := by decide +kernel
theorem dX5_init_165 : decode cX5_init 165 = .ok (.return_, 1) := by decide +kernel
theorem dX5_in_0 : decode cX5_in 0 = .ok (.lload_n 0, 1) := by decide +kernel
theorem dX5_in_1 : decode cX5_in 1 = .ok (.lload_n 2, 1) := by decide +kernel
theorem dX5_in_2 : decode cX5_in 2 = .ok (.lcmp, 1) := by decide +kernel
theorem dX5_in_3 : decode cX5_in 3 = .ok (.ifCond .lt 14, 3) := by decide +kernel
theorem dX5_in_6 : decode cX5_in 6 = .ok (.lload_n 0, 1) := by decide +kernel
theorem dX5_in_7 : decode cX5_in 7 = .ok (.lload 4, 2) := by decide +kernel
theorem dX5_in_9 : decode cX5_in 9 = .ok (.lcmp, 1) := by decide +kernel
theorem dX5_in_10 : decode cX5_in 10 = .ok (.ifCond .gt 7, 3) := by decide +kernel
theorem dX5_in_13 : decode cX5_in 13 = .ok (.iconst 1, 1) := by decide +kernel
theorem dX5_in_14 : decode cX5_in 14 = .ok (.goto 4, 3) := by decide +kernel
theorem dX5_in_17 : decode cX5_in 17 = .ok (.iconst 0, 1) := by decide +kernel
theorem dX5_in_18 : decode cX5_in 18 = .ok (.ireturn, 1) := by decide +kernel
theorem dX5_has_0 : decode cX5_has 0 = .ok (.iload_n 0, 1) := by decide +kernel
theorem dX5_has_1 : decode cX5_has 1 = .ok (.iload_n 1, 1) := by decide +kernel
theorem dX5_has_2 : decode cX5_has 2 = .ok (.ishr, 1) := by decide +kernel
theorem dX5_has_3 : decode cX5_has 3 = .ok (.iconst 1, 1) := by decide +kernel
theorem dX5_has_4 : decode cX5_has 4 = .ok (.iand, 1) := by decide +kernel
theorem dX5_has_5 : decode cX5_has 5 = .ok (.iconst 1, 1) := by decide +kernel
theorem dX5_has_6 : decode cX5_has 6 = .ok (.if_icmp .ne 7, 3) := by decide +kernel
theorem dX5_has_9 : decode cX5_has 9 = .ok (.iconst 1, 1) := by decide +kernel
theorem dX5_has_10 : decode cX5_has 10 = .ok (.goto 4, 3) := by decide +kernel
theorem dX5_has_13 : decode cX5_has 13 = .ok (.iconst 0, 1) := by decide +kernel
theorem dX5_has_14 : decode cX5_has 14 = .ok (.ireturn, 1) := by decide +kernel
theorem dX5_isGrain_0 : decode cX5_isGrain 0 = .ok (.iload_n 1, 1) := by decide +kernel
theorem dX5_isGrain_1 : decode cX5_isGrain 1 = .ok (.i2l, 1) := by decide +kernel
theorem dX5_isGrain_2 : decode cX5_isGrain 2 = .ok (.lconst 0, 1) := by decide +kernel
theorem dX5_isGrain_3 : decode cX5_isGrain 3 = .ok (.aload_n 0, 1) := by decide +kernel
theorem dX5_isGrain_4 : decode cX5_isGrain 4 = .ok (.getfield 64, 3) := by decide +kernel
theorem dX5_isGrain_7 : decode cX5_isGrain 7 = .ok (.iconst 1, 1) := by decide +kernel
theorem dX5_isGrain_8 : decode cX5_isGrain 8 = .ok (.isub, 1) := by decide +kernel
theorem dX5_isGrain_9 : decode cX5_isGrain 9 = .ok (.i2l, 1) := by decide +kernel
theorem dX5_isGrain_10 : decode cX5_isGrain 10 = .ok (.invokestatic 68, 3) := by decide +kernel
theorem dX5_isGrain_13 : decode cX5_isGrain 13 = .ok (.ireturn, 1) := by decide +kernel
theorem dX5_isSieve_0 : decode cX5_isSieve 0 = .ok (.iload_n 1, 1) := by decide +kernel
theorem dX5_isSieve_1 : decode cX5_isSieve 1 = .ok (.i2l, 1) := by decide +kernel
theorem dX5_isSieve_2 : decode cX5_isSieve 2 = .ok (.lconst 0, 1) := by decide +kernel
theorem dX5_isSieve_3 : decode cX5_isSieve 3 = .ok (.aload_n 0, 1) := by decide +kernel
theorem dX5_isSieve_4 : decode cX5_isSieve 4 = .ok (.getfield 72, 3) := by decide +kernel
theorem dX5_isSieve_7 : decode cX5_isSieve 7 = .ok (.iconst 1, 1) := by decide +kernel
theorem dX5_isSieve_8 : decode cX5_isSieve 8 = .ok (.isub, 1) := by decide +kernel
theorem dX5_isSieve_9 : decode cX5_isSieve 9 = .ok (.i2l, 1) := by decide +kernel
theorem dX5_isSieve_10 : decode cX5_isSieve 10 = .ok (.invokestatic 68, 3) := by decide +kernel
theorem dX5_isSieve_13 : decode cX5_isSieve 13 = .ok (.ireturn, 1) := by decide +kernel
theorem dX5_addGrain_0 : decode cX5_addGrain 0 = .ok (.aload_n 0, 1) := by decide +kernel
theorem dX5_addGrain_1 : decode cX5_addGrain 1 = .ok (.getfield 7, 3) := by decide +kernel
theorem dX5_addGrain_4 : decode cX5_addGrain 4 = .ok (.aload_n 0, 1) := by decide +kernel
theorem dX5_addGrain_5 : decode cX5_addGrain 5 = .ok (.getfield 64, 3) := by decide +kernel
theorem dX5_addGrain_8 : decode cX5_addGrain 8 = .ok (.iload_n 1, 1) := by decide +kernel
theorem dX5_addGrain_9 : decode cX5_addGrain 9 = .ok (.iastore, 1) := by decide +kernel
theorem dX5_addGrain_10 : decode cX5_addGrain 10 = .ok (.aload_n 0, 1) := by decide +kernel
theorem dX5_addGrain_11 : decode cX5_addGrain 11 = .ok (.getfield 13, 3) := by decide +kernel
theorem dX5_addGrain_14 : decode cX5_addGrain 14 = .ok (.aload_n 0, 1) := by decide +kernel
theorem dX5_addGrain_15 : decode cX5_addGrain 15 = .ok (.getfield 64, 3) := by decide +kernel
theorem dX5_addGrain_18 : decode cX5_addGrain 18 = .ok (.iload_n 2, 1) := by decide +kernel
theorem dX5_addGrain_19 : decode cX5_addGrain 19 = .ok (.iastore, 1) := by decide +kernel
theorem dX5_addGrain_20 : decode cX5_addGrain 20 = .ok (.aload_n 0, 1) := by decide +kernel
theorem dX5_addGrain_21 : decode cX5_addGrain 21 = .ok (.getfield 16, 3) := by decide +kernel
theorem dX5_addGrain_24 : decode cX5_addGrain 24 = .ok (.aload_n 0, 1) := by decide +kernel
theorem dX5_addGrain_25 : decode cX5_addGrain 25 = .ok (.getfield 64, 3) := by decide +kernel
theorem dX5_addGrain_28 : decode cX5_addGrain 28 = .ok (.iload_n 3, 1) := by decide +kernel
theorem dX5_addGrain_29 : decode cX5_addGrain 29 = .ok (.iastore, 1) := by decide +kernel
theorem dX5_addGrain_30 : decode cX5_addGrain 30 = .ok (.aload_n 0, 1) := by decide +kernel
theorem dX5_addGrain_31 : decode cX5_addGrain 31 = .ok (.dup, 1) := by decide +kernel
theorem dX5_addGrain_32 : decode cX5_addGrain 32 = .ok (.getfield 64, 3) := by decide +kernel
theorem dX5_addGrain_35 : decode cX5_addGrain 35 = .ok (.iconst 1, 1) := by decide +kernel
theorem dX5_addGrain_36 : decode cX5_addGrain 36 = .ok (.iadd, 1) := by decide +kernel
theorem dX5_addGrain_37 : decode cX5_addGrain 37 = .ok (.putfield 64, 3) := by decide +kernel
theorem dX5_addGrain_40 : decode cX5_addGrain 40 = .ok (.return_, 1) := by decide +kernel
theorem dX5_grain_0 : decode cX5_grain 0 = .ok (.iload_n 1, 1) := by decide +kernel
theorem dX5_grain_1 : decode cX5_grain 1 = .ok (.i2l, 1) := by decide +kernel
theorem dX5_grain_2 : decode cX5_grain 2 = .ok (.lconst 1, 1) := by decide +kernel
theorem dX5_grain_3 : decode cX5_grain 3 = .ok (.ldc2_w 75, 3) := by decide +kernel
theorem dX5_grain_6 : decode cX5_grain 6 = .ok (.invokestatic 68, 3) := by decide +kernel
theorem dX5_grain_9 : decode cX5_grain 9 = .ok (.ifCond .eq 27, 3) := by decide +kernel
theorem dX5_grain_12 : decode cX5_grain 12 = .ok (.iload_n 2, 1) := by decide +kernel
theorem dX5_grain_13 : decode cX5_grain 13 = .ok (.i2l, 1) := by decide +kernel
theorem dX5_grain_14 : decode cX5_grain 14 = .ok (.lconst 0, 1) := by decide +kernel
theorem dX5_grain_15 : decode cX5_grain 15 = .ok (.ldc2_w 77, 3) := by decide +kernel
theorem dX5_grain_18 : decode cX5_grain 18 = .ok (.invokestatic 68, 3) := by decide +kernel
theorem dX5_grain_21 : decode cX5_grain 21 = .ok (.ifCond .eq 15, 3) := by decide +kernel
theorem dX5_grain_24 : decode cX5_grain 24 = .ok (.iload_n 3, 1) := by decide +kernel
theorem dX5_grain_25 : decode cX5_grain 25 = .ok (.i2l, 1) := by decide +kernel
theorem dX5_grain_26 : decode cX5_grain 26 = .ok (.lconst 0, 1) := by decide +kernel
theorem dX5_grain_27 : decode cX5_grain 27 = .ok (.ldc2_w 79, 3) := by decide +kernel
theorem dX5_grain_30 : decode cX5_grain 30 = .ok (.invokestatic 68, 3) := by decide +kernel
theorem dX5_grain_33 : decode cX5_grain 33 = .ok (.ifCond .ne 5, 3) := by decide +kernel
theorem dX5_grain_36 : decode cX5_grain 36 = .ok (.iconst (-1), 1) := by decide +kernel
theorem dX5_grain_37 : decode cX5_grain 37 = .ok (.ireturn, 1) := by decide +kernel
theorem dX5_grain_38 : decode cX5_grain 38 = .ok (.aload_n 0, 1) := by decide +kernel
theorem dX5_grain_39 : decode cX5_grain 39 = .ok (.getfield 64, 3) := by decide +kernel
theorem dX5_grain_42 : decode cX5_grain 42 = .ok (.bipush 6, 2) := by decide +kernel
theorem dX5_grain_44 : decode cX5_grain 44 = .ok (.if_icmp .ne 6, 3) := by decide +kernel
theorem dX5_grain_47 : decode cX5_grain 47 = .ok (.bipush (-3), 2) := by decide +kernel
theorem dX5_grain_49 : decode cX5_grain 49 = .ok (.ireturn, 1) := by decide +kernel
theorem dX5_grain_50 : decode cX5_grain 50 = .ok (.aload_n 0, 1) := by decide +kernel
theorem dX5_grain_51 : decode cX5_grain 51 = .ok (.iload_n 1, 1) := by decide +kernel
theorem dX5_grain_52 : decode cX5_grain 52 = .ok (.iload_n 2, 1) := by decide +kernel
theorem dX5_grain_53 : decode cX5_grain 53 = .ok (.iload_n 3, 1) := by decide +kernel
theorem dX5_grain_54 : decode cX5_grain 54 = .ok (.invokevirtual 81, 3) := by decide +kernel
theorem dX5_grain_57 : decode cX5_grain 57 = .ok (.aload_n 0, 1) := by decide +kernel
theorem dX5_grain_58 : decode cX5_grain 58 = .ok (.getfield 64, 3) := by decide +kernel
theorem dX5_grain_61 : decode cX5_grain 61 = .ok (.iconst 1, 1) := by decide +kernel
theorem dX5_grain_62 : decode cX5_grain 62 = .ok (.isub, 1) := by decide +kernel
theorem dX5_grain_63 : decode cX5_grain 63 = .ok (.ireturn, 1) := by decide +kernel
theorem dX5_set_0 : decode cX5_set 0 = .ok (.aload_n 0, 1) := by decide +kernel
theorem dX5_set_1 : decode cX5_set 1 = .ok (.iload_n 1, 1) := by decide +kernel
theorem dX5_set_2 : decode cX5_set 2 = .ok (.invokevirtual 85, 3) := by decide +kernel
theorem dX5_set_5 : decode cX5_set 5 = .ok (.ifCond .eq 57, 3) := by decide +kernel
theorem dX5_set_8 : decode cX5_set 8 = .ok (.iload_n 2, 1) := by decide +kernel
theorem dX5_set_9 : decode cX5_set 9 = .ok (.i2l, 1) := by decide +kernel
theorem dX5_set_10 : decode cX5_set 10 = .ok (.lconst 0, 1) := by decide +kernel
theorem dX5_set_11 : decode cX5_set 11 = .ok (.ldc2_w 89, 3) := by decide +kernel
theorem dX5_set_14 : decode cX5_set 14 = .ok (.invokestatic 68, 3) := by decide +kernel
theorem dX5_set_17 : decode cX5_set 17 = .ok (.ifCond .eq 45, 3) := by decide +kernel
theorem dX5_set_20 : decode cX5_set 20 = .ok (.iload_n 2, 1) := by decide +kernel
theorem dX5_set_21 : decode cX5_set 21 = .ok (.ifCond .ne 18, 3) := by decide +kernel
theorem dX5_set_24 : decode cX5_set 24 = .ok (.iload_n 3, 1) := by decide +kernel
theorem dX5_set_25 : decode cX5_set 25 = .ok (.i2l, 1) := by decide +kernel
theorem dX5_set_26 : decode cX5_set 26 = .ok (.lconst 1, 1) := by decide +kernel
theorem dX5_set_27 : decode cX5_set 27 = .ok (.ldc2_w 75, 3) := by decide +kernel
theorem dX5_set_30 : decode cX5_set 30 = .ok (.invokestatic 68, 3) := by decide +kernel
theorem dX5_set_33 : decode cX5_set 33 = .ok (.ifCond .eq 29, 3) := by decide +kernel
theorem dX5_set_36 : decode cX5_set 36 = .ok (.goto 28, 3) := by decide +kernel
theorem dX5_set_39 : decode cX5_set 39 = .ok (.iload_n 3, 1) := by decide +kernel
theorem dX5_set_40 : decode cX5_set 40 = .ok (.i2l, 1) := by decide +kernel
theorem dX5_set_41 : decode cX5_set 41 = .ok (.lconst 0, 1) := by decide +kernel
theorem dX5_set_42 : decode cX5_set 42 = .ok (.iload_n 2, 1) := by decide +kernel
theorem dX5_set_43 : decode cX5_set 43 = .ok (.iconst 1, 1) := by decide +kernel
theorem dX5_set_44 : decode cX5_set 44 = .ok (.if_icmp .ne 9, 3) := by decide +kernel
theorem dX5_set_47 : decode cX5_set 47 = .ok (.ldc2_w 77, 3) := by decide +kernel
theorem dX5_set_50 : decode cX5_set 50 = .ok (.goto 6, 3) := by decide +kernel
theorem dX5_set_53 : decode cX5_set 53 = .ok (.ldc2_w 79, 3) := by decide +kernel
theorem dX5_set_56 : decode cX5_set 56 = .ok (.invokestatic 68, 3) := by decide +kernel
theorem dX5_set_59 : decode cX5_set 59 = .ok (.ifCond .ne 5, 3) := by decide +kernel
theorem dX5_set_62 : decode cX5_set 62 = .ok (.iconst (-1), 1) := by decide +kernel
theorem dX5_set_63 : decode cX5_set 63 = .ok (.ireturn, 1) := by decide +kernel
theorem dX5_set_64 : decode cX5_set 64 = .ok (.iload_n 2, 1) := by decide +kernel
theorem dX5_set_65 : decode cX5_set 65 = .ok (.ifCond .ne 12, 3) := by decide +kernel
theorem dX5_set_68 : decode cX5_set 68 = .ok (.aload_n 0, 1) := by decide +kernel
theorem dX5_set_69 : decode cX5_set 69 = .ok (.getfield 7, 3) := by decide +kernel
theorem dX5_set_72 : decode cX5_set 72 = .ok (.iload_n 1, 1) := by decide +kernel
theorem dX5_set_73 : decode cX5_set 73 = .ok (.iaload, 1) := by decide +kernel
theorem dX5_set_74 : decode cX5_set 74 = .ok (.goto 23, 3) := by decide +kernel
theorem dX5_set_77 : decode cX5_set 77 = .ok (.iload_n 2, 1) := by decide +kernel
theorem dX5_set_78 : decode cX5_set 78 = .ok (.iconst 1, 1) := by decide +kernel
theorem dX5_set_79 : decode cX5_set 79 = .ok (.if_icmp .ne 12, 3) := by decide +kernel
theorem dX5_set_82 : decode cX5_set 82 = .ok (.aload_n 0, 1) := by decide +kernel
theorem dX5_set_83 : decode cX5_set 83 = .ok (.getfield 13, 3) := by decide +kernel
theorem dX5_set_86 : decode cX5_set 86 = .ok (.iload_n 1, 1) := by decide +kernel
theorem dX5_set_87 : decode cX5_set 87 = .ok (.iaload, 1) := by decide +kernel
theorem dX5_set_88 : decode cX5_set 88 = .ok (.goto 9, 3) := by decide +kernel
theorem dX5_set_91 : decode cX5_set 91 = .ok (.aload_n 0, 1) := by decide +kernel
theorem dX5_set_92 : decode cX5_set 92 = .ok (.getfield 16, 3) := by decide +kernel
theorem dX5_set_95 : decode cX5_set 95 = .ok (.iload_n 1, 1) := by decide +kernel
theorem dX5_set_96 : decode cX5_set 96 = .ok (.iaload, 1) := by decide +kernel
theorem dX5_set_97 : decode cX5_set 97 = .ok (.istore 4, 2) := by decide +kernel
theorem dX5_set_99 : decode cX5_set 99 = .ok (.aload_n 0, 1) := by decide +kernel
theorem dX5_set_100 : decode cX5_set 100 = .ok (.getfield 7, 3) := by decide +kernel
theorem dX5_set_103 : decode cX5_set 103 = .ok (.iload_n 1, 1) := by decide +kernel
theorem dX5_set_104 : decode cX5_set 104 = .ok (.iload_n 2, 1) := by decide +kernel
theorem dX5_set_105 : decode cX5_set 105 = .ok (.ifCond .ne 7, 3) := by decide +kernel
theorem dX5_set_108 : decode cX5_set 108 = .ok (.iload_n 3, 1) := by decide +kernel
theorem dX5_set_109 : decode cX5_set 109 = .ok (.goto 9, 3) := by decide +kernel
theorem dX5_set_112 : decode cX5_set 112 = .ok (.aload_n 0, 1) := by decide +kernel
theorem dX5_set_113 : decode cX5_set 113 = .ok (.getfield 7, 3) := by decide +kernel
theorem dX5_set_116 : decode cX5_set 116 = .ok (.iload_n 1, 1) := by decide +kernel
theorem dX5_set_117 : decode cX5_set 117 = .ok (.iaload, 1) := by decide +kernel
theorem dX5_set_118 : decode cX5_set 118 = .ok (.iastore, 1) := by decide +kernel
theorem dX5_set_119 : decode cX5_set 119 = .ok (.aload_n 0, 1) := by decide +kernel
theorem dX5_set_120 : decode cX5_set 120 = .ok (.getfield 13, 3) := by decide +kernel
theorem dX5_set_123 : decode cX5_set 123 = .ok (.iload_n 1, 1) := by decide +kernel
theorem dX5_set_124 : decode cX5_set 124 = .ok (.iload_n 2, 1) := by decide +kernel
theorem dX5_set_125 : decode cX5_set 125 = .ok (.iconst 1, 1) := by decide +kernel
theorem dX5_set_126 : decode cX5_set 126 = .ok (.if_icmp .ne 7, 3) := by decide +kernel
theorem dX5_set_129 : decode cX5_set 129 = .ok (.iload_n 3, 1) := by decide +kernel
theorem dX5_set_130 : decode cX5_set 130 = .ok (.goto 9, 3) := by decide +kernel
theorem dX5_set_133 : decode cX5_set 133 = .ok (.aload_n 0, 1) := by decide +kernel
theorem dX5_set_134 : decode cX5_set 134 = .ok (.getfield 13, 3) := by decide +kernel
theorem dX5_set_137 : decode cX5_set 137 = .ok (.iload_n 1, 1) := by decide +kernel
theorem dX5_set_138 : decode cX5_set 138 = .ok (.iaload, 1) := by decide +kernel
theorem dX5_set_139 : decode cX5_set 139 = .ok (.iastore, 1) := by decide +kernel
theorem dX5_set_140 : decode cX5_set 140 = .ok (.aload_n 0, 1) := by decide +kernel
theorem dX5_set_141 : decode cX5_set 141 = .ok (.getfield 16, 3) := by decide +kernel
theorem dX5_set_144 : decode cX5_set 144 = .ok (.iload_n 1, 1) := by decide +kernel
theorem dX5_set_145 : decode cX5_set 145 = .ok (.iload_n 2, 1) := by decide +kernel
theorem dX5_set_146 : decode cX5_set 146 = .ok (.iconst 2, 1) := by decide +kernel
theorem dX5_set_147 : decode cX5_set 147 = .ok (.if_icmp .ne 7, 3) := by decide +kernel
theorem dX5_set_150 : decode cX5_set 150 = .ok (.iload_n 3, 1) := by decide +kernel
theorem dX5_set_151 : decode cX5_set 151 = .ok (.goto 9, 3) := by decide +kernel
theorem dX5_set_154 : decode cX5_set 154 = .ok (.aload_n 0, 1) := by decide +kernel
theorem dX5_set_155 : decode cX5_set 155 = .ok (.getfield 16, 3) := by decide +kernel
theorem dX5_set_158 : decode cX5_set 158 = .ok (.iload_n 1, 1) := by decide +kernel
theorem dX5_set_159 : decode cX5_set 159 = .ok (.iaload, 1) := by decide +kernel
theorem dX5_set_160 : decode cX5_set 160 = .ok (.iastore, 1) := by decide +kernel
theorem dX5_set_161 : decode cX5_set 161 = .ok (.iload 4, 2) := by decide +kernel
theorem dX5_set_163 : decode cX5_set 163 = .ok (.ireturn, 1) := by decide +kernel
theorem dX5_addSieve_0 : decode cX5_addSieve 0 = .ok (.aload_n 0, 1) := by decide +kernel
theorem dX5_addSieve_1 : decode cX5_addSieve 1 = .ok (.getfield 19, 3) := by decide +kernel
theorem dX5_addSieve_4 : decode cX5_addSieve 4 = .ok (.iconst 4, 1) := by decide +kernel
theorem dX5_addSieve_5 : decode cX5_addSieve 5 = .ok (.aload_n 0, 1) := by decide +kernel
theorem dX5_addSieve_6 : decode cX5_addSieve 6 = .ok (.getfield 72, 3) := by decide +kernel
theorem dX5_addSieve_9 : decode cX5_addSieve 9 = .ok (.imul, 1) := by decide +kernel
theorem dX5_addSieve_10 : decode cX5_addSieve 10 = .ok (.iload_n 1, 1) := by decide +kernel
theorem dX5_addSieve_11 : decode cX5_addSieve 11 = .ok (.iastore, 1) := by decide +kernel
theorem dX5_addSieve_12 : decode cX5_addSieve 12 = .ok (.aload_n 0, 1) := by decide +kernel
theorem dX5_addSieve_13 : decode cX5_addSieve 13 = .ok (.getfield 19, 3) := by decide +kernel
theorem dX5_addSieve_16 : decode cX5_addSieve 16 = .ok (.iconst 4, 1) := by decide +kernel
theorem dX5_addSieve_17 : decode cX5_addSieve 17 = .ok (.aload_n 0, 1) := by decide +kernel
theorem dX5_addSieve_18 : decode cX5_addSieve 18 = .ok (.getfield 72, 3) := by decide +kernel
theorem dX5_addSieve_21 : decode cX5_addSieve 21 = .ok (.imul, 1) := by decide +kernel
theorem dX5_addSieve_22 : decode cX5_addSieve 22 = .ok (.iconst 1, 1) := by decide +kernel
theorem dX5_addSieve_23 : decode cX5_addSieve 23 = .ok (.iadd, 1) := by decide +kernel
theorem dX5_addSieve_24 : decode cX5_addSieve 24 = .ok (.iload_n 2, 1) := by decide +kernel
theorem dX5_addSieve_25 : decode cX5_addSieve 25 = .ok (.iastore, 1) := by decide +kernel
theorem dX5_addSieve_26 : decode cX5_addSieve 26 = .ok (.aload_n 0, 1) := by decide +kernel
theorem dX5_addSieve_27 : decode cX5_addSieve 27 = .ok (.getfield 19, 3) := by decide +kernel
theorem dX5_addSieve_30 : decode cX5_addSieve 30 = .ok (.iconst 4, 1) := by decide +kernel
theorem dX5_addSieve_31 : decode cX5_addSieve 31 = .ok (.aload_n 0, 1) := by decide +kernel
theorem dX5_addSieve_32 : decode cX5_addSieve 32 = .ok (.getfield 72, 3) := by decide +kernel
theorem dX5_addSieve_35 : decode cX5_addSieve 35 = .ok (.imul, 1) := by decide +kernel
theorem dX5_addSieve_36 : decode cX5_addSieve 36 = .ok (.iconst 2, 1) := by decide +kernel
theorem dX5_addSieve_37 : decode cX5_addSieve 37 = .ok (.iadd, 1) := by decide +kernel
theorem dX5_addSieve_38 : decode cX5_addSieve 38 = .ok (.iload_n 3, 1) := by decide +kernel
theorem dX5_addSieve_39 : decode cX5_addSieve 39 = .ok (.iastore, 1) := by decide +kernel
theorem dX5_addSieve_40 : decode cX5_addSieve 40 = .ok (.aload_n 0, 1) := by decide +kernel
theorem dX5_addSieve_41 : decode cX5_addSieve 41 = .ok (.getfield 19, 3) := by decide +kernel
theorem dX5_addSieve_44 : decode cX5_addSieve 44 = .ok (.iconst 4, 1) := by decide +kernel
theorem dX5_addSieve_45 : decode cX5_addSieve 45 = .ok (.aload_n 0, 1) := by decide +kernel
theorem dX5_addSieve_46 : decode cX5_addSieve 46 = .ok (.getfield 72, 3) := by decide +kernel
theorem dX5_addSieve_49 : decode cX5_addSieve 49 = .ok (.imul, 1) := by decide +kernel
theorem dX5_addSieve_50 : decode cX5_addSieve 50 = .ok (.iconst 3, 1) := by decide +kernel
theorem dX5_addSieve_51 : decode cX5_addSieve 51 = .ok (.iadd, 1) := by decide +kernel
theorem dX5_addSieve_52 : decode cX5_addSieve 52 = .ok (.iload 4, 2) := by decide +kernel
theorem dX5_addSieve_54 : decode cX5_addSieve 54 = .ok (.iastore, 1) := by decide +kernel
theorem dX5_addSieve_55 : decode cX5_addSieve 55 = .ok (.aload_n 0, 1) := by decide +kernel
theorem dX5_addSieve_56 : decode cX5_addSieve 56 = .ok (.dup, 1) := by decide +kernel
theorem dX5_addSieve_57 : decode cX5_addSieve 57 = .ok (.getfield 72, 3) := by decide +kernel
theorem dX5_addSieve_60 : decode cX5_addSieve 60 = .ok (.iconst 1, 1) := by decide +kernel
theorem dX5_addSieve_61 : decode cX5_addSieve 61 = .ok (.iadd, 1) := by decide +kernel
theorem dX5_addSieve_62 : decode cX5_addSieve 62 = .ok (.putfield 72, 3) := by decide +kernel
theorem dX5_addSieve_65 : decode cX5_addSieve 65 = .ok (.return_, 1) := by decide +kernel
theorem dX5_sieve_0 : decode cX5_sieve 0 = .ok (.iload_n 1, 1) := by decide +kernel
theorem dX5_sieve_1 : decode cX5_sieve 1 = .ok (.i2l, 1) := by decide +kernel
theorem dX5_sieve_2 : decode cX5_sieve 2 = .ok (.lconst 0, 1) := by decide +kernel
theorem dX5_sieve_3 : decode cX5_sieve 3 = .ok (.ldc2_w 91, 3) := by decide +kernel
theorem dX5_sieve_6 : decode cX5_sieve 6 = .ok (.invokestatic 68, 3) := by decide +kernel
theorem dX5_sieve_9 : decode cX5_sieve 9 = .ok (.ifCond .eq 40, 3) := by decide +kernel
theorem dX5_sieve_12 : decode cX5_sieve 12 = .ok (.iload_n 2, 1) := by decide +kernel
theorem dX5_sieve_13 : decode cX5_sieve 13 = .ok (.i2l, 1) := by decide +kernel
theorem dX5_sieve_14 : decode cX5_sieve 14 = .ok (.lconst 1, 1) := by decide +kernel
theorem dX5_sieve_15 : decode cX5_sieve 15 = .ok (.ldc2_w 75, 3) := by decide +kernel
theorem dX5_sieve_18 : decode cX5_sieve 18 = .ok (.invokestatic 68, 3) := by decide +kernel
theorem dX5_sieve_21 : decode cX5_sieve 21 = .ok (.ifCond .eq 28, 3) := by decide +kernel
theorem dX5_sieve_24 : decode cX5_sieve 24 = .ok (.iload_n 3, 1) := by decide +kernel
theorem dX5_sieve_25 : decode cX5_sieve 25 = .ok (.i2l, 1) := by decide +kernel
theorem dX5_sieve_26 : decode cX5_sieve 26 = .ok (.lconst 1, 1) := by decide +kernel
theorem dX5_sieve_27 : decode cX5_sieve 27 = .ok (.ldc2_w 93, 3) := by decide +kernel
theorem dX5_sieve_30 : decode cX5_sieve 30 = .ok (.invokestatic 68, 3) := by decide +kernel
theorem dX5_sieve_33 : decode cX5_sieve 33 = .ok (.ifCond .eq 16, 3) := by decide +kernel
theorem dX5_sieve_36 : decode cX5_sieve 36 = .ok (.iload 4, 2) := by decide +kernel
theorem dX5_sieve_38 : decode cX5_sieve 38 = .ok (.i2l, 1) := by decide +kernel
theorem dX5_sieve_39 : decode cX5_sieve 39 = .ok (.lconst 0, 1) := by decide +kernel
theorem dX5_sieve_40 : decode cX5_sieve 40 = .ok (.ldc2_w 91, 3) := by decide +kernel
theorem dX5_sieve_43 : decode cX5_sieve 43 = .ok (.invokestatic 68, 3) := by decide +kernel
theorem dX5_sieve_46 : decode cX5_sieve 46 = .ok (.ifCond .ne 5, 3) := by decide +kernel
theorem dX5_sieve_49 : decode cX5_sieve 49 = .ok (.iconst (-1), 1) := by decide +kernel
theorem dX5_sieve_50 : decode cX5_sieve 50 = .ok (.ireturn, 1) := by decide +kernel
theorem dX5_sieve_51 : decode cX5_sieve 51 = .ok (.aload_n 0, 1) := by decide +kernel
theorem dX5_sieve_52 : decode cX5_sieve 52 = .ok (.getfield 72, 3) := by decide +kernel
theorem dX5_sieve_55 : decode cX5_sieve 55 = .ok (.bipush 8, 2) := by decide +kernel
theorem dX5_sieve_57 : decode cX5_sieve 57 = .ok (.if_icmp .ne 6, 3) := by decide +kernel
theorem dX5_sieve_60 : decode cX5_sieve 60 = .ok (.bipush (-3), 2) := by decide +kernel
theorem dX5_sieve_62 : decode cX5_sieve 62 = .ok (.ireturn, 1) := by decide +kernel
theorem dX5_sieve_63 : decode cX5_sieve 63 = .ok (.aload_n 0, 1) := by decide +kernel
theorem dX5_sieve_64 : decode cX5_sieve 64 = .ok (.iload_n 1, 1) := by decide +kernel
theorem dX5_sieve_65 : decode cX5_sieve 65 = .ok (.iload_n 2, 1) := by decide +kernel
theorem dX5_sieve_66 : decode cX5_sieve 66 = .ok (.iload_n 3, 1) := by decide +kernel
theorem dX5_sieve_67 : decode cX5_sieve 67 = .ok (.iload 4, 2) := by decide +kernel
theorem dX5_sieve_69 : decode cX5_sieve 69 = .ok (.invokevirtual 95, 3) := by decide +kernel
theorem dX5_sieve_72 : decode cX5_sieve 72 = .ok (.aload_n 0, 1) := by decide +kernel
theorem dX5_sieve_73 : decode cX5_sieve 73 = .ok (.getfield 72, 3) := by decide +kernel
theorem dX5_sieve_76 : decode cX5_sieve 76 = .ok (.iconst 1, 1) := by decide +kernel
theorem dX5_sieve_77 : decode cX5_sieve 77 = .ok (.isub, 1) := by decide +kernel
theorem dX5_sieve_78 : decode cX5_sieve 78 = .ok (.ireturn, 1) := by decide +kernel
theorem dX5_told_0 : decode cX5_told 0 = .ok (.aload_n 0, 1) := by decide +kernel
theorem dX5_told_1 : decode cX5_told 1 = .ok (.iload_n 1, 1) := by decide +kernel
theorem dX5_told_2 : decode cX5_told 2 = .ok (.invokevirtual 99, 3) := by decide +kernel
theorem dX5_told_5 : decode cX5_told 5 = .ok (.ifCond .eq 28, 3) := by decide +kernel
theorem dX5_told_8 : decode cX5_told 8 = .ok (.iload_n 2, 1) := by decide +kernel
theorem dX5_told_9 : decode cX5_told 9 = .ok (.i2l, 1) := by decide +kernel
theorem dX5_told_10 : decode cX5_told 10 = .ok (.lconst 0, 1) := by decide +kernel
theorem dX5_told_11 : decode cX5_told 11 = .ok (.ldc2_w 91, 3) := by decide +kernel
theorem dX5_told_14 : decode cX5_told 14 = .ok (.invokestatic 68, 3) := by decide +kernel
theorem dX5_told_17 : decode cX5_told 17 = .ok (.ifCond .eq 16, 3) := by decide +kernel
theorem dX5_told_20 : decode cX5_told 20 = .ok (.aload_n 0, 1) := by decide +kernel
theorem dX5_told_21 : decode cX5_told 21 = .ok (.getfield 19, 3) := by decide +kernel
theorem dX5_told_24 : decode cX5_told 24 = .ok (.iconst 4, 1) := by decide +kernel
theorem dX5_told_25 : decode cX5_told 25 = .ok (.iload_n 1, 1) := by decide +kernel
theorem dX5_told_26 : decode cX5_told 26 = .ok (.imul, 1) := by decide +kernel
theorem dX5_told_27 : decode cX5_told 27 = .ok (.iload_n 2, 1) := by decide +kernel
theorem dX5_told_28 : decode cX5_told 28 = .ok (.iadd, 1) := by decide +kernel
theorem dX5_told_29 : decode cX5_told 29 = .ok (.iaload, 1) := by decide +kernel
theorem dX5_told_30 : decode cX5_told 30 = .ok (.goto 4, 3) := by decide +kernel
theorem dX5_told_33 : decode cX5_told 33 = .ok (.iconst (-1), 1) := by decide +kernel
theorem dX5_told_34 : decode cX5_told 34 = .ok (.ireturn, 1) := by decide +kernel
theorem dX5_mend_0 : decode cX5_mend 0 = .ok (.aload_n 0, 1) := by decide +kernel
theorem dX5_mend_1 : decode cX5_mend 1 = .ok (.iload_n 1, 1) := by decide +kernel
theorem dX5_mend_2 : decode cX5_mend 2 = .ok (.invokevirtual 99, 3) := by decide +kernel
theorem dX5_mend_5 : decode cX5_mend 5 = .ok (.ifCond .eq 15, 3) := by decide +kernel
theorem dX5_mend_8 : decode cX5_mend 8 = .ok (.iload_n 2, 1) := by decide +kernel
theorem dX5_mend_9 : decode cX5_mend 9 = .ok (.i2l, 1) := by decide +kernel
theorem dX5_mend_10 : decode cX5_mend 10 = .ok (.lconst 1, 1) := by decide +kernel
theorem dX5_mend_11 : decode cX5_mend 11 = .ok (.ldc2_w 75, 3) := by decide +kernel
theorem dX5_mend_14 : decode cX5_mend 14 = .ok (.invokestatic 68, 3) := by decide +kernel
theorem dX5_mend_17 : decode cX5_mend 17 = .ok (.ifCond .ne 5, 3) := by decide +kernel
theorem dX5_mend_20 : decode cX5_mend 20 = .ok (.iconst (-1), 1) := by decide +kernel
theorem dX5_mend_21 : decode cX5_mend 21 = .ok (.ireturn, 1) := by decide +kernel
theorem dX5_mend_22 : decode cX5_mend 22 = .ok (.aload_n 0, 1) := by decide +kernel
theorem dX5_mend_23 : decode cX5_mend 23 = .ok (.getfield 19, 3) := by decide +kernel
theorem dX5_mend_26 : decode cX5_mend 26 = .ok (.iconst 4, 1) := by decide +kernel
theorem dX5_mend_27 : decode cX5_mend 27 = .ok (.iload_n 1, 1) := by decide +kernel
theorem dX5_mend_28 : decode cX5_mend 28 = .ok (.imul, 1) := by decide +kernel
theorem dX5_mend_29 : decode cX5_mend 29 = .ok (.iaload, 1) := by decide +kernel
theorem dX5_mend_30 : decode cX5_mend 30 = .ok (.iconst 3, 1) := by decide +kernel
theorem dX5_mend_31 : decode cX5_mend 31 = .ok (.if_icmp .ne 6, 3) := by decide +kernel
theorem dX5_mend_34 : decode cX5_mend 34 = .ok (.bipush (-2), 2) := by decide +kernel
theorem dX5_mend_36 : decode cX5_mend 36 = .ok (.ireturn, 1) := by decide +kernel
theorem dX5_mend_37 : decode cX5_mend 37 = .ok (.aload_n 0, 1) := by decide +kernel
theorem dX5_mend_38 : decode cX5_mend 38 = .ok (.getfield 19, 3) := by decide +kernel
theorem dX5_mend_41 : decode cX5_mend 41 = .ok (.iconst 4, 1) := by decide +kernel
theorem dX5_mend_42 : decode cX5_mend 42 = .ok (.iload_n 1, 1) := by decide +kernel
theorem dX5_mend_43 : decode cX5_mend 43 = .ok (.imul, 1) := by decide +kernel
theorem dX5_mend_44 : decode cX5_mend 44 = .ok (.iconst 1, 1) := by decide +kernel
theorem dX5_mend_45 : decode cX5_mend 45 = .ok (.iadd, 1) := by decide +kernel
theorem dX5_mend_46 : decode cX5_mend 46 = .ok (.iaload, 1) := by decide +kernel
theorem dX5_mend_47 : decode cX5_mend 47 = .ok (.istore_n 3, 1) := by decide +kernel
theorem dX5_mend_48 : decode cX5_mend 48 = .ok (.aload_n 0, 1) := by decide +kernel
theorem dX5_mend_49 : decode cX5_mend 49 = .ok (.getfield 19, 3) := by decide +kernel
theorem dX5_mend_52 : decode cX5_mend 52 = .ok (.iconst 4, 1) := by decide +kernel
theorem dX5_mend_53 : decode cX5_mend 53 = .ok (.iload_n 1, 1) := by decide +kernel
theorem dX5_mend_54 : decode cX5_mend 54 = .ok (.imul, 1) := by decide +kernel
theorem dX5_mend_55 : decode cX5_mend 55 = .ok (.iconst 1, 1) := by decide +kernel
theorem dX5_mend_56 : decode cX5_mend 56 = .ok (.iadd, 1) := by decide +kernel
theorem dX5_mend_57 : decode cX5_mend 57 = .ok (.iload_n 2, 1) := by decide +kernel
theorem dX5_mend_58 : decode cX5_mend 58 = .ok (.iastore, 1) := by decide +kernel
theorem dX5_mend_59 : decode cX5_mend 59 = .ok (.iload_n 3, 1) := by decide +kernel
theorem dX5_mend_60 : decode cX5_mend 60 = .ok (.ireturn, 1) := by decide +kernel
theorem dX5_count_0 : decode cX5_count 0 = .ok (.iconst 0, 1) := by decide +kernel
theorem dX5_count_1 : decode cX5_count 1 = .ok (.istore_n 2, 1) := by decide +kernel
theorem dX5_count_2 : decode cX5_count 2 = .ok (.iconst 0, 1) := by decide +kernel
theorem dX5_count_3 : decode cX5_count 3 = .ok (.istore_n 3, 1) := by decide +kernel
theorem dX5_count_4 : decode cX5_count 4 = .ok (.iload_n 3, 1) := by decide +kernel
theorem dX5_count_5 : decode cX5_count 5 = .ok (.aload_n 0, 1) := by decide +kernel
theorem dX5_count_6 : decode cX5_count 6 = .ok (.getfield 64, 3) := by decide +kernel
theorem dX5_count_9 : decode cX5_count 9 = .ok (.if_icmp .ge 18, 3) := by decide +kernel
theorem dX5_count_12 : decode cX5_count 12 = .ok (.iload_n 2, 1) := by decide +kernel
theorem dX5_count_13 : decode cX5_count 13 = .ok (.aload_n 0, 1) := by decide +kernel
theorem dX5_count_14 : decode cX5_count 14 = .ok (.getfield 13, 3) := by decide +kernel
theorem dX5_count_17 : decode cX5_count 17 = .ok (.iload_n 3, 1) := by decide +kernel
theorem dX5_count_18 : decode cX5_count 18 = .ok (.iaload, 1) := by decide +kernel
theorem dX5_count_19 : decode cX5_count 19 = .ok (.iadd, 1) := by decide +kernel
theorem dX5_count_20 : decode cX5_count 20 = .ok (.istore_n 2, 1) := by decide +kernel
theorem dX5_count_21 : decode cX5_count 21 = .ok (.iinc 3 1, 3) := by decide +kernel
theorem dX5_count_24 : decode cX5_count 24 = .ok (.goto (-20), 3) := by decide +kernel
theorem dX5_count_27 : decode cX5_count 27 = .ok (.iload_n 1, 1) := by decide +kernel
theorem dX5_count_28 : decode cX5_count 28 = .ok (.tableswitch 58 0 4 #[36, 41, 46, 51, 56], 36) := by decide +kernel
theorem dX5_count_64 : decode cX5_count 64 = .ok (.aload_n 0, 1) := by decide +kernel
theorem dX5_count_65 : decode cX5_count 65 = .ok (.getfield 72, 3) := by decide +kernel
theorem dX5_count_68 : decode cX5_count 68 = .ok (.ireturn, 1) := by decide +kernel
theorem dX5_count_69 : decode cX5_count 69 = .ok (.aload_n 0, 1) := by decide +kernel
theorem dX5_count_70 : decode cX5_count 70 = .ok (.getfield 64, 3) := by decide +kernel
theorem dX5_count_73 : decode cX5_count 73 = .ok (.ireturn, 1) := by decide +kernel
theorem dX5_count_74 : decode cX5_count 74 = .ok (.aload_n 0, 1) := by decide +kernel
theorem dX5_count_75 : decode cX5_count 75 = .ok (.getfield 102, 3) := by decide +kernel
theorem dX5_count_78 : decode cX5_count 78 = .ok (.ireturn, 1) := by decide +kernel
theorem dX5_count_79 : decode cX5_count 79 = .ok (.aload_n 0, 1) := by decide +kernel
theorem dX5_count_80 : decode cX5_count 80 = .ok (.getfield 105, 3) := by decide +kernel
theorem dX5_count_83 : decode cX5_count 83 = .ok (.ireturn, 1) := by decide +kernel
theorem dX5_count_84 : decode cX5_count 84 = .ok (.iload_n 2, 1) := by decide +kernel
theorem dX5_count_85 : decode cX5_count 85 = .ok (.ireturn, 1) := by decide +kernel
theorem dX5_count_86 : decode cX5_count 86 = .ok (.iconst (-1), 1) := by decide +kernel
theorem dX5_count_87 : decode cX5_count 87 = .ok (.ireturn, 1) := by decide +kernel
theorem dX5_type_0 : decode cX5_type 0 = .ok (.iload_n 3, 1) := by decide +kernel
theorem dX5_type_1 : decode cX5_type 1 = .ok (.i2l, 1) := by decide +kernel
theorem dX5_type_2 : decode cX5_type 2 = .ok (.lconst 1, 1) := by decide +kernel
theorem dX5_type_3 : decode cX5_type 3 = .ok (.ldc2_w 108, 3) := by decide +kernel
theorem dX5_type_6 : decode cX5_type 6 = .ok (.invokestatic 68, 3) := by decide +kernel
theorem dX5_type_9 : decode cX5_type 9 = .ok (.ifCond .ne 5, 3) := by decide +kernel
theorem dX5_type_12 : decode cX5_type 12 = .ok (.iconst (-1), 1) := by decide +kernel
theorem dX5_type_13 : decode cX5_type 13 = .ok (.ireturn, 1) := by decide +kernel
theorem dX5_type_14 : decode cX5_type 14 = .ok (.iload_n 3, 1) := by decide +kernel
theorem dX5_type_15 : decode cX5_type 15 = .ok (.iconst 1, 1) := by decide +kernel
theorem dX5_type_16 : decode cX5_type 16 = .ok (.isub, 1) := by decide +kernel
theorem dX5_type_17 : decode cX5_type 17 = .ok (.istore 4, 2) := by decide +kernel
theorem dX5_type_19 : decode cX5_type 19 = .ok (.iload 4, 2) := by decide +kernel
theorem dX5_type_21 : decode cX5_type 21 = .ok (.ifCond .lt 34, 3) := by decide +kernel
theorem dX5_type_24 : decode cX5_type 24 = .ok (.lload_n 1, 1) := by decide +kernel
theorem dX5_type_25 : decode cX5_type 25 = .ok (.bipush 8, 2) := by decide +kernel
theorem dX5_type_27 : decode cX5_type 27 = .ok (.iload 4, 2) := by decide +kernel
theorem dX5_type_29 : decode cX5_type 29 = .ok (.imul, 1) := by decide +kernel
theorem dX5_type_30 : decode cX5_type 30 = .ok (.lshr, 1) := by decide +kernel
theorem dX5_type_31 : decode cX5_type 31 = .ok (.ldc2_w 110, 3) := by decide +kernel
theorem dX5_type_34 : decode cX5_type 34 = .ok (.land, 1) := by decide +kernel
theorem dX5_type_35 : decode cX5_type 35 = .ok (.ldc2_w 112, 3) := by decide +kernel
theorem dX5_type_38 : decode cX5_type 38 = .ok (.ldc2_w 114, 3) := by decide +kernel
theorem dX5_type_41 : decode cX5_type 41 = .ok (.invokestatic 68, 3) := by decide +kernel
theorem dX5_type_44 : decode cX5_type 44 = .ok (.ifCond .ne 5, 3) := by decide +kernel
theorem dX5_type_47 : decode cX5_type 47 = .ok (.iconst (-1), 1) := by decide +kernel
theorem dX5_type_48 : decode cX5_type 48 = .ok (.ireturn, 1) := by decide +kernel
theorem dX5_type_49 : decode cX5_type 49 = .ok (.iinc 4 (-1), 3) := by decide +kernel
theorem dX5_type_52 : decode cX5_type 52 = .ok (.goto (-33), 3) := by decide +kernel
theorem dX5_type_55 : decode cX5_type 55 = .ok (.aload_n 0, 1) := by decide +kernel
theorem dX5_type_56 : decode cX5_type 56 = .ok (.getfield 116, 3) := by decide +kernel
theorem dX5_type_59 : decode cX5_type 59 = .ok (.iload_n 3, 1) := by decide +kernel
theorem dX5_type_60 : decode cX5_type 60 = .ok (.iadd, 1) := by decide +kernel
theorem dX5_type_61 : decode cX5_type 61 = .ok (.bipush 120, 2) := by decide +kernel
theorem dX5_type_63 : decode cX5_type 63 = .ok (.if_icmp .le 6, 3) := by decide +kernel
theorem dX5_type_66 : decode cX5_type 66 = .ok (.bipush (-3), 2) := by decide +kernel
theorem dX5_type_68 : decode cX5_type 68 = .ok (.ireturn, 1) := by decide +kernel
theorem dX5_type_69 : decode cX5_type 69 = .ok (.iload_n 3, 1) := by decide +kernel
theorem dX5_type_70 : decode cX5_type 70 = .ok (.iconst 1, 1) := by decide +kernel
theorem dX5_type_71 : decode cX5_type 71 = .ok (.isub, 1) := by decide +kernel
theorem dX5_type_72 : decode cX5_type 72 = .ok (.istore 4, 2) := by decide +kernel
theorem dX5_type_74 : decode cX5_type 74 = .ok (.iload 4, 2) := by decide +kernel
theorem dX5_type_76 : decode cX5_type 76 = .ok (.ifCond .lt 40, 3) := by decide +kernel
theorem dX5_type_79 : decode cX5_type 79 = .ok (.aload_n 0, 1) := by decide +kernel
theorem dX5_type_80 : decode cX5_type 80 = .ok (.getfield 25, 3) := by decide +kernel
theorem dX5_type_83 : decode cX5_type 83 = .ok (.aload_n 0, 1) := by decide +kernel
theorem dX5_type_84 : decode cX5_type 84 = .ok (.getfield 116, 3) := by decide +kernel
theorem dX5_type_87 : decode cX5_type 87 = .ok (.lload_n 1, 1) := by decide +kernel
theorem dX5_type_88 : decode cX5_type 88 = .ok (.bipush 8, 2) := by decide +kernel
theorem dX5_type_90 : decode cX5_type 90 = .ok (.iload 4, 2) := by decide +kernel
theorem dX5_type_92 : decode cX5_type 92 = .ok (.imul, 1) := by decide +kernel
theorem dX5_type_93 : decode cX5_type 93 = .ok (.lshr, 1) := by decide +kernel
theorem dX5_type_94 : decode cX5_type 94 = .ok (.ldc2_w 110, 3) := by decide +kernel
theorem dX5_type_97 : decode cX5_type 97 = .ok (.land, 1) := by decide +kernel
theorem dX5_type_98 : decode cX5_type 98 = .ok (.l2i, 1) := by decide +kernel
theorem dX5_type_99 : decode cX5_type 99 = .ok (.iastore, 1) := by decide +kernel
theorem dX5_type_100 : decode cX5_type 100 = .ok (.aload_n 0, 1) := by decide +kernel
theorem dX5_type_101 : decode cX5_type 101 = .ok (.dup, 1) := by decide +kernel
theorem dX5_type_102 : decode cX5_type 102 = .ok (.getfield 116, 3) := by decide +kernel
theorem dX5_type_105 : decode cX5_type 105 = .ok (.iconst 1, 1) := by decide +kernel
theorem dX5_type_106 : decode cX5_type 106 = .ok (.iadd, 1) := by decide +kernel
theorem dX5_type_107 : decode cX5_type 107 = .ok (.putfield 116, 3) := by decide +kernel
theorem dX5_type_110 : decode cX5_type 110 = .ok (.iinc 4 (-1), 3) := by decide +kernel
theorem dX5_type_113 : decode cX5_type 113 = .ok (.goto (-39), 3) := by decide +kernel
theorem dX5_type_116 : decode cX5_type 116 = .ok (.aload_n 0, 1) := by decide +kernel
theorem dX5_type_117 : decode cX5_type 117 = .ok (.getfield 116, 3) := by decide +kernel
theorem dX5_type_120 : decode cX5_type 120 = .ok (.ireturn, 1) := by decide +kernel
theorem dX5_nextByte_0 : decode cX5_nextByte 0 = .ok (.aload_n 0, 1) := by decide +kernel
theorem dX5_nextByte_1 : decode cX5_nextByte 1 = .ok (.getfield 119, 3) := by decide +kernel
theorem dX5_nextByte_4 : decode cX5_nextByte 4 = .ok (.aload_n 0, 1) := by decide +kernel
theorem dX5_nextByte_5 : decode cX5_nextByte 5 = .ok (.getfield 116, 3) := by decide +kernel
theorem dX5_nextByte_8 : decode cX5_nextByte 8 = .ok (.if_icmp .ge 30, 3) := by decide +kernel
theorem dX5_nextByte_11 : decode cX5_nextByte 11 = .ok (.aload_n 0, 1) := by decide +kernel
theorem dX5_nextByte_12 : decode cX5_nextByte 12 = .ok (.getfield 25, 3) := by decide +kernel
theorem dX5_nextByte_15 : decode cX5_nextByte 15 = .ok (.aload_n 0, 1) := by decide +kernel
theorem dX5_nextByte_16 : decode cX5_nextByte 16 = .ok (.getfield 119, 3) := by decide +kernel
theorem dX5_nextByte_19 : decode cX5_nextByte 19 = .ok (.iaload, 1) := by decide +kernel
theorem dX5_nextByte_20 : decode cX5_nextByte 20 = .ok (.bipush 32, 2) := by decide +kernel
theorem dX5_nextByte_22 : decode cX5_nextByte 22 = .ok (.if_icmp .ne 16, 3) := by decide +kernel
theorem dX5_nextByte_25 : decode cX5_nextByte 25 = .ok (.aload_n 0, 1) := by decide +kernel
theorem dX5_nextByte_26 : decode cX5_nextByte 26 = .ok (.dup, 1) := by decide +kernel
theorem dX5_nextByte_27 : decode cX5_nextByte 27 = .ok (.getfield 119, 3) := by decide +kernel
theorem dX5_nextByte_30 : decode cX5_nextByte 30 = .ok (.iconst 1, 1) := by decide +kernel
theorem dX5_nextByte_31 : decode cX5_nextByte 31 = .ok (.iadd, 1) := by decide +kernel
theorem dX5_nextByte_32 : decode cX5_nextByte 32 = .ok (.putfield 119, 3) := by decide +kernel
theorem dX5_nextByte_35 : decode cX5_nextByte 35 = .ok (.goto (-35), 3) := by decide +kernel
theorem dX5_nextByte_38 : decode cX5_nextByte 38 = .ok (.aload_n 0, 1) := by decide +kernel
theorem dX5_nextByte_39 : decode cX5_nextByte 39 = .ok (.getfield 119, 3) := by decide +kernel
theorem dX5_nextByte_42 : decode cX5_nextByte 42 = .ok (.aload_n 0, 1) := by decide +kernel
theorem dX5_nextByte_43 : decode cX5_nextByte 43 = .ok (.getfield 116, 3) := by decide +kernel
theorem dX5_nextByte_46 : decode cX5_nextByte 46 = .ok (.if_icmp .ge 15, 3) := by decide +kernel
theorem dX5_nextByte_49 : decode cX5_nextByte 49 = .ok (.aload_n 0, 1) := by decide +kernel
theorem dX5_nextByte_50 : decode cX5_nextByte 50 = .ok (.getfield 25, 3) := by decide +kernel
theorem dX5_nextByte_53 : decode cX5_nextByte 53 = .ok (.aload_n 0, 1) := by decide +kernel
theorem dX5_nextByte_54 : decode cX5_nextByte 54 = .ok (.getfield 119, 3) := by decide +kernel
theorem dX5_nextByte_57 : decode cX5_nextByte 57 = .ok (.iaload, 1) := by decide +kernel
theorem dX5_nextByte_58 : decode cX5_nextByte 58 = .ok (.goto 4, 3) := by decide +kernel
theorem dX5_nextByte_61 : decode cX5_nextByte 61 = .ok (.iconst (-1), 1) := by decide +kernel
theorem dX5_nextByte_62 : decode cX5_nextByte 62 = .ok (.ireturn, 1) := by decide +kernel
theorem dX5_takes_0 : decode cX5_takes 0 = .ok (.aload_n 0, 1) := by decide +kernel
theorem dX5_takes_1 : decode cX5_takes 1 = .ok (.invokevirtual 122, 3) := by decide +kernel
theorem dX5_takes_4 : decode cX5_takes 4 = .ok (.iload_n 1, 1) := by decide +kernel
theorem dX5_takes_5 : decode cX5_takes 5 = .ok (.if_icmp .ne 7, 3) := by decide +kernel
theorem dX5_takes_8 : decode cX5_takes 8 = .ok (.iconst 1, 1) := by decide +kernel
theorem dX5_takes_9 : decode cX5_takes 9 = .ok (.goto 4, 3) := by decide +kernel
theorem dX5_takes_12 : decode cX5_takes 12 = .ok (.iconst 0, 1) := by decide +kernel
theorem dX5_takes_13 : decode cX5_takes 13 = .ok (.istore_n 2, 1) := by decide +kernel
theorem dX5_takes_14 : decode cX5_takes 14 = .ok (.aload_n 0, 1) := by decide +kernel
theorem dX5_takes_15 : decode cX5_takes 15 = .ok (.dup, 1) := by decide +kernel
theorem dX5_takes_16 : decode cX5_takes 16 = .ok (.getfield 119, 3) := by decide +kernel
theorem dX5_takes_19 : decode cX5_takes 19 = .ok (.iload_n 2, 1) := by decide +kernel
theorem dX5_takes_20 : decode cX5_takes 20 = .ok (.ifCond .eq 7, 3) := by decide +kernel
theorem dX5_takes_23 : decode cX5_takes 23 = .ok (.iconst 1, 1) := by decide +kernel
theorem dX5_takes_24 : decode cX5_takes 24 = .ok (.goto 4, 3) := by decide +kernel
theorem dX5_takes_27 : decode cX5_takes 27 = .ok (.iconst 0, 1) := by decide +kernel
theorem dX5_takes_28 : decode cX5_takes 28 = .ok (.iadd, 1) := by decide +kernel
theorem dX5_takes_29 : decode cX5_takes 29 = .ok (.putfield 119, 3) := by decide +kernel
theorem dX5_takes_32 : decode cX5_takes 32 = .ok (.iload_n 2, 1) := by decide +kernel
theorem dX5_takes_33 : decode cX5_takes 33 = .ok (.ireturn, 1) := by decide +kernel
theorem dX5_readNumber_0 : decode cX5_readNumber 0 = .ok (.aload_n 0, 1) := by decide +kernel
theorem dX5_readNumber_1 : decode cX5_readNumber 1 = .ok (.invokevirtual 122, 3) := by decide +kernel
theorem dX5_readNumber_4 : decode cX5_readNumber 4 = .ok (.pop, 1) := by decide +kernel
theorem dX5_readNumber_5 : decode cX5_readNumber 5 = .ok (.aload_n 0, 1) := by decide +kernel
theorem dX5_readNumber_6 : decode cX5_readNumber 6 = .ok (.getfield 119, 3) := by decide +kernel
theorem dX5_readNumber_9 : decode cX5_readNumber 9 = .ok (.istore_n 3, 1) := by decide +kernel
theorem dX5_readNumber_10 : decode cX5_readNumber 10 = .ok (.iconst 0, 1) := by decide +kernel
theorem dX5_readNumber_11 : decode cX5_readNumber 11 = .ok (.istore 4, 2) := by decide +kernel
theorem dX5_readNumber_13 : decode cX5_readNumber 13 = .ok (.aload_n 0, 1) := by decide +kernel
theorem dX5_readNumber_14 : decode cX5_readNumber 14 = .ok (.getfield 119, 3) := by decide +kernel
theorem dX5_readNumber_17 : decode cX5_readNumber 17 = .ok (.aload_n 0, 1) := by decide +kernel
theorem dX5_readNumber_18 : decode cX5_readNumber 18 = .ok (.getfield 116, 3) := by decide +kernel
theorem dX5_readNumber_21 : decode cX5_readNumber 21 = .ok (.if_icmp .ge 70, 3) := by decide +kernel
theorem dX5_readNumber_24 : decode cX5_readNumber 24 = .ok (.aload_n 0, 1) := by decide +kernel
theorem dX5_readNumber_25 : decode cX5_readNumber 25 = .ok (.getfield 25, 3) := by decide +kernel
theorem dX5_readNumber_28 : decode cX5_readNumber 28 = .ok (.aload_n 0, 1) := by decide +kernel
theorem dX5_readNumber_29 : decode cX5_readNumber 29 = .ok (.getfield 119, 3) := by decide +kernel
theorem dX5_readNumber_32 : decode cX5_readNumber 32 = .ok (.iaload, 1) := by decide +kernel
theorem dX5_readNumber_33 : decode cX5_readNumber 33 = .ok (.i2l, 1) := by decide +kernel
theorem dX5_readNumber_34 : decode cX5_readNumber 34 = .ok (.ldc2_w 126, 3) := by decide +kernel
theorem dX5_readNumber_37 : decode cX5_readNumber 37 = .ok (.ldc2_w 128, 3) := by decide +kernel
theorem dX5_readNumber_40 : decode cX5_readNumber 40 = .ok (.invokestatic 68, 3) := by decide +kernel
theorem dX5_readNumber_43 : decode cX5_readNumber 43 = .ok (.ifCond .eq 48, 3) := by decide +kernel
theorem dX5_readNumber_46 : decode cX5_readNumber 46 = .ok (.iload 4, 2) := by decide +kernel
theorem dX5_readNumber_48 : decode cX5_readNumber 48 = .ok (.ldc 130, 2) := by decide +kernel
theorem dX5_readNumber_50 : decode cX5_readNumber 50 = .ok (.if_icmp .le 8, 3) := by decide +kernel
theorem dX5_readNumber_53 : decode cX5_readNumber 53 = .ok (.iload 4, 2) := by decide +kernel
theorem dX5_readNumber_55 : decode cX5_readNumber 55 = .ok (.goto 21, 3) := by decide +kernel
theorem dX5_readNumber_58 : decode cX5_readNumber 58 = .ok (.bipush 10, 2) := by decide +kernel
theorem dX5_readNumber_60 : decode cX5_readNumber 60 = .ok (.iload 4, 2) := by decide +kernel
theorem dX5_readNumber_62 : decode cX5_readNumber 62 = .ok (.imul, 1) := by decide +kernel
theorem dX5_readNumber_63 : decode cX5_readNumber 63 = .ok (.aload_n 0, 1) := by decide +kernel
theorem dX5_readNumber_64 : decode cX5_readNumber 64 = .ok (.getfield 25, 3) := by decide +kernel
theorem dX5_readNumber_67 : decode cX5_readNumber 67 = .ok (.aload_n 0, 1) := by decide +kernel
theorem dX5_readNumber_68 : decode cX5_readNumber 68 = .ok (.getfield 119, 3) := by decide +kernel
theorem dX5_readNumber_71 : decode cX5_readNumber 71 = .ok (.iaload, 1) := by decide +kernel
theorem dX5_readNumber_72 : decode cX5_readNumber 72 = .ok (.iadd, 1) := by decide +kernel
theorem dX5_readNumber_73 : decode cX5_readNumber 73 = .ok (.bipush 48, 2) := by decide +kernel
theorem dX5_readNumber_75 : decode cX5_readNumber 75 = .ok (.isub, 1) := by decide +kernel
theorem dX5_readNumber_76 : decode cX5_readNumber 76 = .ok (.istore 4, 2) := by decide +kernel
theorem dX5_readNumber_78 : decode cX5_readNumber 78 = .ok (.aload_n 0, 1) := by decide +kernel
theorem dX5_readNumber_79 : decode cX5_readNumber 79 = .ok (.dup, 1) := by decide +kernel
theorem dX5_readNumber_80 : decode cX5_readNumber 80 = .ok (.getfield 119, 3) := by decide +kernel
theorem dX5_readNumber_83 : decode cX5_readNumber 83 = .ok (.iconst 1, 1) := by decide +kernel
theorem dX5_readNumber_84 : decode cX5_readNumber 84 = .ok (.iadd, 1) := by decide +kernel
theorem dX5_readNumber_85 : decode cX5_readNumber 85 = .ok (.putfield 119, 3) := by decide +kernel
theorem dX5_readNumber_88 : decode cX5_readNumber 88 = .ok (.goto (-75), 3) := by decide +kernel
theorem dX5_readNumber_91 : decode cX5_readNumber 91 = .ok (.aload_n 0, 1) := by decide +kernel
theorem dX5_readNumber_92 : decode cX5_readNumber 92 = .ok (.getfield 119, 3) := by decide +kernel
theorem dX5_readNumber_95 : decode cX5_readNumber 95 = .ok (.iload_n 3, 1) := by decide +kernel
theorem dX5_readNumber_96 : decode cX5_readNumber 96 = .ok (.if_icmp .ne 5, 3) := by decide +kernel
theorem dX5_readNumber_99 : decode cX5_readNumber 99 = .ok (.iconst (-1), 1) := by decide +kernel
theorem dX5_readNumber_100 : decode cX5_readNumber 100 = .ok (.ireturn, 1) := by decide +kernel
theorem dX5_readNumber_101 : decode cX5_readNumber 101 = .ok (.iload 4, 2) := by decide +kernel
theorem dX5_readNumber_103 : decode cX5_readNumber 103 = .ok (.i2l, 1) := by decide +kernel
theorem dX5_readNumber_104 : decode cX5_readNumber 104 = .ok (.iload_n 1, 1) := by decide +kernel
theorem dX5_readNumber_105 : decode cX5_readNumber 105 = .ok (.i2l, 1) := by decide +kernel
theorem dX5_readNumber_106 : decode cX5_readNumber 106 = .ok (.iload_n 2, 1) := by decide +kernel
theorem dX5_readNumber_107 : decode cX5_readNumber 107 = .ok (.i2l, 1) := by decide +kernel
theorem dX5_readNumber_108 : decode cX5_readNumber 108 = .ok (.invokestatic 68, 3) := by decide +kernel
theorem dX5_readNumber_111 : decode cX5_readNumber 111 = .ok (.ifCond .ne 10, 3) := by decide +kernel
theorem dX5_readNumber_114 : decode cX5_readNumber 114 = .ok (.aload_n 0, 1) := by decide +kernel
theorem dX5_readNumber_115 : decode cX5_readNumber 115 = .ok (.iload_n 3, 1) := by decide +kernel
theorem dX5_readNumber_116 : decode cX5_readNumber 116 = .ok (.putfield 119, 3) := by decide +kernel
theorem dX5_readNumber_119 : decode cX5_readNumber 119 = .ok (.iconst (-1), 1) := by decide +kernel
theorem dX5_readNumber_120 : decode cX5_readNumber 120 = .ok (.ireturn, 1) := by decide +kernel
theorem dX5_readNumber_121 : decode cX5_readNumber 121 = .ok (.iload 4, 2) := by decide +kernel
theorem dX5_readNumber_123 : decode cX5_readNumber 123 = .ok (.ireturn, 1) := by decide +kernel
theorem dX5_readSieve_0 : decode cX5_readSieve 0 = .ok (.aload_n 0, 1) := by decide +kernel
theorem dX5_readSieve_1 : decode cX5_readSieve 1 = .ok (.invokevirtual 122, 3) := by decide +kernel
theorem dX5_readSieve_4 : decode cX5_readSieve 4 = .ok (.istore_n 2, 1) := by decide +kernel
theorem dX5_readSieve_5 : decode cX5_readSieve 5 = .ok (.aload_n 0, 1) := by decide +kernel
theorem dX5_readSieve_6 : decode cX5_readSieve 6 = .ok (.getfield 28, 3) := by decide +kernel
theorem dX5_readSieve_9 : decode cX5_readSieve 9 = .ok (.iload_n 1, 1) := by decide +kernel
theorem dX5_readSieve_10 : decode cX5_readSieve 10 = .ok (.iload_n 2, 1) := by decide +kernel
theorem dX5_readSieve_11 : decode cX5_readSieve 11 = .ok (.bipush 112, 2) := by decide +kernel
theorem dX5_readSieve_13 : decode cX5_readSieve 13 = .ok (.if_icmp .ne 7, 3) := by decide +kernel
theorem dX5_readSieve_16 : decode cX5_readSieve 16 = .ok (.iconst 0, 1) := by decide +kernel
theorem dX5_readSieve_17 : decode cX5_readSieve 17 = .ok (.goto 34, 3) := by decide +kernel
theorem dX5_readSieve_20 : decode cX5_readSieve 20 = .ok (.iload_n 2, 1) := by decide +kernel
theorem dX5_readSieve_21 : decode cX5_readSieve 21 = .ok (.bipush 115, 2) := by decide +kernel
theorem dX5_readSieve_23 : decode cX5_readSieve 23 = .ok (.if_icmp .ne 7, 3) := by decide +kernel
theorem dX5_readSieve_26 : decode cX5_readSieve 26 = .ok (.iconst 1, 1) := by decide +kernel
theorem dX5_readSieve_27 : decode cX5_readSieve 27 = .ok (.goto 24, 3) := by decide +kernel
theorem dX5_readSieve_30 : decode cX5_readSieve 30 = .ok (.iload_n 2, 1) := by decide +kernel
theorem dX5_readSieve_31 : decode cX5_readSieve 31 = .ok (.bipush 107, 2) := by decide +kernel
theorem dX5_readSieve_33 : decode cX5_readSieve 33 = .ok (.if_icmp .ne 7, 3) := by decide +kernel
theorem dX5_readSieve_36 : decode cX5_readSieve 36 = .ok (.iconst 2, 1) := by decide +kernel
theorem dX5_readSieve_37 : decode cX5_readSieve 37 = .ok (.goto 14, 3) := by decide +kernel
theorem dX5_readSieve_40 : decode cX5_readSieve 40 = .ok (.iload_n 2, 1) := by decide +kernel
theorem dX5_readSieve_41 : decode cX5_readSieve 41 = .ok (.bipush 116, 2) := by decide +kernel
theorem dX5_readSieve_43 : decode cX5_readSieve 43 = .ok (.if_icmp .ne 7, 3) := by decide +kernel
theorem dX5_readSieve_46 : decode cX5_readSieve 46 = .ok (.iconst 3, 1) := by decide +kernel
theorem dX5_readSieve_47 : decode cX5_readSieve 47 = .ok (.goto 4, 3) := by decide +kernel
theorem dX5_readSieve_50 : decode cX5_readSieve 50 = .ok (.iconst (-1), 1) := by decide +kernel
theorem dX5_readSieve_51 : decode cX5_readSieve 51 = .ok (.iastore, 1) := by decide +kernel
theorem dX5_readSieve_52 : decode cX5_readSieve 52 = .ok (.aload_n 0, 1) := by decide +kernel
theorem dX5_readSieve_53 : decode cX5_readSieve 53 = .ok (.getfield 28, 3) := by decide +kernel
theorem dX5_readSieve_56 : decode cX5_readSieve 56 = .ok (.iload_n 1, 1) := by decide +kernel
theorem dX5_readSieve_57 : decode cX5_readSieve 57 = .ok (.iaload, 1) := by decide +kernel
theorem dX5_readSieve_58 : decode cX5_readSieve 58 = .ok (.ifCond .ge 5, 3) := by decide +kernel
theorem dX5_readSieve_61 : decode cX5_readSieve 61 = .ok (.iconst 0, 1) := by decide +kernel
theorem dX5_readSieve_62 : decode cX5_readSieve 62 = .ok (.ireturn, 1) := by decide +kernel
theorem dX5_readSieve_63 : decode cX5_readSieve 63 = .ok (.aload_n 0, 1) := by decide +kernel
theorem dX5_readSieve_64 : decode cX5_readSieve 64 = .ok (.dup, 1) := by decide +kernel
theorem dX5_readSieve_65 : decode cX5_readSieve 65 = .ok (.getfield 119, 3) := by decide +kernel
theorem dX5_readSieve_68 : decode cX5_readSieve 68 = .ok (.iconst 1, 1) := by decide +kernel
theorem dX5_readSieve_69 : decode cX5_readSieve 69 = .ok (.iadd, 1) := by decide +kernel
theorem dX5_readSieve_70 : decode cX5_readSieve 70 = .ok (.putfield 119, 3) := by decide +kernel
theorem dX5_readSieve_73 : decode cX5_readSieve 73 = .ok (.aload_n 0, 1) := by decide +kernel
theorem dX5_readSieve_74 : decode cX5_readSieve 74 = .ok (.getfield 28, 3) := by decide +kernel
theorem dX5_readSieve_77 : decode cX5_readSieve 77 = .ok (.iload_n 1, 1) := by decide +kernel
theorem dX5_readSieve_78 : decode cX5_readSieve 78 = .ok (.iconst 1, 1) := by decide +kernel
theorem dX5_readSieve_79 : decode cX5_readSieve 79 = .ok (.iadd, 1) := by decide +kernel
theorem dX5_readSieve_80 : decode cX5_readSieve 80 = .ok (.aload_n 0, 1) := by decide +kernel
theorem dX5_readSieve_81 : decode cX5_readSieve 81 = .ok (.iconst 1, 1) := by decide +kernel
theorem dX5_readSieve_82 : decode cX5_readSieve 82 = .ok (.bipush 60, 2) := by decide +kernel
theorem dX5_readSieve_84 : decode cX5_readSieve 84 = .ok (.invokevirtual 131, 3) := by decide +kernel
theorem dX5_readSieve_87 : decode cX5_readSieve 87 = .ok (.iastore, 1) := by decide +kernel
theorem dX5_readSieve_88 : decode cX5_readSieve 88 = .ok (.aload_n 0, 1) := by decide +kernel
theorem dX5_readSieve_89 : decode cX5_readSieve 89 = .ok (.getfield 28, 3) := by decide +kernel
theorem dX5_readSieve_92 : decode cX5_readSieve 92 = .ok (.iload_n 1, 1) := by decide +kernel
theorem dX5_readSieve_93 : decode cX5_readSieve 93 = .ok (.iconst 1, 1) := by decide +kernel
theorem dX5_readSieve_94 : decode cX5_readSieve 94 = .ok (.iadd, 1) := by decide +kernel
theorem dX5_readSieve_95 : decode cX5_readSieve 95 = .ok (.iaload, 1) := by decide +kernel
theorem dX5_readSieve_96 : decode cX5_readSieve 96 = .ok (.ifCond .ge 5, 3) := by decide +kernel
theorem dX5_readSieve_99 : decode cX5_readSieve 99 = .ok (.iconst 0, 1) := by decide +kernel
theorem dX5_readSieve_100 : decode cX5_readSieve 100 = .ok (.ireturn, 1) := by decide +kernel
theorem dX5_readSieve_101 : decode cX5_readSieve 101 = .ok (.aload_n 0, 1) := by decide +kernel
theorem dX5_readSieve_102 : decode cX5_readSieve 102 = .ok (.getfield 28, 3) := by decide +kernel
theorem dX5_readSieve_105 : decode cX5_readSieve 105 = .ok (.iload_n 1, 1) := by decide +kernel
theorem dX5_readSieve_106 : decode cX5_readSieve 106 = .ok (.iconst 2, 1) := by decide +kernel
theorem dX5_readSieve_107 : decode cX5_readSieve 107 = .ok (.iadd, 1) := by decide +kernel
theorem dX5_readSieve_108 : decode cX5_readSieve 108 = .ok (.aload_n 0, 1) := by decide +kernel
theorem dX5_readSieve_109 : decode cX5_readSieve 109 = .ok (.bipush 104, 2) := by decide +kernel
theorem dX5_readSieve_111 : decode cX5_readSieve 111 = .ok (.invokevirtual 135, 3) := by decide +kernel
theorem dX5_readSieve_114 : decode cX5_readSieve 114 = .ok (.ifCond .eq 13, 3) := by decide +kernel
theorem dX5_readSieve_117 : decode cX5_readSieve 117 = .ok (.aload_n 0, 1) := by decide +kernel
theorem dX5_readSieve_118 : decode cX5_readSieve 118 = .ok (.iconst 1, 1) := by decide +kernel
theorem dX5_readSieve_119 : decode cX5_readSieve 119 = .ok (.ldc 138, 2) := by decide +kernel
theorem dX5_readSieve_121 : decode cX5_readSieve 121 = .ok (.invokevirtual 131, 3) := by decide +kernel
theorem dX5_readSieve_124 : decode cX5_readSieve 124 = .ok (.goto 5, 3) := by decide +kernel
theorem dX5_readSieve_127 : decode cX5_readSieve 127 = .ok (.ldc 138, 2) := by decide +kernel
theorem dX5_readSieve_129 : decode cX5_readSieve 129 = .ok (.iastore, 1) := by decide +kernel
theorem dX5_readSieve_130 : decode cX5_readSieve 130 = .ok (.aload_n 0, 1) := by decide +kernel
theorem dX5_readSieve_131 : decode cX5_readSieve 131 = .ok (.getfield 28, 3) := by decide +kernel
theorem dX5_readSieve_134 : decode cX5_readSieve 134 = .ok (.iload_n 1, 1) := by decide +kernel
theorem dX5_readSieve_135 : decode cX5_readSieve 135 = .ok (.iconst 2, 1) := by decide +kernel
theorem dX5_readSieve_136 : decode cX5_readSieve 136 = .ok (.iadd, 1) := by decide +kernel
theorem dX5_readSieve_137 : decode cX5_readSieve 137 = .ok (.iaload, 1) := by decide +kernel
theorem dX5_readSieve_138 : decode cX5_readSieve 138 = .ok (.ifCond .ge 5, 3) := by decide +kernel
theorem dX5_readSieve_141 : decode cX5_readSieve 141 = .ok (.iconst 0, 1) := by decide +kernel
theorem dX5_readSieve_142 : decode cX5_readSieve 142 = .ok (.ireturn, 1) := by decide +kernel
theorem dX5_readSieve_143 : decode cX5_readSieve 143 = .ok (.aload_n 0, 1) := by decide +kernel
theorem dX5_readSieve_144 : decode cX5_readSieve 144 = .ok (.getfield 28, 3) := by decide +kernel
theorem dX5_readSieve_147 : decode cX5_readSieve 147 = .ok (.iload_n 1, 1) := by decide +kernel
theorem dX5_readSieve_148 : decode cX5_readSieve 148 = .ok (.iconst 3, 1) := by decide +kernel
theorem dX5_readSieve_149 : decode cX5_readSieve 149 = .ok (.iadd, 1) := by decide +kernel
theorem dX5_readSieve_150 : decode cX5_readSieve 150 = .ok (.iconst 0, 1) := by decide +kernel
theorem dX5_readSieve_151 : decode cX5_readSieve 151 = .ok (.iastore, 1) := by decide +kernel
theorem dX5_readSieve_152 : decode cX5_readSieve 152 = .ok (.aload_n 0, 1) := by decide +kernel
theorem dX5_readSieve_153 : decode cX5_readSieve 153 = .ok (.bipush 119, 2) := by decide +kernel
theorem dX5_readSieve_155 : decode cX5_readSieve 155 = .ok (.invokevirtual 135, 3) := by decide +kernel
theorem dX5_readSieve_158 : decode cX5_readSieve 158 = .ok (.ifCond .eq 49, 3) := by decide +kernel
theorem dX5_readSieve_161 : decode cX5_readSieve 161 = .ok (.aload_n 0, 1) := by decide +kernel
theorem dX5_readSieve_162 : decode cX5_readSieve 162 = .ok (.getfield 28, 3) := by decide +kernel
theorem dX5_readSieve_165 : decode cX5_readSieve 165 = .ok (.iload_n 1, 1) := by decide +kernel
theorem dX5_readSieve_166 : decode cX5_readSieve 166 = .ok (.iconst 3, 1) := by decide +kernel
theorem dX5_readSieve_167 : decode cX5_readSieve 167 = .ok (.iadd, 1) := by decide +kernel
theorem dX5_readSieve_168 : decode cX5_readSieve 168 = .ok (.aload_n 0, 1) := by decide +kernel
theorem dX5_readSieve_169 : decode cX5_readSieve 169 = .ok (.invokevirtual 122, 3) := by decide +kernel
theorem dX5_readSieve_172 : decode cX5_readSieve 172 = .ok (.bipush 48, 2) := by decide +kernel
theorem dX5_readSieve_174 : decode cX5_readSieve 174 = .ok (.isub, 1) := by decide +kernel
theorem dX5_readSieve_175 : decode cX5_readSieve 175 = .ok (.iastore, 1) := by decide +kernel
theorem dX5_readSieve_176 : decode cX5_readSieve 176 = .ok (.aload_n 0, 1) := by decide +kernel
theorem dX5_readSieve_177 : decode cX5_readSieve 177 = .ok (.getfield 28, 3) := by decide +kernel
theorem dX5_readSieve_180 : decode cX5_readSieve 180 = .ok (.iload_n 1, 1) := by decide +kernel
theorem dX5_readSieve_181 : decode cX5_readSieve 181 = .ok (.iconst 3, 1) := by decide +kernel
theorem dX5_readSieve_182 : decode cX5_readSieve 182 = .ok (.iadd, 1) := by decide +kernel
theorem dX5_readSieve_183 : decode cX5_readSieve 183 = .ok (.iaload, 1) := by decide +kernel
theorem dX5_readSieve_184 : decode cX5_readSieve 184 = .ok (.i2l, 1) := by decide +kernel
theorem dX5_readSieve_185 : decode cX5_readSieve 185 = .ok (.lconst 0, 1) := by decide +kernel
theorem dX5_readSieve_186 : decode cX5_readSieve 186 = .ok (.ldc2_w 91, 3) := by decide +kernel
theorem dX5_readSieve_189 : decode cX5_readSieve 189 = .ok (.invokestatic 68, 3) := by decide +kernel
theorem dX5_readSieve_192 : decode cX5_readSieve 192 = .ok (.ifCond .ne 5, 3) := by decide +kernel
theorem dX5_readSieve_195 : decode cX5_readSieve 195 = .ok (.iconst 0, 1) := by decide +kernel
theorem dX5_readSieve_196 : decode cX5_readSieve 196 = .ok (.ireturn, 1) := by decide +kernel
theorem dX5_readSieve_197 : decode cX5_readSieve 197 = .ok (.aload_n 0, 1) := by decide +kernel
theorem dX5_readSieve_198 : decode cX5_readSieve 198 = .ok (.dup, 1) := by decide +kernel
theorem dX5_readSieve_199 : decode cX5_readSieve 199 = .ok (.getfield 119, 3) := by decide +kernel
theorem dX5_readSieve_202 : decode cX5_readSieve 202 = .ok (.iconst 1, 1) := by decide +kernel
theorem dX5_readSieve_203 : decode cX5_readSieve 203 = .ok (.iadd, 1) := by decide +kernel
theorem dX5_readSieve_204 : decode cX5_readSieve 204 = .ok (.putfield 119, 3) := by decide +kernel
theorem dX5_readSieve_207 : decode cX5_readSieve 207 = .ok (.iconst 1, 1) := by decide +kernel
theorem dX5_readSieve_208 : decode cX5_readSieve 208 = .ok (.ireturn, 1) := by decide +kernel
theorem dX5_readGrain_0 : decode cX5_readGrain 0 = .ok (.aload_n 0, 1) := by decide +kernel
theorem dX5_readGrain_1 : decode cX5_readGrain 1 = .ok (.getfield 28, 3) := by decide +kernel
theorem dX5_readGrain_4 : decode cX5_readGrain 4 = .ok (.iload_n 1, 1) := by decide +kernel
theorem dX5_readGrain_5 : decode cX5_readGrain 5 = .ok (.aload_n 0, 1) := by decide +kernel
theorem dX5_readGrain_6 : decode cX5_readGrain 6 = .ok (.iconst 1, 1) := by decide +kernel
theorem dX5_readGrain_7 : decode cX5_readGrain 7 = .ok (.bipush 60, 2) := by decide +kernel
theorem dX5_readGrain_9 : decode cX5_readGrain 9 = .ok (.invokevirtual 131, 3) := by decide +kernel
theorem dX5_readGrain_12 : decode cX5_readGrain 12 = .ok (.iastore, 1) := by decide +kernel
theorem dX5_readGrain_13 : decode cX5_readGrain 13 = .ok (.aload_n 0, 1) := by decide +kernel
theorem dX5_readGrain_14 : decode cX5_readGrain 14 = .ok (.getfield 28, 3) := by decide +kernel
theorem dX5_readGrain_17 : decode cX5_readGrain 17 = .ok (.iload_n 1, 1) := by decide +kernel
theorem dX5_readGrain_18 : decode cX5_readGrain 18 = .ok (.iaload, 1) := by decide +kernel
theorem dX5_readGrain_19 : decode cX5_readGrain 19 = .ok (.ifCond .ge 5, 3) := by decide +kernel
theorem dX5_readGrain_22 : decode cX5_readGrain 22 = .ok (.iconst 0, 1) := by decide +kernel
theorem dX5_readGrain_23 : decode cX5_readGrain 23 = .ok (.ireturn, 1) := by decide +kernel
theorem dX5_readGrain_24 : decode cX5_readGrain 24 = .ok (.aload_n 0, 1) := by decide +kernel
theorem dX5_readGrain_25 : decode cX5_readGrain 25 = .ok (.getfield 28, 3) := by decide +kernel
theorem dX5_readGrain_28 : decode cX5_readGrain 28 = .ok (.iload_n 1, 1) := by decide +kernel
theorem dX5_readGrain_29 : decode cX5_readGrain 29 = .ok (.iconst 1, 1) := by decide +kernel
theorem dX5_readGrain_30 : decode cX5_readGrain 30 = .ok (.iadd, 1) := by decide +kernel
theorem dX5_readGrain_31 : decode cX5_readGrain 31 = .ok (.aload_n 0, 1) := by decide +kernel
theorem dX5_readGrain_32 : decode cX5_readGrain 32 = .ok (.bipush 42, 2) := by decide +kernel
theorem dX5_readGrain_34 : decode cX5_readGrain 34 = .ok (.invokevirtual 135, 3) := by decide +kernel
theorem dX5_readGrain_37 : decode cX5_readGrain 37 = .ok (.ifCond .eq 14, 3) := by decide +kernel
theorem dX5_readGrain_40 : decode cX5_readGrain 40 = .ok (.aload_n 0, 1) := by decide +kernel
theorem dX5_readGrain_41 : decode cX5_readGrain 41 = .ok (.iconst 0, 1) := by decide +kernel
theorem dX5_readGrain_42 : decode cX5_readGrain 42 = .ok (.sipush 9999, 3) := by decide +kernel
theorem dX5_readGrain_45 : decode cX5_readGrain 45 = .ok (.invokevirtual 131, 3) := by decide +kernel
theorem dX5_readGrain_48 : decode cX5_readGrain 48 = .ok (.goto 4, 3) := by decide +kernel
theorem dX5_readGrain_51 : decode cX5_readGrain 51 = .ok (.iconst 1, 1) := by decide +kernel
theorem dX5_readGrain_52 : decode cX5_readGrain 52 = .ok (.iastore, 1) := by decide +kernel
theorem dX5_readGrain_53 : decode cX5_readGrain 53 = .ok (.aload_n 0, 1) := by decide +kernel
theorem dX5_readGrain_54 : decode cX5_readGrain 54 = .ok (.getfield 28, 3) := by decide +kernel
theorem dX5_readGrain_57 : decode cX5_readGrain 57 = .ok (.iload_n 1, 1) := by decide +kernel
theorem dX5_readGrain_58 : decode cX5_readGrain 58 = .ok (.iconst 1, 1) := by decide +kernel
theorem dX5_readGrain_59 : decode cX5_readGrain 59 = .ok (.iadd, 1) := by decide +kernel
theorem dX5_readGrain_60 : decode cX5_readGrain 60 = .ok (.iaload, 1) := by decide +kernel
theorem dX5_readGrain_61 : decode cX5_readGrain 61 = .ok (.ifCond .ge 5, 3) := by decide +kernel
theorem dX5_readGrain_64 : decode cX5_readGrain 64 = .ok (.iconst 0, 1) := by decide +kernel
theorem dX5_readGrain_65 : decode cX5_readGrain 65 = .ok (.ireturn, 1) := by decide +kernel
theorem dX5_readGrain_66 : decode cX5_readGrain 66 = .ok (.aload_n 0, 1) := by decide +kernel
theorem dX5_readGrain_67 : decode cX5_readGrain 67 = .ok (.getfield 28, 3) := by decide +kernel
theorem dX5_readGrain_70 : decode cX5_readGrain 70 = .ok (.iload_n 1, 1) := by decide +kernel
theorem dX5_readGrain_71 : decode cX5_readGrain 71 = .ok (.iconst 2, 1) := by decide +kernel
theorem dX5_readGrain_72 : decode cX5_readGrain 72 = .ok (.iadd, 1) := by decide +kernel
theorem dX5_readGrain_73 : decode cX5_readGrain 73 = .ok (.aload_n 0, 1) := by decide +kernel
theorem dX5_readGrain_74 : decode cX5_readGrain 74 = .ok (.bipush 36, 2) := by decide +kernel
theorem dX5_readGrain_76 : decode cX5_readGrain 76 = .ok (.invokevirtual 135, 3) := by decide +kernel
theorem dX5_readGrain_79 : decode cX5_readGrain 79 = .ok (.ifCond .eq 13, 3) := by decide +kernel
theorem dX5_readGrain_82 : decode cX5_readGrain 82 = .ok (.aload_n 0, 1) := by decide +kernel
theorem dX5_readGrain_83 : decode cX5_readGrain 83 = .ok (.iconst 0, 1) := by decide +kernel
theorem dX5_readGrain_84 : decode cX5_readGrain 84 = .ok (.bipush 99, 2) := by decide +kernel
theorem dX5_readGrain_86 : decode cX5_readGrain 86 = .ok (.invokevirtual 131, 3) := by decide +kernel
theorem dX5_readGrain_89 : decode cX5_readGrain 89 = .ok (.goto 4, 3) := by decide +kernel
theorem dX5_readGrain_92 : decode cX5_readGrain 92 = .ok (.iconst 0, 1) := by decide +kernel
theorem dX5_readGrain_93 : decode cX5_readGrain 93 = .ok (.iastore, 1) := by decide +kernel
theorem dX5_readGrain_94 : decode cX5_readGrain 94 = .ok (.aload_n 0, 1) := by decide +kernel
theorem dX5_readGrain_95 : decode cX5_readGrain 95 = .ok (.getfield 28, 3) := by decide +kernel
theorem dX5_readGrain_98 : decode cX5_readGrain 98 = .ok (.iload_n 1, 1) := by decide +kernel
theorem dX5_readGrain_99 : decode cX5_readGrain 99 = .ok (.iconst 2, 1) := by decide +kernel
theorem dX5_readGrain_100 : decode cX5_readGrain 100 = .ok (.iadd, 1) := by decide +kernel
theorem dX5_readGrain_101 : decode cX5_readGrain 101 = .ok (.iaload, 1) := by decide +kernel
theorem dX5_readGrain_102 : decode cX5_readGrain 102 = .ok (.ifCond .lt 7, 3) := by decide +kernel
theorem dX5_readGrain_105 : decode cX5_readGrain 105 = .ok (.iconst 1, 1) := by decide +kernel
theorem dX5_readGrain_106 : decode cX5_readGrain 106 = .ok (.goto 4, 3) := by decide +kernel
theorem dX5_readGrain_109 : decode cX5_readGrain 109 = .ok (.iconst 0, 1) := by decide +kernel
theorem dX5_readGrain_110 : decode cX5_readGrain 110 = .ok (.ireturn, 1) := by decide +kernel
theorem dX5_readAll_0 : decode cX5_readAll 0 = .ok (.aload_n 0, 1) := by decide +kernel
theorem dX5_readAll_1 : decode cX5_readAll 1 = .ok (.iconst 0, 1) := by decide +kernel
theorem dX5_readAll_2 : decode cX5_readAll 2 = .ok (.putfield 119, 3) := by decide +kernel
theorem dX5_readAll_5 : decode cX5_readAll 5 = .ok (.iconst 0, 1) := by decide +kernel
theorem dX5_readAll_6 : decode cX5_readAll 6 = .ok (.istore_n 3, 1) := by decide +kernel
theorem dX5_readAll_7 : decode cX5_readAll 7 = .ok (.iload_n 3, 1) := by decide +kernel
theorem dX5_readAll_8 : decode cX5_readAll 8 = .ok (.iload_n 1, 1) := by decide +kernel
theorem dX5_readAll_9 : decode cX5_readAll 9 = .ok (.if_icmp .ge 84, 3) := by decide +kernel
theorem dX5_readAll_12 : decode cX5_readAll 12 = .ok (.iload_n 2, 1) := by decide +kernel
theorem dX5_readAll_13 : decode cX5_readAll 13 = .ok (.ifCond .eq 16, 3) := by decide +kernel
theorem dX5_readAll_16 : decode cX5_readAll 16 = .ok (.aload_n 0, 1) := by decide +kernel
theorem dX5_readAll_17 : decode cX5_readAll 17 = .ok (.iconst 4, 1) := by decide +kernel
theorem dX5_readAll_18 : decode cX5_readAll 18 = .ok (.iload_n 3, 1) := by decide +kernel
theorem dX5_readAll_19 : decode cX5_readAll 19 = .ok (.imul, 1) := by decide +kernel
theorem dX5_readAll_20 : decode cX5_readAll 20 = .ok (.invokevirtual 139, 3) := by decide +kernel
theorem dX5_readAll_23 : decode cX5_readAll 23 = .ok (.ifCond .eq 16, 3) := by decide +kernel
theorem dX5_readAll_26 : decode cX5_readAll 26 = .ok (.goto 15, 3) := by decide +kernel
theorem dX5_readAll_29 : decode cX5_readAll 29 = .ok (.aload_n 0, 1) := by decide +kernel
theorem dX5_readAll_30 : decode cX5_readAll 30 = .ok (.iconst 3, 1) := by decide +kernel
theorem dX5_readAll_31 : decode cX5_readAll 31 = .ok (.iload_n 3, 1) := by decide +kernel
theorem dX5_readAll_32 : decode cX5_readAll 32 = .ok (.imul, 1) := by decide +kernel
theorem dX5_readAll_33 : decode cX5_readAll 33 = .ok (.invokevirtual 142, 3) := by decide +kernel
theorem dX5_readAll_36 : decode cX5_readAll 36 = .ok (.ifCond .ne 5, 3) := by decide +kernel
theorem dX5_readAll_39 : decode cX5_readAll 39 = .ok (.iconst 0, 1) := by decide +kernel
theorem dX5_readAll_40 : decode cX5_readAll 40 = .ok (.ireturn, 1) := by decide +kernel
theorem dX5_readAll_41 : decode cX5_readAll 41 = .ok (.aload_n 0, 1) := by decide +kernel
theorem dX5_readAll_42 : decode cX5_readAll 42 = .ok (.iload_n 3, 1) := by decide +kernel
theorem dX5_readAll_43 : decode cX5_readAll 43 = .ok (.iconst 1, 1) := by decide +kernel
theorem dX5_readAll_44 : decode cX5_readAll 44 = .ok (.iadd, 1) := by decide +kernel
theorem dX5_readAll_45 : decode cX5_readAll 45 = .ok (.putfield 145, 3) := by decide +kernel
theorem dX5_readAll_48 : decode cX5_readAll 48 = .ok (.aload_n 0, 1) := by decide +kernel
theorem dX5_readAll_49 : decode cX5_readAll 49 = .ok (.invokevirtual 122, 3) := by decide +kernel
theorem dX5_readAll_52 : decode cX5_readAll 52 = .ok (.istore 4, 2) := by decide +kernel
theorem dX5_readAll_54 : decode cX5_readAll 54 = .ok (.iload 4, 2) := by decide +kernel
theorem dX5_readAll_56 : decode cX5_readAll 56 = .ok (.ifCond .ge 5, 3) := by decide +kernel
theorem dX5_readAll_59 : decode cX5_readAll 59 = .ok (.iconst 1, 1) := by decide +kernel
theorem dX5_readAll_60 : decode cX5_readAll 60 = .ok (.ireturn, 1) := by decide +kernel
theorem dX5_readAll_61 : decode cX5_readAll 61 = .ok (.iload 4, 2) := by decide +kernel
theorem dX5_readAll_63 : decode cX5_readAll 63 = .ok (.bipush 44, 2) := by decide +kernel
theorem dX5_readAll_65 : decode cX5_readAll 65 = .ok (.if_icmp .ne 10, 3) := by decide +kernel
theorem dX5_readAll_68 : decode cX5_readAll 68 = .ok (.iload_n 3, 1) := by decide +kernel
theorem dX5_readAll_69 : decode cX5_readAll 69 = .ok (.iload_n 1, 1) := by decide +kernel
theorem dX5_readAll_70 : decode cX5_readAll 70 = .ok (.iconst 1, 1) := by decide +kernel
theorem dX5_readAll_71 : decode cX5_readAll 71 = .ok (.isub, 1) := by decide +kernel
theorem dX5_readAll_72 : decode cX5_readAll 72 = .ok (.if_icmp .ne 5, 3) := by decide +kernel
theorem dX5_readAll_75 : decode cX5_readAll 75 = .ok (.iconst 0, 1) := by decide +kernel
theorem dX5_readAll_76 : decode cX5_readAll 76 = .ok (.ireturn, 1) := by decide +kernel
theorem dX5_readAll_77 : decode cX5_readAll 77 = .ok (.aload_n 0, 1) := by decide +kernel
theorem dX5_readAll_78 : decode cX5_readAll 78 = .ok (.dup, 1) := by decide +kernel
theorem dX5_readAll_79 : decode cX5_readAll 79 = .ok (.getfield 119, 3) := by decide +kernel
theorem dX5_readAll_82 : decode cX5_readAll 82 = .ok (.iconst 1, 1) := by decide +kernel
theorem dX5_readAll_83 : decode cX5_readAll 83 = .ok (.iadd, 1) := by decide +kernel
theorem dX5_readAll_84 : decode cX5_readAll 84 = .ok (.putfield 119, 3) := by decide +kernel
theorem dX5_readAll_87 : decode cX5_readAll 87 = .ok (.iinc 3 1, 3) := by decide +kernel
theorem dX5_readAll_90 : decode cX5_readAll 90 = .ok (.goto (-83), 3) := by decide +kernel
theorem dX5_readAll_93 : decode cX5_readAll 93 = .ok (.iconst 0, 1) := by decide +kernel
theorem dX5_readAll_94 : decode cX5_readAll 94 = .ok (.ireturn, 1) := by decide +kernel
theorem dX5_end_0 : decode cX5_end 0 = .ok (.iload_n 1, 1) := by decide +kernel
theorem dX5_end_1 : decode cX5_end 1 = .ok (.ifCond .ne 8, 3) := by decide +kernel
theorem dX5_end_4 : decode cX5_end 4 = .ok (.aload_n 0, 1) := by decide +kernel
theorem dX5_end_5 : decode cX5_end 5 = .ok (.invokevirtual 122, 3) := by decide +kernel
theorem dX5_end_8 : decode cX5_end 8 = .ok (.pop, 1) := by decide +kernel
theorem dX5_end_9 : decode cX5_end 9 = .ok (.aload_n 0, 1) := by decide +kernel
theorem dX5_end_10 : decode cX5_end 10 = .ok (.iconst 0, 1) := by decide +kernel
theorem dX5_end_11 : decode cX5_end 11 = .ok (.putfield 116, 3) := by decide +kernel
theorem dX5_end_14 : decode cX5_end 14 = .ok (.iload_n 1, 1) := by decide +kernel
theorem dX5_end_15 : decode cX5_end 15 = .ok (.ifCond .eq 7, 3) := by decide +kernel
theorem dX5_end_18 : decode cX5_end 18 = .ok (.iconst 0, 1) := by decide +kernel
theorem dX5_end_19 : decode cX5_end 19 = .ok (.goto 10, 3) := by decide +kernel
theorem dX5_end_22 : decode cX5_end 22 = .ok (.bipush (-20), 2) := by decide +kernel
theorem dX5_end_24 : decode cX5_end 24 = .ok (.aload_n 0, 1) := by decide +kernel
theorem dX5_end_25 : decode cX5_end 25 = .ok (.getfield 119, 3) := by decide +kernel
theorem dX5_end_28 : decode cX5_end 28 = .ok (.isub, 1) := by decide +kernel
theorem dX5_end_29 : decode cX5_end 29 = .ok (.ireturn, 1) := by decide +kernel
theorem dX5_loft_0 : decode cX5_loft 0 = .ok (.aload_n 0, 1) := by decide +kernel
theorem dX5_loft_1 : decode cX5_loft 1 = .ok (.aload_n 0, 1) := by decide +kernel
theorem dX5_loft_2 : decode cX5_loft 2 = .ok (.bipush 8, 2) := by decide +kernel
theorem dX5_loft_4 : decode cX5_loft 4 = .ok (.iconst 1, 1) := by decide +kernel
theorem dX5_loft_5 : decode cX5_loft 5 = .ok (.invokevirtual 148, 3) := by decide +kernel
theorem dX5_loft_8 : decode cX5_loft 8 = .ok (.invokevirtual 152, 3) := by decide +kernel
theorem dX5_loft_11 : decode cX5_loft 11 = .ok (.istore_n 1, 1) := by decide +kernel
theorem dX5_loft_12 : decode cX5_loft 12 = .ok (.iload_n 1, 1) := by decide +kernel
theorem dX5_loft_13 : decode cX5_loft 13 = .ok (.ifCond .ge 5, 3) := by decide +kernel
theorem dX5_loft_16 : decode cX5_loft 16 = .ok (.iload_n 1, 1) := by decide +kernel
theorem dX5_loft_17 : decode cX5_loft 17 = .ok (.ireturn, 1) := by decide +kernel
theorem dX5_loft_18 : decode cX5_loft 18 = .ok (.aload_n 0, 1) := by decide +kernel
theorem dX5_loft_19 : decode cX5_loft 19 = .ok (.iconst 0, 1) := by decide +kernel
theorem dX5_loft_20 : decode cX5_loft 20 = .ok (.putfield 72, 3) := by decide +kernel
theorem dX5_loft_23 : decode cX5_loft 23 = .ok (.aload_n 0, 1) := by decide +kernel
theorem dX5_loft_24 : decode cX5_loft 24 = .ok (.iconst 0, 1) := by decide +kernel
theorem dX5_loft_25 : decode cX5_loft 25 = .ok (.putfield 102, 3) := by decide +kernel
theorem dX5_loft_28 : decode cX5_loft 28 = .ok (.iconst 0, 1) := by decide +kernel
theorem dX5_loft_29 : decode cX5_loft 29 = .ok (.istore_n 2, 1) := by decide +kernel
theorem dX5_loft_30 : decode cX5_loft 30 = .ok (.iload_n 2, 1) := by decide +kernel
theorem dX5_loft_31 : decode cX5_loft 31 = .ok (.aload_n 0, 1) := by decide +kernel
theorem dX5_loft_32 : decode cX5_loft 32 = .ok (.getfield 145, 3) := by decide +kernel
theorem dX5_loft_35 : decode cX5_loft 35 = .ok (.if_icmp .ge 51, 3) := by decide +kernel
theorem dX5_loft_38 : decode cX5_loft 38 = .ok (.aload_n 0, 1) := by decide +kernel
theorem dX5_loft_39 : decode cX5_loft 39 = .ok (.aload_n 0, 1) := by decide +kernel
theorem dX5_loft_40 : decode cX5_loft 40 = .ok (.getfield 28, 3) := by decide +kernel
theorem dX5_loft_43 : decode cX5_loft 43 = .ok (.iconst 4, 1) := by decide +kernel
theorem dX5_loft_44 : decode cX5_loft 44 = .ok (.iload_n 2, 1) := by decide +kernel
theorem dX5_loft_45 : decode cX5_loft 45 = .ok (.imul, 1) := by decide +kernel
theorem dX5_loft_46 : decode cX5_loft 46 = .ok (.iaload, 1) := by decide +kernel
theorem dX5_loft_47 : decode cX5_loft 47 = .ok (.aload_n 0, 1) := by decide +kernel
theorem dX5_loft_48 : decode cX5_loft 48 = .ok (.getfield 28, 3) := by decide +kernel
theorem dX5_loft_51 : decode cX5_loft 51 = .ok (.iconst 4, 1) := by decide +kernel
theorem dX5_loft_52 : decode cX5_loft 52 = .ok (.iload_n 2, 1) := by decide +kernel
theorem dX5_loft_53 : decode cX5_loft 53 = .ok (.imul, 1) := by decide +kernel
theorem dX5_loft_54 : decode cX5_loft 54 = .ok (.iconst 1, 1) := by decide +kernel
theorem dX5_loft_55 : decode cX5_loft 55 = .ok (.iadd, 1) := by decide +kernel
theorem dX5_loft_56 : decode cX5_loft 56 = .ok (.iaload, 1) := by decide +kernel
theorem dX5_loft_57 : decode cX5_loft 57 = .ok (.aload_n 0, 1) := by decide +kernel
theorem dX5_loft_58 : decode cX5_loft 58 = .ok (.getfield 28, 3) := by decide +kernel
theorem dX5_loft_61 : decode cX5_loft 61 = .ok (.iconst 4, 1) := by decide +kernel
theorem dX5_loft_62 : decode cX5_loft 62 = .ok (.iload_n 2, 1) := by decide +kernel
theorem dX5_loft_63 : decode cX5_loft 63 = .ok (.imul, 1) := by decide +kernel
theorem dX5_loft_64 : decode cX5_loft 64 = .ok (.iconst 2, 1) := by decide +kernel
theorem dX5_loft_65 : decode cX5_loft 65 = .ok (.iadd, 1) := by decide +kernel
theorem dX5_loft_66 : decode cX5_loft 66 = .ok (.iaload, 1) := by decide +kernel
theorem dX5_loft_67 : decode cX5_loft 67 = .ok (.aload_n 0, 1) := by decide +kernel
theorem dX5_loft_68 : decode cX5_loft 68 = .ok (.getfield 28, 3) := by decide +kernel
theorem dX5_loft_71 : decode cX5_loft 71 = .ok (.iconst 4, 1) := by decide +kernel
theorem dX5_loft_72 : decode cX5_loft 72 = .ok (.iload_n 2, 1) := by decide +kernel
theorem dX5_loft_73 : decode cX5_loft 73 = .ok (.imul, 1) := by decide +kernel
theorem dX5_loft_74 : decode cX5_loft 74 = .ok (.iconst 3, 1) := by decide +kernel
theorem dX5_loft_75 : decode cX5_loft 75 = .ok (.iadd, 1) := by decide +kernel
theorem dX5_loft_76 : decode cX5_loft 76 = .ok (.iaload, 1) := by decide +kernel
theorem dX5_loft_77 : decode cX5_loft 77 = .ok (.invokevirtual 95, 3) := by decide +kernel
theorem dX5_loft_80 : decode cX5_loft 80 = .ok (.iinc 2 1, 3) := by decide +kernel
theorem dX5_loft_83 : decode cX5_loft 83 = .ok (.goto (-53), 3) := by decide +kernel
theorem dX5_loft_86 : decode cX5_loft 86 = .ok (.aload_n 0, 1) := by decide +kernel
theorem dX5_loft_87 : decode cX5_loft 87 = .ok (.getfield 72, 3) := by decide +kernel
theorem dX5_loft_90 : decode cX5_loft 90 = .ok (.ireturn, 1) := by decide +kernel
theorem dX5_heap_0 : decode cX5_heap 0 = .ok (.aload_n 0, 1) := by decide +kernel
theorem dX5_heap_1 : decode cX5_heap 1 = .ok (.aload_n 0, 1) := by decide +kernel
theorem dX5_heap_2 : decode cX5_heap 2 = .ok (.bipush 6, 2) := by decide +kernel
theorem dX5_heap_4 : decode cX5_heap 4 = .ok (.iconst 0, 1) := by decide +kernel
theorem dX5_heap_5 : decode cX5_heap 5 = .ok (.invokevirtual 148, 3) := by decide +kernel
theorem dX5_heap_8 : decode cX5_heap 8 = .ok (.invokevirtual 152, 3) := by decide +kernel
theorem dX5_heap_11 : decode cX5_heap 11 = .ok (.istore_n 1, 1) := by decide +kernel
theorem dX5_heap_12 : decode cX5_heap 12 = .ok (.iload_n 1, 1) := by decide +kernel
theorem dX5_heap_13 : decode cX5_heap 13 = .ok (.ifCond .ge 5, 3) := by decide +kernel
theorem dX5_heap_16 : decode cX5_heap 16 = .ok (.iload_n 1, 1) := by decide +kernel
theorem dX5_heap_17 : decode cX5_heap 17 = .ok (.ireturn, 1) := by decide +kernel
theorem dX5_heap_18 : decode cX5_heap 18 = .ok (.aload_n 0, 1) := by decide +kernel
theorem dX5_heap_19 : decode cX5_heap 19 = .ok (.iconst 0, 1) := by decide +kernel
theorem dX5_heap_20 : decode cX5_heap 20 = .ok (.putfield 64, 3) := by decide +kernel
theorem dX5_heap_23 : decode cX5_heap 23 = .ok (.iconst 0, 1) := by decide +kernel
theorem dX5_heap_24 : decode cX5_heap 24 = .ok (.istore_n 2, 1) := by decide +kernel
theorem dX5_heap_25 : decode cX5_heap 25 = .ok (.iload_n 2, 1) := by decide +kernel
theorem dX5_heap_26 : decode cX5_heap 26 = .ok (.aload_n 0, 1) := by decide +kernel
theorem dX5_heap_27 : decode cX5_heap 27 = .ok (.getfield 145, 3) := by decide +kernel
theorem dX5_heap_30 : decode cX5_heap 30 = .ok (.if_icmp .ge 41, 3) := by decide +kernel
theorem dX5_heap_33 : decode cX5_heap 33 = .ok (.aload_n 0, 1) := by decide +kernel
theorem dX5_heap_34 : decode cX5_heap 34 = .ok (.aload_n 0, 1) := by decide +kernel
theorem dX5_heap_35 : decode cX5_heap 35 = .ok (.getfield 28, 3) := by decide +kernel
theorem dX5_heap_38 : decode cX5_heap 38 = .ok (.iconst 3, 1) := by decide +kernel
theorem dX5_heap_39 : decode cX5_heap 39 = .ok (.iload_n 2, 1) := by decide +kernel
theorem dX5_heap_40 : decode cX5_heap 40 = .ok (.imul, 1) := by decide +kernel
theorem dX5_heap_41 : decode cX5_heap 41 = .ok (.iaload, 1) := by decide +kernel
theorem dX5_heap_42 : decode cX5_heap 42 = .ok (.aload_n 0, 1) := by decide +kernel
theorem dX5_heap_43 : decode cX5_heap 43 = .ok (.getfield 28, 3) := by decide +kernel
theorem dX5_heap_46 : decode cX5_heap 46 = .ok (.iconst 3, 1) := by decide +kernel
theorem dX5_heap_47 : decode cX5_heap 47 = .ok (.iload_n 2, 1) := by decide +kernel
theorem dX5_heap_48 : decode cX5_heap 48 = .ok (.imul, 1) := by decide +kernel
theorem dX5_heap_49 : decode cX5_heap 49 = .ok (.iconst 1, 1) := by decide +kernel
theorem dX5_heap_50 : decode cX5_heap 50 = .ok (.iadd, 1) := by decide +kernel
theorem dX5_heap_51 : decode cX5_heap 51 = .ok (.iaload, 1) := by decide +kernel
theorem dX5_heap_52 : decode cX5_heap 52 = .ok (.aload_n 0, 1) := by decide +kernel
theorem dX5_heap_53 : decode cX5_heap 53 = .ok (.getfield 28, 3) := by decide +kernel
theorem dX5_heap_56 : decode cX5_heap 56 = .ok (.iconst 3, 1) := by decide +kernel
theorem dX5_heap_57 : decode cX5_heap 57 = .ok (.iload_n 2, 1) := by decide +kernel
theorem dX5_heap_58 : decode cX5_heap 58 = .ok (.imul, 1) := by decide +kernel
theorem dX5_heap_59 : decode cX5_heap 59 = .ok (.iconst 2, 1) := by decide +kernel
theorem dX5_heap_60 : decode cX5_heap 60 = .ok (.iadd, 1) := by decide +kernel
theorem dX5_heap_61 : decode cX5_heap 61 = .ok (.iaload, 1) := by decide +kernel
theorem dX5_heap_62 : decode cX5_heap 62 = .ok (.invokevirtual 81, 3) := by decide +kernel
theorem dX5_heap_65 : decode cX5_heap 65 = .ok (.iinc 2 1, 3) := by decide +kernel
theorem dX5_heap_68 : decode cX5_heap 68 = .ok (.goto (-43), 3) := by decide +kernel
theorem dX5_heap_71 : decode cX5_heap 71 = .ok (.aload_n 0, 1) := by decide +kernel
theorem dX5_heap_72 : decode cX5_heap 72 = .ok (.getfield 64, 3) := by decide +kernel
theorem dX5_heap_75 : decode cX5_heap 75 = .ok (.ireturn, 1) := by decide +kernel
theorem dX5_readRow_0 : decode cX5_readRow 0 = .ok (.aload_n 0, 1) := by decide +kernel
theorem dX5_readRow_1 : decode cX5_readRow 1 = .ok (.iconst 0, 1) := by decide +kernel
theorem dX5_readRow_2 : decode cX5_readRow 2 = .ok (.putfield 119, 3) := by decide +kernel
theorem dX5_readRow_5 : decode cX5_readRow 5 = .ok (.aload_n 0, 1) := by decide +kernel
theorem dX5_readRow_6 : decode cX5_readRow 6 = .ok (.iconst 0, 1) := by decide +kernel
theorem dX5_readRow_7 : decode cX5_readRow 7 = .ok (.putfield 145, 3) := by decide +kernel
theorem dX5_readRow_10 : decode cX5_readRow 10 = .ok (.iconst 0, 1) := by decide +kernel
theorem dX5_readRow_11 : decode cX5_readRow 11 = .ok (.istore_n 1, 1) := by decide +kernel
theorem dX5_readRow_12 : decode cX5_readRow 12 = .ok (.aload_n 0, 1) := by decide +kernel
theorem dX5_readRow_13 : decode cX5_readRow 13 = .ok (.invokevirtual 122, 3) := by decide +kernel
theorem dX5_readRow_16 : decode cX5_readRow 16 = .ok (.ifCond .lt 77, 3) := by decide +kernel
theorem dX5_readRow_19 : decode cX5_readRow 19 = .ok (.aload_n 0, 1) := by decide +kernel
theorem dX5_readRow_20 : decode cX5_readRow 20 = .ok (.invokevirtual 122, 3) := by decide +kernel
theorem dX5_readRow_23 : decode cX5_readRow 23 = .ok (.bipush 48, 2) := by decide +kernel
theorem dX5_readRow_25 : decode cX5_readRow 25 = .ok (.isub, 1) := by decide +kernel
theorem dX5_readRow_26 : decode cX5_readRow 26 = .ok (.istore_n 2, 1) := by decide +kernel
theorem dX5_readRow_27 : decode cX5_readRow 27 = .ok (.aload_n 0, 1) := by decide +kernel
theorem dX5_readRow_28 : decode cX5_readRow 28 = .ok (.iload_n 2, 1) := by decide +kernel
theorem dX5_readRow_29 : decode cX5_readRow 29 = .ok (.invokevirtual 99, 3) := by decide +kernel
theorem dX5_readRow_32 : decode cX5_readRow 32 = .ok (.ifCond .eq 20, 3) := by decide +kernel
theorem dX5_readRow_35 : decode cX5_readRow 35 = .ok (.iload_n 1, 1) := by decide +kernel
theorem dX5_readRow_36 : decode cX5_readRow 36 = .ok (.iload_n 2, 1) := by decide +kernel
theorem dX5_readRow_37 : decode cX5_readRow 37 = .ok (.invokestatic 156, 3) := by decide +kernel
theorem dX5_readRow_40 : decode cX5_readRow 40 = .ok (.ifCond .ne 12, 3) := by decide +kernel
theorem dX5_readRow_43 : decode cX5_readRow 43 = .ok (.aload_n 0, 1) := by decide +kernel
theorem dX5_readRow_44 : decode cX5_readRow 44 = .ok (.getfield 145, 3) := by decide +kernel
theorem dX5_readRow_47 : decode cX5_readRow 47 = .ok (.bipush 6, 2) := by decide +kernel
theorem dX5_readRow_49 : decode cX5_readRow 49 = .ok (.if_icmp .ne 5, 3) := by decide +kernel
theorem dX5_readRow_52 : decode cX5_readRow 52 = .ok (.iconst 0, 1) := by decide +kernel
theorem dX5_readRow_53 : decode cX5_readRow 53 = .ok (.ireturn, 1) := by decide +kernel
theorem dX5_readRow_54 : decode cX5_readRow 54 = .ok (.iload_n 1, 1) := by decide +kernel
theorem dX5_readRow_55 : decode cX5_readRow 55 = .ok (.iconst 1, 1) := by decide +kernel
theorem dX5_readRow_56 : decode cX5_readRow 56 = .ok (.iload_n 2, 1) := by decide +kernel
theorem dX5_readRow_57 : decode cX5_readRow 57 = .ok (.ishl, 1) := by decide +kernel
theorem dX5_readRow_58 : decode cX5_readRow 58 = .ok (.ior, 1) := by decide +kernel
theorem dX5_readRow_59 : decode cX5_readRow 59 = .ok (.istore_n 1, 1) := by decide +kernel
theorem dX5_readRow_60 : decode cX5_readRow 60 = .ok (.aload_n 0, 1) := by decide +kernel
theorem dX5_readRow_61 : decode cX5_readRow 61 = .ok (.getfield 28, 3) := by decide +kernel
theorem dX5_readRow_64 : decode cX5_readRow 64 = .ok (.aload_n 0, 1) := by decide +kernel
theorem dX5_readRow_65 : decode cX5_readRow 65 = .ok (.getfield 145, 3) := by decide +kernel
theorem dX5_readRow_68 : decode cX5_readRow 68 = .ok (.iload_n 2, 1) := by decide +kernel
theorem dX5_readRow_69 : decode cX5_readRow 69 = .ok (.iastore, 1) := by decide +kernel
theorem dX5_readRow_70 : decode cX5_readRow 70 = .ok (.aload_n 0, 1) := by decide +kernel
theorem dX5_readRow_71 : decode cX5_readRow 71 = .ok (.dup, 1) := by decide +kernel
theorem dX5_readRow_72 : decode cX5_readRow 72 = .ok (.getfield 145, 3) := by decide +kernel
theorem dX5_readRow_75 : decode cX5_readRow 75 = .ok (.iconst 1, 1) := by decide +kernel
theorem dX5_readRow_76 : decode cX5_readRow 76 = .ok (.iadd, 1) := by decide +kernel
theorem dX5_readRow_77 : decode cX5_readRow 77 = .ok (.putfield 145, 3) := by decide +kernel
theorem dX5_readRow_80 : decode cX5_readRow 80 = .ok (.aload_n 0, 1) := by decide +kernel
theorem dX5_readRow_81 : decode cX5_readRow 81 = .ok (.dup, 1) := by decide +kernel
theorem dX5_readRow_82 : decode cX5_readRow 82 = .ok (.getfield 119, 3) := by decide +kernel
theorem dX5_readRow_85 : decode cX5_readRow 85 = .ok (.iconst 1, 1) := by decide +kernel
theorem dX5_readRow_86 : decode cX5_readRow 86 = .ok (.iadd, 1) := by decide +kernel
theorem dX5_readRow_87 : decode cX5_readRow 87 = .ok (.putfield 119, 3) := by decide +kernel
theorem dX5_readRow_90 : decode cX5_readRow 90 = .ok (.goto (-78), 3) := by decide +kernel
theorem dX5_readRow_93 : decode cX5_readRow 93 = .ok (.iconst 1, 1) := by decide +kernel
theorem dX5_readRow_94 : decode cX5_readRow 94 = .ok (.ireturn, 1) := by decide +kernel
theorem dX5_row_0 : decode cX5_row 0 = .ok (.aload_n 0, 1) := by decide +kernel
theorem dX5_row_1 : decode cX5_row 1 = .ok (.aload_n 0, 1) := by decide +kernel
theorem dX5_row_2 : decode cX5_row 2 = .ok (.invokevirtual 160, 3) := by decide +kernel
theorem dX5_row_5 : decode cX5_row 5 = .ok (.invokevirtual 152, 3) := by decide +kernel
theorem dX5_row_8 : decode cX5_row 8 = .ok (.istore_n 1, 1) := by decide +kernel
theorem dX5_row_9 : decode cX5_row 9 = .ok (.iload_n 1, 1) := by decide +kernel
theorem dX5_row_10 : decode cX5_row 10 = .ok (.ifCond .ge 5, 3) := by decide +kernel
theorem dX5_row_13 : decode cX5_row 13 = .ok (.iload_n 1, 1) := by decide +kernel
theorem dX5_row_14 : decode cX5_row 14 = .ok (.ireturn, 1) := by decide +kernel
theorem dX5_row_15 : decode cX5_row 15 = .ok (.aload_n 0, 1) := by decide +kernel
theorem dX5_row_16 : decode cX5_row 16 = .ok (.aload_n 0, 1) := by decide +kernel
theorem dX5_row_17 : decode cX5_row 17 = .ok (.getfield 145, 3) := by decide +kernel
theorem dX5_row_20 : decode cX5_row 20 = .ok (.putfield 102, 3) := by decide +kernel
theorem dX5_row_23 : decode cX5_row 23 = .ok (.iconst 0, 1) := by decide +kernel
theorem dX5_row_24 : decode cX5_row 24 = .ok (.istore_n 2, 1) := by decide +kernel
theorem dX5_row_25 : decode cX5_row 25 = .ok (.iload_n 2, 1) := by decide +kernel
theorem dX5_row_26 : decode cX5_row 26 = .ok (.aload_n 0, 1) := by decide +kernel
theorem dX5_row_27 : decode cX5_row 27 = .ok (.getfield 145, 3) := by decide +kernel
theorem dX5_row_30 : decode cX5_row 30 = .ok (.if_icmp .ge 21, 3) := by decide +kernel
theorem dX5_row_33 : decode cX5_row 33 = .ok (.aload_n 0, 1) := by decide +kernel
theorem dX5_row_34 : decode cX5_row 34 = .ok (.getfield 22, 3) := by decide +kernel
theorem dX5_row_37 : decode cX5_row 37 = .ok (.iload_n 2, 1) := by decide +kernel
theorem dX5_row_38 : decode cX5_row 38 = .ok (.aload_n 0, 1) := by decide +kernel
theorem dX5_row_39 : decode cX5_row 39 = .ok (.getfield 28, 3) := by decide +kernel
theorem dX5_row_42 : decode cX5_row 42 = .ok (.iload_n 2, 1) := by decide +kernel
theorem dX5_row_43 : decode cX5_row 43 = .ok (.iaload, 1) := by decide +kernel
theorem dX5_row_44 : decode cX5_row 44 = .ok (.iastore, 1) := by decide +kernel
theorem dX5_row_45 : decode cX5_row 45 = .ok (.iinc 2 1, 3) := by decide +kernel
theorem dX5_row_48 : decode cX5_row 48 = .ok (.goto (-23), 3) := by decide +kernel
theorem dX5_row_51 : decode cX5_row 51 = .ok (.aload_n 0, 1) := by decide +kernel
theorem dX5_row_52 : decode cX5_row 52 = .ok (.getfield 102, 3) := by decide +kernel
theorem dX5_row_55 : decode cX5_row 55 = .ok (.ireturn, 1) := by decide +kernel
theorem dX5_begin_0 : decode cX5_begin 0 = .ok (.iconst 0, 1) := by decide +kernel
theorem dX5_begin_1 : decode cX5_begin 1 = .ok (.istore_n 1, 1) := by decide +kernel
theorem dX5_begin_2 : decode cX5_begin 2 = .ok (.iload_n 1, 1) := by decide +kernel
theorem dX5_begin_3 : decode cX5_begin 3 = .ok (.aload_n 0, 1) := by decide +kernel
theorem dX5_begin_4 : decode cX5_begin 4 = .ok (.getfield 72, 3) := by decide +kernel
theorem dX5_begin_7 : decode cX5_begin 7 = .ok (.if_icmp .ge 39, 3) := by decide +kernel
theorem dX5_begin_10 : decode cX5_begin 10 = .ok (.aload_n 0, 1) := by decide +kernel
theorem dX5_begin_11 : decode cX5_begin 11 = .ok (.getfield 34, 3) := by decide +kernel
theorem dX5_begin_14 : decode cX5_begin 14 = .ok (.iload_n 1, 1) := by decide +kernel
theorem dX5_begin_15 : decode cX5_begin 15 = .ok (.aload_n 0, 1) := by decide +kernel
theorem dX5_begin_16 : decode cX5_begin 16 = .ok (.getfield 19, 3) := by decide +kernel
theorem dX5_begin_19 : decode cX5_begin 19 = .ok (.iconst 4, 1) := by decide +kernel
theorem dX5_begin_20 : decode cX5_begin 20 = .ok (.iload_n 1, 1) := by decide +kernel
theorem dX5_begin_21 : decode cX5_begin 21 = .ok (.imul, 1) := by decide +kernel
theorem dX5_begin_22 : decode cX5_begin 22 = .ok (.iaload, 1) := by decide +kernel
theorem dX5_begin_23 : decode cX5_begin 23 = .ok (.iastore, 1) := by decide +kernel
theorem dX5_begin_24 : decode cX5_begin 24 = .ok (.aload_n 0, 1) := by decide +kernel
theorem dX5_begin_25 : decode cX5_begin 25 = .ok (.getfield 37, 3) := by decide +kernel
theorem dX5_begin_28 : decode cX5_begin 28 = .ok (.iload_n 1, 1) := by decide +kernel
theorem dX5_begin_29 : decode cX5_begin 29 = .ok (.aload_n 0, 1) := by decide +kernel
theorem dX5_begin_30 : decode cX5_begin 30 = .ok (.getfield 19, 3) := by decide +kernel
theorem dX5_begin_33 : decode cX5_begin 33 = .ok (.iconst 4, 1) := by decide +kernel
theorem dX5_begin_34 : decode cX5_begin 34 = .ok (.iload_n 1, 1) := by decide +kernel
theorem dX5_begin_35 : decode cX5_begin 35 = .ok (.imul, 1) := by decide +kernel
theorem dX5_begin_36 : decode cX5_begin 36 = .ok (.iconst 1, 1) := by decide +kernel
theorem dX5_begin_37 : decode cX5_begin 37 = .ok (.iadd, 1) := by decide +kernel
theorem dX5_begin_38 : decode cX5_begin 38 = .ok (.iaload, 1) := by decide +kernel
theorem dX5_begin_39 : decode cX5_begin 39 = .ok (.iastore, 1) := by decide +kernel
theorem dX5_begin_40 : decode cX5_begin 40 = .ok (.iinc 1 1, 3) := by decide +kernel
theorem dX5_begin_43 : decode cX5_begin 43 = .ok (.goto (-41), 3) := by decide +kernel
theorem dX5_begin_46 : decode cX5_begin 46 = .ok (.return_, 1) := by decide +kernel
theorem dX5_takeRow_0 : decode cX5_takeRow 0 = .ok (.aload_n 0, 1) := by decide +kernel
theorem dX5_takeRow_1 : decode cX5_takeRow 1 = .ok (.aload_n 0, 1) := by decide +kernel
theorem dX5_takeRow_2 : decode cX5_takeRow 2 = .ok (.getfield 102, 3) := by decide +kernel
theorem dX5_takeRow_5 : decode cX5_takeRow 5 = .ok (.putfield 164, 3) := by decide +kernel
theorem dX5_takeRow_8 : decode cX5_takeRow 8 = .ok (.iconst 0, 1) := by decide +kernel
theorem dX5_takeRow_9 : decode cX5_takeRow 9 = .ok (.istore_n 1, 1) := by decide +kernel
theorem dX5_takeRow_10 : decode cX5_takeRow 10 = .ok (.iload_n 1, 1) := by decide +kernel
theorem dX5_takeRow_11 : decode cX5_takeRow 11 = .ok (.aload_n 0, 1) := by decide +kernel
theorem dX5_takeRow_12 : decode cX5_takeRow 12 = .ok (.getfield 102, 3) := by decide +kernel
theorem dX5_takeRow_15 : decode cX5_takeRow 15 = .ok (.if_icmp .ge 21, 3) := by decide +kernel
theorem dX5_takeRow_18 : decode cX5_takeRow 18 = .ok (.aload_n 0, 1) := by decide +kernel
theorem dX5_takeRow_19 : decode cX5_takeRow 19 = .ok (.getfield 31, 3) := by decide +kernel
theorem dX5_takeRow_22 : decode cX5_takeRow 22 = .ok (.iload_n 1, 1) := by decide +kernel
theorem dX5_takeRow_23 : decode cX5_takeRow 23 = .ok (.aload_n 0, 1) := by decide +kernel
theorem dX5_takeRow_24 : decode cX5_takeRow 24 = .ok (.getfield 22, 3) := by decide +kernel
theorem dX5_takeRow_27 : decode cX5_takeRow 27 = .ok (.iload_n 1, 1) := by decide +kernel
theorem dX5_takeRow_28 : decode cX5_takeRow 28 = .ok (.iaload, 1) := by decide +kernel
theorem dX5_takeRow_29 : decode cX5_takeRow 29 = .ok (.iastore, 1) := by decide +kernel
theorem dX5_takeRow_30 : decode cX5_takeRow 30 = .ok (.iinc 1 1, 3) := by decide +kernel
theorem dX5_takeRow_33 : decode cX5_takeRow 33 = .ok (.goto (-23), 3) := by decide +kernel
theorem dX5_takeRow_36 : decode cX5_takeRow 36 = .ok (.return_, 1) := by decide +kernel
theorem dX5_passes_0 : decode cX5_passes 0 = .ok (.aload_n 0, 1) := by decide +kernel
theorem dX5_passes_1 : decode cX5_passes 1 = .ok (.getfield 34, 3) := by decide +kernel
theorem dX5_passes_4 : decode cX5_passes 4 = .ok (.iload_n 1, 1) := by decide +kernel
theorem dX5_passes_5 : decode cX5_passes 5 = .ok (.iaload, 1) := by decide +kernel
theorem dX5_passes_6 : decode cX5_passes 6 = .ok (.iconst 3, 1) := by decide +kernel
theorem dX5_passes_7 : decode cX5_passes 7 = .ok (.if_icmp .eq 13, 3) := by decide +kernel
theorem dX5_passes_10 : decode cX5_passes 10 = .ok (.iload_n 2, 1) := by decide +kernel
theorem dX5_passes_11 : decode cX5_passes 11 = .ok (.aload_n 0, 1) := by decide +kernel
theorem dX5_passes_12 : decode cX5_passes 12 = .ok (.getfield 37, 3) := by decide +kernel
theorem dX5_passes_15 : decode cX5_passes 15 = .ok (.iload_n 1, 1) := by decide +kernel
theorem dX5_passes_16 : decode cX5_passes 16 = .ok (.iaload, 1) := by decide +kernel
theorem dX5_passes_17 : decode cX5_passes 17 = .ok (.if_icmp .gt 7, 3) := by decide +kernel
theorem dX5_passes_20 : decode cX5_passes 20 = .ok (.iconst 1, 1) := by decide +kernel
theorem dX5_passes_21 : decode cX5_passes 21 = .ok (.goto 4, 3) := by decide +kernel
theorem dX5_passes_24 : decode cX5_passes 24 = .ok (.iconst 0, 1) := by decide +kernel
theorem dX5_passes_25 : decode cX5_passes 25 = .ok (.ireturn, 1) := by decide +kernel
theorem dX5_shakeOnce_0 : decode cX5_shakeOnce 0 = .ok (.aload_n 0, 1) := by decide +kernel
theorem dX5_shakeOnce_1 : decode cX5_shakeOnce 1 = .ok (.iconst 0, 1) := by decide +kernel
theorem dX5_shakeOnce_2 : decode cX5_shakeOnce 2 = .ok (.putfield 167, 3) := by decide +kernel
theorem dX5_shakeOnce_5 : decode cX5_shakeOnce 5 = .ok (.aload_n 0, 1) := by decide +kernel
theorem dX5_shakeOnce_6 : decode cX5_shakeOnce 6 = .ok (.iconst 0, 1) := by decide +kernel
theorem dX5_shakeOnce_7 : decode cX5_shakeOnce 7 = .ok (.putfield 170, 3) := by decide +kernel
theorem dX5_shakeOnce_10 : decode cX5_shakeOnce 10 = .ok (.iconst 0, 1) := by decide +kernel
theorem dX5_shakeOnce_11 : decode cX5_shakeOnce 11 = .ok (.istore_n 1, 1) := by decide +kernel
theorem dX5_shakeOnce_12 : decode cX5_shakeOnce 12 = .ok (.iload_n 1, 1) := by decide +kernel
theorem dX5_shakeOnce_13 : decode cX5_shakeOnce 13 = .ok (.aload_n 0, 1) := by decide +kernel
theorem dX5_shakeOnce_14 : decode cX5_shakeOnce 14 = .ok (.getfield 64, 3) := by decide +kernel
theorem dX5_shakeOnce_17 : decode cX5_shakeOnce 17 = .ok (.if_icmp .ge 33, 3) := by decide +kernel
theorem dX5_shakeOnce_20 : decode cX5_shakeOnce 20 = .ok (.aload_n 0, 1) := by decide +kernel
theorem dX5_shakeOnce_21 : decode cX5_shakeOnce 21 = .ok (.getfield 40, 3) := by decide +kernel
theorem dX5_shakeOnce_24 : decode cX5_shakeOnce 24 = .ok (.iload_n 1, 1) := by decide +kernel
theorem dX5_shakeOnce_25 : decode cX5_shakeOnce 25 = .ok (.aload_n 0, 1) := by decide +kernel
theorem dX5_shakeOnce_26 : decode cX5_shakeOnce 26 = .ok (.getfield 13, 3) := by decide +kernel
theorem dX5_shakeOnce_29 : decode cX5_shakeOnce 29 = .ok (.iload_n 1, 1) := by decide +kernel
theorem dX5_shakeOnce_30 : decode cX5_shakeOnce 30 = .ok (.iaload, 1) := by decide +kernel
theorem dX5_shakeOnce_31 : decode cX5_shakeOnce 31 = .ok (.ifCond .le 10, 3) := by decide +kernel
theorem dX5_shakeOnce_34 : decode cX5_shakeOnce 34 = .ok (.aload_n 0, 1) := by decide +kernel
theorem dX5_shakeOnce_35 : decode cX5_shakeOnce 35 = .ok (.getfield 164, 3) := by decide +kernel
theorem dX5_shakeOnce_38 : decode cX5_shakeOnce 38 = .ok (.goto 5, 3) := by decide +kernel
theorem dX5_shakeOnce_41 : decode cX5_shakeOnce 41 = .ok (.bipush (-4), 2) := by decide +kernel
theorem dX5_shakeOnce_43 : decode cX5_shakeOnce 43 = .ok (.iastore, 1) := by decide +kernel
theorem dX5_shakeOnce_44 : decode cX5_shakeOnce 44 = .ok (.iinc 1 1, 3) := by decide +kernel
theorem dX5_shakeOnce_47 : decode cX5_shakeOnce 47 = .ok (.goto (-35), 3) := by decide +kernel
theorem dX5_shakeOnce_50 : decode cX5_shakeOnce 50 = .ok (.iconst 0, 1) := by decide +kernel
theorem dX5_shakeOnce_51 : decode cX5_shakeOnce 51 = .ok (.istore_n 1, 1) := by decide +kernel
theorem dX5_shakeOnce_52 : decode cX5_shakeOnce 52 = .ok (.iload_n 1, 1) := by decide +kernel
theorem dX5_shakeOnce_53 : decode cX5_shakeOnce 53 = .ok (.aload_n 0, 1) := by decide +kernel
theorem dX5_shakeOnce_54 : decode cX5_shakeOnce 54 = .ok (.getfield 164, 3) := by decide +kernel
theorem dX5_shakeOnce_57 : decode cX5_shakeOnce 57 = .ok (.if_icmp .ge 254, 3) := by decide +kernel
theorem dX5_shakeOnce_60 : decode cX5_shakeOnce 60 = .ok (.aload_n 0, 1) := by decide +kernel
theorem dX5_shakeOnce_61 : decode cX5_shakeOnce 61 = .ok (.getfield 31, 3) := by decide +kernel
theorem dX5_shakeOnce_64 : decode cX5_shakeOnce 64 = .ok (.iload_n 1, 1) := by decide +kernel
theorem dX5_shakeOnce_65 : decode cX5_shakeOnce 65 = .ok (.iaload, 1) := by decide +kernel
theorem dX5_shakeOnce_66 : decode cX5_shakeOnce 66 = .ok (.istore_n 2, 1) := by decide +kernel
theorem dX5_shakeOnce_67 : decode cX5_shakeOnce 67 = .ok (.iconst 0, 1) := by decide +kernel
theorem dX5_shakeOnce_68 : decode cX5_shakeOnce 68 = .ok (.istore_n 3, 1) := by decide +kernel
theorem dX5_shakeOnce_69 : decode cX5_shakeOnce 69 = .ok (.iconst 0, 1) := by decide +kernel
theorem dX5_shakeOnce_70 : decode cX5_shakeOnce 70 = .ok (.istore 4, 2) := by decide +kernel
theorem dX5_shakeOnce_72 : decode cX5_shakeOnce 72 = .ok (.iconst 0, 1) := by decide +kernel
theorem dX5_shakeOnce_73 : decode cX5_shakeOnce 73 = .ok (.istore 5, 2) := by decide +kernel
theorem dX5_shakeOnce_75 : decode cX5_shakeOnce 75 = .ok (.iload 5, 2) := by decide +kernel
theorem dX5_shakeOnce_77 : decode cX5_shakeOnce 77 = .ok (.aload_n 0, 1) := by decide +kernel
theorem dX5_shakeOnce_78 : decode cX5_shakeOnce 78 = .ok (.getfield 64, 3) := by decide +kernel
theorem dX5_shakeOnce_81 : decode cX5_shakeOnce 81 = .ok (.if_icmp .ge 96, 3) := by decide +kernel
theorem dX5_shakeOnce_84 : decode cX5_shakeOnce 84 = .ok (.aload_n 0, 1) := by decide +kernel
theorem dX5_shakeOnce_85 : decode cX5_shakeOnce 85 = .ok (.getfield 40, 3) := by decide +kernel
theorem dX5_shakeOnce_88 : decode cX5_shakeOnce 88 = .ok (.iload 5, 2) := by decide +kernel
theorem dX5_shakeOnce_90 : decode cX5_shakeOnce 90 = .ok (.iaload, 1) := by decide +kernel
theorem dX5_shakeOnce_91 : decode cX5_shakeOnce 91 = .ok (.aload_n 0, 1) := by decide +kernel
theorem dX5_shakeOnce_92 : decode cX5_shakeOnce 92 = .ok (.getfield 164, 3) := by decide +kernel
theorem dX5_shakeOnce_95 : decode cX5_shakeOnce 95 = .ok (.if_icmp .ne 7, 3) := by decide +kernel
theorem dX5_shakeOnce_98 : decode cX5_shakeOnce 98 = .ok (.iconst 1, 1) := by decide +kernel
theorem dX5_shakeOnce_99 : decode cX5_shakeOnce 99 = .ok (.goto 4, 3) := by decide +kernel
theorem dX5_shakeOnce_102 : decode cX5_shakeOnce 102 = .ok (.iconst 0, 1) := by decide +kernel
theorem dX5_shakeOnce_103 : decode cX5_shakeOnce 103 = .ok (.istore 6, 2) := by decide +kernel
theorem dX5_shakeOnce_105 : decode cX5_shakeOnce 105 = .ok (.iload_n 3, 1) := by decide +kernel
theorem dX5_shakeOnce_106 : decode cX5_shakeOnce 106 = .ok (.iload 6, 2) := by decide +kernel
theorem dX5_shakeOnce_108 : decode cX5_shakeOnce 108 = .ok (.ifCond .eq 28, 3) := by decide +kernel
theorem dX5_shakeOnce_111 : decode cX5_shakeOnce 111 = .ok (.aload_n 0, 1) := by decide +kernel
theorem dX5_shakeOnce_112 : decode cX5_shakeOnce 112 = .ok (.iload_n 2, 1) := by decide +kernel
theorem dX5_shakeOnce_113 : decode cX5_shakeOnce 113 = .ok (.aload_n 0, 1) := by decide +kernel
theorem dX5_shakeOnce_114 : decode cX5_shakeOnce 114 = .ok (.getfield 7, 3) := by decide +kernel
theorem dX5_shakeOnce_117 : decode cX5_shakeOnce 117 = .ok (.iload 5, 2) := by decide +kernel
theorem dX5_shakeOnce_119 : decode cX5_shakeOnce 119 = .ok (.iaload, 1) := by decide +kernel
theorem dX5_shakeOnce_120 : decode cX5_shakeOnce 120 = .ok (.invokevirtual 173, 3) := by decide +kernel
theorem dX5_shakeOnce_123 : decode cX5_shakeOnce 123 = .ok (.ifCond .ne 13, 3) := by decide +kernel
theorem dX5_shakeOnce_126 : decode cX5_shakeOnce 126 = .ok (.aload_n 0, 1) := by decide +kernel
theorem dX5_shakeOnce_127 : decode cX5_shakeOnce 127 = .ok (.getfield 13, 3) := by decide +kernel
theorem dX5_shakeOnce_130 : decode cX5_shakeOnce 130 = .ok (.iload 5, 2) := by decide +kernel
theorem dX5_shakeOnce_132 : decode cX5_shakeOnce 132 = .ok (.iaload, 1) := by decide +kernel
theorem dX5_shakeOnce_133 : decode cX5_shakeOnce 133 = .ok (.goto 4, 3) := by decide +kernel
theorem dX5_shakeOnce_136 : decode cX5_shakeOnce 136 = .ok (.iconst 0, 1) := by decide +kernel
theorem dX5_shakeOnce_137 : decode cX5_shakeOnce 137 = .ok (.iadd, 1) := by decide +kernel
theorem dX5_shakeOnce_138 : decode cX5_shakeOnce 138 = .ok (.istore_n 3, 1) := by decide +kernel
theorem dX5_shakeOnce_139 : decode cX5_shakeOnce 139 = .ok (.iload 4, 2) := by decide +kernel
theorem dX5_shakeOnce_141 : decode cX5_shakeOnce 141 = .ok (.ifCond .ne 23, 3) := by decide +kernel
theorem dX5_shakeOnce_144 : decode cX5_shakeOnce 144 = .ok (.iload 6, 2) := by decide +kernel
theorem dX5_shakeOnce_146 : decode cX5_shakeOnce 146 = .ok (.ifCond .eq 22, 3) := by decide +kernel
theorem dX5_shakeOnce_149 : decode cX5_shakeOnce 149 = .ok (.aload_n 0, 1) := by decide +kernel
theorem dX5_shakeOnce_150 : decode cX5_shakeOnce 150 = .ok (.iload_n 2, 1) := by decide +kernel
theorem dX5_shakeOnce_151 : decode cX5_shakeOnce 151 = .ok (.aload_n 0, 1) := by decide +kernel
theorem dX5_shakeOnce_152 : decode cX5_shakeOnce 152 = .ok (.getfield 7, 3) := by decide +kernel
theorem dX5_shakeOnce_155 : decode cX5_shakeOnce 155 = .ok (.iload 5, 2) := by decide +kernel
theorem dX5_shakeOnce_157 : decode cX5_shakeOnce 157 = .ok (.iaload, 1) := by decide +kernel
theorem dX5_shakeOnce_158 : decode cX5_shakeOnce 158 = .ok (.invokevirtual 173, 3) := by decide +kernel
theorem dX5_shakeOnce_161 : decode cX5_shakeOnce 161 = .ok (.ifCond .eq 7, 3) := by decide +kernel
theorem dX5_shakeOnce_164 : decode cX5_shakeOnce 164 = .ok (.iconst 1, 1) := by decide +kernel
theorem dX5_shakeOnce_165 : decode cX5_shakeOnce 165 = .ok (.goto 4, 3) := by decide +kernel
theorem dX5_shakeOnce_168 : decode cX5_shakeOnce 168 = .ok (.iconst 0, 1) := by decide +kernel
theorem dX5_shakeOnce_169 : decode cX5_shakeOnce 169 = .ok (.istore 4, 2) := by decide +kernel
theorem dX5_shakeOnce_171 : decode cX5_shakeOnce 171 = .ok (.iinc 5 1, 3) := by decide +kernel
theorem dX5_shakeOnce_174 : decode cX5_shakeOnce 174 = .ok (.goto (-99), 3) := by decide +kernel
theorem dX5_shakeOnce_177 : decode cX5_shakeOnce 177 = .ok (.iload_n 3, 1) := by decide +kernel
theorem dX5_shakeOnce_178 : decode cX5_shakeOnce 178 = .ok (.aload_n 0, 1) := by decide +kernel
theorem dX5_shakeOnce_179 : decode cX5_shakeOnce 179 = .ok (.getfield 19, 3) := by decide +kernel
theorem dX5_shakeOnce_182 : decode cX5_shakeOnce 182 = .ok (.iconst 4, 1) := by decide +kernel
theorem dX5_shakeOnce_183 : decode cX5_shakeOnce 183 = .ok (.iload_n 2, 1) := by decide +kernel
theorem dX5_shakeOnce_184 : decode cX5_shakeOnce 184 = .ok (.imul, 1) := by decide +kernel
theorem dX5_shakeOnce_185 : decode cX5_shakeOnce 185 = .ok (.iconst 2, 1) := by decide +kernel
theorem dX5_shakeOnce_186 : decode cX5_shakeOnce 186 = .ok (.iadd, 1) := by decide +kernel
theorem dX5_shakeOnce_187 : decode cX5_shakeOnce 187 = .ok (.iaload, 1) := by decide +kernel
theorem dX5_shakeOnce_188 : decode cX5_shakeOnce 188 = .ok (.if_icmp .le 7, 3) := by decide +kernel
theorem dX5_shakeOnce_191 : decode cX5_shakeOnce 191 = .ok (.iconst 1, 1) := by decide +kernel
theorem dX5_shakeOnce_192 : decode cX5_shakeOnce 192 = .ok (.goto 4, 3) := by decide +kernel
theorem dX5_shakeOnce_195 : decode cX5_shakeOnce 195 = .ok (.iconst 0, 1) := by decide +kernel
theorem dX5_shakeOnce_196 : decode cX5_shakeOnce 196 = .ok (.istore 5, 2) := by decide +kernel
theorem dX5_shakeOnce_198 : decode cX5_shakeOnce 198 = .ok (.iconst 0, 1) := by decide +kernel
theorem dX5_shakeOnce_199 : decode cX5_shakeOnce 199 = .ok (.istore 6, 2) := by decide +kernel
theorem dX5_shakeOnce_201 : decode cX5_shakeOnce 201 = .ok (.iload 6, 2) := by decide +kernel
theorem dX5_shakeOnce_203 : decode cX5_shakeOnce 203 = .ok (.aload_n 0, 1) := by decide +kernel
theorem dX5_shakeOnce_204 : decode cX5_shakeOnce 204 = .ok (.getfield 64, 3) := by decide +kernel
theorem dX5_shakeOnce_207 : decode cX5_shakeOnce 207 = .ok (.if_icmp .ge 51, 3) := by decide +kernel
theorem dX5_shakeOnce_210 : decode cX5_shakeOnce 210 = .ok (.aload_n 0, 1) := by decide +kernel
theorem dX5_shakeOnce_211 : decode cX5_shakeOnce 211 = .ok (.getfield 40, 3) := by decide +kernel
theorem dX5_shakeOnce_214 : decode cX5_shakeOnce 214 = .ok (.iload 6, 2) := by decide +kernel
theorem dX5_shakeOnce_216 : decode cX5_shakeOnce 216 = .ok (.iaload, 1) := by decide +kernel
theorem dX5_shakeOnce_217 : decode cX5_shakeOnce 217 = .ok (.aload_n 0, 1) := by decide +kernel
theorem dX5_shakeOnce_218 : decode cX5_shakeOnce 218 = .ok (.getfield 164, 3) := by decide +kernel
theorem dX5_shakeOnce_221 : decode cX5_shakeOnce 221 = .ok (.if_icmp .ne 31, 3) := by decide +kernel
theorem dX5_shakeOnce_224 : decode cX5_shakeOnce 224 = .ok (.iload 5, 2) := by decide +kernel
theorem dX5_shakeOnce_226 : decode cX5_shakeOnce 226 = .ok (.ifCond .ne 18, 3) := by decide +kernel
theorem dX5_shakeOnce_229 : decode cX5_shakeOnce 229 = .ok (.aload_n 0, 1) := by decide +kernel
theorem dX5_shakeOnce_230 : decode cX5_shakeOnce 230 = .ok (.iload_n 2, 1) := by decide +kernel
theorem dX5_shakeOnce_231 : decode cX5_shakeOnce 231 = .ok (.aload_n 0, 1) := by decide +kernel
theorem dX5_shakeOnce_232 : decode cX5_shakeOnce 232 = .ok (.getfield 7, 3) := by decide +kernel
theorem dX5_shakeOnce_235 : decode cX5_shakeOnce 235 = .ok (.iload 6, 2) := by decide +kernel
theorem dX5_shakeOnce_237 : decode cX5_shakeOnce 237 = .ok (.iaload, 1) := by decide +kernel
theorem dX5_shakeOnce_238 : decode cX5_shakeOnce 238 = .ok (.invokevirtual 173, 3) := by decide +kernel
theorem dX5_shakeOnce_241 : decode cX5_shakeOnce 241 = .ok (.ifCond .ne 11, 3) := by decide +kernel
theorem dX5_shakeOnce_244 : decode cX5_shakeOnce 244 = .ok (.aload_n 0, 1) := by decide +kernel
theorem dX5_shakeOnce_245 : decode cX5_shakeOnce 245 = .ok (.getfield 40, 3) := by decide +kernel
theorem dX5_shakeOnce_248 : decode cX5_shakeOnce 248 = .ok (.iload 6, 2) := by decide +kernel
theorem dX5_shakeOnce_250 : decode cX5_shakeOnce 250 = .ok (.iload_n 1, 1) := by decide +kernel
theorem dX5_shakeOnce_251 : decode cX5_shakeOnce 251 = .ok (.iastore, 1) := by decide +kernel
theorem dX5_shakeOnce_252 : decode cX5_shakeOnce 252 = .ok (.iinc 6 1, 3) := by decide +kernel
theorem dX5_shakeOnce_255 : decode cX5_shakeOnce 255 = .ok (.goto (-54), 3) := by decide +kernel
theorem dX5_shakeOnce_258 : decode cX5_shakeOnce 258 = .ok (.aload_n 0, 1) := by decide +kernel
theorem dX5_shakeOnce_259 : decode cX5_shakeOnce 259 = .ok (.dup, 1) := by decide +kernel
theorem dX5_shakeOnce_260 : decode cX5_shakeOnce 260 = .ok (.getfield 167, 3) := by decide +kernel
theorem dX5_shakeOnce_263 : decode cX5_shakeOnce 263 = .ok (.iload 5, 2) := by decide +kernel
theorem dX5_shakeOnce_265 : decode cX5_shakeOnce 265 = .ok (.ifCond .eq 9, 3) := by decide +kernel
theorem dX5_shakeOnce_268 : decode cX5_shakeOnce 268 = .ok (.iconst 1, 1) := by decide +kernel
theorem dX5_shakeOnce_269 : decode cX5_shakeOnce 269 = .ok (.iload_n 1, 1) := by decide +kernel
theorem dX5_shakeOnce_270 : decode cX5_shakeOnce 270 = .ok (.ishl, 1) := by decide +kernel
theorem dX5_shakeOnce_271 : decode cX5_shakeOnce 271 = .ok (.goto 4, 3) := by decide +kernel
theorem dX5_shakeOnce_274 : decode cX5_shakeOnce 274 = .ok (.iconst 0, 1) := by decide +kernel
theorem dX5_shakeOnce_275 : decode cX5_shakeOnce 275 = .ok (.ior, 1) := by decide +kernel
theorem dX5_shakeOnce_276 : decode cX5_shakeOnce 276 = .ok (.putfield 167, 3) := by decide +kernel
theorem dX5_shakeOnce_279 : decode cX5_shakeOnce 279 = .ok (.aload_n 0, 1) := by decide +kernel
theorem dX5_shakeOnce_280 : decode cX5_shakeOnce 280 = .ok (.dup, 1) := by decide +kernel
theorem dX5_shakeOnce_281 : decode cX5_shakeOnce 281 = .ok (.getfield 170, 3) := by decide +kernel
theorem dX5_shakeOnce_284 : decode cX5_shakeOnce 284 = .ok (.iload 4, 2) := by decide +kernel
theorem dX5_shakeOnce_286 : decode cX5_shakeOnce 286 = .ok (.ifCond .eq 14, 3) := by decide +kernel
theorem dX5_shakeOnce_289 : decode cX5_shakeOnce 289 = .ok (.iload 5, 2) := by decide +kernel
theorem dX5_shakeOnce_291 : decode cX5_shakeOnce 291 = .ok (.ifCond .ne 9, 3) := by decide +kernel
theorem dX5_shakeOnce_294 : decode cX5_shakeOnce 294 = .ok (.iconst 1, 1) := by decide +kernel
theorem dX5_shakeOnce_295 : decode cX5_shakeOnce 295 = .ok (.iload_n 1, 1) := by decide +kernel
theorem dX5_shakeOnce_296 : decode cX5_shakeOnce 296 = .ok (.ishl, 1) := by decide +kernel
theorem dX5_shakeOnce_297 : decode cX5_shakeOnce 297 = .ok (.goto 4, 3) := by decide +kernel
theorem dX5_shakeOnce_300 : decode cX5_shakeOnce 300 = .ok (.iconst 0, 1) := by decide +kernel
theorem dX5_shakeOnce_301 : decode cX5_shakeOnce 301 = .ok (.ior, 1) := by decide +kernel
theorem dX5_shakeOnce_302 : decode cX5_shakeOnce 302 = .ok (.putfield 170, 3) := by decide +kernel
theorem dX5_shakeOnce_305 : decode cX5_shakeOnce 305 = .ok (.iinc 1 1, 3) := by decide +kernel
theorem dX5_shakeOnce_308 : decode cX5_shakeOnce 308 = .ok (.goto (-256), 3) := by decide +kernel
theorem dX5_shakeOnce_311 : decode cX5_shakeOnce 311 = .ok (.return_, 1) := by decide +kernel
theorem dX5_wearOut_0 : decode cX5_wearOut 0 = .ok (.iconst 0, 1) := by decide +kernel
theorem dX5_wearOut_1 : decode cX5_wearOut 1 = .ok (.istore_n 1, 1) := by decide +kernel
theorem dX5_wearOut_2 : decode cX5_wearOut 2 = .ok (.iload_n 1, 1) := by decide +kernel
theorem dX5_wearOut_3 : decode cX5_wearOut 3 = .ok (.aload_n 0, 1) := by decide +kernel
theorem dX5_wearOut_4 : decode cX5_wearOut 4 = .ok (.getfield 164, 3) := by decide +kernel
theorem dX5_wearOut_7 : decode cX5_wearOut 7 = .ok (.if_icmp .ge 109, 3) := by decide +kernel
theorem dX5_wearOut_10 : decode cX5_wearOut 10 = .ok (.aload_n 0, 1) := by decide +kernel
theorem dX5_wearOut_11 : decode cX5_wearOut 11 = .ok (.getfield 31, 3) := by decide +kernel
theorem dX5_wearOut_14 : decode cX5_wearOut 14 = .ok (.iload_n 1, 1) := by decide +kernel
theorem dX5_wearOut_15 : decode cX5_wearOut 15 = .ok (.iaload, 1) := by decide +kernel
theorem dX5_wearOut_16 : decode cX5_wearOut 16 = .ok (.istore_n 2, 1) := by decide +kernel
theorem dX5_wearOut_17 : decode cX5_wearOut 17 = .ok (.aload_n 0, 1) := by decide +kernel
theorem dX5_wearOut_18 : decode cX5_wearOut 18 = .ok (.getfield 34, 3) := by decide +kernel
theorem dX5_wearOut_21 : decode cX5_wearOut 21 = .ok (.iload_n 2, 1) := by decide +kernel
theorem dX5_wearOut_22 : decode cX5_wearOut 22 = .ok (.iaload, 1) := by decide +kernel
theorem dX5_wearOut_23 : decode cX5_wearOut 23 = .ok (.iconst 1, 1) := by decide +kernel
theorem dX5_wearOut_24 : decode cX5_wearOut 24 = .ok (.if_icmp .ne 7, 3) := by decide +kernel
theorem dX5_wearOut_27 : decode cX5_wearOut 27 = .ok (.iconst 0, 1) := by decide +kernel
theorem dX5_wearOut_28 : decode cX5_wearOut 28 = .ok (.goto 38, 3) := by decide +kernel
theorem dX5_wearOut_31 : decode cX5_wearOut 31 = .ok (.aload_n 0, 1) := by decide +kernel
theorem dX5_wearOut_32 : decode cX5_wearOut 32 = .ok (.getfield 34, 3) := by decide +kernel
theorem dX5_wearOut_35 : decode cX5_wearOut 35 = .ok (.iload_n 2, 1) := by decide +kernel
theorem dX5_wearOut_36 : decode cX5_wearOut 36 = .ok (.iaload, 1) := by decide +kernel
theorem dX5_wearOut_37 : decode cX5_wearOut 37 = .ok (.iconst 2, 1) := by decide +kernel
theorem dX5_wearOut_38 : decode cX5_wearOut 38 = .ok (.if_icmp .lt 18, 3) := by decide +kernel
theorem dX5_wearOut_41 : decode cX5_wearOut 41 = .ok (.iconst 2, 1) := by decide +kernel
theorem dX5_wearOut_42 : decode cX5_wearOut 42 = .ok (.aload_n 0, 1) := by decide +kernel
theorem dX5_wearOut_43 : decode cX5_wearOut 43 = .ok (.getfield 19, 3) := by decide +kernel
theorem dX5_wearOut_46 : decode cX5_wearOut 46 = .ok (.iconst 4, 1) := by decide +kernel
theorem dX5_wearOut_47 : decode cX5_wearOut 47 = .ok (.iload_n 2, 1) := by decide +kernel
theorem dX5_wearOut_48 : decode cX5_wearOut 48 = .ok (.imul, 1) := by decide +kernel
theorem dX5_wearOut_49 : decode cX5_wearOut 49 = .ok (.iconst 3, 1) := by decide +kernel
theorem dX5_wearOut_50 : decode cX5_wearOut 50 = .ok (.iadd, 1) := by decide +kernel
theorem dX5_wearOut_51 : decode cX5_wearOut 51 = .ok (.iaload, 1) := by decide +kernel
theorem dX5_wearOut_52 : decode cX5_wearOut 52 = .ok (.imul, 1) := by decide +kernel
theorem dX5_wearOut_53 : decode cX5_wearOut 53 = .ok (.goto 13, 3) := by decide +kernel
theorem dX5_wearOut_56 : decode cX5_wearOut 56 = .ok (.aload_n 0, 1) := by decide +kernel
theorem dX5_wearOut_57 : decode cX5_wearOut 57 = .ok (.getfield 19, 3) := by decide +kernel
theorem dX5_wearOut_60 : decode cX5_wearOut 60 = .ok (.iconst 4, 1) := by decide +kernel
theorem dX5_wearOut_61 : decode cX5_wearOut 61 = .ok (.iload_n 2, 1) := by decide +kernel
theorem dX5_wearOut_62 : decode cX5_wearOut 62 = .ok (.imul, 1) := by decide +kernel
theorem dX5_wearOut_63 : decode cX5_wearOut 63 = .ok (.iconst 3, 1) := by decide +kernel
theorem dX5_wearOut_64 : decode cX5_wearOut 64 = .ok (.iadd, 1) := by decide +kernel
theorem dX5_wearOut_65 : decode cX5_wearOut 65 = .ok (.iaload, 1) := by decide +kernel
theorem dX5_wearOut_66 : decode cX5_wearOut 66 = .ok (.istore_n 3, 1) := by decide +kernel
theorem dX5_wearOut_67 : decode cX5_wearOut 67 = .ok (.aload_n 0, 1) := by decide +kernel
theorem dX5_wearOut_68 : decode cX5_wearOut 68 = .ok (.getfield 170, 3) := by decide +kernel
theorem dX5_wearOut_71 : decode cX5_wearOut 71 = .ok (.iload_n 1, 1) := by decide +kernel
theorem dX5_wearOut_72 : decode cX5_wearOut 72 = .ok (.invokestatic 156, 3) := by decide +kernel
theorem dX5_wearOut_75 : decode cX5_wearOut 75 = .ok (.ifCond .eq 35, 3) := by decide +kernel
theorem dX5_wearOut_78 : decode cX5_wearOut 78 = .ok (.aload_n 0, 1) := by decide +kernel
theorem dX5_wearOut_79 : decode cX5_wearOut 79 = .ok (.getfield 37, 3) := by decide +kernel
theorem dX5_wearOut_82 : decode cX5_wearOut 82 = .ok (.iload_n 2, 1) := by decide +kernel
theorem dX5_wearOut_83 : decode cX5_wearOut 83 = .ok (.aload_n 0, 1) := by decide +kernel
theorem dX5_wearOut_84 : decode cX5_wearOut 84 = .ok (.getfield 37, 3) := by decide +kernel
theorem dX5_wearOut_87 : decode cX5_wearOut 87 = .ok (.iload_n 2, 1) := by decide +kernel
theorem dX5_wearOut_88 : decode cX5_wearOut 88 = .ok (.iaload, 1) := by decide +kernel
theorem dX5_wearOut_89 : decode cX5_wearOut 89 = .ok (.iload_n 3, 1) := by decide +kernel
theorem dX5_wearOut_90 : decode cX5_wearOut 90 = .ok (.iadd, 1) := by decide +kernel
theorem dX5_wearOut_91 : decode cX5_wearOut 91 = .ok (.bipush 60, 2) := by decide +kernel
theorem dX5_wearOut_93 : decode cX5_wearOut 93 = .ok (.if_icmp .le 8, 3) := by decide +kernel
theorem dX5_wearOut_96 : decode cX5_wearOut 96 = .ok (.bipush 60, 2) := by decide +kernel
theorem dX5_wearOut_98 : decode cX5_wearOut 98 = .ok (.goto 11, 3) := by decide +kernel
theorem dX5_wearOut_101 : decode cX5_wearOut 101 = .ok (.aload_n 0, 1) := by decide +kernel
theorem dX5_wearOut_102 : decode cX5_wearOut 102 = .ok (.getfield 37, 3) := by decide +kernel
theorem dX5_wearOut_105 : decode cX5_wearOut 105 = .ok (.iload_n 2, 1) := by decide +kernel
theorem dX5_wearOut_106 : decode cX5_wearOut 106 = .ok (.iaload, 1) := by decide +kernel
theorem dX5_wearOut_107 : decode cX5_wearOut 107 = .ok (.iload_n 3, 1) := by decide +kernel
theorem dX5_wearOut_108 : decode cX5_wearOut 108 = .ok (.iadd, 1) := by decide +kernel
theorem dX5_wearOut_109 : decode cX5_wearOut 109 = .ok (.iastore, 1) := by decide +kernel
theorem dX5_wearOut_110 : decode cX5_wearOut 110 = .ok (.iinc 1 1, 3) := by decide +kernel
theorem dX5_wearOut_113 : decode cX5_wearOut 113 = .ok (.goto (-111), 3) := by decide +kernel
theorem dX5_wearOut_116 : decode cX5_wearOut 116 = .ok (.return_, 1) := by decide +kernel
theorem dX5_grainsIn_0 : decode cX5_grainsIn 0 = .ok (.iconst 0, 1) := by decide +kernel
theorem dX5_grainsIn_1 : decode cX5_grainsIn 1 = .ok (.istore_n 2, 1) := by decide +kernel
theorem dX5_grainsIn_2 : decode cX5_grainsIn 2 = .ok (.iconst 0, 1) := by decide +kernel
theorem dX5_grainsIn_3 : decode cX5_grainsIn 3 = .ok (.istore_n 3, 1) := by decide +kernel
theorem dX5_grainsIn_4 : decode cX5_grainsIn 4 = .ok (.iload_n 3, 1) := by decide +kernel
theorem dX5_grainsIn_5 : decode cX5_grainsIn 5 = .ok (.aload_n 0, 1) := by decide +kernel
theorem dX5_grainsIn_6 : decode cX5_grainsIn 6 = .ok (.getfield 64, 3) := by decide +kernel
theorem dX5_grainsIn_9 : decode cX5_grainsIn 9 = .ok (.if_icmp .ge 29, 3) := by decide +kernel
theorem dX5_grainsIn_12 : decode cX5_grainsIn 12 = .ok (.iload_n 2, 1) := by decide +kernel
theorem dX5_grainsIn_13 : decode cX5_grainsIn 13 = .ok (.aload_n 0, 1) := by decide +kernel
theorem dX5_grainsIn_14 : decode cX5_grainsIn 14 = .ok (.getfield 40, 3) := by decide +kernel
theorem dX5_grainsIn_17 : decode cX5_grainsIn 17 = .ok (.iload_n 3, 1) := by decide +kernel
theorem dX5_grainsIn_18 : decode cX5_grainsIn 18 = .ok (.iaload, 1) := by decide +kernel
theorem dX5_grainsIn_19 : decode cX5_grainsIn 19 = .ok (.iload_n 1, 1) := by decide +kernel
theorem dX5_grainsIn_20 : decode cX5_grainsIn 20 = .ok (.if_icmp .ne 9, 3) := by decide +kernel
theorem dX5_grainsIn_23 : decode cX5_grainsIn 23 = .ok (.iconst 1, 1) := by decide +kernel
theorem dX5_grainsIn_24 : decode cX5_grainsIn 24 = .ok (.iload_n 3, 1) := by decide +kernel
theorem dX5_grainsIn_25 : decode cX5_grainsIn 25 = .ok (.ishl, 1) := by decide +kernel
theorem dX5_grainsIn_26 : decode cX5_grainsIn 26 = .ok (.goto 4, 3) := by decide +kernel
theorem dX5_grainsIn_29 : decode cX5_grainsIn 29 = .ok (.iconst 0, 1) := by decide +kernel
theorem dX5_grainsIn_30 : decode cX5_grainsIn 30 = .ok (.ior, 1) := by decide +kernel
theorem dX5_grainsIn_31 : decode cX5_grainsIn 31 = .ok (.istore_n 2, 1) := by decide +kernel
theorem dX5_grainsIn_32 : decode cX5_grainsIn 32 = .ok (.iinc 3 1, 3) := by decide +kernel
theorem dX5_grainsIn_35 : decode cX5_grainsIn 35 = .ok (.goto (-31), 3) := by decide +kernel
theorem dX5_grainsIn_38 : decode cX5_grainsIn 38 = .ok (.iload_n 2, 1) := by decide +kernel
theorem dX5_grainsIn_39 : decode cX5_grainsIn 39 = .ok (.ireturn, 1) := by decide +kernel
theorem dX5_amountIn_0 : decode cX5_amountIn 0 = .ok (.iconst 0, 1) := by decide +kernel
theorem dX5_amountIn_1 : decode cX5_amountIn 1 = .ok (.istore_n 2, 1) := by decide +kernel
theorem dX5_amountIn_2 : decode cX5_amountIn 2 = .ok (.iconst 0, 1) := by decide +kernel
theorem dX5_amountIn_3 : decode cX5_amountIn 3 = .ok (.istore_n 3, 1) := by decide +kernel
theorem dX5_amountIn_4 : decode cX5_amountIn 4 = .ok (.iload_n 3, 1) := by decide +kernel
theorem dX5_amountIn_5 : decode cX5_amountIn 5 = .ok (.aload_n 0, 1) := by decide +kernel
theorem dX5_amountIn_6 : decode cX5_amountIn 6 = .ok (.getfield 64, 3) := by decide +kernel
theorem dX5_amountIn_9 : decode cX5_amountIn 9 = .ok (.if_icmp .ge 32, 3) := by decide +kernel
theorem dX5_amountIn_12 : decode cX5_amountIn 12 = .ok (.iload_n 2, 1) := by decide +kernel
theorem dX5_amountIn_13 : decode cX5_amountIn 13 = .ok (.aload_n 0, 1) := by decide +kernel
theorem dX5_amountIn_14 : decode cX5_amountIn 14 = .ok (.getfield 40, 3) := by decide +kernel
theorem dX5_amountIn_17 : decode cX5_amountIn 17 = .ok (.iload_n 3, 1) := by decide +kernel
theorem dX5_amountIn_18 : decode cX5_amountIn 18 = .ok (.iaload, 1) := by decide +kernel
theorem dX5_amountIn_19 : decode cX5_amountIn 19 = .ok (.iload_n 1, 1) := by decide +kernel
theorem dX5_amountIn_20 : decode cX5_amountIn 20 = .ok (.if_icmp .ne 12, 3) := by decide +kernel
theorem dX5_amountIn_23 : decode cX5_amountIn 23 = .ok (.aload_n 0, 1) := by decide +kernel
theorem dX5_amountIn_24 : decode cX5_amountIn 24 = .ok (.getfield 13, 3) := by decide +kernel
theorem dX5_amountIn_27 : decode cX5_amountIn 27 = .ok (.iload_n 3, 1) := by decide +kernel
theorem dX5_amountIn_28 : decode cX5_amountIn 28 = .ok (.iaload, 1) := by decide +kernel
theorem dX5_amountIn_29 : decode cX5_amountIn 29 = .ok (.goto 4, 3) := by decide +kernel
theorem dX5_amountIn_32 : decode cX5_amountIn 32 = .ok (.iconst 0, 1) := by decide +kernel
theorem dX5_amountIn_33 : decode cX5_amountIn 33 = .ok (.iadd, 1) := by decide +kernel
theorem dX5_amountIn_34 : decode cX5_amountIn 34 = .ok (.istore_n 2, 1) := by decide +kernel
theorem dX5_amountIn_35 : decode cX5_amountIn 35 = .ok (.iinc 3 1, 3) := by decide +kernel
theorem dX5_amountIn_38 : decode cX5_amountIn 38 = .ok (.goto (-34), 3) := by decide +kernel
theorem dX5_amountIn_41 : decode cX5_amountIn 41 = .ok (.iload_n 2, 1) := by decide +kernel
theorem dX5_amountIn_42 : decode cX5_amountIn 42 = .ok (.ireturn, 1) := by decide +kernel
theorem dX5_valueIn_0 : decode cX5_valueIn 0 = .ok (.bipush 100, 2) := by decide +kernel
theorem dX5_valueIn_2 : decode cX5_valueIn 2 = .ok (.istore_n 2, 1) := by decide +kernel
theorem dX5_valueIn_3 : decode cX5_valueIn 3 = .ok (.iconst 0, 1) := by decide +kernel
theorem dX5_valueIn_4 : decode cX5_valueIn 4 = .ok (.istore_n 3, 1) := by decide +kernel
theorem dX5_valueIn_5 : decode cX5_valueIn 5 = .ok (.iload_n 3, 1) := by decide +kernel
theorem dX5_valueIn_6 : decode cX5_valueIn 6 = .ok (.aload_n 0, 1) := by decide +kernel
theorem dX5_valueIn_7 : decode cX5_valueIn 7 = .ok (.getfield 64, 3) := by decide +kernel
theorem dX5_valueIn_10 : decode cX5_valueIn 10 = .ok (.if_icmp .ge 40, 3) := by decide +kernel
theorem dX5_valueIn_13 : decode cX5_valueIn 13 = .ok (.aload_n 0, 1) := by decide +kernel
theorem dX5_valueIn_14 : decode cX5_valueIn 14 = .ok (.getfield 40, 3) := by decide +kernel
theorem dX5_valueIn_17 : decode cX5_valueIn 17 = .ok (.iload_n 3, 1) := by decide +kernel
theorem dX5_valueIn_18 : decode cX5_valueIn 18 = .ok (.iaload, 1) := by decide +kernel
theorem dX5_valueIn_19 : decode cX5_valueIn 19 = .ok (.iload_n 1, 1) := by decide +kernel
theorem dX5_valueIn_20 : decode cX5_valueIn 20 = .ok (.if_icmp .ne 22, 3) := by decide +kernel
theorem dX5_valueIn_23 : decode cX5_valueIn 23 = .ok (.aload_n 0, 1) := by decide +kernel
theorem dX5_valueIn_24 : decode cX5_valueIn 24 = .ok (.getfield 16, 3) := by decide +kernel
theorem dX5_valueIn_27 : decode cX5_valueIn 27 = .ok (.iload_n 3, 1) := by decide +kernel
theorem dX5_valueIn_28 : decode cX5_valueIn 28 = .ok (.iaload, 1) := by decide +kernel
theorem dX5_valueIn_29 : decode cX5_valueIn 29 = .ok (.iload_n 2, 1) := by decide +kernel
theorem dX5_valueIn_30 : decode cX5_valueIn 30 = .ok (.if_icmp .ge 12, 3) := by decide +kernel
theorem dX5_valueIn_33 : decode cX5_valueIn 33 = .ok (.aload_n 0, 1) := by decide +kernel
theorem dX5_valueIn_34 : decode cX5_valueIn 34 = .ok (.getfield 16, 3) := by decide +kernel
theorem dX5_valueIn_37 : decode cX5_valueIn 37 = .ok (.iload_n 3, 1) := by decide +kernel
theorem dX5_valueIn_38 : decode cX5_valueIn 38 = .ok (.iaload, 1) := by decide +kernel
theorem dX5_valueIn_39 : decode cX5_valueIn 39 = .ok (.goto 4, 3) := by decide +kernel
theorem dX5_valueIn_42 : decode cX5_valueIn 42 = .ok (.iload_n 2, 1) := by decide +kernel
theorem dX5_valueIn_43 : decode cX5_valueIn 43 = .ok (.istore_n 2, 1) := by decide +kernel
theorem dX5_valueIn_44 : decode cX5_valueIn 44 = .ok (.iinc 3 1, 3) := by decide +kernel
theorem dX5_valueIn_47 : decode cX5_valueIn 47 = .ok (.goto (-42), 3) := by decide +kernel
theorem dX5_valueIn_50 : decode cX5_valueIn 50 = .ok (.iload_n 2, 1) := by decide +kernel
theorem dX5_valueIn_51 : decode cX5_valueIn 51 = .ok (.bipush 100, 2) := by decide +kernel
theorem dX5_valueIn_53 : decode cX5_valueIn 53 = .ok (.if_icmp .ne 7, 3) := by decide +kernel
theorem dX5_valueIn_56 : decode cX5_valueIn 56 = .ok (.iconst 0, 1) := by decide +kernel
theorem dX5_valueIn_57 : decode cX5_valueIn 57 = .ok (.goto 10, 3) := by decide +kernel
theorem dX5_valueIn_60 : decode cX5_valueIn 60 = .ok (.aload_n 0, 1) := by decide +kernel
theorem dX5_valueIn_61 : decode cX5_valueIn 61 = .ok (.iload_n 1, 1) := by decide +kernel
theorem dX5_valueIn_62 : decode cX5_valueIn 62 = .ok (.invokevirtual 176, 3) := by decide +kernel
theorem dX5_valueIn_65 : decode cX5_valueIn 65 = .ok (.iload_n 2, 1) := by decide +kernel
theorem dX5_valueIn_66 : decode cX5_valueIn 66 = .ok (.imul, 1) := by decide +kernel
theorem dX5_valueIn_67 : decode cX5_valueIn 67 = .ok (.ireturn, 1) := by decide +kernel
theorem dX5_valueOf_0 : decode cX5_valueOf 0 = .ok (.iconst 0, 1) := by decide +kernel
theorem dX5_valueOf_1 : decode cX5_valueOf 1 = .ok (.istore_n 1, 1) := by decide +kernel
theorem dX5_valueOf_2 : decode cX5_valueOf 2 = .ok (.iconst 0, 1) := by decide +kernel
theorem dX5_valueOf_3 : decode cX5_valueOf 3 = .ok (.istore_n 2, 1) := by decide +kernel
theorem dX5_valueOf_4 : decode cX5_valueOf 4 = .ok (.iload_n 2, 1) := by decide +kernel
theorem dX5_valueOf_5 : decode cX5_valueOf 5 = .ok (.aload_n 0, 1) := by decide +kernel
theorem dX5_valueOf_6 : decode cX5_valueOf 6 = .ok (.getfield 164, 3) := by decide +kernel
theorem dX5_valueOf_9 : decode cX5_valueOf 9 = .ok (.if_icmp .gt 17, 3) := by decide +kernel
theorem dX5_valueOf_12 : decode cX5_valueOf 12 = .ok (.iload_n 1, 1) := by decide +kernel
theorem dX5_valueOf_13 : decode cX5_valueOf 13 = .ok (.aload_n 0, 1) := by decide +kernel
theorem dX5_valueOf_14 : decode cX5_valueOf 14 = .ok (.iload_n 2, 1) := by decide +kernel
theorem dX5_valueOf_15 : decode cX5_valueOf 15 = .ok (.invokevirtual 180, 3) := by decide +kernel
theorem dX5_valueOf_18 : decode cX5_valueOf 18 = .ok (.iadd, 1) := by decide +kernel
theorem dX5_valueOf_19 : decode cX5_valueOf 19 = .ok (.istore_n 1, 1) := by decide +kernel
theorem dX5_valueOf_20 : decode cX5_valueOf 20 = .ok (.iinc 2 1, 3) := by decide +kernel
theorem dX5_valueOf_23 : decode cX5_valueOf 23 = .ok (.goto (-19), 3) := by decide +kernel
theorem dX5_valueOf_26 : decode cX5_valueOf 26 = .ok (.iload_n 1, 1) := by decide +kernel
theorem dX5_valueOf_27 : decode cX5_valueOf 27 = .ok (.ireturn, 1) := by decide +kernel
theorem dX5_tryNow_0 : decode cX5_tryNow 0 = .ok (.aload_n 0, 1) := by decide +kernel
theorem dX5_tryNow_1 : decode cX5_tryNow 1 = .ok (.invokevirtual 183, 3) := by decide +kernel
theorem dX5_tryNow_4 : decode cX5_tryNow 4 = .ok (.aload_n 0, 1) := by decide +kernel
theorem dX5_tryNow_5 : decode cX5_tryNow 5 = .ok (.invokevirtual 186, 3) := by decide +kernel
theorem dX5_tryNow_8 : decode cX5_tryNow 8 = .ok (.aload_n 0, 1) := by decide +kernel
theorem dX5_tryNow_9 : decode cX5_tryNow 9 = .ok (.invokevirtual 189, 3) := by decide +kernel
theorem dX5_tryNow_12 : decode cX5_tryNow 12 = .ok (.return_, 1) := by decide +kernel
theorem dX5_found_0 : decode cX5_found 0 = .ok (.iload_n 1, 1) := by decide +kernel
theorem dX5_found_1 : decode cX5_found 1 = .ok (.i2l, 1) := by decide +kernel
theorem dX5_found_2 : decode cX5_found 2 = .ok (.lconst 0, 1) := by decide +kernel
theorem dX5_found_3 : decode cX5_found 3 = .ok (.aload_n 0, 1) := by decide +kernel
theorem dX5_found_4 : decode cX5_found 4 = .ok (.getfield 102, 3) := by decide +kernel
theorem dX5_found_7 : decode cX5_found 7 = .ok (.i2l, 1) := by decide +kernel
theorem dX5_found_8 : decode cX5_found 8 = .ok (.invokestatic 68, 3) := by decide +kernel
theorem dX5_found_11 : decode cX5_found 11 = .ok (.ifCond .eq 15, 3) := by decide +kernel
theorem dX5_found_14 : decode cX5_found 14 = .ok (.iload_n 2, 1) := by decide +kernel
theorem dX5_found_15 : decode cX5_found 15 = .ok (.i2l, 1) := by decide +kernel
theorem dX5_found_16 : decode cX5_found 16 = .ok (.lconst 0, 1) := by decide +kernel
theorem dX5_found_17 : decode cX5_found 17 = .ok (.ldc2_w 89, 3) := by decide +kernel
theorem dX5_found_20 : decode cX5_found 20 = .ok (.invokestatic 68, 3) := by decide +kernel
theorem dX5_found_23 : decode cX5_found 23 = .ok (.ifCond .ne 5, 3) := by decide +kernel
theorem dX5_found_26 : decode cX5_found 26 = .ok (.iconst (-1), 1) := by decide +kernel
theorem dX5_found_27 : decode cX5_found 27 = .ok (.ireturn, 1) := by decide +kernel
theorem dX5_found_28 : decode cX5_found 28 = .ok (.aload_n 0, 1) := by decide +kernel
theorem dX5_found_29 : decode cX5_found 29 = .ok (.invokevirtual 192, 3) := by decide +kernel
theorem dX5_found_32 : decode cX5_found 32 = .ok (.iload_n 2, 1) := by decide +kernel
theorem dX5_found_33 : decode cX5_found 33 = .ok (.ifCond .ne 11, 3) := by decide +kernel
theorem dX5_found_36 : decode cX5_found 36 = .ok (.aload_n 0, 1) := by decide +kernel
theorem dX5_found_37 : decode cX5_found 37 = .ok (.iload_n 1, 1) := by decide +kernel
theorem dX5_found_38 : decode cX5_found 38 = .ok (.invokevirtual 195, 3) := by decide +kernel
theorem dX5_found_41 : decode cX5_found 41 = .ok (.goto 21, 3) := by decide +kernel
theorem dX5_found_44 : decode cX5_found 44 = .ok (.iload_n 2, 1) := by decide +kernel
theorem dX5_found_45 : decode cX5_found 45 = .ok (.iconst 1, 1) := by decide +kernel
theorem dX5_found_46 : decode cX5_found 46 = .ok (.if_icmp .ne 11, 3) := by decide +kernel
theorem dX5_found_49 : decode cX5_found 49 = .ok (.aload_n 0, 1) := by decide +kernel
theorem dX5_found_50 : decode cX5_found 50 = .ok (.iload_n 1, 1) := by decide +kernel
theorem dX5_found_51 : decode cX5_found 51 = .ok (.invokevirtual 176, 3) := by decide +kernel
theorem dX5_found_54 : decode cX5_found 54 = .ok (.goto 8, 3) := by decide +kernel
theorem dX5_found_57 : decode cX5_found 57 = .ok (.aload_n 0, 1) := by decide +kernel
theorem dX5_found_58 : decode cX5_found 58 = .ok (.iload_n 1, 1) := by decide +kernel
theorem dX5_found_59 : decode cX5_found 59 = .ok (.invokevirtual 180, 3) := by decide +kernel
theorem dX5_found_62 : decode cX5_found 62 = .ok (.ireturn, 1) := by decide +kernel
theorem dX5_where_0 : decode cX5_where 0 = .ok (.aload_n 0, 1) := by decide +kernel
theorem dX5_where_1 : decode cX5_where 1 = .ok (.iload_n 1, 1) := by decide +kernel
theorem dX5_where_2 : decode cX5_where 2 = .ok (.invokevirtual 85, 3) := by decide +kernel
theorem dX5_where_5 : decode cX5_where 5 = .ok (.ifCond .ne 5, 3) := by decide +kernel
theorem dX5_where_8 : decode cX5_where 8 = .ok (.iconst (-1), 1) := by decide +kernel
theorem dX5_where_9 : decode cX5_where 9 = .ok (.ireturn, 1) := by decide +kernel
theorem dX5_where_10 : decode cX5_where 10 = .ok (.aload_n 0, 1) := by decide +kernel
theorem dX5_where_11 : decode cX5_where 11 = .ok (.invokevirtual 192, 3) := by decide +kernel
theorem dX5_where_14 : decode cX5_where 14 = .ok (.aload_n 0, 1) := by decide +kernel
theorem dX5_where_15 : decode cX5_where 15 = .ok (.getfield 40, 3) := by decide +kernel
theorem dX5_where_18 : decode cX5_where 18 = .ok (.iload_n 1, 1) := by decide +kernel
theorem dX5_where_19 : decode cX5_where 19 = .ok (.iaload, 1) := by decide +kernel
theorem dX5_where_20 : decode cX5_where 20 = .ok (.ireturn, 1) := by decide +kernel
theorem dX5_chokes_0 : decode cX5_chokes 0 = .ok (.aload_n 0, 1) := by decide +kernel
theorem dX5_chokes_1 : decode cX5_chokes 1 = .ok (.invokevirtual 192, 3) := by decide +kernel
theorem dX5_chokes_4 : decode cX5_chokes 4 = .ok (.aload_n 0, 1) := by decide +kernel
theorem dX5_chokes_5 : decode cX5_chokes 5 = .ok (.getfield 167, 3) := by decide +kernel
theorem dX5_chokes_8 : decode cX5_chokes 8 = .ok (.ireturn, 1) := by decide +kernel
theorem dX5_keep_0 : decode cX5_keep 0 = .ok (.aload_n 0, 1) := by decide +kernel
theorem dX5_keep_1 : decode cX5_keep 1 = .ok (.invokevirtual 198, 3) := by decide +kernel
theorem dX5_keep_4 : decode cX5_keep 4 = .ok (.iconst 0, 1) := by decide +kernel
theorem dX5_keep_5 : decode cX5_keep 5 = .ok (.istore_n 1, 1) := by decide +kernel
theorem dX5_keep_6 : decode cX5_keep 6 = .ok (.iload_n 1, 1) := by decide +kernel
theorem dX5_keep_7 : decode cX5_keep 7 = .ok (.aload_n 0, 1) := by decide +kernel
theorem dX5_keep_8 : decode cX5_keep 8 = .ok (.getfield 72, 3) := by decide +kernel
theorem dX5_keep_11 : decode cX5_keep 11 = .ok (.if_icmp .ge 25, 3) := by decide +kernel
theorem dX5_keep_14 : decode cX5_keep 14 = .ok (.aload_n 0, 1) := by decide +kernel
theorem dX5_keep_15 : decode cX5_keep 15 = .ok (.getfield 19, 3) := by decide +kernel
theorem dX5_keep_18 : decode cX5_keep 18 = .ok (.iconst 4, 1) := by decide +kernel
theorem dX5_keep_19 : decode cX5_keep 19 = .ok (.iload_n 1, 1) := by decide +kernel
theorem dX5_keep_20 : decode cX5_keep 20 = .ok (.imul, 1) := by decide +kernel
theorem dX5_keep_21 : decode cX5_keep 21 = .ok (.iconst 1, 1) := by decide +kernel
theorem dX5_keep_22 : decode cX5_keep 22 = .ok (.iadd, 1) := by decide +kernel
theorem dX5_keep_23 : decode cX5_keep 23 = .ok (.aload_n 0, 1) := by decide +kernel
theorem dX5_keep_24 : decode cX5_keep 24 = .ok (.getfield 37, 3) := by decide +kernel
theorem dX5_keep_27 : decode cX5_keep 27 = .ok (.iload_n 1, 1) := by decide +kernel
theorem dX5_keep_28 : decode cX5_keep 28 = .ok (.iaload, 1) := by decide +kernel
theorem dX5_keep_29 : decode cX5_keep 29 = .ok (.iastore, 1) := by decide +kernel
theorem dX5_keep_30 : decode cX5_keep 30 = .ok (.iinc 1 1, 3) := by decide +kernel
theorem dX5_keep_33 : decode cX5_keep 33 = .ok (.goto (-27), 3) := by decide +kernel
theorem dX5_keep_36 : decode cX5_keep 36 = .ok (.aload_n 0, 1) := by decide +kernel
theorem dX5_keep_37 : decode cX5_keep 37 = .ok (.aload_n 0, 1) := by decide +kernel
theorem dX5_keep_38 : decode cX5_keep 38 = .ok (.getfield 105, 3) := by decide +kernel
theorem dX5_keep_41 : decode cX5_keep 41 = .ok (.ldc 201, 2) := by decide +kernel
theorem dX5_keep_43 : decode cX5_keep 43 = .ok (.if_icmp .ne 8, 3) := by decide +kernel
theorem dX5_keep_46 : decode cX5_keep 46 = .ok (.ldc 201, 2) := by decide +kernel
theorem dX5_keep_48 : decode cX5_keep 48 = .ok (.goto 9, 3) := by decide +kernel
theorem dX5_keep_51 : decode cX5_keep 51 = .ok (.aload_n 0, 1) := by decide +kernel
theorem dX5_keep_52 : decode cX5_keep 52 = .ok (.getfield 105, 3) := by decide +kernel
theorem dX5_keep_55 : decode cX5_keep 55 = .ok (.iconst 1, 1) := by decide +kernel
theorem dX5_keep_56 : decode cX5_keep 56 = .ok (.iadd, 1) := by decide +kernel
theorem dX5_keep_57 : decode cX5_keep 57 = .ok (.putfield 105, 3) := by decide +kernel
theorem dX5_keep_60 : decode cX5_keep 60 = .ok (.return_, 1) := by decide +kernel
theorem dX5_shake_0 : decode cX5_shake 0 = .ok (.aload_n 0, 1) := by decide +kernel
theorem dX5_shake_1 : decode cX5_shake 1 = .ok (.invokevirtual 192, 3) := by decide +kernel
theorem dX5_shake_4 : decode cX5_shake 4 = .ok (.aload_n 0, 1) := by decide +kernel
theorem dX5_shake_5 : decode cX5_shake 5 = .ok (.invokevirtual 202, 3) := by decide +kernel
theorem dX5_shake_8 : decode cX5_shake 8 = .ok (.istore_n 1, 1) := by decide +kernel
theorem dX5_shake_9 : decode cX5_shake 9 = .ok (.aload_n 0, 1) := by decide +kernel
theorem dX5_shake_10 : decode cX5_shake 10 = .ok (.invokevirtual 205, 3) := by decide +kernel
theorem dX5_shake_13 : decode cX5_shake 13 = .ok (.iload_n 1, 1) := by decide +kernel
theorem dX5_shake_14 : decode cX5_shake 14 = .ok (.ireturn, 1) := by decide +kernel
theorem dX5_lasts_0 : decode cX5_lasts 0 = .ok (.aload_n 0, 1) := by decide +kernel
theorem dX5_lasts_1 : decode cX5_lasts 1 = .ok (.invokevirtual 192, 3) := by decide +kernel
theorem dX5_lasts_4 : decode cX5_lasts 4 = .ok (.iconst 0, 1) := by decide +kernel
theorem dX5_lasts_5 : decode cX5_lasts 5 = .ok (.istore_n 1, 1) := by decide +kernel
theorem dX5_lasts_6 : decode cX5_lasts 6 = .ok (.iload_n 1, 1) := by decide +kernel
theorem dX5_lasts_7 : decode cX5_lasts 7 = .ok (.aload_n 0, 1) := by decide +kernel
theorem dX5_lasts_8 : decode cX5_lasts 8 = .ok (.getfield 64, 3) := by decide +kernel
theorem dX5_lasts_11 : decode cX5_lasts 11 = .ok (.if_icmp .ge 21, 3) := by decide +kernel
theorem dX5_lasts_14 : decode cX5_lasts 14 = .ok (.aload_n 0, 1) := by decide +kernel
theorem dX5_lasts_15 : decode cX5_lasts 15 = .ok (.getfield 43, 3) := by decide +kernel
theorem dX5_lasts_18 : decode cX5_lasts 18 = .ok (.iload_n 1, 1) := by decide +kernel
theorem dX5_lasts_19 : decode cX5_lasts 19 = .ok (.aload_n 0, 1) := by decide +kernel
theorem dX5_lasts_20 : decode cX5_lasts 20 = .ok (.getfield 40, 3) := by decide +kernel
theorem dX5_lasts_23 : decode cX5_lasts 23 = .ok (.iload_n 1, 1) := by decide +kernel
theorem dX5_lasts_24 : decode cX5_lasts 24 = .ok (.iaload, 1) := by decide +kernel
theorem dX5_lasts_25 : decode cX5_lasts 25 = .ok (.iastore, 1) := by decide +kernel
theorem dX5_lasts_26 : decode cX5_lasts 26 = .ok (.iinc 1 1, 3) := by decide +kernel
theorem dX5_lasts_29 : decode cX5_lasts 29 = .ok (.goto (-23), 3) := by decide +kernel
theorem dX5_lasts_32 : decode cX5_lasts 32 = .ok (.iconst 1, 1) := by decide +kernel
theorem dX5_lasts_33 : decode cX5_lasts 33 = .ok (.istore_n 1, 1) := by decide +kernel
theorem dX5_lasts_34 : decode cX5_lasts 34 = .ok (.iconst 0, 1) := by decide +kernel
theorem dX5_lasts_35 : decode cX5_lasts 35 = .ok (.istore_n 2, 1) := by decide +kernel
theorem dX5_lasts_36 : decode cX5_lasts 36 = .ok (.iload_n 1, 1) := by decide +kernel
theorem dX5_lasts_37 : decode cX5_lasts 37 = .ok (.ifCond .eq 65, 3) := by decide +kernel
theorem dX5_lasts_40 : decode cX5_lasts 40 = .ok (.iload_n 2, 1) := by decide +kernel
theorem dX5_lasts_41 : decode cX5_lasts 41 = .ok (.sipush 200, 3) := by decide +kernel
theorem dX5_lasts_44 : decode cX5_lasts 44 = .ok (.if_icmp .ge 58, 3) := by decide +kernel
theorem dX5_lasts_47 : decode cX5_lasts 47 = .ok (.iinc 2 1, 3) := by decide +kernel
theorem dX5_lasts_50 : decode cX5_lasts 50 = .ok (.aload_n 0, 1) := by decide +kernel
theorem dX5_lasts_51 : decode cX5_lasts 51 = .ok (.invokevirtual 198, 3) := by decide +kernel
theorem dX5_lasts_54 : decode cX5_lasts 54 = .ok (.aload_n 0, 1) := by decide +kernel
theorem dX5_lasts_55 : decode cX5_lasts 55 = .ok (.invokevirtual 189, 3) := by decide +kernel
theorem dX5_lasts_58 : decode cX5_lasts 58 = .ok (.iconst 0, 1) := by decide +kernel
theorem dX5_lasts_59 : decode cX5_lasts 59 = .ok (.istore_n 3, 1) := by decide +kernel
theorem dX5_lasts_60 : decode cX5_lasts 60 = .ok (.iload_n 3, 1) := by decide +kernel
theorem dX5_lasts_61 : decode cX5_lasts 61 = .ok (.aload_n 0, 1) := by decide +kernel
