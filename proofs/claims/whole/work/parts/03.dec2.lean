theorem dX3_writes_34 : decode cX3_writes 34 = .ok (.iload_n 2, 1) := by decide +kernel
theorem dX3_writes_35 : decode cX3_writes 35 = .ok (.iconst 0, 1) := by decide +kernel
theorem dX3_writes_36 : decode cX3_writes 36 = .ok (.iload_n 3, 1) := by decide +kernel
theorem dX3_writes_37 : decode cX3_writes 37 = .ok (.invokevirtual 59, 3) := by decide +kernel
theorem dX3_writes_40 : decode cX3_writes 40 = .ok (.aload_n 0, 1) := by decide +kernel
theorem dX3_writes_41 : decode cX3_writes 41 = .ok (.iload_n 1, 1) := by decide +kernel
theorem dX3_writes_42 : decode cX3_writes 42 = .ok (.iload_n 2, 1) := by decide +kernel
theorem dX3_writes_43 : decode cX3_writes 43 = .ok (.iconst 1, 1) := by decide +kernel
theorem dX3_writes_44 : decode cX3_writes 44 = .ok (.iload_n 3, 1) := by decide +kernel
theorem dX3_writes_45 : decode cX3_writes 45 = .ok (.invokestatic 63, 3) := by decide +kernel
theorem dX3_writes_48 : decode cX3_writes 48 = .ok (.iload 5, 2) := by decide +kernel
theorem dX3_writes_50 : decode cX3_writes 50 = .ok (.iadd, 1) := by decide +kernel
theorem dX3_writes_51 : decode cX3_writes 51 = .ok (.invokevirtual 59, 3) := by decide +kernel
theorem dX3_writes_54 : decode cX3_writes 54 = .ok (.aload_n 0, 1) := by decide +kernel
theorem dX3_writes_55 : decode cX3_writes 55 = .ok (.iload_n 1, 1) := by decide +kernel
theorem dX3_writes_56 : decode cX3_writes 56 = .ok (.iload_n 2, 1) := by decide +kernel
theorem dX3_writes_57 : decode cX3_writes 57 = .ok (.iconst 2, 1) := by decide +kernel
theorem dX3_writes_58 : decode cX3_writes 58 = .ok (.iload 4, 2) := by decide +kernel
theorem dX3_writes_60 : decode cX3_writes 60 = .ok (.iconst 1, 1) := by decide +kernel
theorem dX3_writes_61 : decode cX3_writes 61 = .ok (.iadd, 1) := by decide +kernel
theorem dX3_writes_62 : decode cX3_writes 62 = .ok (.invokevirtual 59, 3) := by decide +kernel
theorem dX3_writes_65 : decode cX3_writes 65 = .ok (.aload_n 0, 1) := by decide +kernel
theorem dX3_writes_66 : decode cX3_writes 66 = .ok (.iload_n 1, 1) := by decide +kernel
theorem dX3_writes_67 : decode cX3_writes 67 = .ok (.iload_n 2, 1) := by decide +kernel
theorem dX3_writes_68 : decode cX3_writes 68 = .ok (.iconst 3, 1) := by decide +kernel
theorem dX3_writes_69 : decode cX3_writes 69 = .ok (.aload_n 0, 1) := by decide +kernel
theorem dX3_writes_70 : decode cX3_writes 70 = .ok (.getfield 7, 3) := by decide +kernel
theorem dX3_writes_73 : decode cX3_writes 73 = .ok (.iconst 0, 1) := by decide +kernel
theorem dX3_writes_74 : decode cX3_writes 74 = .ok (.iaload, 1) := by decide +kernel
theorem dX3_writes_75 : decode cX3_writes 75 = .ok (.invokevirtual 59, 3) := by decide +kernel
theorem dX3_writes_78 : decode cX3_writes 78 = .ok (.aload_n 0, 1) := by decide +kernel
theorem dX3_writes_79 : decode cX3_writes 79 = .ok (.getfield 7, 3) := by decide +kernel
theorem dX3_writes_82 : decode cX3_writes 82 = .ok (.iconst 5, 1) := by decide +kernel
theorem dX3_writes_83 : decode cX3_writes 83 = .ok (.dup2, 1) := by decide +kernel
theorem dX3_writes_84 : decode cX3_writes 84 = .ok (.iaload, 1) := by decide +kernel
theorem dX3_writes_85 : decode cX3_writes 85 = .ok (.iconst 1, 1) := by decide +kernel
theorem dX3_writes_86 : decode cX3_writes 86 = .ok (.iadd, 1) := by decide +kernel
theorem dX3_writes_87 : decode cX3_writes 87 = .ok (.iastore, 1) := by decide +kernel
theorem dX3_writes_88 : decode cX3_writes 88 = .ok (.iload_n 3, 1) := by decide +kernel
theorem dX3_writes_89 : decode cX3_writes 89 = .ok (.invokestatic 63, 3) := by decide +kernel
theorem dX3_writes_92 : decode cX3_writes 92 = .ok (.iload 5, 2) := by decide +kernel
theorem dX3_writes_94 : decode cX3_writes 94 = .ok (.iadd, 1) := by decide +kernel
theorem dX3_writes_95 : decode cX3_writes 95 = .ok (.ireturn, 1) := by decide +kernel
theorem dX3_writesGuards_0 : decode cX3_writesGuards 0 = .ok (.iconst 0, 1) := by decide +kernel
theorem dX3_writesGuards_1 : decode cX3_writesGuards 1 = .ok (.istore_n 2, 1) := by decide +kernel
theorem dX3_writesGuards_2 : decode cX3_writesGuards 2 = .ok (.iload_n 2, 1) := by decide +kernel
theorem dX3_writesGuards_3 : decode cX3_writesGuards 3 = .ok (.iconst 3, 1) := by decide +kernel
theorem dX3_writesGuards_4 : decode cX3_writesGuards 4 = .ok (.if_icmp .ge 45, 3) := by decide +kernel
theorem dX3_writesGuards_7 : decode cX3_writesGuards 7 = .ok (.aload_n 0, 1) := by decide +kernel
theorem dX3_writesGuards_8 : decode cX3_writesGuards 8 = .ok (.iload_n 1, 1) := by decide +kernel
theorem dX3_writesGuards_9 : decode cX3_writesGuards 9 = .ok (.iconst 4, 1) := by decide +kernel
theorem dX3_writesGuards_10 : decode cX3_writesGuards 10 = .ok (.iload_n 2, 1) := by decide +kernel
theorem dX3_writesGuards_11 : decode cX3_writesGuards 11 = .ok (.iadd, 1) := by decide +kernel
theorem dX3_writesGuards_12 : decode cX3_writesGuards 12 = .ok (.aload_n 0, 1) := by decide +kernel
theorem dX3_writesGuards_13 : decode cX3_writesGuards 13 = .ok (.iload_n 1, 1) := by decide +kernel
theorem dX3_writesGuards_14 : decode cX3_writesGuards 14 = .ok (.bipush 7, 2) := by decide +kernel
theorem dX3_writesGuards_16 : decode cX3_writesGuards 16 = .ok (.iload_n 2, 1) := by decide +kernel
theorem dX3_writesGuards_17 : decode cX3_writesGuards 17 = .ok (.iadd, 1) := by decide +kernel
theorem dX3_writesGuards_18 : decode cX3_writesGuards 18 = .ok (.invokevirtual 52, 3) := by decide +kernel
theorem dX3_writesGuards_21 : decode cX3_writesGuards 21 = .ok (.iconst 1, 1) := by decide +kernel
theorem dX3_writesGuards_22 : decode cX3_writesGuards 22 = .ok (.if_icmp .ne 14, 3) := by decide +kernel
theorem dX3_writesGuards_25 : decode cX3_writesGuards 25 = .ok (.aload_n 0, 1) := by decide +kernel
theorem dX3_writesGuards_26 : decode cX3_writesGuards 26 = .ok (.iload_n 1, 1) := by decide +kernel
theorem dX3_writesGuards_27 : decode cX3_writesGuards 27 = .ok (.iconst 4, 1) := by decide +kernel
theorem dX3_writesGuards_28 : decode cX3_writesGuards 28 = .ok (.iload_n 2, 1) := by decide +kernel
theorem dX3_writesGuards_29 : decode cX3_writesGuards 29 = .ok (.iadd, 1) := by decide +kernel
theorem dX3_writesGuards_30 : decode cX3_writesGuards 30 = .ok (.invokevirtual 52, 3) := by decide +kernel
theorem dX3_writesGuards_33 : decode cX3_writesGuards 33 = .ok (.goto 7, 3) := by decide +kernel
theorem dX3_writesGuards_36 : decode cX3_writesGuards 36 = .ok (.iload_n 2, 1) := by decide +kernel
theorem dX3_writesGuards_37 : decode cX3_writesGuards 37 = .ok (.invokestatic 63, 3) := by decide +kernel
theorem dX3_writesGuards_40 : decode cX3_writesGuards 40 = .ok (.invokevirtual 28, 3) := by decide +kernel
theorem dX3_writesGuards_43 : decode cX3_writesGuards 43 = .ok (.iinc 2 1, 3) := by decide +kernel
theorem dX3_writesGuards_46 : decode cX3_writesGuards 46 = .ok (.goto (-44), 3) := by decide +kernel
theorem dX3_writesGuards_49 : decode cX3_writesGuards 49 = .ok (.aload_n 0, 1) := by decide +kernel
theorem dX3_writesGuards_50 : decode cX3_writesGuards 50 = .ok (.iload_n 1, 1) := by decide +kernel
theorem dX3_writesGuards_51 : decode cX3_writesGuards 51 = .ok (.iconst 1, 1) := by decide +kernel
theorem dX3_writesGuards_52 : decode cX3_writesGuards 52 = .ok (.aload_n 0, 1) := by decide +kernel
theorem dX3_writesGuards_53 : decode cX3_writesGuards 53 = .ok (.getfield 7, 3) := by decide +kernel
theorem dX3_writesGuards_56 : decode cX3_writesGuards 56 = .ok (.iconst 0, 1) := by decide +kernel
theorem dX3_writesGuards_57 : decode cX3_writesGuards 57 = .ok (.iaload, 1) := by decide +kernel
theorem dX3_writesGuards_58 : decode cX3_writesGuards 58 = .ok (.invokevirtual 28, 3) := by decide +kernel
theorem dX3_writesGuards_61 : decode cX3_writesGuards 61 = .ok (.return_, 1) := by decide +kernel
theorem dX3_own_0 : decode cX3_own 0 = .ok (.aload_n 0, 1) := by decide +kernel
theorem dX3_own_1 : decode cX3_own 1 = .ok (.iload_n 1, 1) := by decide +kernel
theorem dX3_own_2 : decode cX3_own 2 = .ok (.iconst 4, 1) := by decide +kernel
theorem dX3_own_3 : decode cX3_own 3 = .ok (.iload_n 2, 1) := by decide +kernel
theorem dX3_own_4 : decode cX3_own 4 = .ok (.iadd, 1) := by decide +kernel
theorem dX3_own_5 : decode cX3_own 5 = .ok (.invokevirtual 52, 3) := by decide +kernel
theorem dX3_own_8 : decode cX3_own 8 = .ok (.aload_n 0, 1) := by decide +kernel
theorem dX3_own_9 : decode cX3_own 9 = .ok (.iload_n 1, 1) := by decide +kernel
theorem dX3_own_10 : decode cX3_own 10 = .ok (.iconst 4, 1) := by decide +kernel
theorem dX3_own_11 : decode cX3_own 11 = .ok (.iload_n 2, 1) := by decide +kernel
theorem dX3_own_12 : decode cX3_own 12 = .ok (.iadd, 1) := by decide +kernel
theorem dX3_own_13 : decode cX3_own 13 = .ok (.iconst 1, 1) := by decide +kernel
theorem dX3_own_14 : decode cX3_own 14 = .ok (.iadd, 1) := by decide +kernel
theorem dX3_own_15 : decode cX3_own 15 = .ok (.invokevirtual 52, 3) := by decide +kernel
theorem dX3_own_18 : decode cX3_own 18 = .ok (.iadd, 1) := by decide +kernel
theorem dX3_own_19 : decode cX3_own 19 = .ok (.iconst 2, 1) := by decide +kernel
theorem dX3_own_20 : decode cX3_own 20 = .ok (.idiv, 1) := by decide +kernel
theorem dX3_own_21 : decode cX3_own 21 = .ok (.ireturn, 1) := by decide +kernel
theorem dX3_isRight_0 : decode cX3_isRight 0 = .ok (.aload_n 0, 1) := by decide +kernel
theorem dX3_isRight_1 : decode cX3_isRight 1 = .ok (.iload_n 1, 1) := by decide +kernel
theorem dX3_isRight_2 : decode cX3_isRight 2 = .ok (.iconst 5, 1) := by decide +kernel
theorem dX3_isRight_3 : decode cX3_isRight 3 = .ok (.invokevirtual 52, 3) := by decide +kernel
theorem dX3_isRight_6 : decode cX3_isRight 6 = .ok (.aload_n 0, 1) := by decide +kernel
theorem dX3_isRight_7 : decode cX3_isRight 7 = .ok (.iload_n 1, 1) := by decide +kernel
theorem dX3_isRight_8 : decode cX3_isRight 8 = .ok (.iconst 4, 1) := by decide +kernel
theorem dX3_isRight_9 : decode cX3_isRight 9 = .ok (.invokevirtual 52, 3) := by decide +kernel
theorem dX3_isRight_12 : decode cX3_isRight 12 = .ok (.aload_n 0, 1) := by decide +kernel
theorem dX3_isRight_13 : decode cX3_isRight 13 = .ok (.getfield 7, 3) := by decide +kernel
theorem dX3_isRight_16 : decode cX3_isRight 16 = .ok (.iconst 2, 1) := by decide +kernel
theorem dX3_isRight_17 : decode cX3_isRight 17 = .ok (.iaload, 1) := by decide +kernel
theorem dX3_isRight_18 : decode cX3_isRight 18 = .ok (.iadd, 1) := by decide +kernel
theorem dX3_isRight_19 : decode cX3_isRight 19 = .ok (.if_icmp .lt 30, 3) := by decide +kernel
theorem dX3_isRight_22 : decode cX3_isRight 22 = .ok (.aload_n 0, 1) := by decide +kernel
theorem dX3_isRight_23 : decode cX3_isRight 23 = .ok (.iload_n 1, 1) := by decide +kernel
theorem dX3_isRight_24 : decode cX3_isRight 24 = .ok (.bipush 6, 2) := by decide +kernel
theorem dX3_isRight_26 : decode cX3_isRight 26 = .ok (.invokevirtual 52, 3) := by decide +kernel
theorem dX3_isRight_29 : decode cX3_isRight 29 = .ok (.aload_n 0, 1) := by decide +kernel
theorem dX3_isRight_30 : decode cX3_isRight 30 = .ok (.iload_n 1, 1) := by decide +kernel
theorem dX3_isRight_31 : decode cX3_isRight 31 = .ok (.iconst 5, 1) := by decide +kernel
theorem dX3_isRight_32 : decode cX3_isRight 32 = .ok (.invokevirtual 52, 3) := by decide +kernel
theorem dX3_isRight_35 : decode cX3_isRight 35 = .ok (.aload_n 0, 1) := by decide +kernel
theorem dX3_isRight_36 : decode cX3_isRight 36 = .ok (.getfield 7, 3) := by decide +kernel
theorem dX3_isRight_39 : decode cX3_isRight 39 = .ok (.iconst 2, 1) := by decide +kernel
theorem dX3_isRight_40 : decode cX3_isRight 40 = .ok (.iaload, 1) := by decide +kernel
theorem dX3_isRight_41 : decode cX3_isRight 41 = .ok (.iadd, 1) := by decide +kernel
theorem dX3_isRight_42 : decode cX3_isRight 42 = .ok (.if_icmp .lt 7, 3) := by decide +kernel
theorem dX3_isRight_45 : decode cX3_isRight 45 = .ok (.iconst 1, 1) := by decide +kernel
theorem dX3_isRight_46 : decode cX3_isRight 46 = .ok (.goto 4, 3) := by decide +kernel
theorem dX3_isRight_49 : decode cX3_isRight 49 = .ok (.iconst 0, 1) := by decide +kernel
theorem dX3_isRight_50 : decode cX3_isRight 50 = .ok (.ireturn, 1) := by decide +kernel
theorem dX3_helps_0 : decode cX3_helps 0 = .ok (.iload_n 1, 1) := by decide +kernel
theorem dX3_helps_1 : decode cX3_helps 1 = .ok (.invokestatic 67, 3) := by decide +kernel
theorem dX3_helps_4 : decode cX3_helps 4 = .ok (.ifCond .eq 15, 3) := by decide +kernel
theorem dX3_helps_7 : decode cX3_helps 7 = .ok (.aload_n 0, 1) := by decide +kernel
theorem dX3_helps_8 : decode cX3_helps 8 = .ok (.iload_n 1, 1) := by decide +kernel
theorem dX3_helps_9 : decode cX3_helps 9 = .ok (.invokevirtual 71, 3) := by decide +kernel
theorem dX3_helps_12 : decode cX3_helps 12 = .ok (.ifCond .eq 7, 3) := by decide +kernel
theorem dX3_helps_15 : decode cX3_helps 15 = .ok (.iconst 1, 1) := by decide +kernel
theorem dX3_helps_16 : decode cX3_helps 16 = .ok (.goto 4, 3) := by decide +kernel
theorem dX3_helps_19 : decode cX3_helps 19 = .ok (.iconst 0, 1) := by decide +kernel
theorem dX3_helps_20 : decode cX3_helps 20 = .ok (.ireturn, 1) := by decide +kernel
theorem dX3_source_0 : decode cX3_source 0 = .ok (.aload_n 0, 1) := by decide +kernel
theorem dX3_source_1 : decode cX3_source 1 = .ok (.iload_n 1, 1) := by decide +kernel
theorem dX3_source_2 : decode cX3_source 2 = .ok (.invokevirtual 71, 3) := by decide +kernel
theorem dX3_source_5 : decode cX3_source 5 = .ok (.ifCond .eq 7, 3) := by decide +kernel
theorem dX3_source_8 : decode cX3_source 8 = .ok (.iconst 0, 1) := by decide +kernel
theorem dX3_source_9 : decode cX3_source 9 = .ok (.goto 28, 3) := by decide +kernel
theorem dX3_source_12 : decode cX3_source 12 = .ok (.aload_n 0, 1) := by decide +kernel
theorem dX3_source_13 : decode cX3_source 13 = .ok (.iload_n 1, 1) := by decide +kernel
theorem dX3_source_14 : decode cX3_source 14 = .ok (.iconst 1, 1) := by decide +kernel
theorem dX3_source_15 : decode cX3_source 15 = .ok (.isub, 1) := by decide +kernel
theorem dX3_source_16 : decode cX3_source 16 = .ok (.invokevirtual 74, 3) := by decide +kernel
theorem dX3_source_19 : decode cX3_source 19 = .ok (.ifCond .ne 13, 3) := by decide +kernel
theorem dX3_source_22 : decode cX3_source 22 = .ok (.aload_n 0, 1) := by decide +kernel
theorem dX3_source_23 : decode cX3_source 23 = .ok (.iload_n 1, 1) := by decide +kernel
theorem dX3_source_24 : decode cX3_source 24 = .ok (.iconst 1, 1) := by decide +kernel
theorem dX3_source_25 : decode cX3_source 25 = .ok (.iadd, 1) := by decide +kernel
theorem dX3_source_26 : decode cX3_source 26 = .ok (.invokevirtual 74, 3) := by decide +kernel
theorem dX3_source_29 : decode cX3_source 29 = .ok (.ifCond .eq 7, 3) := by decide +kernel
theorem dX3_source_32 : decode cX3_source 32 = .ok (.iconst 1, 1) := by decide +kernel
theorem dX3_source_33 : decode cX3_source 33 = .ok (.goto 4, 3) := by decide +kernel
theorem dX3_source_36 : decode cX3_source 36 = .ok (.iconst 2, 1) := by decide +kernel
theorem dX3_source_37 : decode cX3_source 37 = .ok (.ireturn, 1) := by decide +kernel
theorem dX3_threshold_0 : decode cX3_threshold 0 = .ok (.aload_n 0, 1) := by decide +kernel
theorem dX3_threshold_1 : decode cX3_threshold 1 = .ok (.iload_n 1, 1) := by decide +kernel
theorem dX3_threshold_2 : decode cX3_threshold 2 = .ok (.invokevirtual 71, 3) := by decide +kernel
theorem dX3_threshold_5 : decode cX3_threshold 5 = .ok (.ifCond .eq 10, 3) := by decide +kernel
theorem dX3_threshold_8 : decode cX3_threshold 8 = .ok (.aload_n 0, 1) := by decide +kernel
theorem dX3_threshold_9 : decode cX3_threshold 9 = .ok (.iload_n 1, 1) := by decide +kernel
theorem dX3_threshold_10 : decode cX3_threshold 10 = .ok (.iload_n 2, 1) := by decide +kernel
theorem dX3_threshold_11 : decode cX3_threshold 11 = .ok (.invokevirtual 77, 3) := by decide +kernel
theorem dX3_threshold_14 : decode cX3_threshold 14 = .ok (.ireturn, 1) := by decide +kernel
theorem dX3_threshold_15 : decode cX3_threshold 15 = .ok (.aload_n 0, 1) := by decide +kernel
theorem dX3_threshold_16 : decode cX3_threshold 16 = .ok (.iload_n 1, 1) := by decide +kernel
theorem dX3_threshold_17 : decode cX3_threshold 17 = .ok (.iconst 1, 1) := by decide +kernel
theorem dX3_threshold_18 : decode cX3_threshold 18 = .ok (.isub, 1) := by decide +kernel
theorem dX3_threshold_19 : decode cX3_threshold 19 = .ok (.invokevirtual 74, 3) := by decide +kernel
theorem dX3_threshold_22 : decode cX3_threshold 22 = .ok (.ifCond .eq 14, 3) := by decide +kernel
theorem dX3_threshold_25 : decode cX3_threshold 25 = .ok (.aload_n 0, 1) := by decide +kernel
theorem dX3_threshold_26 : decode cX3_threshold 26 = .ok (.iload_n 1, 1) := by decide +kernel
theorem dX3_threshold_27 : decode cX3_threshold 27 = .ok (.iconst 1, 1) := by decide +kernel
theorem dX3_threshold_28 : decode cX3_threshold 28 = .ok (.isub, 1) := by decide +kernel
theorem dX3_threshold_29 : decode cX3_threshold 29 = .ok (.iload_n 2, 1) := by decide +kernel
theorem dX3_threshold_30 : decode cX3_threshold 30 = .ok (.invokevirtual 77, 3) := by decide +kernel
theorem dX3_threshold_33 : decode cX3_threshold 33 = .ok (.goto 4, 3) := by decide +kernel
theorem dX3_threshold_36 : decode cX3_threshold 36 = .ok (.iconst 0, 1) := by decide +kernel
theorem dX3_threshold_37 : decode cX3_threshold 37 = .ok (.aload_n 0, 1) := by decide +kernel
theorem dX3_threshold_38 : decode cX3_threshold 38 = .ok (.iload_n 1, 1) := by decide +kernel
theorem dX3_threshold_39 : decode cX3_threshold 39 = .ok (.iconst 1, 1) := by decide +kernel
theorem dX3_threshold_40 : decode cX3_threshold 40 = .ok (.iadd, 1) := by decide +kernel
theorem dX3_threshold_41 : decode cX3_threshold 41 = .ok (.invokevirtual 74, 3) := by decide +kernel
theorem dX3_threshold_44 : decode cX3_threshold 44 = .ok (.ifCond .eq 14, 3) := by decide +kernel
theorem dX3_threshold_47 : decode cX3_threshold 47 = .ok (.aload_n 0, 1) := by decide +kernel
theorem dX3_threshold_48 : decode cX3_threshold 48 = .ok (.iload_n 1, 1) := by decide +kernel
theorem dX3_threshold_49 : decode cX3_threshold 49 = .ok (.iconst 1, 1) := by decide +kernel
theorem dX3_threshold_50 : decode cX3_threshold 50 = .ok (.iadd, 1) := by decide +kernel
theorem dX3_threshold_51 : decode cX3_threshold 51 = .ok (.iload_n 2, 1) := by decide +kernel
theorem dX3_threshold_52 : decode cX3_threshold 52 = .ok (.invokevirtual 77, 3) := by decide +kernel
theorem dX3_threshold_55 : decode cX3_threshold 55 = .ok (.goto 4, 3) := by decide +kernel
theorem dX3_threshold_58 : decode cX3_threshold 58 = .ok (.iconst 0, 1) := by decide +kernel
theorem dX3_threshold_59 : decode cX3_threshold 59 = .ok (.iadd, 1) := by decide +kernel
theorem dX3_threshold_60 : decode cX3_threshold 60 = .ok (.istore_n 3, 1) := by decide +kernel
theorem dX3_threshold_61 : decode cX3_threshold 61 = .ok (.aload_n 0, 1) := by decide +kernel
theorem dX3_threshold_62 : decode cX3_threshold 62 = .ok (.iload_n 1, 1) := by decide +kernel
theorem dX3_threshold_63 : decode cX3_threshold 63 = .ok (.iconst 1, 1) := by decide +kernel
theorem dX3_threshold_64 : decode cX3_threshold 64 = .ok (.isub, 1) := by decide +kernel
theorem dX3_threshold_65 : decode cX3_threshold 65 = .ok (.invokevirtual 74, 3) := by decide +kernel
theorem dX3_threshold_68 : decode cX3_threshold 68 = .ok (.ifCond .eq 7, 3) := by decide +kernel
theorem dX3_threshold_71 : decode cX3_threshold 71 = .ok (.iconst 1, 1) := by decide +kernel
theorem dX3_threshold_72 : decode cX3_threshold 72 = .ok (.goto 4, 3) := by decide +kernel
theorem dX3_threshold_75 : decode cX3_threshold 75 = .ok (.iconst 0, 1) := by decide +kernel
theorem dX3_threshold_76 : decode cX3_threshold 76 = .ok (.aload_n 0, 1) := by decide +kernel
theorem dX3_threshold_77 : decode cX3_threshold 77 = .ok (.iload_n 1, 1) := by decide +kernel
theorem dX3_threshold_78 : decode cX3_threshold 78 = .ok (.iconst 1, 1) := by decide +kernel
theorem dX3_threshold_79 : decode cX3_threshold 79 = .ok (.iadd, 1) := by decide +kernel
theorem dX3_threshold_80 : decode cX3_threshold 80 = .ok (.invokevirtual 74, 3) := by decide +kernel
theorem dX3_threshold_83 : decode cX3_threshold 83 = .ok (.ifCond .eq 7, 3) := by decide +kernel
theorem dX3_threshold_86 : decode cX3_threshold 86 = .ok (.iconst 1, 1) := by decide +kernel
theorem dX3_threshold_87 : decode cX3_threshold 87 = .ok (.goto 4, 3) := by decide +kernel
theorem dX3_threshold_90 : decode cX3_threshold 90 = .ok (.iconst 0, 1) := by decide +kernel
theorem dX3_threshold_91 : decode cX3_threshold 91 = .ok (.iadd, 1) := by decide +kernel
theorem dX3_threshold_92 : decode cX3_threshold 92 = .ok (.istore 4, 2) := by decide +kernel
theorem dX3_threshold_94 : decode cX3_threshold 94 = .ok (.iload 4, 2) := by decide +kernel
theorem dX3_threshold_96 : decode cX3_threshold 96 = .ok (.ifCond .le 10, 3) := by decide +kernel
theorem dX3_threshold_99 : decode cX3_threshold 99 = .ok (.iload_n 3, 1) := by decide +kernel
theorem dX3_threshold_100 : decode cX3_threshold 100 = .ok (.iload 4, 2) := by decide +kernel
theorem dX3_threshold_102 : decode cX3_threshold 102 = .ok (.idiv, 1) := by decide +kernel
theorem dX3_threshold_103 : decode cX3_threshold 103 = .ok (.goto 16, 3) := by decide +kernel
theorem dX3_threshold_106 : decode cX3_threshold 106 = .ok (.iload_n 2, 1) := by decide +kernel
theorem dX3_threshold_107 : decode cX3_threshold 107 = .ok (.ifCond .ne 9, 3) := by decide +kernel
theorem dX3_threshold_110 : decode cX3_threshold 110 = .ok (.sipush 300, 3) := by decide +kernel
theorem dX3_threshold_113 : decode cX3_threshold 113 = .ok (.goto 6, 3) := by decide +kernel
theorem dX3_threshold_116 : decode cX3_threshold 116 = .ok (.sipush 700, 3) := by decide +kernel
theorem dX3_threshold_119 : decode cX3_threshold 119 = .ok (.ireturn, 1) := by decide +kernel
theorem dX3_by_0 : decode cX3_by 0 = .ok (.iload_n 0, 1) := by decide +kernel
theorem dX3_by_1 : decode cX3_by 1 = .ok (.iload_n 1, 1) := by decide +kernel
theorem dX3_by_2 : decode cX3_by 2 = .ok (.if_icmp .ge 7, 3) := by decide +kernel
theorem dX3_by_5 : decode cX3_by 5 = .ok (.iconst 0, 1) := by decide +kernel
theorem dX3_by_6 : decode cX3_by 6 = .ok (.goto 13, 3) := by decide +kernel
theorem dX3_by_9 : decode cX3_by 9 = .ok (.iload_n 0, 1) := by decide +kernel
theorem dX3_by_10 : decode cX3_by 10 = .ok (.iload_n 2, 1) := by decide +kernel
theorem dX3_by_11 : decode cX3_by 11 = .ok (.if_icmp .lt 7, 3) := by decide +kernel
theorem dX3_by_14 : decode cX3_by 14 = .ok (.iconst 2, 1) := by decide +kernel
theorem dX3_by_15 : decode cX3_by 15 = .ok (.goto 4, 3) := by decide +kernel
theorem dX3_by_18 : decode cX3_by 18 = .ok (.iconst 1, 1) := by decide +kernel
theorem dX3_by_19 : decode cX3_by 19 = .ok (.ireturn, 1) := by decide +kernel
theorem dX3_told_0 : decode cX3_told 0 = .ok (.aload_n 0, 1) := by decide +kernel
theorem dX3_told_1 : decode cX3_told 1 = .ok (.iload_n 1, 1) := by decide +kernel
theorem dX3_told_2 : decode cX3_told 2 = .ok (.iload_n 2, 1) := by decide +kernel
theorem dX3_told_3 : decode cX3_told 3 = .ok (.iconst 1, 1) := by decide +kernel
theorem dX3_told_4 : decode cX3_told 4 = .ok (.invokevirtual 56, 3) := by decide +kernel
theorem dX3_told_7 : decode cX3_told 7 = .ok (.aload_n 0, 1) := by decide +kernel
theorem dX3_told_8 : decode cX3_told 8 = .ok (.iload_n 1, 1) := by decide +kernel
theorem dX3_told_9 : decode cX3_told 9 = .ok (.iconst 0, 1) := by decide +kernel
theorem dX3_told_10 : decode cX3_told 10 = .ok (.invokevirtual 80, 3) := by decide +kernel
theorem dX3_told_13 : decode cX3_told 13 = .ok (.aload_n 0, 1) := by decide +kernel
theorem dX3_told_14 : decode cX3_told 14 = .ok (.iload_n 1, 1) := by decide +kernel
theorem dX3_told_15 : decode cX3_told 15 = .ok (.iconst 1, 1) := by decide +kernel
theorem dX3_told_16 : decode cX3_told 16 = .ok (.invokevirtual 80, 3) := by decide +kernel
theorem dX3_told_19 : decode cX3_told 19 = .ok (.invokestatic 83, 3) := by decide +kernel
theorem dX3_told_22 : decode cX3_told 22 = .ok (.ireturn, 1) := by decide +kernel
theorem dX3_wrong_0 : decode cX3_wrong 0 = .ok (.iconst 0, 1) := by decide +kernel
theorem dX3_wrong_1 : decode cX3_wrong 1 = .ok (.istore_n 2, 1) := by decide +kernel
theorem dX3_wrong_2 : decode cX3_wrong 2 = .ok (.iconst 0, 1) := by decide +kernel
theorem dX3_wrong_3 : decode cX3_wrong 3 = .ok (.istore_n 3, 1) := by decide +kernel
theorem dX3_wrong_4 : decode cX3_wrong 4 = .ok (.iload_n 3, 1) := by decide +kernel
theorem dX3_wrong_5 : decode cX3_wrong 5 = .ok (.bipush 8, 2) := by decide +kernel
theorem dX3_wrong_7 : decode cX3_wrong 7 = .ok (.if_icmp .ge 33, 3) := by decide +kernel
theorem dX3_wrong_10 : decode cX3_wrong 10 = .ok (.iload_n 2, 1) := by decide +kernel
theorem dX3_wrong_11 : decode cX3_wrong 11 = .ok (.aload_n 0, 1) := by decide +kernel
theorem dX3_wrong_12 : decode cX3_wrong 12 = .ok (.iload_n 1, 1) := by decide +kernel
theorem dX3_wrong_13 : decode cX3_wrong 13 = .ok (.iload_n 3, 1) := by decide +kernel
theorem dX3_wrong_14 : decode cX3_wrong 14 = .ok (.invokevirtual 86, 3) := by decide +kernel
theorem dX3_wrong_17 : decode cX3_wrong 17 = .ok (.aload_n 0, 1) := by decide +kernel
theorem dX3_wrong_18 : decode cX3_wrong 18 = .ok (.iload_n 1, 1) := by decide +kernel
theorem dX3_wrong_19 : decode cX3_wrong 19 = .ok (.iload_n 3, 1) := by decide +kernel
theorem dX3_wrong_20 : decode cX3_wrong 20 = .ok (.iconst 0, 1) := by decide +kernel
theorem dX3_wrong_21 : decode cX3_wrong 21 = .ok (.invokevirtual 56, 3) := by decide +kernel
theorem dX3_wrong_24 : decode cX3_wrong 24 = .ok (.if_icmp .ne 7, 3) := by decide +kernel
theorem dX3_wrong_27 : decode cX3_wrong 27 = .ok (.iconst 0, 1) := by decide +kernel
theorem dX3_wrong_28 : decode cX3_wrong 28 = .ok (.goto 4, 3) := by decide +kernel
theorem dX3_wrong_31 : decode cX3_wrong 31 = .ok (.iconst 1, 1) := by decide +kernel
theorem dX3_wrong_32 : decode cX3_wrong 32 = .ok (.iadd, 1) := by decide +kernel
theorem dX3_wrong_33 : decode cX3_wrong 33 = .ok (.istore_n 2, 1) := by decide +kernel
theorem dX3_wrong_34 : decode cX3_wrong 34 = .ok (.iinc 3 1, 3) := by decide +kernel
theorem dX3_wrong_37 : decode cX3_wrong 37 = .ok (.goto (-33), 3) := by decide +kernel
theorem dX3_wrong_40 : decode cX3_wrong 40 = .ok (.iload_n 2, 1) := by decide +kernel
theorem dX3_wrong_41 : decode cX3_wrong 41 = .ok (.ireturn, 1) := by decide +kernel
theorem dX3_wordTold_0 : decode cX3_wordTold 0 = .ok (.iconst 0, 1) := by decide +kernel
theorem dX3_wordTold_1 : decode cX3_wordTold 1 = .ok (.istore_n 2, 1) := by decide +kernel
theorem dX3_wordTold_2 : decode cX3_wordTold 2 = .ok (.bipush 7, 2) := by decide +kernel
theorem dX3_wordTold_4 : decode cX3_wordTold 4 = .ok (.istore_n 3, 1) := by decide +kernel
theorem dX3_wordTold_5 : decode cX3_wordTold 5 = .ok (.iload_n 3, 1) := by decide +kernel
theorem dX3_wordTold_6 : decode cX3_wordTold 6 = .ok (.ifCond .lt 20, 3) := by decide +kernel
theorem dX3_wordTold_9 : decode cX3_wordTold 9 = .ok (.iconst 3, 1) := by decide +kernel
theorem dX3_wordTold_10 : decode cX3_wordTold 10 = .ok (.iload_n 2, 1) := by decide +kernel
theorem dX3_wordTold_11 : decode cX3_wordTold 11 = .ok (.imul, 1) := by decide +kernel
theorem dX3_wordTold_12 : decode cX3_wordTold 12 = .ok (.aload_n 0, 1) := by decide +kernel
theorem dX3_wordTold_13 : decode cX3_wordTold 13 = .ok (.iload_n 1, 1) := by decide +kernel
theorem dX3_wordTold_14 : decode cX3_wordTold 14 = .ok (.iload_n 3, 1) := by decide +kernel
theorem dX3_wordTold_15 : decode cX3_wordTold 15 = .ok (.invokevirtual 86, 3) := by decide +kernel
theorem dX3_wordTold_18 : decode cX3_wordTold 18 = .ok (.iadd, 1) := by decide +kernel
theorem dX3_wordTold_19 : decode cX3_wordTold 19 = .ok (.istore_n 2, 1) := by decide +kernel
theorem dX3_wordTold_20 : decode cX3_wordTold 20 = .ok (.iinc 3 (-1), 3) := by decide +kernel
theorem dX3_wordTold_23 : decode cX3_wordTold 23 = .ok (.goto (-18), 3) := by decide +kernel
theorem dX3_wordTold_26 : decode cX3_wordTold 26 = .ok (.iload_n 2, 1) := by decide +kernel
theorem dX3_wordTold_27 : decode cX3_wordTold 27 = .ok (.ireturn, 1) := by decide +kernel
theorem dX3_wordOf_0 : decode cX3_wordOf 0 = .ok (.iconst 0, 1) := by decide +kernel
theorem dX3_wordOf_1 : decode cX3_wordOf 1 = .ok (.istore_n 2, 1) := by decide +kernel
theorem dX3_wordOf_2 : decode cX3_wordOf 2 = .ok (.bipush 7, 2) := by decide +kernel
theorem dX3_wordOf_4 : decode cX3_wordOf 4 = .ok (.istore_n 3, 1) := by decide +kernel
theorem dX3_wordOf_5 : decode cX3_wordOf 5 = .ok (.iload_n 3, 1) := by decide +kernel
theorem dX3_wordOf_6 : decode cX3_wordOf 6 = .ok (.ifCond .lt 21, 3) := by decide +kernel
theorem dX3_wordOf_9 : decode cX3_wordOf 9 = .ok (.iconst 3, 1) := by decide +kernel
theorem dX3_wordOf_10 : decode cX3_wordOf 10 = .ok (.iload_n 2, 1) := by decide +kernel
theorem dX3_wordOf_11 : decode cX3_wordOf 11 = .ok (.imul, 1) := by decide +kernel
theorem dX3_wordOf_12 : decode cX3_wordOf 12 = .ok (.aload_n 0, 1) := by decide +kernel
theorem dX3_wordOf_13 : decode cX3_wordOf 13 = .ok (.iload_n 1, 1) := by decide +kernel
theorem dX3_wordOf_14 : decode cX3_wordOf 14 = .ok (.iload_n 3, 1) := by decide +kernel
theorem dX3_wordOf_15 : decode cX3_wordOf 15 = .ok (.iconst 0, 1) := by decide +kernel
theorem dX3_wordOf_16 : decode cX3_wordOf 16 = .ok (.invokevirtual 56, 3) := by decide +kernel
theorem dX3_wordOf_19 : decode cX3_wordOf 19 = .ok (.iadd, 1) := by decide +kernel
theorem dX3_wordOf_20 : decode cX3_wordOf 20 = .ok (.istore_n 2, 1) := by decide +kernel
theorem dX3_wordOf_21 : decode cX3_wordOf 21 = .ok (.iinc 3 (-1), 3) := by decide +kernel
theorem dX3_wordOf_24 : decode cX3_wordOf 24 = .ok (.goto (-19), 3) := by decide +kernel
theorem dX3_wordOf_27 : decode cX3_wordOf 27 = .ok (.iload_n 2, 1) := by decide +kernel
theorem dX3_wordOf_28 : decode cX3_wordOf 28 = .ok (.ireturn, 1) := by decide +kernel
theorem dX3_writesWord_0 : decode cX3_writesWord 0 = .ok (.iload_n 2, 1) := by decide +kernel
theorem dX3_writesWord_1 : decode cX3_writesWord 1 = .ok (.istore_n 3, 1) := by decide +kernel
theorem dX3_writesWord_2 : decode cX3_writesWord 2 = .ok (.iconst 0, 1) := by decide +kernel
theorem dX3_writesWord_3 : decode cX3_writesWord 3 = .ok (.istore 4, 2) := by decide +kernel
theorem dX3_writesWord_5 : decode cX3_writesWord 5 = .ok (.iload 4, 2) := by decide +kernel
theorem dX3_writesWord_7 : decode cX3_writesWord 7 = .ok (.bipush 8, 2) := by decide +kernel
theorem dX3_writesWord_9 : decode cX3_writesWord 9 = .ok (.if_icmp .ge 25, 3) := by decide +kernel
theorem dX3_writesWord_12 : decode cX3_writesWord 12 = .ok (.aload_n 0, 1) := by decide +kernel
theorem dX3_writesWord_13 : decode cX3_writesWord 13 = .ok (.iload_n 1, 1) := by decide +kernel
theorem dX3_writesWord_14 : decode cX3_writesWord 14 = .ok (.iload 4, 2) := by decide +kernel
theorem dX3_writesWord_16 : decode cX3_writesWord 16 = .ok (.iload_n 3, 1) := by decide +kernel
theorem dX3_writesWord_17 : decode cX3_writesWord 17 = .ok (.iconst 3, 1) := by decide +kernel
theorem dX3_writesWord_18 : decode cX3_writesWord 18 = .ok (.irem, 1) := by decide +kernel
theorem dX3_writesWord_19 : decode cX3_writesWord 19 = .ok (.invokevirtual 36, 3) := by decide +kernel
theorem dX3_writesWord_22 : decode cX3_writesWord 22 = .ok (.istore 5, 2) := by decide +kernel
theorem dX3_writesWord_24 : decode cX3_writesWord 24 = .ok (.iload_n 3, 1) := by decide +kernel
theorem dX3_writesWord_25 : decode cX3_writesWord 25 = .ok (.iconst 3, 1) := by decide +kernel
theorem dX3_writesWord_26 : decode cX3_writesWord 26 = .ok (.idiv, 1) := by decide +kernel
theorem dX3_writesWord_27 : decode cX3_writesWord 27 = .ok (.istore_n 3, 1) := by decide +kernel
theorem dX3_writesWord_28 : decode cX3_writesWord 28 = .ok (.iinc 4 1, 3) := by decide +kernel
theorem dX3_writesWord_31 : decode cX3_writesWord 31 = .ok (.goto (-26), 3) := by decide +kernel
theorem dX3_writesWord_34 : decode cX3_writesWord 34 = .ok (.return_, 1) := by decide +kernel
theorem dX3_writesAnew_0 : decode cX3_writesAnew 0 = .ok (.aload_n 0, 1) := by decide +kernel
theorem dX3_writesAnew_1 : decode cX3_writesAnew 1 = .ok (.iload_n 1, 1) := by decide +kernel
theorem dX3_writesAnew_2 : decode cX3_writesAnew 2 = .ok (.invokevirtual 89, 3) := by decide +kernel
theorem dX3_writesAnew_5 : decode cX3_writesAnew 5 = .ok (.istore_n 2, 1) := by decide +kernel
theorem dX3_writesAnew_6 : decode cX3_writesAnew 6 = .ok (.aload_n 0, 1) := by decide +kernel
theorem dX3_writesAnew_7 : decode cX3_writesAnew 7 = .ok (.iload_n 1, 1) := by decide +kernel
theorem dX3_writesAnew_8 : decode cX3_writesAnew 8 = .ok (.aload_n 0, 1) := by decide +kernel
theorem dX3_writesAnew_9 : decode cX3_writesAnew 9 = .ok (.iload_n 1, 1) := by decide +kernel
theorem dX3_writesAnew_10 : decode cX3_writesAnew 10 = .ok (.invokevirtual 92, 3) := by decide +kernel
theorem dX3_writesAnew_13 : decode cX3_writesAnew 13 = .ok (.invokevirtual 95, 3) := by decide +kernel
theorem dX3_writesAnew_16 : decode cX3_writesAnew 16 = .ok (.aload_n 0, 1) := by decide +kernel
theorem dX3_writesAnew_17 : decode cX3_writesAnew 17 = .ok (.iload_n 1, 1) := by decide +kernel
theorem dX3_writesAnew_18 : decode cX3_writesAnew 18 = .ok (.invokevirtual 32, 3) := by decide +kernel
theorem dX3_writesAnew_21 : decode cX3_writesAnew 21 = .ok (.aload_n 0, 1) := by decide +kernel
theorem dX3_writesAnew_22 : decode cX3_writesAnew 22 = .ok (.iload_n 1, 1) := by decide +kernel
theorem dX3_writesAnew_23 : decode cX3_writesAnew 23 = .ok (.iconst 2, 1) := by decide +kernel
theorem dX3_writesAnew_24 : decode cX3_writesAnew 24 = .ok (.aload_n 0, 1) := by decide +kernel
theorem dX3_writesAnew_25 : decode cX3_writesAnew 25 = .ok (.iload_n 1, 1) := by decide +kernel
theorem dX3_writesAnew_26 : decode cX3_writesAnew 26 = .ok (.iconst 2, 1) := by decide +kernel
theorem dX3_writesAnew_27 : decode cX3_writesAnew 27 = .ok (.invokevirtual 52, 3) := by decide +kernel
theorem dX3_writesAnew_30 : decode cX3_writesAnew 30 = .ok (.iload_n 2, 1) := by decide +kernel
theorem dX3_writesAnew_31 : decode cX3_writesAnew 31 = .ok (.iadd, 1) := by decide +kernel
theorem dX3_writesAnew_32 : decode cX3_writesAnew 32 = .ok (.invokevirtual 28, 3) := by decide +kernel
theorem dX3_writesAnew_35 : decode cX3_writesAnew 35 = .ok (.aload_n 0, 1) := by decide +kernel
theorem dX3_writesAnew_36 : decode cX3_writesAnew 36 = .ok (.iload_n 1, 1) := by decide +kernel
theorem dX3_writesAnew_37 : decode cX3_writesAnew 37 = .ok (.iconst 3, 1) := by decide +kernel
theorem dX3_writesAnew_38 : decode cX3_writesAnew 38 = .ok (.aload_n 0, 1) := by decide +kernel
theorem dX3_writesAnew_39 : decode cX3_writesAnew 39 = .ok (.iload_n 1, 1) := by decide +kernel
theorem dX3_writesAnew_40 : decode cX3_writesAnew 40 = .ok (.iconst 3, 1) := by decide +kernel
theorem dX3_writesAnew_41 : decode cX3_writesAnew 41 = .ok (.invokevirtual 52, 3) := by decide +kernel
theorem dX3_writesAnew_44 : decode cX3_writesAnew 44 = .ok (.iconst 1, 1) := by decide +kernel
theorem dX3_writesAnew_45 : decode cX3_writesAnew 45 = .ok (.iadd, 1) := by decide +kernel
theorem dX3_writesAnew_46 : decode cX3_writesAnew 46 = .ok (.invokevirtual 28, 3) := by decide +kernel
theorem dX3_writesAnew_49 : decode cX3_writesAnew 49 = .ok (.aload_n 0, 1) := by decide +kernel
theorem dX3_writesAnew_50 : decode cX3_writesAnew 50 = .ok (.getfield 7, 3) := by decide +kernel
theorem dX3_writesAnew_53 : decode cX3_writesAnew 53 = .ok (.iconst 4, 1) := by decide +kernel
theorem dX3_writesAnew_54 : decode cX3_writesAnew 54 = .ok (.dup2, 1) := by decide +kernel
theorem dX3_writesAnew_55 : decode cX3_writesAnew 55 = .ok (.iaload, 1) := by decide +kernel
theorem dX3_writesAnew_56 : decode cX3_writesAnew 56 = .ok (.iload_n 2, 1) := by decide +kernel
theorem dX3_writesAnew_57 : decode cX3_writesAnew 57 = .ok (.iadd, 1) := by decide +kernel
theorem dX3_writesAnew_58 : decode cX3_writesAnew 58 = .ok (.iastore, 1) := by decide +kernel
theorem dX3_writesAnew_59 : decode cX3_writesAnew 59 = .ok (.aload_n 0, 1) := by decide +kernel
theorem dX3_writesAnew_60 : decode cX3_writesAnew 60 = .ok (.getfield 7, 3) := by decide +kernel
theorem dX3_writesAnew_63 : decode cX3_writesAnew 63 = .ok (.bipush 6, 2) := by decide +kernel
theorem dX3_writesAnew_65 : decode cX3_writesAnew 65 = .ok (.dup2, 1) := by decide +kernel
theorem dX3_writesAnew_66 : decode cX3_writesAnew 66 = .ok (.iaload, 1) := by decide +kernel
theorem dX3_writesAnew_67 : decode cX3_writesAnew 67 = .ok (.iconst 1, 1) := by decide +kernel
theorem dX3_writesAnew_68 : decode cX3_writesAnew 68 = .ok (.iadd, 1) := by decide +kernel
theorem dX3_writesAnew_69 : decode cX3_writesAnew 69 = .ok (.iastore, 1) := by decide +kernel
theorem dX3_writesAnew_70 : decode cX3_writesAnew 70 = .ok (.iload_n 2, 1) := by decide +kernel
theorem dX3_writesAnew_71 : decode cX3_writesAnew 71 = .ok (.ireturn, 1) := by decide +kernel
theorem dX3_drifted_0 : decode cX3_drifted 0 = .ok (.aload_n 0, 1) := by decide +kernel
theorem dX3_drifted_1 : decode cX3_drifted 1 = .ok (.getfield 7, 3) := by decide +kernel
theorem dX3_drifted_4 : decode cX3_drifted 4 = .ok (.iconst 1, 1) := by decide +kernel
theorem dX3_drifted_5 : decode cX3_drifted 5 = .ok (.iaload, 1) := by decide +kernel
theorem dX3_drifted_6 : decode cX3_drifted 6 = .ok (.iload_n 1, 1) := by decide +kernel
theorem dX3_drifted_7 : decode cX3_drifted 7 = .ok (.isub, 1) := by decide +kernel
theorem dX3_drifted_8 : decode cX3_drifted 8 = .ok (.istore_n 3, 1) := by decide +kernel
theorem dX3_drifted_9 : decode cX3_drifted 9 = .ok (.iload_n 3, 1) := by decide +kernel
theorem dX3_drifted_10 : decode cX3_drifted 10 = .ok (.invokestatic 99, 3) := by decide +kernel
theorem dX3_drifted_13 : decode cX3_drifted 13 = .ok (.iload_n 2, 1) := by decide +kernel
theorem dX3_drifted_14 : decode cX3_drifted 14 = .ok (.imul, 1) := by decide +kernel
theorem dX3_drifted_15 : decode cX3_drifted 15 = .ok (.sipush 1000, 3) := by decide +kernel
theorem dX3_drifted_18 : decode cX3_drifted 18 = .ok (.idiv, 1) := by decide +kernel
theorem dX3_drifted_19 : decode cX3_drifted 19 = .ok (.istore 4, 2) := by decide +kernel
theorem dX3_drifted_21 : decode cX3_drifted 21 = .ok (.iload 4, 2) := by decide +kernel
theorem dX3_drifted_23 : decode cX3_drifted 23 = .ok (.iconst 1, 1) := by decide +kernel
theorem dX3_drifted_24 : decode cX3_drifted 24 = .ok (.if_icmp .ge 7, 3) := by decide +kernel
theorem dX3_drifted_27 : decode cX3_drifted 27 = .ok (.iconst 1, 1) := by decide +kernel
theorem dX3_drifted_28 : decode cX3_drifted 28 = .ok (.goto 5, 3) := by decide +kernel
theorem dX3_drifted_31 : decode cX3_drifted 31 = .ok (.iload 4, 2) := by decide +kernel
theorem dX3_drifted_33 : decode cX3_drifted 33 = .ok (.istore 4, 2) := by decide +kernel
theorem dX3_drifted_35 : decode cX3_drifted 35 = .ok (.iload_n 3, 1) := by decide +kernel
theorem dX3_drifted_36 : decode cX3_drifted 36 = .ok (.ifCond .ne 7, 3) := by decide +kernel
theorem dX3_drifted_39 : decode cX3_drifted 39 = .ok (.iload_n 1, 1) := by decide +kernel
theorem dX3_drifted_40 : decode cX3_drifted 40 = .ok (.goto 18, 3) := by decide +kernel
theorem dX3_drifted_43 : decode cX3_drifted 43 = .ok (.iload_n 3, 1) := by decide +kernel
theorem dX3_drifted_44 : decode cX3_drifted 44 = .ok (.ifCond .le 10, 3) := by decide +kernel
theorem dX3_drifted_47 : decode cX3_drifted 47 = .ok (.iload_n 1, 1) := by decide +kernel
theorem dX3_drifted_48 : decode cX3_drifted 48 = .ok (.iload 4, 2) := by decide +kernel
theorem dX3_drifted_50 : decode cX3_drifted 50 = .ok (.iadd, 1) := by decide +kernel
theorem dX3_drifted_51 : decode cX3_drifted 51 = .ok (.goto 7, 3) := by decide +kernel
theorem dX3_drifted_54 : decode cX3_drifted 54 = .ok (.iload_n 1, 1) := by decide +kernel
theorem dX3_drifted_55 : decode cX3_drifted 55 = .ok (.iload 4, 2) := by decide +kernel
theorem dX3_drifted_57 : decode cX3_drifted 57 = .ok (.isub, 1) := by decide +kernel
theorem dX3_drifted_58 : decode cX3_drifted 58 = .ok (.ireturn, 1) := by decide +kernel
theorem dX3_drifts_0 : decode cX3_drifts 0 = .ok (.iconst 0, 1) := by decide +kernel
theorem dX3_drifts_1 : decode cX3_drifts 1 = .ok (.istore_n 1, 1) := by decide +kernel
theorem dX3_drifts_2 : decode cX3_drifts 2 = .ok (.iload_n 1, 1) := by decide +kernel
theorem dX3_drifts_3 : decode cX3_drifts 3 = .ok (.bipush 6, 2) := by decide +kernel
theorem dX3_drifts_5 : decode cX3_drifts 5 = .ok (.if_icmp .ge 110, 3) := by decide +kernel
theorem dX3_drifts_8 : decode cX3_drifts 8 = .ok (.iconst 0, 1) := by decide +kernel
theorem dX3_drifts_9 : decode cX3_drifts 9 = .ok (.istore_n 2, 1) := by decide +kernel
theorem dX3_drifts_10 : decode cX3_drifts 10 = .ok (.iload_n 2, 1) := by decide +kernel
theorem dX3_drifts_11 : decode cX3_drifts 11 = .ok (.iconst 3, 1) := by decide +kernel
theorem dX3_drifts_12 : decode cX3_drifts 12 = .ok (.if_icmp .ge 59, 3) := by decide +kernel
theorem dX3_drifts_15 : decode cX3_drifts 15 = .ok (.aload_n 0, 1) := by decide +kernel
theorem dX3_drifts_16 : decode cX3_drifts 16 = .ok (.iload_n 1, 1) := by decide +kernel
theorem dX3_drifts_17 : decode cX3_drifts 17 = .ok (.iconst 4, 1) := by decide +kernel
theorem dX3_drifts_18 : decode cX3_drifts 18 = .ok (.iload_n 2, 1) := by decide +kernel
theorem dX3_drifts_19 : decode cX3_drifts 19 = .ok (.iadd, 1) := by decide +kernel
theorem dX3_drifts_20 : decode cX3_drifts 20 = .ok (.aload_n 0, 1) := by decide +kernel
theorem dX3_drifts_21 : decode cX3_drifts 21 = .ok (.iload_n 1, 1) := by decide +kernel
theorem dX3_drifts_22 : decode cX3_drifts 22 = .ok (.bipush 7, 2) := by decide +kernel
theorem dX3_drifts_24 : decode cX3_drifts 24 = .ok (.iload_n 2, 1) := by decide +kernel
theorem dX3_drifts_25 : decode cX3_drifts 25 = .ok (.iadd, 1) := by decide +kernel
theorem dX3_drifts_26 : decode cX3_drifts 26 = .ok (.invokevirtual 52, 3) := by decide +kernel
theorem dX3_drifts_29 : decode cX3_drifts 29 = .ok (.iconst 1, 1) := by decide +kernel
theorem dX3_drifts_30 : decode cX3_drifts 30 = .ok (.if_icmp .ne 14, 3) := by decide +kernel
theorem dX3_drifts_33 : decode cX3_drifts 33 = .ok (.aload_n 0, 1) := by decide +kernel
theorem dX3_drifts_34 : decode cX3_drifts 34 = .ok (.iload_n 1, 1) := by decide +kernel
theorem dX3_drifts_35 : decode cX3_drifts 35 = .ok (.iconst 4, 1) := by decide +kernel
theorem dX3_drifts_36 : decode cX3_drifts 36 = .ok (.iload_n 2, 1) := by decide +kernel
theorem dX3_drifts_37 : decode cX3_drifts 37 = .ok (.iadd, 1) := by decide +kernel
theorem dX3_drifts_38 : decode cX3_drifts 38 = .ok (.invokevirtual 52, 3) := by decide +kernel
theorem dX3_drifts_41 : decode cX3_drifts 41 = .ok (.goto 21, 3) := by decide +kernel
theorem dX3_drifts_44 : decode cX3_drifts 44 = .ok (.aload_n 0, 1) := by decide +kernel
theorem dX3_drifts_45 : decode cX3_drifts 45 = .ok (.aload_n 0, 1) := by decide +kernel
theorem dX3_drifts_46 : decode cX3_drifts 46 = .ok (.iload_n 1, 1) := by decide +kernel
theorem dX3_drifts_47 : decode cX3_drifts 47 = .ok (.iconst 4, 1) := by decide +kernel
theorem dX3_drifts_48 : decode cX3_drifts 48 = .ok (.iload_n 2, 1) := by decide +kernel
theorem dX3_drifts_49 : decode cX3_drifts 49 = .ok (.iadd, 1) := by decide +kernel
theorem dX3_drifts_50 : decode cX3_drifts 50 = .ok (.invokevirtual 52, 3) := by decide +kernel
theorem dX3_drifts_53 : decode cX3_drifts 53 = .ok (.aload_n 0, 1) := by decide +kernel
theorem dX3_drifts_54 : decode cX3_drifts 54 = .ok (.iload_n 1, 1) := by decide +kernel
theorem dX3_drifts_55 : decode cX3_drifts 55 = .ok (.iconst 0, 1) := by decide +kernel
theorem dX3_drifts_56 : decode cX3_drifts 56 = .ok (.invokevirtual 52, 3) := by decide +kernel
theorem dX3_drifts_59 : decode cX3_drifts 59 = .ok (.invokevirtual 102, 3) := by decide +kernel
theorem dX3_drifts_62 : decode cX3_drifts 62 = .ok (.invokevirtual 28, 3) := by decide +kernel
theorem dX3_drifts_65 : decode cX3_drifts 65 = .ok (.iinc 2 1, 3) := by decide +kernel
theorem dX3_drifts_68 : decode cX3_drifts 68 = .ok (.goto (-58), 3) := by decide +kernel
theorem dX3_drifts_71 : decode cX3_drifts 71 = .ok (.iconst 0, 1) := by decide +kernel
theorem dX3_drifts_72 : decode cX3_drifts 72 = .ok (.istore_n 2, 1) := by decide +kernel
theorem dX3_drifts_73 : decode cX3_drifts 73 = .ok (.iload_n 2, 1) := by decide +kernel
theorem dX3_drifts_74 : decode cX3_drifts 74 = .ok (.bipush 8, 2) := by decide +kernel
theorem dX3_drifts_76 : decode cX3_drifts 76 = .ok (.if_icmp .ge 33, 3) := by decide +kernel
theorem dX3_drifts_79 : decode cX3_drifts 79 = .ok (.aload_n 0, 1) := by decide +kernel
theorem dX3_drifts_80 : decode cX3_drifts 80 = .ok (.iload_n 1, 1) := by decide +kernel
theorem dX3_drifts_81 : decode cX3_drifts 81 = .ok (.iload_n 2, 1) := by decide +kernel
theorem dX3_drifts_82 : decode cX3_drifts 82 = .ok (.iconst 1, 1) := by decide +kernel
theorem dX3_drifts_83 : decode cX3_drifts 83 = .ok (.aload_n 0, 1) := by decide +kernel
theorem dX3_drifts_84 : decode cX3_drifts 84 = .ok (.aload_n 0, 1) := by decide +kernel
theorem dX3_drifts_85 : decode cX3_drifts 85 = .ok (.iload_n 1, 1) := by decide +kernel
theorem dX3_drifts_86 : decode cX3_drifts 86 = .ok (.iload_n 2, 1) := by decide +kernel
theorem dX3_drifts_87 : decode cX3_drifts 87 = .ok (.iconst 1, 1) := by decide +kernel
theorem dX3_drifts_88 : decode cX3_drifts 88 = .ok (.invokevirtual 56, 3) := by decide +kernel
theorem dX3_drifts_91 : decode cX3_drifts 91 = .ok (.aload_n 0, 1) := by decide +kernel
theorem dX3_drifts_92 : decode cX3_drifts 92 = .ok (.iload_n 1, 1) := by decide +kernel
theorem dX3_drifts_93 : decode cX3_drifts 93 = .ok (.iconst 0, 1) := by decide +kernel
theorem dX3_drifts_94 : decode cX3_drifts 94 = .ok (.invokevirtual 52, 3) := by decide +kernel
theorem dX3_drifts_97 : decode cX3_drifts 97 = .ok (.invokevirtual 102, 3) := by decide +kernel
theorem dX3_drifts_100 : decode cX3_drifts 100 = .ok (.invokevirtual 59, 3) := by decide +kernel
theorem dX3_drifts_103 : decode cX3_drifts 103 = .ok (.iinc 2 1, 3) := by decide +kernel
theorem dX3_drifts_106 : decode cX3_drifts 106 = .ok (.goto (-33), 3) := by decide +kernel
theorem dX3_drifts_109 : decode cX3_drifts 109 = .ok (.iinc 1 1, 3) := by decide +kernel
theorem dX3_drifts_112 : decode cX3_drifts 112 = .ok (.goto (-110), 3) := by decide +kernel
theorem dX3_drifts_115 : decode cX3_drifts 115 = .ok (.aload_n 0, 1) := by decide +kernel
theorem dX3_drifts_116 : decode cX3_drifts 116 = .ok (.getfield 7, 3) := by decide +kernel
theorem dX3_drifts_119 : decode cX3_drifts 119 = .ok (.iconst 0, 1) := by decide +kernel
theorem dX3_drifts_120 : decode cX3_drifts 120 = .ok (.dup2, 1) := by decide +kernel
theorem dX3_drifts_121 : decode cX3_drifts 121 = .ok (.iaload, 1) := by decide +kernel
theorem dX3_drifts_122 : decode cX3_drifts 122 = .ok (.iconst 1, 1) := by decide +kernel
theorem dX3_drifts_123 : decode cX3_drifts 123 = .ok (.iadd, 1) := by decide +kernel
theorem dX3_drifts_124 : decode cX3_drifts 124 = .ok (.iastore, 1) := by decide +kernel
theorem dX3_drifts_125 : decode cX3_drifts 125 = .ok (.return_, 1) := by decide +kernel
theorem dX3_ageOf_0 : decode cX3_ageOf 0 = .ok (.aload_n 0, 1) := by decide +kernel
theorem dX3_ageOf_1 : decode cX3_ageOf 1 = .ok (.getfield 7, 3) := by decide +kernel
theorem dX3_ageOf_4 : decode cX3_ageOf 4 = .ok (.iconst 0, 1) := by decide +kernel
theorem dX3_ageOf_5 : decode cX3_ageOf 5 = .ok (.iaload, 1) := by decide +kernel
theorem dX3_ageOf_6 : decode cX3_ageOf 6 = .ok (.aload_n 0, 1) := by decide +kernel
theorem dX3_ageOf_7 : decode cX3_ageOf 7 = .ok (.iload_n 1, 1) := by decide +kernel
theorem dX3_ageOf_8 : decode cX3_ageOf 8 = .ok (.iconst 1, 1) := by decide +kernel
theorem dX3_ageOf_9 : decode cX3_ageOf 9 = .ok (.invokevirtual 52, 3) := by decide +kernel
theorem dX3_ageOf_12 : decode cX3_ageOf 12 = .ok (.isub, 1) := by decide +kernel
theorem dX3_ageOf_13 : decode cX3_ageOf 13 = .ok (.ireturn, 1) := by decide +kernel
theorem dX3_endsDay_0 : decode cX3_endsDay 0 = .ok (.iconst 0, 1) := by decide +kernel
theorem dX3_endsDay_1 : decode cX3_endsDay 1 = .ok (.istore_n 1, 1) := by decide +kernel
theorem dX3_endsDay_2 : decode cX3_endsDay 2 = .ok (.aload_n 0, 1) := by decide +kernel
theorem dX3_endsDay_3 : decode cX3_endsDay 3 = .ok (.invokevirtual 105, 3) := by decide +kernel
theorem dX3_endsDay_6 : decode cX3_endsDay 6 = .ok (.iconst 0, 1) := by decide +kernel
theorem dX3_endsDay_7 : decode cX3_endsDay 7 = .ok (.istore_n 2, 1) := by decide +kernel
theorem dX3_endsDay_8 : decode cX3_endsDay 8 = .ok (.iload_n 2, 1) := by decide +kernel
theorem dX3_endsDay_9 : decode cX3_endsDay 9 = .ok (.bipush 6, 2) := by decide +kernel
theorem dX3_endsDay_11 : decode cX3_endsDay 11 = .ok (.if_icmp .ge 44, 3) := by decide +kernel
theorem dX3_endsDay_14 : decode cX3_endsDay 14 = .ok (.iload_n 1, 1) := by decide +kernel
theorem dX3_endsDay_15 : decode cX3_endsDay 15 = .ok (.aload_n 0, 1) := by decide +kernel
theorem dX3_endsDay_16 : decode cX3_endsDay 16 = .ok (.getfield 7, 3) := by decide +kernel
theorem dX3_endsDay_19 : decode cX3_endsDay 19 = .ok (.iconst 3, 1) := by decide +kernel
theorem dX3_endsDay_20 : decode cX3_endsDay 20 = .ok (.iaload, 1) := by decide +kernel
theorem dX3_endsDay_21 : decode cX3_endsDay 21 = .ok (.ifCond .le 25, 3) := by decide +kernel
theorem dX3_endsDay_24 : decode cX3_endsDay 24 = .ok (.aload_n 0, 1) := by decide +kernel
theorem dX3_endsDay_25 : decode cX3_endsDay 25 = .ok (.iload_n 2, 1) := by decide +kernel
theorem dX3_endsDay_26 : decode cX3_endsDay 26 = .ok (.invokevirtual 108, 3) := by decide +kernel
theorem dX3_endsDay_29 : decode cX3_endsDay 29 = .ok (.aload_n 0, 1) := by decide +kernel
theorem dX3_endsDay_30 : decode cX3_endsDay 30 = .ok (.getfield 7, 3) := by decide +kernel
theorem dX3_endsDay_33 : decode cX3_endsDay 33 = .ok (.iconst 3, 1) := by decide +kernel
theorem dX3_endsDay_34 : decode cX3_endsDay 34 = .ok (.iaload, 1) := by decide +kernel
theorem dX3_endsDay_35 : decode cX3_endsDay 35 = .ok (.if_icmp .lt 11, 3) := by decide +kernel
theorem dX3_endsDay_38 : decode cX3_endsDay 38 = .ok (.aload_n 0, 1) := by decide +kernel
theorem dX3_endsDay_39 : decode cX3_endsDay 39 = .ok (.iload_n 2, 1) := by decide +kernel
theorem dX3_endsDay_40 : decode cX3_endsDay 40 = .ok (.invokevirtual 111, 3) := by decide +kernel
theorem dX3_endsDay_43 : decode cX3_endsDay 43 = .ok (.goto 4, 3) := by decide +kernel
theorem dX3_endsDay_46 : decode cX3_endsDay 46 = .ok (.iconst 0, 1) := by decide +kernel
theorem dX3_endsDay_47 : decode cX3_endsDay 47 = .ok (.iadd, 1) := by decide +kernel
theorem dX3_endsDay_48 : decode cX3_endsDay 48 = .ok (.istore_n 1, 1) := by decide +kernel
theorem dX3_endsDay_49 : decode cX3_endsDay 49 = .ok (.iinc 2 1, 3) := by decide +kernel
theorem dX3_endsDay_52 : decode cX3_endsDay 52 = .ok (.goto (-44), 3) := by decide +kernel
theorem dX3_endsDay_55 : decode cX3_endsDay 55 = .ok (.iload_n 1, 1) := by decide +kernel
theorem dX3_endsDay_56 : decode cX3_endsDay 56 = .ok (.ireturn, 1) := by decide +kernel
theorem dX3_endsDays_0 : decode cX3_endsDays 0 = .ok (.iconst 0, 1) := by decide +kernel
theorem dX3_endsDays_1 : decode cX3_endsDays 1 = .ok (.istore_n 2, 1) := by decide +kernel
theorem dX3_endsDays_2 : decode cX3_endsDays 2 = .ok (.iconst 0, 1) := by decide +kernel
theorem dX3_endsDays_3 : decode cX3_endsDays 3 = .ok (.istore_n 3, 1) := by decide +kernel
theorem dX3_endsDays_4 : decode cX3_endsDays 4 = .ok (.iload_n 3, 1) := by decide +kernel
theorem dX3_endsDays_5 : decode cX3_endsDays 5 = .ok (.iload_n 1, 1) := by decide +kernel
theorem dX3_endsDays_6 : decode cX3_endsDays 6 = .ok (.if_icmp .ge 16, 3) := by decide +kernel
theorem dX3_endsDays_9 : decode cX3_endsDays 9 = .ok (.iload_n 2, 1) := by decide +kernel
theorem dX3_endsDays_10 : decode cX3_endsDays 10 = .ok (.aload_n 0, 1) := by decide +kernel
theorem dX3_endsDays_11 : decode cX3_endsDays 11 = .ok (.invokevirtual 114, 3) := by decide +kernel
theorem dX3_endsDays_14 : decode cX3_endsDays 14 = .ok (.iadd, 1) := by decide +kernel
theorem dX3_endsDays_15 : decode cX3_endsDays 15 = .ok (.istore_n 2, 1) := by decide +kernel
theorem dX3_endsDays_16 : decode cX3_endsDays 16 = .ok (.iinc 3 1, 3) := by decide +kernel
theorem dX3_endsDays_19 : decode cX3_endsDays 19 = .ok (.goto (-15), 3) := by decide +kernel
theorem dX3_endsDays_22 : decode cX3_endsDays 22 = .ok (.iload_n 2, 1) := by decide +kernel
theorem dX3_endsDays_23 : decode cX3_endsDays 23 = .ok (.ireturn, 1) := by decide +kernel
theorem dX3_errorWrite_0 : decode cX3_errorWrite 0 = .ok (.iload_n 0, 1) := by decide +kernel
theorem dX3_errorWrite_1 : decode cX3_errorWrite 1 = .ok (.invokestatic 67, 3) := by decide +kernel
theorem dX3_errorWrite_4 : decode cX3_errorWrite 4 = .ok (.ifCond .eq 21, 3) := by decide +kernel
theorem dX3_errorWrite_7 : decode cX3_errorWrite 7 = .ok (.iload_n 1, 1) := by decide +kernel
theorem dX3_errorWrite_8 : decode cX3_errorWrite 8 = .ok (.invokestatic 118, 3) := by decide +kernel
theorem dX3_errorWrite_11 : decode cX3_errorWrite 11 = .ok (.ifCond .eq 14, 3) := by decide +kernel
theorem dX3_errorWrite_14 : decode cX3_errorWrite 14 = .ok (.iload_n 2, 1) := by decide +kernel
theorem dX3_errorWrite_15 : decode cX3_errorWrite 15 = .ok (.invokestatic 121, 3) := by decide +kernel
theorem dX3_errorWrite_18 : decode cX3_errorWrite 18 = .ok (.ifCond .eq 7, 3) := by decide +kernel
theorem dX3_errorWrite_21 : decode cX3_errorWrite 21 = .ok (.iconst 0, 1) := by decide +kernel
theorem dX3_errorWrite_22 : decode cX3_errorWrite 22 = .ok (.goto 5, 3) := by decide +kernel
theorem dX3_errorWrite_25 : decode cX3_errorWrite 25 = .ok (.ldc 124, 2) := by decide +kernel
theorem dX3_errorWrite_27 : decode cX3_errorWrite 27 = .ok (.ireturn, 1) := by decide +kernel
theorem dX3_errorFail_0 : decode cX3_errorFail 0 = .ok (.iload_n 1, 1) := by decide +kernel
theorem dX3_errorFail_1 : decode cX3_errorFail 1 = .ok (.invokestatic 67, 3) := by decide +kernel
theorem dX3_errorFail_4 : decode cX3_errorFail 4 = .ok (.ifCond .eq 21, 3) := by decide +kernel
theorem dX3_errorFail_7 : decode cX3_errorFail 7 = .ok (.iload_n 2, 1) := by decide +kernel
theorem dX3_errorFail_8 : decode cX3_errorFail 8 = .ok (.invokestatic 121, 3) := by decide +kernel
theorem dX3_errorFail_11 : decode cX3_errorFail 11 = .ok (.ifCond .eq 14, 3) := by decide +kernel
theorem dX3_errorFail_14 : decode cX3_errorFail 14 = .ok (.iload_n 3, 1) := by decide +kernel
theorem dX3_errorFail_15 : decode cX3_errorFail 15 = .ok (.iconst 0, 1) := by decide +kernel
theorem dX3_errorFail_16 : decode cX3_errorFail 16 = .ok (.sipush 999, 3) := by decide +kernel
theorem dX3_errorFail_19 : decode cX3_errorFail 19 = .ok (.invokestatic 48, 3) := by decide +kernel
theorem dX3_errorFail_22 : decode cX3_errorFail 22 = .ok (.ifCond .ne 8, 3) := by decide +kernel
theorem dX3_errorFail_25 : decode cX3_errorFail 25 = .ok (.ldc 124, 2) := by decide +kernel
theorem dX3_errorFail_27 : decode cX3_errorFail 27 = .ok (.goto 22, 3) := by decide +kernel
theorem dX3_errorFail_30 : decode cX3_errorFail 30 = .ok (.aload_n 0, 1) := by decide +kernel
theorem dX3_errorFail_31 : decode cX3_errorFail 31 = .ok (.iload_n 1, 1) := by decide +kernel
theorem dX3_errorFail_32 : decode cX3_errorFail 32 = .ok (.bipush 7, 2) := by decide +kernel
theorem dX3_errorFail_34 : decode cX3_errorFail 34 = .ok (.iload_n 2, 1) := by decide +kernel
theorem dX3_errorFail_35 : decode cX3_errorFail 35 = .ok (.iadd, 1) := by decide +kernel
theorem dX3_errorFail_36 : decode cX3_errorFail 36 = .ok (.invokevirtual 52, 3) := by decide +kernel
theorem dX3_errorFail_39 : decode cX3_errorFail 39 = .ok (.iconst 1, 1) := by decide +kernel
theorem dX3_errorFail_40 : decode cX3_errorFail 40 = .ok (.if_icmp .ne 8, 3) := by decide +kernel
theorem dX3_errorFail_43 : decode cX3_errorFail 43 = .ok (.ldc 125, 2) := by decide +kernel
theorem dX3_errorFail_45 : decode cX3_errorFail 45 = .ok (.goto 4, 3) := by decide +kernel
theorem dX3_errorFail_48 : decode cX3_errorFail 48 = .ok (.iconst 0, 1) := by decide +kernel
theorem dX3_errorFail_49 : decode cX3_errorFail 49 = .ok (.ireturn, 1) := by decide +kernel
theorem dX3_errorMend_0 : decode cX3_errorMend 0 = .ok (.iload_n 1, 1) := by decide +kernel
theorem dX3_errorMend_1 : decode cX3_errorMend 1 = .ok (.invokestatic 67, 3) := by decide +kernel
theorem dX3_errorMend_4 : decode cX3_errorMend 4 = .ok (.ifCond .eq 10, 3) := by decide +kernel
theorem dX3_errorMend_7 : decode cX3_errorMend 7 = .ok (.iload_n 2, 1) := by decide +kernel
theorem dX3_errorMend_8 : decode cX3_errorMend 8 = .ok (.invokestatic 121, 3) := by decide +kernel
theorem dX3_errorMend_11 : decode cX3_errorMend 11 = .ok (.ifCond .ne 8, 3) := by decide +kernel
theorem dX3_errorMend_14 : decode cX3_errorMend 14 = .ok (.ldc 124, 2) := by decide +kernel
theorem dX3_errorMend_16 : decode cX3_errorMend 16 = .ok (.goto 21, 3) := by decide +kernel
theorem dX3_errorMend_19 : decode cX3_errorMend 19 = .ok (.aload_n 0, 1) := by decide +kernel
theorem dX3_errorMend_20 : decode cX3_errorMend 20 = .ok (.iload_n 1, 1) := by decide +kernel
theorem dX3_errorMend_21 : decode cX3_errorMend 21 = .ok (.bipush 7, 2) := by decide +kernel
theorem dX3_errorMend_23 : decode cX3_errorMend 23 = .ok (.iload_n 2, 1) := by decide +kernel
theorem dX3_errorMend_24 : decode cX3_errorMend 24 = .ok (.iadd, 1) := by decide +kernel
theorem dX3_errorMend_25 : decode cX3_errorMend 25 = .ok (.invokevirtual 52, 3) := by decide +kernel
theorem dX3_errorMend_28 : decode cX3_errorMend 28 = .ok (.ifCond .ne 8, 3) := by decide +kernel
theorem dX3_errorMend_31 : decode cX3_errorMend 31 = .ok (.ldc 125, 2) := by decide +kernel
theorem dX3_errorMend_33 : decode cX3_errorMend 33 = .ok (.goto 4, 3) := by decide +kernel
theorem dX3_errorMend_36 : decode cX3_errorMend 36 = .ok (.iconst 0, 1) := by decide +kernel
theorem dX3_errorMend_37 : decode cX3_errorMend 37 = .ok (.ireturn, 1) := by decide +kernel
theorem dX3_errorRate_0 : decode cX3_errorRate 0 = .ok (.iload_n 0, 1) := by decide +kernel
theorem dX3_errorRate_1 : decode cX3_errorRate 1 = .ok (.invokestatic 67, 3) := by decide +kernel
theorem dX3_errorRate_4 : decode cX3_errorRate 4 = .ok (.ifCond .eq 18, 3) := by decide +kernel
theorem dX3_errorRate_7 : decode cX3_errorRate 7 = .ok (.iload_n 1, 1) := by decide +kernel
theorem dX3_errorRate_8 : decode cX3_errorRate 8 = .ok (.iconst 1, 1) := by decide +kernel
theorem dX3_errorRate_9 : decode cX3_errorRate 9 = .ok (.sipush 200, 3) := by decide +kernel
theorem dX3_errorRate_12 : decode cX3_errorRate 12 = .ok (.invokestatic 48, 3) := by decide +kernel
theorem dX3_errorRate_15 : decode cX3_errorRate 15 = .ok (.ifCond .eq 7, 3) := by decide +kernel
theorem dX3_errorRate_18 : decode cX3_errorRate 18 = .ok (.iconst 0, 1) := by decide +kernel
theorem dX3_errorRate_19 : decode cX3_errorRate 19 = .ok (.goto 5, 3) := by decide +kernel
theorem dX3_errorRate_22 : decode cX3_errorRate 22 = .ok (.ldc 124, 2) := by decide +kernel
theorem dX3_errorRate_24 : decode cX3_errorRate 24 = .ok (.ireturn, 1) := by decide +kernel
theorem dX3_errorDays_0 : decode cX3_errorDays 0 = .ok (.iload_n 1, 1) := by decide +kernel
theorem dX3_errorDays_1 : decode cX3_errorDays 1 = .ok (.iconst 1, 1) := by decide +kernel
theorem dX3_errorDays_2 : decode cX3_errorDays 2 = .ok (.bipush 99, 2) := by decide +kernel
theorem dX3_errorDays_4 : decode cX3_errorDays 4 = .ok (.invokestatic 48, 3) := by decide +kernel
theorem dX3_errorDays_7 : decode cX3_errorDays 7 = .ok (.ifCond .ne 8, 3) := by decide +kernel
theorem dX3_errorDays_10 : decode cX3_errorDays 10 = .ok (.ldc 124, 2) := by decide +kernel
theorem dX3_errorDays_12 : decode cX3_errorDays 12 = .ok (.goto 23, 3) := by decide +kernel
theorem dX3_errorDays_15 : decode cX3_errorDays 15 = .ok (.aload_n 0, 1) := by decide +kernel
theorem dX3_errorDays_16 : decode cX3_errorDays 16 = .ok (.getfield 7, 3) := by decide +kernel
theorem dX3_errorDays_19 : decode cX3_errorDays 19 = .ok (.iconst 0, 1) := by decide +kernel
theorem dX3_errorDays_20 : decode cX3_errorDays 20 = .ok (.iaload, 1) := by decide +kernel
theorem dX3_errorDays_21 : decode cX3_errorDays 21 = .ok (.iload_n 1, 1) := by decide +kernel
theorem dX3_errorDays_22 : decode cX3_errorDays 22 = .ok (.iadd, 1) := by decide +kernel
theorem dX3_errorDays_23 : decode cX3_errorDays 23 = .ok (.sipush 9999, 3) := by decide +kernel
theorem dX3_errorDays_26 : decode cX3_errorDays 26 = .ok (.if_icmp .le 8, 3) := by decide +kernel
theorem dX3_errorDays_29 : decode cX3_errorDays 29 = .ok (.ldc 126, 2) := by decide +kernel
theorem dX3_errorDays_31 : decode cX3_errorDays 31 = .ok (.goto 4, 3) := by decide +kernel
theorem dX3_errorDays_34 : decode cX3_errorDays 34 = .ok (.iconst 0, 1) := by decide +kernel
theorem dX3_errorDays_35 : decode cX3_errorDays 35 = .ok (.ireturn, 1) := by decide +kernel
theorem dX3_goFail_0 : decode cX3_goFail 0 = .ok (.aload_n 0, 1) := by decide +kernel
theorem dX3_goFail_1 : decode cX3_goFail 1 = .ok (.iload_n 1, 1) := by decide +kernel
theorem dX3_goFail_2 : decode cX3_goFail 2 = .ok (.iconst 4, 1) := by decide +kernel
theorem dX3_goFail_3 : decode cX3_goFail 3 = .ok (.iload_n 2, 1) := by decide +kernel
theorem dX3_goFail_4 : decode cX3_goFail 4 = .ok (.iadd, 1) := by decide +kernel
theorem dX3_goFail_5 : decode cX3_goFail 5 = .ok (.iload_n 3, 1) := by decide +kernel
theorem dX3_goFail_6 : decode cX3_goFail 6 = .ok (.invokevirtual 28, 3) := by decide +kernel
theorem dX3_goFail_9 : decode cX3_goFail 9 = .ok (.aload_n 0, 1) := by decide +kernel
theorem dX3_goFail_10 : decode cX3_goFail 10 = .ok (.iload_n 1, 1) := by decide +kernel
theorem dX3_goFail_11 : decode cX3_goFail 11 = .ok (.bipush 7, 2) := by decide +kernel
theorem dX3_goFail_13 : decode cX3_goFail 13 = .ok (.iload_n 2, 1) := by decide +kernel
theorem dX3_goFail_14 : decode cX3_goFail 14 = .ok (.iadd, 1) := by decide +kernel
theorem dX3_goFail_15 : decode cX3_goFail 15 = .ok (.iconst 1, 1) := by decide +kernel
theorem dX3_goFail_16 : decode cX3_goFail 16 = .ok (.invokevirtual 28, 3) := by decide +kernel
theorem dX3_goFail_19 : decode cX3_goFail 19 = .ok (.return_, 1) := by decide +kernel
theorem dX3_write_0 : decode cX3_write 0 = .ok (.iload_n 1, 1) := by decide +kernel
theorem dX3_write_1 : decode cX3_write 1 = .ok (.iload_n 2, 1) := by decide +kernel
theorem dX3_write_2 : decode cX3_write 2 = .ok (.iload_n 3, 1) := by decide +kernel
theorem dX3_write_3 : decode cX3_write 3 = .ok (.invokestatic 127, 3) := by decide +kernel
theorem dX3_write_6 : decode cX3_write 6 = .ok (.istore 4, 2) := by decide +kernel
theorem dX3_write_8 : decode cX3_write 8 = .ok (.iload 4, 2) := by decide +kernel
theorem dX3_write_10 : decode cX3_write 10 = .ok (.ifCond .ge 6, 3) := by decide +kernel
theorem dX3_write_13 : decode cX3_write 13 = .ok (.iload 4, 2) := by decide +kernel
theorem dX3_write_15 : decode cX3_write 15 = .ok (.ireturn, 1) := by decide +kernel
theorem dX3_write_16 : decode cX3_write 16 = .ok (.aload_n 0, 1) := by decide +kernel
theorem dX3_write_17 : decode cX3_write 17 = .ok (.invokevirtual 130, 3) := by decide +kernel
theorem dX3_write_20 : decode cX3_write 20 = .ok (.aload_n 0, 1) := by decide +kernel
theorem dX3_write_21 : decode cX3_write 21 = .ok (.iload_n 1, 1) := by decide +kernel
theorem dX3_write_22 : decode cX3_write 22 = .ok (.iload_n 2, 1) := by decide +kernel
theorem dX3_write_23 : decode cX3_write 23 = .ok (.iload_n 3, 1) := by decide +kernel
theorem dX3_write_24 : decode cX3_write 24 = .ok (.invokevirtual 36, 3) := by decide +kernel
theorem dX3_write_27 : decode cX3_write 27 = .ok (.ireturn, 1) := by decide +kernel
theorem dX3_fill_0 : decode cX3_fill 0 = .ok (.iload_n 1, 1) := by decide +kernel
theorem dX3_fill_1 : decode cX3_fill 1 = .ok (.invokestatic 67, 3) := by decide +kernel
theorem dX3_fill_4 : decode cX3_fill 4 = .ok (.ifCond .eq 14, 3) := by decide +kernel
theorem dX3_fill_7 : decode cX3_fill 7 = .ok (.iload_n 2, 1) := by decide +kernel
theorem dX3_fill_8 : decode cX3_fill 8 = .ok (.iconst 0, 1) := by decide +kernel
theorem dX3_fill_9 : decode cX3_fill 9 = .ok (.sipush 6560, 3) := by decide +kernel
theorem dX3_fill_12 : decode cX3_fill 12 = .ok (.invokestatic 48, 3) := by decide +kernel
theorem dX3_fill_15 : decode cX3_fill 15 = .ok (.ifCond .ne 6, 3) := by decide +kernel
theorem dX3_fill_18 : decode cX3_fill 18 = .ok (.ldc 124, 2) := by decide +kernel
theorem dX3_fill_20 : decode cX3_fill 20 = .ok (.ireturn, 1) := by decide +kernel
theorem dX3_fill_21 : decode cX3_fill 21 = .ok (.aload_n 0, 1) := by decide +kernel
theorem dX3_fill_22 : decode cX3_fill 22 = .ok (.invokevirtual 130, 3) := by decide +kernel
theorem dX3_fill_25 : decode cX3_fill 25 = .ok (.aload_n 0, 1) := by decide +kernel
theorem dX3_fill_26 : decode cX3_fill 26 = .ok (.iload_n 1, 1) := by decide +kernel
theorem dX3_fill_27 : decode cX3_fill 27 = .ok (.invokevirtual 92, 3) := by decide +kernel
theorem dX3_fill_30 : decode cX3_fill 30 = .ok (.istore_n 3, 1) := by decide +kernel
theorem dX3_fill_31 : decode cX3_fill 31 = .ok (.aload_n 0, 1) := by decide +kernel
theorem dX3_fill_32 : decode cX3_fill 32 = .ok (.iload_n 1, 1) := by decide +kernel
theorem dX3_fill_33 : decode cX3_fill 33 = .ok (.iload_n 2, 1) := by decide +kernel
theorem dX3_fill_34 : decode cX3_fill 34 = .ok (.invokevirtual 95, 3) := by decide +kernel
theorem dX3_fill_37 : decode cX3_fill 37 = .ok (.iload_n 3, 1) := by decide +kernel
theorem dX3_fill_38 : decode cX3_fill 38 = .ok (.ireturn, 1) := by decide +kernel
theorem dX3_anew_0 : decode cX3_anew 0 = .ok (.iload_n 1, 1) := by decide +kernel
theorem dX3_anew_1 : decode cX3_anew 1 = .ok (.invokestatic 67, 3) := by decide +kernel
theorem dX3_anew_4 : decode cX3_anew 4 = .ok (.ifCond .ne 6, 3) := by decide +kernel
theorem dX3_anew_7 : decode cX3_anew 7 = .ok (.ldc 124, 2) := by decide +kernel
theorem dX3_anew_9 : decode cX3_anew 9 = .ok (.ireturn, 1) := by decide +kernel
theorem dX3_anew_10 : decode cX3_anew 10 = .ok (.aload_n 0, 1) := by decide +kernel
theorem dX3_anew_11 : decode cX3_anew 11 = .ok (.invokevirtual 130, 3) := by decide +kernel
theorem dX3_anew_14 : decode cX3_anew 14 = .ok (.aload_n 0, 1) := by decide +kernel
theorem dX3_anew_15 : decode cX3_anew 15 = .ok (.iload_n 1, 1) := by decide +kernel
theorem dX3_anew_16 : decode cX3_anew 16 = .ok (.invokevirtual 111, 3) := by decide +kernel
theorem dX3_anew_19 : decode cX3_anew 19 = .ok (.ireturn, 1) := by decide +kernel
theorem dX3_ask_0 : decode cX3_ask 0 = .ok (.iload_n 1, 1) := by decide +kernel
theorem dX3_ask_1 : decode cX3_ask 1 = .ok (.invokestatic 67, 3) := by decide +kernel
theorem dX3_ask_4 : decode cX3_ask 4 = .ok (.ifCond .eq 10, 3) := by decide +kernel
theorem dX3_ask_7 : decode cX3_ask 7 = .ok (.iload_n 2, 1) := by decide +kernel
theorem dX3_ask_8 : decode cX3_ask 8 = .ok (.invokestatic 118, 3) := by decide +kernel
theorem dX3_ask_11 : decode cX3_ask 11 = .ok (.ifCond .ne 6, 3) := by decide +kernel
theorem dX3_ask_14 : decode cX3_ask 14 = .ok (.ldc 124, 2) := by decide +kernel
theorem dX3_ask_16 : decode cX3_ask 16 = .ok (.ireturn, 1) := by decide +kernel
theorem dX3_ask_17 : decode cX3_ask 17 = .ok (.aload_n 0, 1) := by decide +kernel
theorem dX3_ask_18 : decode cX3_ask 18 = .ok (.invokevirtual 130, 3) := by decide +kernel
theorem dX3_ask_21 : decode cX3_ask 21 = .ok (.aload_n 0, 1) := by decide +kernel
theorem dX3_ask_22 : decode cX3_ask 22 = .ok (.iload_n 1, 1) := by decide +kernel
theorem dX3_ask_23 : decode cX3_ask 23 = .ok (.iload_n 2, 1) := by decide +kernel
theorem dX3_ask_24 : decode cX3_ask 24 = .ok (.invokevirtual 86, 3) := by decide +kernel
theorem dX3_ask_27 : decode cX3_ask 27 = .ok (.istore_n 3, 1) := by decide +kernel
theorem dX3_ask_28 : decode cX3_ask 28 = .ok (.aload_n 0, 1) := by decide +kernel
theorem dX3_ask_29 : decode cX3_ask 29 = .ok (.getfield 7, 3) := by decide +kernel
theorem dX3_ask_32 : decode cX3_ask 32 = .ok (.bipush 8, 2) := by decide +kernel
theorem dX3_ask_34 : decode cX3_ask 34 = .ok (.iconst 3, 1) := by decide +kernel
theorem dX3_ask_35 : decode cX3_ask 35 = .ok (.aload_n 0, 1) := by decide +kernel
theorem dX3_ask_36 : decode cX3_ask 36 = .ok (.iload_n 1, 1) := by decide +kernel
theorem dX3_ask_37 : decode cX3_ask 37 = .ok (.iload_n 2, 1) := by decide +kernel
theorem dX3_ask_38 : decode cX3_ask 38 = .ok (.iconst 0, 1) := by decide +kernel
theorem dX3_ask_39 : decode cX3_ask 39 = .ok (.invokevirtual 56, 3) := by decide +kernel
theorem dX3_ask_42 : decode cX3_ask 42 = .ok (.imul, 1) := by decide +kernel
theorem dX3_ask_43 : decode cX3_ask 43 = .ok (.iadd, 1) := by decide +kernel
theorem dX3_ask_44 : decode cX3_ask 44 = .ok (.iload_n 3, 1) := by decide +kernel
theorem dX3_ask_45 : decode cX3_ask 45 = .ok (.iadd, 1) := by decide +kernel
theorem dX3_ask_46 : decode cX3_ask 46 = .ok (.dup2, 1) := by decide +kernel
theorem dX3_ask_47 : decode cX3_ask 47 = .ok (.iaload, 1) := by decide +kernel
theorem dX3_ask_48 : decode cX3_ask 48 = .ok (.iconst 1, 1) := by decide +kernel
theorem dX3_ask_49 : decode cX3_ask 49 = .ok (.iadd, 1) := by decide +kernel
theorem dX3_ask_50 : decode cX3_ask 50 = .ok (.iastore, 1) := by decide +kernel
theorem dX3_ask_51 : decode cX3_ask 51 = .ok (.aload_n 0, 1) := by decide +kernel
theorem dX3_ask_52 : decode cX3_ask 52 = .ok (.getfield 7, 3) := by decide +kernel
theorem dX3_ask_55 : decode cX3_ask 55 = .ok (.bipush 7, 2) := by decide +kernel
theorem dX3_ask_57 : decode cX3_ask 57 = .ok (.dup2, 1) := by decide +kernel
theorem dX3_ask_58 : decode cX3_ask 58 = .ok (.iaload, 1) := by decide +kernel
theorem dX3_ask_59 : decode cX3_ask 59 = .ok (.iconst 1, 1) := by decide +kernel
theorem dX3_ask_60 : decode cX3_ask 60 = .ok (.iadd, 1) := by decide +kernel
theorem dX3_ask_61 : decode cX3_ask 61 = .ok (.iastore, 1) := by decide +kernel
theorem dX3_ask_62 : decode cX3_ask 62 = .ok (.iload_n 3, 1) := by decide +kernel
theorem dX3_ask_63 : decode cX3_ask 63 = .ok (.ireturn, 1) := by decide +kernel
theorem dX3_fail_0 : decode cX3_fail 0 = .ok (.aload_n 0, 1) := by decide +kernel
theorem dX3_fail_1 : decode cX3_fail 1 = .ok (.iload_n 1, 1) := by decide +kernel
theorem dX3_fail_2 : decode cX3_fail 2 = .ok (.iload_n 2, 1) := by decide +kernel
theorem dX3_fail_3 : decode cX3_fail 3 = .ok (.iload_n 3, 1) := by decide +kernel
theorem dX3_fail_4 : decode cX3_fail 4 = .ok (.invokevirtual 133, 3) := by decide +kernel
theorem dX3_fail_7 : decode cX3_fail 7 = .ok (.istore 4, 2) := by decide +kernel
theorem dX3_fail_9 : decode cX3_fail 9 = .ok (.iload 4, 2) := by decide +kernel
theorem dX3_fail_11 : decode cX3_fail 11 = .ok (.ifCond .ge 6, 3) := by decide +kernel
theorem dX3_fail_14 : decode cX3_fail 14 = .ok (.iload 4, 2) := by decide +kernel
theorem dX3_fail_16 : decode cX3_fail 16 = .ok (.ireturn, 1) := by decide +kernel
theorem dX3_fail_17 : decode cX3_fail 17 = .ok (.aload_n 0, 1) := by decide +kernel
theorem dX3_fail_18 : decode cX3_fail 18 = .ok (.invokevirtual 130, 3) := by decide +kernel
theorem dX3_fail_21 : decode cX3_fail 21 = .ok (.aload_n 0, 1) := by decide +kernel
theorem dX3_fail_22 : decode cX3_fail 22 = .ok (.iload_n 1, 1) := by decide +kernel
theorem dX3_fail_23 : decode cX3_fail 23 = .ok (.iconst 4, 1) := by decide +kernel
theorem dX3_fail_24 : decode cX3_fail 24 = .ok (.iload_n 2, 1) := by decide +kernel
theorem dX3_fail_25 : decode cX3_fail 25 = .ok (.iadd, 1) := by decide +kernel
theorem dX3_fail_26 : decode cX3_fail 26 = .ok (.invokevirtual 52, 3) := by decide +kernel
theorem dX3_fail_29 : decode cX3_fail 29 = .ok (.istore 5, 2) := by decide +kernel
theorem dX3_fail_31 : decode cX3_fail 31 = .ok (.aload_n 0, 1) := by decide +kernel
theorem dX3_fail_32 : decode cX3_fail 32 = .ok (.iload_n 1, 1) := by decide +kernel
theorem dX3_fail_33 : decode cX3_fail 33 = .ok (.iload_n 2, 1) := by decide +kernel
theorem dX3_fail_34 : decode cX3_fail 34 = .ok (.iload_n 3, 1) := by decide +kernel
theorem dX3_fail_35 : decode cX3_fail 35 = .ok (.invokevirtual 136, 3) := by decide +kernel
theorem dX3_fail_38 : decode cX3_fail 38 = .ok (.iload 5, 2) := by decide +kernel
theorem dX3_fail_40 : decode cX3_fail 40 = .ok (.ireturn, 1) := by decide +kernel
theorem dX3_mend_0 : decode cX3_mend 0 = .ok (.aload_n 0, 1) := by decide +kernel
theorem dX3_mend_1 : decode cX3_mend 1 = .ok (.iload_n 1, 1) := by decide +kernel
theorem dX3_mend_2 : decode cX3_mend 2 = .ok (.iload_n 2, 1) := by decide +kernel
theorem dX3_mend_3 : decode cX3_mend 3 = .ok (.invokevirtual 139, 3) := by decide +kernel
theorem dX3_mend_6 : decode cX3_mend 6 = .ok (.istore_n 3, 1) := by decide +kernel
theorem dX3_mend_7 : decode cX3_mend 7 = .ok (.iload_n 3, 1) := by decide +kernel
theorem dX3_mend_8 : decode cX3_mend 8 = .ok (.ifCond .ge 5, 3) := by decide +kernel
theorem dX3_mend_11 : decode cX3_mend 11 = .ok (.iload_n 3, 1) := by decide +kernel
theorem dX3_mend_12 : decode cX3_mend 12 = .ok (.ireturn, 1) := by decide +kernel
theorem dX3_mend_13 : decode cX3_mend 13 = .ok (.aload_n 0, 1) := by decide +kernel
theorem dX3_mend_14 : decode cX3_mend 14 = .ok (.invokevirtual 130, 3) := by decide +kernel
theorem dX3_mend_17 : decode cX3_mend 17 = .ok (.aload_n 0, 1) := by decide +kernel
theorem dX3_mend_18 : decode cX3_mend 18 = .ok (.iload_n 1, 1) := by decide +kernel
theorem dX3_mend_19 : decode cX3_mend 19 = .ok (.bipush 7, 2) := by decide +kernel
theorem dX3_mend_21 : decode cX3_mend 21 = .ok (.iload_n 2, 1) := by decide +kernel
theorem dX3_mend_22 : decode cX3_mend 22 = .ok (.iadd, 1) := by decide +kernel
theorem dX3_mend_23 : decode cX3_mend 23 = .ok (.iconst 0, 1) := by decide +kernel
theorem dX3_mend_24 : decode cX3_mend 24 = .ok (.invokevirtual 28, 3) := by decide +kernel
theorem dX3_mend_27 : decode cX3_mend 27 = .ok (.aload_n 0, 1) := by decide +kernel
theorem dX3_mend_28 : decode cX3_mend 28 = .ok (.iload_n 1, 1) := by decide +kernel
theorem dX3_mend_29 : decode cX3_mend 29 = .ok (.iconst 4, 1) := by decide +kernel
theorem dX3_mend_30 : decode cX3_mend 30 = .ok (.iload_n 2, 1) := by decide +kernel
theorem dX3_mend_31 : decode cX3_mend 31 = .ok (.iadd, 1) := by decide +kernel
theorem dX3_mend_32 : decode cX3_mend 32 = .ok (.invokevirtual 52, 3) := by decide +kernel
theorem dX3_mend_35 : decode cX3_mend 35 = .ok (.ireturn, 1) := by decide +kernel
theorem dX3_rate_0 : decode cX3_rate 0 = .ok (.iload_n 1, 1) := by decide +kernel
theorem dX3_rate_1 : decode cX3_rate 1 = .ok (.iload_n 2, 1) := by decide +kernel
theorem dX3_rate_2 : decode cX3_rate 2 = .ok (.invokestatic 142, 3) := by decide +kernel
theorem dX3_rate_5 : decode cX3_rate 5 = .ok (.istore_n 3, 1) := by decide +kernel
theorem dX3_rate_6 : decode cX3_rate 6 = .ok (.iload_n 3, 1) := by decide +kernel
theorem dX3_rate_7 : decode cX3_rate 7 = .ok (.ifCond .ge 5, 3) := by decide +kernel
theorem dX3_rate_10 : decode cX3_rate 10 = .ok (.iload_n 3, 1) := by decide +kernel
theorem dX3_rate_11 : decode cX3_rate 11 = .ok (.ireturn, 1) := by decide +kernel
theorem dX3_rate_12 : decode cX3_rate 12 = .ok (.aload_n 0, 1) := by decide +kernel
theorem dX3_rate_13 : decode cX3_rate 13 = .ok (.invokevirtual 130, 3) := by decide +kernel
theorem dX3_rate_16 : decode cX3_rate 16 = .ok (.aload_n 0, 1) := by decide +kernel
theorem dX3_rate_17 : decode cX3_rate 17 = .ok (.iload_n 1, 1) := by decide +kernel
theorem dX3_rate_18 : decode cX3_rate 18 = .ok (.iconst 0, 1) := by decide +kernel
theorem dX3_rate_19 : decode cX3_rate 19 = .ok (.invokevirtual 52, 3) := by decide +kernel
theorem dX3_rate_22 : decode cX3_rate 22 = .ok (.istore 4, 2) := by decide +kernel
theorem dX3_rate_24 : decode cX3_rate 24 = .ok (.aload_n 0, 1) := by decide +kernel
theorem dX3_rate_25 : decode cX3_rate 25 = .ok (.iload_n 1, 1) := by decide +kernel
theorem dX3_rate_26 : decode cX3_rate 26 = .ok (.iconst 0, 1) := by decide +kernel
theorem dX3_rate_27 : decode cX3_rate 27 = .ok (.iload_n 2, 1) := by decide +kernel
theorem dX3_rate_28 : decode cX3_rate 28 = .ok (.invokevirtual 28, 3) := by decide +kernel
theorem dX3_rate_31 : decode cX3_rate 31 = .ok (.iload 4, 2) := by decide +kernel
theorem dX3_rate_33 : decode cX3_rate 33 = .ok (.ireturn, 1) := by decide +kernel
theorem dX3_days_0 : decode cX3_days 0 = .ok (.aload_n 0, 1) := by decide +kernel
theorem dX3_days_1 : decode cX3_days 1 = .ok (.iload_n 1, 1) := by decide +kernel
theorem dX3_days_2 : decode cX3_days 2 = .ok (.invokevirtual 145, 3) := by decide +kernel
theorem dX3_days_5 : decode cX3_days 5 = .ok (.istore_n 2, 1) := by decide +kernel
theorem dX3_days_6 : decode cX3_days 6 = .ok (.iload_n 2, 1) := by decide +kernel
theorem dX3_days_7 : decode cX3_days 7 = .ok (.ifCond .ge 5, 3) := by decide +kernel
theorem dX3_days_10 : decode cX3_days 10 = .ok (.iload_n 2, 1) := by decide +kernel
theorem dX3_days_11 : decode cX3_days 11 = .ok (.ireturn, 1) := by decide +kernel
theorem dX3_days_12 : decode cX3_days 12 = .ok (.aload_n 0, 1) := by decide +kernel
theorem dX3_days_13 : decode cX3_days 13 = .ok (.invokevirtual 130, 3) := by decide +kernel
theorem dX3_days_16 : decode cX3_days 16 = .ok (.aload_n 0, 1) := by decide +kernel
theorem dX3_days_17 : decode cX3_days 17 = .ok (.iload_n 1, 1) := by decide +kernel
theorem dX3_days_18 : decode cX3_days 18 = .ok (.invokevirtual 148, 3) := by decide +kernel
theorem dX3_days_21 : decode cX3_days 21 = .ok (.ireturn, 1) := by decide +kernel
theorem dX3_set_0 : decode cX3_set 0 = .ok (.iload_n 1, 1) := by decide +kernel
theorem dX3_set_1 : decode cX3_set 1 = .ok (.invokestatic 121, 3) := by decide +kernel
theorem dX3_set_4 : decode cX3_set 4 = .ok (.ifCond .eq 53, 3) := by decide +kernel
theorem dX3_set_7 : decode cX3_set 7 = .ok (.iload_n 2, 1) := by decide +kernel
theorem dX3_set_8 : decode cX3_set 8 = .ok (.iload_n 1, 1) := by decide +kernel
theorem dX3_set_9 : decode cX3_set 9 = .ok (.ifCond .ne 9, 3) := by decide +kernel
theorem dX3_set_12 : decode cX3_set 12 = .ok (.sipush 300, 3) := by decide +kernel
theorem dX3_set_15 : decode cX3_set 15 = .ok (.goto 13, 3) := by decide +kernel
theorem dX3_set_18 : decode cX3_set 18 = .ok (.iload_n 1, 1) := by decide +kernel
theorem dX3_set_19 : decode cX3_set 19 = .ok (.iconst 1, 1) := by decide +kernel
theorem dX3_set_20 : decode cX3_set 20 = .ok (.if_icmp .ne 7, 3) := by decide +kernel
theorem dX3_set_23 : decode cX3_set 23 = .ok (.iconst 1, 1) := by decide +kernel
theorem dX3_set_24 : decode cX3_set 24 = .ok (.goto 4, 3) := by decide +kernel
theorem dX3_set_27 : decode cX3_set 27 = .ok (.iconst 0, 1) := by decide +kernel
theorem dX3_set_28 : decode cX3_set 28 = .ok (.iload_n 1, 1) := by decide +kernel
theorem dX3_set_29 : decode cX3_set 29 = .ok (.ifCond .ne 9, 3) := by decide +kernel
theorem dX3_set_32 : decode cX3_set 32 = .ok (.sipush 700, 3) := by decide +kernel
theorem dX3_set_35 : decode cX3_set 35 = .ok (.goto 16, 3) := by decide +kernel
theorem dX3_set_38 : decode cX3_set 38 = .ok (.iload_n 1, 1) := by decide +kernel
theorem dX3_set_39 : decode cX3_set 39 = .ok (.iconst 1, 1) := by decide +kernel
theorem dX3_set_40 : decode cX3_set 40 = .ok (.if_icmp .ne 9, 3) := by decide +kernel
theorem dX3_set_43 : decode cX3_set 43 = .ok (.sipush 300, 3) := by decide +kernel
theorem dX3_set_46 : decode cX3_set 46 = .ok (.goto 5, 3) := by decide +kernel
theorem dX3_set_49 : decode cX3_set 49 = .ok (.bipush 99, 2) := by decide +kernel
theorem dX3_set_51 : decode cX3_set 51 = .ok (.invokestatic 48, 3) := by decide +kernel
theorem dX3_set_54 : decode cX3_set 54 = .ok (.ifCond .ne 6, 3) := by decide +kernel
theorem dX3_set_57 : decode cX3_set 57 = .ok (.ldc 124, 2) := by decide +kernel
theorem dX3_set_59 : decode cX3_set 59 = .ok (.ireturn, 1) := by decide +kernel
theorem dX3_set_60 : decode cX3_set 60 = .ok (.aload_n 0, 1) := by decide +kernel
theorem dX3_set_61 : decode cX3_set 61 = .ok (.invokevirtual 130, 3) := by decide +kernel
theorem dX3_set_64 : decode cX3_set 64 = .ok (.aload_n 0, 1) := by decide +kernel
theorem dX3_set_65 : decode cX3_set 65 = .ok (.getfield 7, 3) := by decide +kernel
theorem dX3_set_68 : decode cX3_set 68 = .ok (.iconst 1, 1) := by decide +kernel
theorem dX3_set_69 : decode cX3_set 69 = .ok (.iload_n 1, 1) := by decide +kernel
theorem dX3_set_70 : decode cX3_set 70 = .ok (.iadd, 1) := by decide +kernel
theorem dX3_set_71 : decode cX3_set 71 = .ok (.iaload, 1) := by decide +kernel
theorem dX3_set_72 : decode cX3_set 72 = .ok (.istore_n 3, 1) := by decide +kernel
theorem dX3_set_73 : decode cX3_set 73 = .ok (.aload_n 0, 1) := by decide +kernel
theorem dX3_set_74 : decode cX3_set 74 = .ok (.getfield 7, 3) := by decide +kernel
theorem dX3_set_77 : decode cX3_set 77 = .ok (.iconst 1, 1) := by decide +kernel
theorem dX3_set_78 : decode cX3_set 78 = .ok (.iload_n 1, 1) := by decide +kernel
theorem dX3_set_79 : decode cX3_set 79 = .ok (.iadd, 1) := by decide +kernel
theorem dX3_set_80 : decode cX3_set 80 = .ok (.iload_n 2, 1) := by decide +kernel
theorem dX3_set_81 : decode cX3_set 81 = .ok (.iastore, 1) := by decide +kernel
theorem dX3_set_82 : decode cX3_set 82 = .ok (.iload_n 3, 1) := by decide +kernel
theorem dX3_set_83 : decode cX3_set 83 = .ok (.ireturn, 1) := by decide +kernel
theorem dX3_undo_0 : decode cX3_undo 0 = .ok (.aload_n 0, 1) := by decide +kernel
theorem dX3_undo_1 : decode cX3_undo 1 = .ok (.getfield 40, 3) := by decide +kernel
theorem dX3_undo_4 : decode cX3_undo 4 = .ok (.ifCond .ne 6, 3) := by decide +kernel
theorem dX3_undo_7 : decode cX3_undo 7 = .ok (.ldc 125, 2) := by decide +kernel
theorem dX3_undo_9 : decode cX3_undo 9 = .ok (.ireturn, 1) := by decide +kernel
theorem dX3_undo_10 : decode cX3_undo 10 = .ok (.aload_n 0, 1) := by decide +kernel
theorem dX3_undo_11 : decode cX3_undo 11 = .ok (.dup, 1) := by decide +kernel
theorem dX3_undo_12 : decode cX3_undo 12 = .ok (.getfield 40, 3) := by decide +kernel
theorem dX3_undo_15 : decode cX3_undo 15 = .ok (.iconst 1, 1) := by decide +kernel
theorem dX3_undo_16 : decode cX3_undo 16 = .ok (.isub, 1) := by decide +kernel
theorem dX3_undo_17 : decode cX3_undo 17 = .ok (.putfield 40, 3) := by decide +kernel
theorem dX3_undo_20 : decode cX3_undo 20 = .ok (.aload_n 0, 1) := by decide +kernel
theorem dX3_undo_21 : decode cX3_undo 21 = .ok (.getfield 19, 3) := by decide +kernel
theorem dX3_undo_24 : decode cX3_undo 24 = .ok (.sipush 269, 3) := by decide +kernel
theorem dX3_undo_27 : decode cX3_undo 27 = .ok (.aload_n 0, 1) := by decide +kernel
theorem dX3_undo_28 : decode cX3_undo 28 = .ok (.getfield 40, 3) := by decide +kernel
theorem dX3_undo_31 : decode cX3_undo 31 = .ok (.imul, 1) := by decide +kernel
theorem dX3_undo_32 : decode cX3_undo 32 = .ok (.aload_n 0, 1) := by decide +kernel
theorem dX3_undo_33 : decode cX3_undo 33 = .ok (.getfield 7, 3) := by decide +kernel
theorem dX3_undo_36 : decode cX3_undo 36 = .ok (.iconst 0, 1) := by decide +kernel
theorem dX3_undo_37 : decode cX3_undo 37 = .ok (.invokestatic 44, 3) := by decide +kernel
theorem dX3_undo_40 : decode cX3_undo 40 = .ok (.aload_n 0, 1) := by decide +kernel
theorem dX3_undo_41 : decode cX3_undo 41 = .ok (.getfield 40, 3) := by decide +kernel
theorem dX3_undo_44 : decode cX3_undo 44 = .ok (.ireturn, 1) := by decide +kernel
theorem dX3_nearer_0 : decode cX3_nearer 0 = .ok (.aload_n 0, 1) := by decide +kernel
theorem dX3_nearer_1 : decode cX3_nearer 1 = .ok (.iload_n 1, 1) := by decide +kernel
theorem dX3_nearer_2 : decode cX3_nearer 2 = .ok (.iload_n 2, 1) := by decide +kernel
theorem dX3_nearer_3 : decode cX3_nearer 3 = .ok (.iconst 1, 1) := by decide +kernel
theorem dX3_nearer_4 : decode cX3_nearer 4 = .ok (.invokevirtual 56, 3) := by decide +kernel
theorem dX3_nearer_7 : decode cX3_nearer 7 = .ok (.aload_n 0, 1) := by decide +kernel
theorem dX3_nearer_8 : decode cX3_nearer 8 = .ok (.iload_n 1, 1) := by decide +kernel
theorem dX3_nearer_9 : decode cX3_nearer 9 = .ok (.iconst 0, 1) := by decide +kernel
theorem dX3_nearer_10 : decode cX3_nearer 10 = .ok (.invokevirtual 80, 3) := by decide +kernel
theorem dX3_nearer_13 : decode cX3_nearer 13 = .ok (.isub, 1) := by decide +kernel
theorem dX3_nearer_14 : decode cX3_nearer 14 = .ok (.invokestatic 99, 3) := by decide +kernel
theorem dX3_nearer_17 : decode cX3_nearer 17 = .ok (.istore_n 3, 1) := by decide +kernel
theorem dX3_nearer_18 : decode cX3_nearer 18 = .ok (.aload_n 0, 1) := by decide +kernel
theorem dX3_nearer_19 : decode cX3_nearer 19 = .ok (.iload_n 1, 1) := by decide +kernel
theorem dX3_nearer_20 : decode cX3_nearer 20 = .ok (.iload_n 2, 1) := by decide +kernel
theorem dX3_nearer_21 : decode cX3_nearer 21 = .ok (.iconst 1, 1) := by decide +kernel
theorem dX3_nearer_22 : decode cX3_nearer 22 = .ok (.invokevirtual 56, 3) := by decide +kernel
theorem dX3_nearer_25 : decode cX3_nearer 25 = .ok (.aload_n 0, 1) := by decide +kernel
theorem dX3_nearer_26 : decode cX3_nearer 26 = .ok (.iload_n 1, 1) := by decide +kernel
theorem dX3_nearer_27 : decode cX3_nearer 27 = .ok (.iconst 1, 1) := by decide +kernel
theorem dX3_nearer_28 : decode cX3_nearer 28 = .ok (.invokevirtual 80, 3) := by decide +kernel
theorem dX3_nearer_31 : decode cX3_nearer 31 = .ok (.isub, 1) := by decide +kernel
theorem dX3_nearer_32 : decode cX3_nearer 32 = .ok (.invokestatic 99, 3) := by decide +kernel
theorem dX3_nearer_35 : decode cX3_nearer 35 = .ok (.istore 4, 2) := by decide +kernel
theorem dX3_nearer_37 : decode cX3_nearer 37 = .ok (.iload_n 3, 1) := by decide +kernel
theorem dX3_nearer_38 : decode cX3_nearer 38 = .ok (.iload 4, 2) := by decide +kernel
theorem dX3_nearer_40 : decode cX3_nearer 40 = .ok (.if_icmp .ge 7, 3) := by decide +kernel
theorem dX3_nearer_43 : decode cX3_nearer 43 = .ok (.iload_n 3, 1) := by decide +kernel
theorem dX3_nearer_44 : decode cX3_nearer 44 = .ok (.goto 5, 3) := by decide +kernel
theorem dX3_nearer_47 : decode cX3_nearer 47 = .ok (.iload 4, 2) := by decide +kernel
theorem dX3_nearer_49 : decode cX3_nearer 49 = .ok (.ireturn, 1) := by decide +kernel
theorem dX3_cell_0 : decode cX3_cell 0 = .ok (.iload_n 1, 1) := by decide +kernel
theorem dX3_cell_1 : decode cX3_cell 1 = .ok (.invokestatic 67, 3) := by decide +kernel
theorem dX3_cell_4 : decode cX3_cell 4 = .ok (.ifCond .eq 10, 3) := by decide +kernel
theorem dX3_cell_7 : decode cX3_cell 7 = .ok (.iload_n 2, 1) := by decide +kernel
theorem dX3_cell_8 : decode cX3_cell 8 = .ok (.invokestatic 118, 3) := by decide +kernel
theorem dX3_cell_11 : decode cX3_cell 11 = .ok (.ifCond .ne 6, 3) := by decide +kernel
theorem dX3_cell_14 : decode cX3_cell 14 = .ok (.ldc 124, 2) := by decide +kernel
theorem dX3_cell_16 : decode cX3_cell 16 = .ok (.ireturn, 1) := by decide +kernel
theorem dX3_cell_17 : decode cX3_cell 17 = .ok (.aload_n 0, 1) := by decide +kernel
theorem dX3_cell_18 : decode cX3_cell 18 = .ok (.iload_n 1, 1) := by decide +kernel
theorem dX3_cell_19 : decode cX3_cell 19 = .ok (.iload_n 2, 1) := by decide +kernel
theorem dX3_cell_20 : decode cX3_cell 20 = .ok (.iconst 1, 1) := by decide +kernel
theorem dX3_cell_21 : decode cX3_cell 21 = .ok (.invokevirtual 56, 3) := by decide +kernel
theorem dX3_cell_24 : decode cX3_cell 24 = .ok (.istore 4, 2) := by decide +kernel
theorem dX3_cell_26 : decode cX3_cell 26 = .ok (.iload_n 3, 1) := by decide +kernel
theorem dX3_cell_27 : decode cX3_cell 27 = .ok (.tableswitch 123 0 7 #[45, 53, 56, 63, 81, 93, 101, 108], 45) := by decide +kernel
theorem dX3_cell_72 : decode cX3_cell 72 = .ok (.aload_n 0, 1) := by decide +kernel
theorem dX3_cell_73 : decode cX3_cell 73 = .ok (.iload_n 1, 1) := by decide +kernel
theorem dX3_cell_74 : decode cX3_cell 74 = .ok (.iload_n 2, 1) := by decide +kernel
theorem dX3_cell_75 : decode cX3_cell 75 = .ok (.iconst 0, 1) := by decide +kernel
theorem dX3_cell_76 : decode cX3_cell 76 = .ok (.invokevirtual 56, 3) := by decide +kernel
theorem dX3_cell_79 : decode cX3_cell 79 = .ok (.ireturn, 1) := by decide +kernel
theorem dX3_cell_80 : decode cX3_cell 80 = .ok (.iload 4, 2) := by decide +kernel
theorem dX3_cell_82 : decode cX3_cell 82 = .ok (.ireturn, 1) := by decide +kernel
theorem dX3_cell_83 : decode cX3_cell 83 = .ok (.aload_n 0, 1) := by decide +kernel
theorem dX3_cell_84 : decode cX3_cell 84 = .ok (.iload_n 1, 1) := by decide +kernel
theorem dX3_cell_85 : decode cX3_cell 85 = .ok (.iload_n 2, 1) := by decide +kernel
theorem dX3_cell_86 : decode cX3_cell 86 = .ok (.invokevirtual 86, 3) := by decide +kernel
theorem dX3_cell_89 : decode cX3_cell 89 = .ok (.ireturn, 1) := by decide +kernel
theorem dX3_cell_90 : decode cX3_cell 90 = .ok (.iload 4, 2) := by decide +kernel
theorem dX3_cell_92 : decode cX3_cell 92 = .ok (.aload_n 0, 1) := by decide +kernel
theorem dX3_cell_93 : decode cX3_cell 93 = .ok (.iload_n 1, 1) := by decide +kernel
theorem dX3_cell_94 : decode cX3_cell 94 = .ok (.iconst 0, 1) := by decide +kernel
theorem dX3_cell_95 : decode cX3_cell 95 = .ok (.invokevirtual 77, 3) := by decide +kernel
theorem dX3_cell_98 : decode cX3_cell 98 = .ok (.aload_n 0, 1) := by decide +kernel
theorem dX3_cell_99 : decode cX3_cell 99 = .ok (.iload_n 1, 1) := by decide +kernel
theorem dX3_cell_100 : decode cX3_cell 100 = .ok (.iconst 1, 1) := by decide +kernel
theorem dX3_cell_101 : decode cX3_cell 101 = .ok (.invokevirtual 77, 3) := by decide +kernel
theorem dX3_cell_104 : decode cX3_cell 104 = .ok (.invokestatic 83, 3) := by decide +kernel
theorem dX3_cell_107 : decode cX3_cell 107 = .ok (.ireturn, 1) := by decide +kernel
theorem dX3_cell_108 : decode cX3_cell 108 = .ok (.iload 4, 2) := by decide +kernel
theorem dX3_cell_110 : decode cX3_cell 110 = .ok (.sipush 300, 3) := by decide +kernel
theorem dX3_cell_113 : decode cX3_cell 113 = .ok (.sipush 700, 3) := by decide +kernel
theorem dX3_cell_116 : decode cX3_cell 116 = .ok (.invokestatic 83, 3) := by decide +kernel
theorem dX3_cell_119 : decode cX3_cell 119 = .ok (.ireturn, 1) := by decide +kernel
theorem dX3_cell_120 : decode cX3_cell 120 = .ok (.aload_n 0, 1) := by decide +kernel
theorem dX3_cell_121 : decode cX3_cell 121 = .ok (.iload_n 1, 1) := by decide +kernel
theorem dX3_cell_122 : decode cX3_cell 122 = .ok (.iload_n 2, 1) := by decide +kernel
theorem dX3_cell_123 : decode cX3_cell 123 = .ok (.iconst 2, 1) := by decide +kernel
theorem dX3_cell_124 : decode cX3_cell 124 = .ok (.invokevirtual 56, 3) := by decide +kernel
theorem dX3_cell_127 : decode cX3_cell 127 = .ok (.ireturn, 1) := by decide +kernel
theorem dX3_cell_128 : decode cX3_cell 128 = .ok (.aload_n 0, 1) := by decide +kernel
theorem dX3_cell_129 : decode cX3_cell 129 = .ok (.iload_n 1, 1) := by decide +kernel
theorem dX3_cell_130 : decode cX3_cell 130 = .ok (.iload_n 2, 1) := by decide +kernel
theorem dX3_cell_131 : decode cX3_cell 131 = .ok (.invokevirtual 151, 3) := by decide +kernel
theorem dX3_cell_134 : decode cX3_cell 134 = .ok (.ireturn, 1) := by decide +kernel
theorem dX3_cell_135 : decode cX3_cell 135 = .ok (.aload_n 0, 1) := by decide +kernel
theorem dX3_cell_136 : decode cX3_cell 136 = .ok (.getfield 7, 3) := by decide +kernel
theorem dX3_cell_139 : decode cX3_cell 139 = .ok (.iconst 0, 1) := by decide +kernel
theorem dX3_cell_140 : decode cX3_cell 140 = .ok (.iaload, 1) := by decide +kernel
theorem dX3_cell_141 : decode cX3_cell 141 = .ok (.aload_n 0, 1) := by decide +kernel
theorem dX3_cell_142 : decode cX3_cell 142 = .ok (.iload_n 1, 1) := by decide +kernel
theorem dX3_cell_143 : decode cX3_cell 143 = .ok (.iload_n 2, 1) := by decide +kernel
theorem dX3_cell_144 : decode cX3_cell 144 = .ok (.iconst 3, 1) := by decide +kernel
theorem dX3_cell_145 : decode cX3_cell 145 = .ok (.invokevirtual 56, 3) := by decide +kernel
theorem dX3_cell_148 : decode cX3_cell 148 = .ok (.isub, 1) := by decide +kernel
theorem dX3_cell_149 : decode cX3_cell 149 = .ok (.ireturn, 1) := by decide +kernel
theorem dX3_cell_150 : decode cX3_cell 150 = .ok (.ldc 124, 2) := by decide +kernel
theorem dX3_cell_152 : decode cX3_cell 152 = .ok (.ireturn, 1) := by decide +kernel
theorem dX3_guard_0 : decode cX3_guard 0 = .ok (.iload_n 1, 1) := by decide +kernel
theorem dX3_guard_1 : decode cX3_guard 1 = .ok (.invokestatic 67, 3) := by decide +kernel
theorem dX3_guard_4 : decode cX3_guard 4 = .ok (.ifCond .eq 19, 3) := by decide +kernel
theorem dX3_guard_7 : decode cX3_guard 7 = .ok (.iload_n 2, 1) := by decide +kernel
theorem dX3_guard_8 : decode cX3_guard 8 = .ok (.invokestatic 121, 3) := by decide +kernel
theorem dX3_guard_11 : decode cX3_guard 11 = .ok (.ifCond .eq 12, 3) := by decide +kernel
theorem dX3_guard_14 : decode cX3_guard 14 = .ok (.iload_n 3, 1) := by decide +kernel
theorem dX3_guard_15 : decode cX3_guard 15 = .ok (.iconst 0, 1) := by decide +kernel
theorem dX3_guard_16 : decode cX3_guard 16 = .ok (.iconst 1, 1) := by decide +kernel
theorem dX3_guard_17 : decode cX3_guard 17 = .ok (.invokestatic 48, 3) := by decide +kernel
theorem dX3_guard_20 : decode cX3_guard 20 = .ok (.ifCond .ne 6, 3) := by decide +kernel
theorem dX3_guard_23 : decode cX3_guard 23 = .ok (.ldc 124, 2) := by decide +kernel
theorem dX3_guard_25 : decode cX3_guard 25 = .ok (.ireturn, 1) := by decide +kernel
theorem dX3_guard_26 : decode cX3_guard 26 = .ok (.aload_n 0, 1) := by decide +kernel
theorem dX3_guard_27 : decode cX3_guard 27 = .ok (.iload_n 1, 1) := by decide +kernel
theorem dX3_guard_28 : decode cX3_guard 28 = .ok (.iload_n 3, 1) := by decide +kernel
theorem dX3_guard_29 : decode cX3_guard 29 = .ok (.ifCond .ne 7, 3) := by decide +kernel
theorem dX3_guard_32 : decode cX3_guard 32 = .ok (.iconst 4, 1) := by decide +kernel
theorem dX3_guard_33 : decode cX3_guard 33 = .ok (.goto 5, 3) := by decide +kernel
theorem dX3_guard_36 : decode cX3_guard 36 = .ok (.bipush 7, 2) := by decide +kernel
theorem dX3_guard_38 : decode cX3_guard 38 = .ok (.iload_n 2, 1) := by decide +kernel
theorem dX3_guard_39 : decode cX3_guard 39 = .ok (.iadd, 1) := by decide +kernel
theorem dX3_guard_40 : decode cX3_guard 40 = .ok (.invokevirtual 52, 3) := by decide +kernel
theorem dX3_guard_43 : decode cX3_guard 43 = .ok (.ireturn, 1) := by decide +kernel
theorem dX3_wrongFixed_0 : decode cX3_wrongFixed 0 = .ok (.iconst 0, 1) := by decide +kernel
theorem dX3_wrongFixed_1 : decode cX3_wrongFixed 1 = .ok (.istore_n 2, 1) := by decide +kernel
theorem dX3_wrongFixed_2 : decode cX3_wrongFixed 2 = .ok (.iconst 0, 1) := by decide +kernel
theorem dX3_wrongFixed_3 : decode cX3_wrongFixed 3 = .ok (.istore_n 3, 1) := by decide +kernel
theorem dX3_wrongFixed_4 : decode cX3_wrongFixed 4 = .ok (.iload_n 3, 1) := by decide +kernel
theorem dX3_wrongFixed_5 : decode cX3_wrongFixed 5 = .ok (.bipush 8, 2) := by decide +kernel
theorem dX3_wrongFixed_7 : decode cX3_wrongFixed 7 = .ok (.if_icmp .ge 43, 3) := by decide +kernel
theorem dX3_wrongFixed_10 : decode cX3_wrongFixed 10 = .ok (.iload_n 2, 1) := by decide +kernel
theorem dX3_wrongFixed_11 : decode cX3_wrongFixed 11 = .ok (.aload_n 0, 1) := by decide +kernel
theorem dX3_wrongFixed_12 : decode cX3_wrongFixed 12 = .ok (.iload_n 1, 1) := by decide +kernel
theorem dX3_wrongFixed_13 : decode cX3_wrongFixed 13 = .ok (.iload_n 3, 1) := by decide +kernel
theorem dX3_wrongFixed_14 : decode cX3_wrongFixed 14 = .ok (.iconst 1, 1) := by decide +kernel
theorem dX3_wrongFixed_15 : decode cX3_wrongFixed 15 = .ok (.invokevirtual 56, 3) := by decide +kernel
theorem dX3_wrongFixed_18 : decode cX3_wrongFixed 18 = .ok (.sipush 300, 3) := by decide +kernel
theorem dX3_wrongFixed_21 : decode cX3_wrongFixed 21 = .ok (.sipush 700, 3) := by decide +kernel
theorem dX3_wrongFixed_24 : decode cX3_wrongFixed 24 = .ok (.invokestatic 83, 3) := by decide +kernel
theorem dX3_wrongFixed_27 : decode cX3_wrongFixed 27 = .ok (.aload_n 0, 1) := by decide +kernel
theorem dX3_wrongFixed_28 : decode cX3_wrongFixed 28 = .ok (.iload_n 1, 1) := by decide +kernel
theorem dX3_wrongFixed_29 : decode cX3_wrongFixed 29 = .ok (.iload_n 3, 1) := by decide +kernel
theorem dX3_wrongFixed_30 : decode cX3_wrongFixed 30 = .ok (.iconst 0, 1) := by decide +kernel
theorem dX3_wrongFixed_31 : decode cX3_wrongFixed 31 = .ok (.invokevirtual 56, 3) := by decide +kernel
theorem dX3_wrongFixed_34 : decode cX3_wrongFixed 34 = .ok (.if_icmp .ne 7, 3) := by decide +kernel
theorem dX3_wrongFixed_37 : decode cX3_wrongFixed 37 = .ok (.iconst 0, 1) := by decide +kernel
theorem dX3_wrongFixed_38 : decode cX3_wrongFixed 38 = .ok (.goto 4, 3) := by decide +kernel
theorem dX3_wrongFixed_41 : decode cX3_wrongFixed 41 = .ok (.iconst 1, 1) := by decide +kernel
theorem dX3_wrongFixed_42 : decode cX3_wrongFixed 42 = .ok (.iadd, 1) := by decide +kernel
theorem dX3_wrongFixed_43 : decode cX3_wrongFixed 43 = .ok (.istore_n 2, 1) := by decide +kernel
theorem dX3_wrongFixed_44 : decode cX3_wrongFixed 44 = .ok (.iinc 3 1, 3) := by decide +kernel
theorem dX3_wrongFixed_47 : decode cX3_wrongFixed 47 = .ok (.goto (-43), 3) := by decide +kernel
theorem dX3_wrongFixed_50 : decode cX3_wrongFixed 50 = .ok (.iload_n 2, 1) := by decide +kernel
theorem dX3_wrongFixed_51 : decode cX3_wrongFixed 51 = .ok (.ireturn, 1) := by decide +kernel
theorem dX3_row_0 : decode cX3_row 0 = .ok (.iload_n 1, 1) := by decide +kernel
theorem dX3_row_1 : decode cX3_row 1 = .ok (.invokestatic 67, 3) := by decide +kernel
theorem dX3_row_4 : decode cX3_row 4 = .ok (.ifCond .ne 6, 3) := by decide +kernel
theorem dX3_row_7 : decode cX3_row 7 = .ok (.ldc 124, 2) := by decide +kernel
theorem dX3_row_9 : decode cX3_row 9 = .ok (.ireturn, 1) := by decide +kernel
theorem dX3_row_10 : decode cX3_row 10 = .ok (.iload_n 2, 1) := by decide +kernel
theorem dX3_row_11 : decode cX3_row 11 = .ok (.tableswitch 156 0 13 #[69, 69, 76, 90, 96, 96, 105, 111, 117, 124, 130, 136, 142, 149], 69) := by decide +kernel
theorem dX3_row_80 : decode cX3_row 80 = .ok (.aload_n 0, 1) := by decide +kernel
theorem dX3_row_81 : decode cX3_row 81 = .ok (.iload_n 1, 1) := by decide +kernel
theorem dX3_row_82 : decode cX3_row 82 = .ok (.iload_n 2, 1) := by decide +kernel
theorem dX3_row_83 : decode cX3_row 83 = .ok (.invokevirtual 77, 3) := by decide +kernel
theorem dX3_row_86 : decode cX3_row 86 = .ok (.ireturn, 1) := by decide +kernel
theorem dX3_row_87 : decode cX3_row 87 = .ok (.aload_n 0, 1) := by decide +kernel
theorem dX3_row_88 : decode cX3_row 88 = .ok (.iload_n 1, 1) := by decide +kernel
theorem dX3_row_89 : decode cX3_row 89 = .ok (.invokevirtual 71, 3) := by decide +kernel
theorem dX3_row_92 : decode cX3_row 92 = .ok (.ifCond .eq 7, 3) := by decide +kernel
theorem dX3_row_95 : decode cX3_row 95 = .ok (.iconst 1, 1) := by decide +kernel
theorem dX3_row_96 : decode cX3_row 96 = .ok (.goto 4, 3) := by decide +kernel
theorem dX3_row_99 : decode cX3_row 99 = .ok (.iconst 0, 1) := by decide +kernel
theorem dX3_row_100 : decode cX3_row 100 = .ok (.ireturn, 1) := by decide +kernel
theorem dX3_row_101 : decode cX3_row 101 = .ok (.aload_n 0, 1) := by decide +kernel
theorem dX3_row_102 : decode cX3_row 102 = .ok (.iload_n 1, 1) := by decide +kernel
theorem dX3_row_103 : decode cX3_row 103 = .ok (.invokevirtual 154, 3) := by decide +kernel
theorem dX3_row_106 : decode cX3_row 106 = .ok (.ireturn, 1) := by decide +kernel
theorem dX3_row_107 : decode cX3_row 107 = .ok (.aload_n 0, 1) := by decide +kernel
theorem dX3_row_108 : decode cX3_row 108 = .ok (.iload_n 1, 1) := by decide +kernel
theorem dX3_row_109 : decode cX3_row 109 = .ok (.iload_n 2, 1) := by decide +kernel
theorem dX3_row_110 : decode cX3_row 110 = .ok (.iconst 4, 1) := by decide +kernel
theorem dX3_row_111 : decode cX3_row 111 = .ok (.isub, 1) := by decide +kernel
theorem dX3_row_112 : decode cX3_row 112 = .ok (.invokevirtual 80, 3) := by decide +kernel
theorem dX3_row_115 : decode cX3_row 115 = .ok (.ireturn, 1) := by decide +kernel
theorem dX3_row_116 : decode cX3_row 116 = .ok (.aload_n 0, 1) := by decide +kernel
theorem dX3_row_117 : decode cX3_row 117 = .ok (.iload_n 1, 1) := by decide +kernel
theorem dX3_row_118 : decode cX3_row 118 = .ok (.invokevirtual 89, 3) := by decide +kernel
theorem dX3_row_121 : decode cX3_row 121 = .ok (.ireturn, 1) := by decide +kernel
theorem dX3_row_122 : decode cX3_row 122 = .ok (.aload_n 0, 1) := by decide +kernel
theorem dX3_row_123 : decode cX3_row 123 = .ok (.iload_n 1, 1) := by decide +kernel
theorem dX3_row_124 : decode cX3_row 124 = .ok (.invokevirtual 157, 3) := by decide +kernel
theorem dX3_row_127 : decode cX3_row 127 = .ok (.ireturn, 1) := by decide +kernel
theorem dX3_row_128 : decode cX3_row 128 = .ok (.aload_n 0, 1) := by decide +kernel
theorem dX3_row_129 : decode cX3_row 129 = .ok (.iload_n 1, 1) := by decide +kernel
theorem dX3_row_130 : decode cX3_row 130 = .ok (.iconst 0, 1) := by decide +kernel
theorem dX3_row_131 : decode cX3_row 131 = .ok (.invokevirtual 52, 3) := by decide +kernel
theorem dX3_row_134 : decode cX3_row 134 = .ok (.ireturn, 1) := by decide +kernel
theorem dX3_row_135 : decode cX3_row 135 = .ok (.aload_n 0, 1) := by decide +kernel
theorem dX3_row_136 : decode cX3_row 136 = .ok (.iload_n 1, 1) := by decide +kernel
theorem dX3_row_137 : decode cX3_row 137 = .ok (.invokevirtual 108, 3) := by decide +kernel
theorem dX3_row_140 : decode cX3_row 140 = .ok (.ireturn, 1) := by decide +kernel
theorem dX3_row_141 : decode cX3_row 141 = .ok (.aload_n 0, 1) := by decide +kernel
theorem dX3_row_142 : decode cX3_row 142 = .ok (.iload_n 1, 1) := by decide +kernel
theorem dX3_row_143 : decode cX3_row 143 = .ok (.invokevirtual 92, 3) := by decide +kernel
theorem dX3_row_146 : decode cX3_row 146 = .ok (.ireturn, 1) := by decide +kernel
theorem dX3_row_147 : decode cX3_row 147 = .ok (.aload_n 0, 1) := by decide +kernel
theorem dX3_row_148 : decode cX3_row 148 = .ok (.iload_n 1, 1) := by decide +kernel
theorem dX3_row_149 : decode cX3_row 149 = .ok (.invokevirtual 160, 3) := by decide +kernel
theorem dX3_row_152 : decode cX3_row 152 = .ok (.ireturn, 1) := by decide +kernel
theorem dX3_row_153 : decode cX3_row 153 = .ok (.aload_n 0, 1) := by decide +kernel
theorem dX3_row_154 : decode cX3_row 154 = .ok (.iload_n 1, 1) := by decide +kernel
theorem dX3_row_155 : decode cX3_row 155 = .ok (.iconst 2, 1) := by decide +kernel
theorem dX3_row_156 : decode cX3_row 156 = .ok (.invokevirtual 52, 3) := by decide +kernel
theorem dX3_row_159 : decode cX3_row 159 = .ok (.ireturn, 1) := by decide +kernel
theorem dX3_row_160 : decode cX3_row 160 = .ok (.aload_n 0, 1) := by decide +kernel
theorem dX3_row_161 : decode cX3_row 161 = .ok (.iload_n 1, 1) := by decide +kernel
theorem dX3_row_162 : decode cX3_row 162 = .ok (.iconst 3, 1) := by decide +kernel
theorem dX3_row_163 : decode cX3_row 163 = .ok (.invokevirtual 52, 3) := by decide +kernel
theorem dX3_row_166 : decode cX3_row 166 = .ok (.ireturn, 1) := by decide +kernel
theorem dX3_row_167 : decode cX3_row 167 = .ok (.ldc 124, 2) := by decide +kernel
theorem dX3_row_169 : decode cX3_row 169 = .ok (.ireturn, 1) := by decide +kernel
theorem dX3_table_0 : decode cX3_table 0 = .ok (.iload_n 1, 1) := by decide +kernel
theorem dX3_table_1 : decode cX3_table 1 = .ok (.invokestatic 121, 3) := by decide +kernel
theorem dX3_table_4 : decode cX3_table 4 = .ok (.ifCond .eq 26, 3) := by decide +kernel
theorem dX3_table_7 : decode cX3_table 7 = .ok (.iload_n 2, 1) := by decide +kernel
theorem dX3_table_8 : decode cX3_table 8 = .ok (.invokestatic 121, 3) := by decide +kernel
theorem dX3_table_11 : decode cX3_table 11 = .ok (.ifCond .eq 19, 3) := by decide +kernel
theorem dX3_table_14 : decode cX3_table 14 = .ok (.aload_n 0, 1) := by decide +kernel
theorem dX3_table_15 : decode cX3_table 15 = .ok (.getfield 7, 3) := by decide +kernel
theorem dX3_table_18 : decode cX3_table 18 = .ok (.bipush 8, 2) := by decide +kernel
theorem dX3_table_20 : decode cX3_table 20 = .ok (.iconst 3, 1) := by decide +kernel
theorem dX3_table_21 : decode cX3_table 21 = .ok (.iload_n 1, 1) := by decide +kernel
theorem dX3_table_22 : decode cX3_table 22 = .ok (.imul, 1) := by decide +kernel
theorem dX3_table_23 : decode cX3_table 23 = .ok (.iadd, 1) := by decide +kernel
theorem dX3_table_24 : decode cX3_table 24 = .ok (.iload_n 2, 1) := by decide +kernel
theorem dX3_table_25 : decode cX3_table 25 = .ok (.iadd, 1) := by decide +kernel
theorem dX3_table_26 : decode cX3_table 26 = .ok (.iaload, 1) := by decide +kernel
theorem dX3_table_27 : decode cX3_table 27 = .ok (.goto 5, 3) := by decide +kernel
theorem dX3_table_30 : decode cX3_table 30 = .ok (.ldc 124, 2) := by decide +kernel
theorem dX3_table_32 : decode cX3_table 32 = .ok (.ireturn, 1) := by decide +kernel
theorem dX3_wrongIn_0 : decode cX3_wrongIn 0 = .ok (.iload_n 1, 1) := by decide +kernel
theorem dX3_wrongIn_1 : decode cX3_wrongIn 1 = .ok (.invokestatic 67, 3) := by decide +kernel
theorem dX3_wrongIn_4 : decode cX3_wrongIn 4 = .ok (.ifCond .ne 6, 3) := by decide +kernel
theorem dX3_wrongIn_7 : decode cX3_wrongIn 7 = .ok (.ldc 124, 2) := by decide +kernel
theorem dX3_wrongIn_9 : decode cX3_wrongIn 9 = .ok (.ireturn, 1) := by decide +kernel
theorem dX3_wrongIn_10 : decode cX3_wrongIn 10 = .ok (.aload_n 0, 1) := by decide +kernel
theorem dX3_wrongIn_11 : decode cX3_wrongIn 11 = .ok (.getfield 7, 3) := by decide +kernel
theorem dX3_wrongIn_14 : decode cX3_wrongIn 14 = .ok (.iconst 0, 1) := by decide +kernel
theorem dX3_wrongIn_15 : decode cX3_wrongIn 15 = .ok (.aload_n 0, 1) := by decide +kernel
theorem dX3_wrongIn_16 : decode cX3_wrongIn 16 = .ok (.getfield 13, 3) := by decide +kernel
theorem dX3_wrongIn_19 : decode cX3_wrongIn 19 = .ok (.iconst 0, 1) := by decide +kernel
theorem dX3_wrongIn_20 : decode cX3_wrongIn 20 = .ok (.invokestatic 44, 3) := by decide +kernel
theorem dX3_wrongIn_23 : decode cX3_wrongIn 23 = .ok (.iconst 0, 1) := by decide +kernel
theorem dX3_wrongIn_24 : decode cX3_wrongIn 24 = .ok (.istore_n 2, 1) := by decide +kernel
theorem dX3_wrongIn_25 : decode cX3_wrongIn 25 = .ok (.iload_n 2, 1) := by decide +kernel
theorem dX3_wrongIn_26 : decode cX3_wrongIn 26 = .ok (.sipush 300, 3) := by decide +kernel
theorem dX3_wrongIn_29 : decode cX3_wrongIn 29 = .ok (.if_icmp .gt 22, 3) := by decide +kernel
theorem dX3_wrongIn_32 : decode cX3_wrongIn 32 = .ok (.aload_n 0, 1) := by decide +kernel
theorem dX3_wrongIn_33 : decode cX3_wrongIn 33 = .ok (.iload_n 1, 1) := by decide +kernel
theorem dX3_wrongIn_34 : decode cX3_wrongIn 34 = .ok (.invokevirtual 89, 3) := by decide +kernel
theorem dX3_wrongIn_37 : decode cX3_wrongIn 37 = .ok (.ifCond .ne 14, 3) := by decide +kernel
theorem dX3_wrongIn_40 : decode cX3_wrongIn 40 = .ok (.aload_n 0, 1) := by decide +kernel
theorem dX3_wrongIn_41 : decode cX3_wrongIn 41 = .ok (.invokevirtual 114, 3) := by decide +kernel
theorem dX3_wrongIn_44 : decode cX3_wrongIn 44 = .ok (.istore_n 3, 1) := by decide +kernel
theorem dX3_wrongIn_45 : decode cX3_wrongIn 45 = .ok (.iinc 2 1, 3) := by decide +kernel
theorem dX3_wrongIn_48 : decode cX3_wrongIn 48 = .ok (.goto (-23), 3) := by decide +kernel
theorem dX3_wrongIn_51 : decode cX3_wrongIn 51 = .ok (.aload_n 0, 1) := by decide +kernel
theorem dX3_wrongIn_52 : decode cX3_wrongIn 52 = .ok (.getfield 13, 3) := by decide +kernel
theorem dX3_wrongIn_55 : decode cX3_wrongIn 55 = .ok (.iconst 0, 1) := by decide +kernel
theorem dX3_wrongIn_56 : decode cX3_wrongIn 56 = .ok (.aload_n 0, 1) := by decide +kernel
theorem dX3_wrongIn_57 : decode cX3_wrongIn 57 = .ok (.getfield 7, 3) := by decide +kernel
theorem dX3_wrongIn_60 : decode cX3_wrongIn 60 = .ok (.iconst 0, 1) := by decide +kernel
theorem dX3_wrongIn_61 : decode cX3_wrongIn 61 = .ok (.invokestatic 44, 3) := by decide +kernel
theorem dX3_wrongIn_64 : decode cX3_wrongIn 64 = .ok (.iload_n 2, 1) := by decide +kernel
theorem dX3_wrongIn_65 : decode cX3_wrongIn 65 = .ok (.sipush 300, 3) := by decide +kernel
theorem dX3_wrongIn_68 : decode cX3_wrongIn 68 = .ok (.if_icmp .le 8, 3) := by decide +kernel
theorem dX3_wrongIn_71 : decode cX3_wrongIn 71 = .ok (.ldc 163, 2) := by decide +kernel
theorem dX3_wrongIn_73 : decode cX3_wrongIn 73 = .ok (.goto 4, 3) := by decide +kernel
theorem dX3_wrongIn_76 : decode cX3_wrongIn 76 = .ok (.iload_n 2, 1) := by decide +kernel
theorem dX3_wrongIn_77 : decode cX3_wrongIn 77 = .ok (.ireturn, 1) := by decide +kernel
theorem dX3_rightFor_0 : decode cX3_rightFor 0 = .ok (.iload_n 1, 1) := by decide +kernel
theorem dX3_rightFor_1 : decode cX3_rightFor 1 = .ok (.invokestatic 67, 3) := by decide +kernel
theorem dX3_rightFor_4 : decode cX3_rightFor 4 = .ok (.ifCond .ne 6, 3) := by decide +kernel
theorem dX3_rightFor_7 : decode cX3_rightFor 7 = .ok (.ldc 124, 2) := by decide +kernel
theorem dX3_rightFor_9 : decode cX3_rightFor 9 = .ok (.ireturn, 1) := by decide +kernel
theorem dX3_rightFor_10 : decode cX3_rightFor 10 = .ok (.aload_n 0, 1) := by decide +kernel
theorem dX3_rightFor_11 : decode cX3_rightFor 11 = .ok (.getfield 7, 3) := by decide +kernel
theorem dX3_rightFor_14 : decode cX3_rightFor 14 = .ok (.iconst 0, 1) := by decide +kernel
theorem dX3_rightFor_15 : decode cX3_rightFor 15 = .ok (.aload_n 0, 1) := by decide +kernel
theorem dX3_rightFor_16 : decode cX3_rightFor 16 = .ok (.getfield 13, 3) := by decide +kernel
theorem dX3_rightFor_19 : decode cX3_rightFor 19 = .ok (.iconst 0, 1) := by decide +kernel
theorem dX3_rightFor_20 : decode cX3_rightFor 20 = .ok (.invokestatic 44, 3) := by decide +kernel
theorem dX3_rightFor_23 : decode cX3_rightFor 23 = .ok (.iconst 0, 1) := by decide +kernel
theorem dX3_rightFor_24 : decode cX3_rightFor 24 = .ok (.istore_n 2, 1) := by decide +kernel
theorem dX3_rightFor_25 : decode cX3_rightFor 25 = .ok (.iload_n 2, 1) := by decide +kernel
theorem dX3_rightFor_26 : decode cX3_rightFor 26 = .ok (.sipush 300, 3) := by decide +kernel
theorem dX3_rightFor_29 : decode cX3_rightFor 29 = .ok (.if_icmp .gt 21, 3) := by decide +kernel
theorem dX3_rightFor_32 : decode cX3_rightFor 32 = .ok (.aload_n 0, 1) := by decide +kernel
theorem dX3_rightFor_33 : decode cX3_rightFor 33 = .ok (.iload_n 1, 1) := by decide +kernel
theorem dX3_rightFor_34 : decode cX3_rightFor 34 = .ok (.invokevirtual 71, 3) := by decide +kernel
theorem dX3_rightFor_37 : decode cX3_rightFor 37 = .ok (.ifCond .eq 13, 3) := by decide +kernel
theorem dX3_rightFor_40 : decode cX3_rightFor 40 = .ok (.aload_n 0, 1) := by decide +kernel
theorem dX3_rightFor_41 : decode cX3_rightFor 41 = .ok (.invokevirtual 105, 3) := by decide +kernel
theorem dX3_rightFor_44 : decode cX3_rightFor 44 = .ok (.iinc 2 1, 3) := by decide +kernel
theorem dX3_rightFor_47 : decode cX3_rightFor 47 = .ok (.goto (-22), 3) := by decide +kernel
theorem dX3_rightFor_50 : decode cX3_rightFor 50 = .ok (.aload_n 0, 1) := by decide +kernel
theorem dX3_rightFor_51 : decode cX3_rightFor 51 = .ok (.getfield 13, 3) := by decide +kernel
theorem dX3_rightFor_54 : decode cX3_rightFor 54 = .ok (.iconst 0, 1) := by decide +kernel
theorem dX3_rightFor_55 : decode cX3_rightFor 55 = .ok (.aload_n 0, 1) := by decide +kernel
theorem dX3_rightFor_56 : decode cX3_rightFor 56 = .ok (.getfield 7, 3) := by decide +kernel
theorem dX3_rightFor_59 : decode cX3_rightFor 59 = .ok (.iconst 0, 1) := by decide +kernel
theorem dX3_rightFor_60 : decode cX3_rightFor 60 = .ok (.invokestatic 44, 3) := by decide +kernel
theorem dX3_rightFor_63 : decode cX3_rightFor 63 = .ok (.iload_n 2, 1) := by decide +kernel
theorem dX3_rightFor_64 : decode cX3_rightFor 64 = .ok (.sipush 300, 3) := by decide +kernel
theorem dX3_rightFor_67 : decode cX3_rightFor 67 = .ok (.if_icmp .le 8, 3) := by decide +kernel
theorem dX3_rightFor_70 : decode cX3_rightFor 70 = .ok (.ldc 163, 2) := by decide +kernel
theorem dX3_rightFor_72 : decode cX3_rightFor 72 = .ok (.goto 4, 3) := by decide +kernel
theorem dX3_rightFor_75 : decode cX3_rightFor 75 = .ok (.iload_n 2, 1) := by decide +kernel
theorem dX3_rightFor_76 : decode cX3_rightFor 76 = .ok (.ireturn, 1) := by decide +kernel
theorem dX3_lostBy_0 : decode cX3_lostBy 0 = .ok (.aload_n 0, 1) := by decide +kernel
theorem dX3_lostBy_1 : decode cX3_lostBy 1 = .ok (.getfield 7, 3) := by decide +kernel
theorem dX3_lostBy_4 : decode cX3_lostBy 4 = .ok (.iconst 0, 1) := by decide +kernel
theorem dX3_lostBy_5 : decode cX3_lostBy 5 = .ok (.aload_n 0, 1) := by decide +kernel
theorem dX3_lostBy_6 : decode cX3_lostBy 6 = .ok (.getfield 13, 3) := by decide +kernel
theorem dX3_lostBy_9 : decode cX3_lostBy 9 = .ok (.iconst 0, 1) := by decide +kernel
theorem dX3_lostBy_10 : decode cX3_lostBy 10 = .ok (.invokestatic 44, 3) := by decide +kernel
theorem dX3_lostBy_13 : decode cX3_lostBy 13 = .ok (.aload_n 0, 1) := by decide +kernel
theorem dX3_lostBy_14 : decode cX3_lostBy 14 = .ok (.getfield 7, 3) := by decide +kernel
theorem dX3_lostBy_17 : decode cX3_lostBy 17 = .ok (.iconst 3, 1) := by decide +kernel
theorem dX3_lostBy_18 : decode cX3_lostBy 18 = .ok (.iload_n 1, 1) := by decide +kernel
theorem dX3_lostBy_19 : decode cX3_lostBy 19 = .ok (.iastore, 1) := by decide +kernel
theorem dX3_lostBy_20 : decode cX3_lostBy 20 = .ok (.iconst 0, 1) := by decide +kernel
theorem dX3_lostBy_21 : decode cX3_lostBy 21 = .ok (.istore_n 2, 1) := by decide +kernel
theorem dX3_lostBy_22 : decode cX3_lostBy 22 = .ok (.iconst 0, 1) := by decide +kernel
theorem dX3_lostBy_23 : decode cX3_lostBy 23 = .ok (.istore_n 3, 1) := by decide +kernel
theorem dX3_lostBy_24 : decode cX3_lostBy 24 = .ok (.iload_n 3, 1) := by decide +kernel
theorem dX3_lostBy_25 : decode cX3_lostBy 25 = .ok (.bipush 60, 2) := by decide +kernel
theorem dX3_lostBy_27 : decode cX3_lostBy 27 = .ok (.if_icmp .ge 18, 3) := by decide +kernel
theorem dX3_lostBy_30 : decode cX3_lostBy 30 = .ok (.iload_n 2, 1) := by decide +kernel
theorem dX3_lostBy_31 : decode cX3_lostBy 31 = .ok (.ifCond .ne 14, 3) := by decide +kernel
theorem dX3_lostBy_34 : decode cX3_lostBy 34 = .ok (.aload_n 0, 1) := by decide +kernel
theorem dX3_lostBy_35 : decode cX3_lostBy 35 = .ok (.invokevirtual 114, 3) := by decide +kernel
theorem dX3_lostBy_38 : decode cX3_lostBy 38 = .ok (.istore_n 2, 1) := by decide +kernel
theorem dX3_lostBy_39 : decode cX3_lostBy 39 = .ok (.iinc 3 1, 3) := by decide +kernel
theorem dX3_lostBy_42 : decode cX3_lostBy 42 = .ok (.goto (-18), 3) := by decide +kernel
theorem dX3_lostBy_45 : decode cX3_lostBy 45 = .ok (.aload_n 0, 1) := by decide +kernel
theorem dX3_lostBy_46 : decode cX3_lostBy 46 = .ok (.getfield 13, 3) := by decide +kernel
theorem dX3_lostBy_49 : decode cX3_lostBy 49 = .ok (.iconst 0, 1) := by decide +kernel
theorem dX3_lostBy_50 : decode cX3_lostBy 50 = .ok (.aload_n 0, 1) := by decide +kernel
theorem dX3_lostBy_51 : decode cX3_lostBy 51 = .ok (.getfield 7, 3) := by decide +kernel
theorem dX3_lostBy_54 : decode cX3_lostBy 54 = .ok (.iconst 0, 1) := by decide +kernel
theorem dX3_lostBy_55 : decode cX3_lostBy 55 = .ok (.invokestatic 44, 3) := by decide +kernel
theorem dX3_lostBy_58 : decode cX3_lostBy 58 = .ok (.iload_n 2, 1) := by decide +kernel
theorem dX3_lostBy_59 : decode cX3_lostBy 59 = .ok (.ireturn, 1) := by decide +kernel
theorem dX3_safeAge_0 : decode cX3_safeAge 0 = .ok (.bipush 60, 2) := by decide +kernel
theorem dX3_safeAge_2 : decode cX3_safeAge 2 = .ok (.istore_n 1, 1) := by decide +kernel
theorem dX3_safeAge_3 : decode cX3_safeAge 3 = .ok (.iload_n 1, 1) := by decide +kernel
theorem dX3_safeAge_4 : decode cX3_safeAge 4 = .ok (.ifCond .le 17, 3) := by decide +kernel
theorem dX3_safeAge_7 : decode cX3_safeAge 7 = .ok (.aload_n 0, 1) := by decide +kernel
theorem dX3_safeAge_8 : decode cX3_safeAge 8 = .ok (.iload_n 1, 1) := by decide +kernel
theorem dX3_safeAge_9 : decode cX3_safeAge 9 = .ok (.invokevirtual 164, 3) := by decide +kernel
theorem dX3_safeAge_12 : decode cX3_safeAge 12 = .ok (.ifCond .le 9, 3) := by decide +kernel
theorem dX3_safeAge_15 : decode cX3_safeAge 15 = .ok (.iinc 1 (-1), 3) := by decide +kernel
theorem dX3_safeAge_18 : decode cX3_safeAge 18 = .ok (.goto (-15), 3) := by decide +kernel
theorem dX3_safeAge_21 : decode cX3_safeAge 21 = .ok (.iload_n 1, 1) := by decide +kernel
theorem dX3_safeAge_22 : decode cX3_safeAge 22 = .ok (.ifCond .ne 8, 3) := by decide +kernel
theorem dX3_safeAge_25 : decode cX3_safeAge 25 = .ok (.ldc 163, 2) := by decide +kernel
theorem dX3_safeAge_27 : decode cX3_safeAge 27 = .ok (.goto 4, 3) := by decide +kernel
theorem dX3_safeAge_30 : decode cX3_safeAge 30 = .ok (.iload_n 1, 1) := by decide +kernel
theorem dX3_safeAge_31 : decode cX3_safeAge 31 = .ok (.ireturn, 1) := by decide +kernel
theorem dX3_worst_0 : decode cX3_worst 0 = .ok (.iload_n 1, 1) := by decide +kernel
theorem dX3_worst_1 : decode cX3_worst 1 = .ok (.invokestatic 67, 3) := by decide +kernel
theorem dX3_worst_4 : decode cX3_worst 4 = .ok (.ifCond .ne 6, 3) := by decide +kernel
theorem dX3_worst_7 : decode cX3_worst 7 = .ok (.ldc 124, 2) := by decide +kernel
theorem dX3_worst_9 : decode cX3_worst 9 = .ok (.ireturn, 1) := by decide +kernel
theorem dX3_worst_10 : decode cX3_worst 10 = .ok (.ldc 163, 2) := by decide +kernel
theorem dX3_worst_12 : decode cX3_worst 12 = .ok (.istore_n 2, 1) := by decide +kernel
theorem dX3_worst_13 : decode cX3_worst 13 = .ok (.iconst 0, 1) := by decide +kernel
theorem dX3_worst_14 : decode cX3_worst 14 = .ok (.istore_n 3, 1) := by decide +kernel
theorem dX3_worst_15 : decode cX3_worst 15 = .ok (.iload_n 3, 1) := by decide +kernel
theorem dX3_worst_16 : decode cX3_worst 16 = .ok (.bipush 6, 2) := by decide +kernel
theorem dX3_worst_18 : decode cX3_worst 18 = .ok (.if_icmp .ge 84, 3) := by decide +kernel
theorem dX3_worst_21 : decode cX3_worst 21 = .ok (.iconst 0, 1) := by decide +kernel
theorem dX3_worst_22 : decode cX3_worst 22 = .ok (.istore 4, 2) := by decide +kernel
theorem dX3_worst_24 : decode cX3_worst 24 = .ok (.iconst 0, 1) := by decide +kernel
theorem dX3_worst_25 : decode cX3_worst 25 = .ok (.istore 5, 2) := by decide +kernel
theorem dX3_worst_27 : decode cX3_worst 27 = .ok (.iload 5, 2) := by decide +kernel
theorem dX3_worst_29 : decode cX3_worst 29 = .ok (.bipush 6, 2) := by decide +kernel
theorem dX3_worst_31 : decode cX3_worst 31 = .ok (.if_icmp .ge 53, 3) := by decide +kernel
theorem dX3_worst_34 : decode cX3_worst 34 = .ok (.iload 4, 2) := by decide +kernel
theorem dX3_worst_36 : decode cX3_worst 36 = .ok (.aload_n 0, 1) := by decide +kernel
theorem dX3_worst_37 : decode cX3_worst 37 = .ok (.iload 5, 2) := by decide +kernel
theorem dX3_worst_39 : decode cX3_worst 39 = .ok (.invokevirtual 89, 3) := by decide +kernel
theorem dX3_worst_42 : decode cX3_worst 42 = .ok (.aload_n 0, 1) := by decide +kernel
theorem dX3_worst_43 : decode cX3_worst 43 = .ok (.iload_n 3, 1) := by decide +kernel
theorem dX3_worst_44 : decode cX3_worst 44 = .ok (.invokevirtual 89, 3) := by decide +kernel
theorem dX3_worst_47 : decode cX3_worst 47 = .ok (.if_icmp .gt 23, 3) := by decide +kernel
theorem dX3_worst_50 : decode cX3_worst 50 = .ok (.aload_n 0, 1) := by decide +kernel
theorem dX3_worst_51 : decode cX3_worst 51 = .ok (.iload 5, 2) := by decide +kernel
theorem dX3_worst_53 : decode cX3_worst 53 = .ok (.invokevirtual 89, 3) := by decide +kernel
theorem dX3_worst_56 : decode cX3_worst 56 = .ok (.aload_n 0, 1) := by decide +kernel
theorem dX3_worst_57 : decode cX3_worst 57 = .ok (.iload_n 3, 1) := by decide +kernel
theorem dX3_worst_58 : decode cX3_worst 58 = .ok (.invokevirtual 89, 3) := by decide +kernel
theorem dX3_worst_61 : decode cX3_worst 61 = .ok (.if_icmp .ne 13, 3) := by decide +kernel
theorem dX3_worst_64 : decode cX3_worst 64 = .ok (.iload 5, 2) := by decide +kernel
theorem dX3_worst_66 : decode cX3_worst 66 = .ok (.iload_n 3, 1) := by decide +kernel
theorem dX3_worst_67 : decode cX3_worst 67 = .ok (.if_icmp .ge 7, 3) := by decide +kernel
theorem dX3_worst_70 : decode cX3_worst 70 = .ok (.iconst 1, 1) := by decide +kernel
theorem dX3_worst_71 : decode cX3_worst 71 = .ok (.goto 4, 3) := by decide +kernel
theorem dX3_worst_74 : decode cX3_worst 74 = .ok (.iconst 0, 1) := by decide +kernel
theorem dX3_worst_75 : decode cX3_worst 75 = .ok (.iadd, 1) := by decide +kernel
theorem dX3_worst_76 : decode cX3_worst 76 = .ok (.istore 4, 2) := by decide +kernel
theorem dX3_worst_78 : decode cX3_worst 78 = .ok (.iinc 5 1, 3) := by decide +kernel
theorem dX3_worst_81 : decode cX3_worst 81 = .ok (.goto (-54), 3) := by decide +kernel
theorem dX3_worst_84 : decode cX3_worst 84 = .ok (.iload 4, 2) := by decide +kernel
theorem dX3_worst_86 : decode cX3_worst 86 = .ok (.iload_n 1, 1) := by decide +kernel
theorem dX3_worst_87 : decode cX3_worst 87 = .ok (.if_icmp .ne 7, 3) := by decide +kernel
theorem dX3_worst_90 : decode cX3_worst 90 = .ok (.iload_n 3, 1) := by decide +kernel
theorem dX3_worst_91 : decode cX3_worst 91 = .ok (.goto 4, 3) := by decide +kernel
theorem dX3_worst_94 : decode cX3_worst 94 = .ok (.iload_n 2, 1) := by decide +kernel
theorem dX3_worst_95 : decode cX3_worst 95 = .ok (.istore_n 2, 1) := by decide +kernel
theorem dX3_worst_96 : decode cX3_worst 96 = .ok (.iinc 3 1, 3) := by decide +kernel
theorem dX3_worst_99 : decode cX3_worst 99 = .ok (.goto (-84), 3) := by decide +kernel
theorem dX3_worst_102 : decode cX3_worst 102 = .ok (.iload_n 2, 1) := by decide +kernel
theorem dX3_worst_103 : decode cX3_worst 103 = .ok (.ireturn, 1) := by decide +kernel
theorem dX3_mean_0 : decode cX3_mean 0 = .ok (.iconst 0, 1) := by decide +kernel
theorem dX3_mean_1 : decode cX3_mean 1 = .ok (.istore_n 1, 1) := by decide +kernel
theorem dX3_mean_2 : decode cX3_mean 2 = .ok (.iconst 0, 1) := by decide +kernel
theorem dX3_mean_3 : decode cX3_mean 3 = .ok (.istore_n 2, 1) := by decide +kernel
theorem dX3_mean_4 : decode cX3_mean 4 = .ok (.iload_n 2, 1) := by decide +kernel
theorem dX3_mean_5 : decode cX3_mean 5 = .ok (.bipush 48, 2) := by decide +kernel
theorem dX3_mean_7 : decode cX3_mean 7 = .ok (.if_icmp .ge 45, 3) := by decide +kernel
theorem dX3_mean_10 : decode cX3_mean 10 = .ok (.iload_n 1, 1) := by decide +kernel
theorem dX3_mean_11 : decode cX3_mean 11 = .ok (.aload_n 0, 1) := by decide +kernel
theorem dX3_mean_12 : decode cX3_mean 12 = .ok (.iload_n 2, 1) := by decide +kernel
theorem dX3_mean_13 : decode cX3_mean 13 = .ok (.bipush 8, 2) := by decide +kernel
theorem dX3_mean_15 : decode cX3_mean 15 = .ok (.idiv, 1) := by decide +kernel
theorem dX3_mean_16 : decode cX3_mean 16 = .ok (.iload_n 2, 1) := by decide +kernel
theorem dX3_mean_17 : decode cX3_mean 17 = .ok (.bipush 8, 2) := by decide +kernel
theorem dX3_mean_19 : decode cX3_mean 19 = .ok (.irem, 1) := by decide +kernel
theorem dX3_mean_20 : decode cX3_mean 20 = .ok (.iconst 1, 1) := by decide +kernel
theorem dX3_mean_21 : decode cX3_mean 21 = .ok (.invokevirtual 56, 3) := by decide +kernel
theorem dX3_mean_24 : decode cX3_mean 24 = .ok (.aload_n 0, 1) := by decide +kernel
theorem dX3_mean_25 : decode cX3_mean 25 = .ok (.iload_n 2, 1) := by decide +kernel
theorem dX3_mean_26 : decode cX3_mean 26 = .ok (.bipush 8, 2) := by decide +kernel
theorem dX3_mean_28 : decode cX3_mean 28 = .ok (.idiv, 1) := by decide +kernel
theorem dX3_mean_29 : decode cX3_mean 29 = .ok (.iload_n 2, 1) := by decide +kernel
theorem dX3_mean_30 : decode cX3_mean 30 = .ok (.bipush 8, 2) := by decide +kernel
theorem dX3_mean_32 : decode cX3_mean 32 = .ok (.irem, 1) := by decide +kernel
theorem dX3_mean_33 : decode cX3_mean 33 = .ok (.iconst 0, 1) := by decide +kernel
theorem dX3_mean_34 : decode cX3_mean 34 = .ok (.invokevirtual 56, 3) := by decide +kernel
theorem dX3_mean_37 : decode cX3_mean 37 = .ok (.invokestatic 63, 3) := by decide +kernel
theorem dX3_mean_40 : decode cX3_mean 40 = .ok (.isub, 1) := by decide +kernel
theorem dX3_mean_41 : decode cX3_mean 41 = .ok (.invokestatic 99, 3) := by decide +kernel
theorem dX3_mean_44 : decode cX3_mean 44 = .ok (.iadd, 1) := by decide +kernel
theorem dX3_mean_45 : decode cX3_mean 45 = .ok (.istore_n 1, 1) := by decide +kernel
theorem dX3_mean_46 : decode cX3_mean 46 = .ok (.iinc 2 1, 3) := by decide +kernel
theorem dX3_mean_49 : decode cX3_mean 49 = .ok (.goto (-45), 3) := by decide +kernel
theorem dX3_mean_52 : decode cX3_mean 52 = .ok (.iload_n 1, 1) := by decide +kernel
theorem dX3_mean_53 : decode cX3_mean 53 = .ok (.i2f, 1) := by decide +kernel
theorem dX3_mean_54 : decode cX3_mean 54 = .ok (.ldc 167, 2) := by decide +kernel
theorem dX3_mean_56 : decode cX3_mean 56 = .ok (.fdiv, 1) := by decide +kernel
theorem dX3_mean_57 : decode cX3_mean 57 = .ok (.invokestatic 168, 3) := by decide +kernel
theorem dX3_mean_60 : decode cX3_mean 60 = .ok (.ireturn, 1) := by decide +kernel
theorem dX3_share_0 : decode cX3_share 0 = .ok (.aload_n 0, 1) := by decide +kernel
theorem dX3_share_1 : decode cX3_share 1 = .ok (.getfield 7, 3) := by decide +kernel
theorem dX3_share_4 : decode cX3_share 4 = .ok (.bipush 8, 2) := by decide +kernel
theorem dX3_share_6 : decode cX3_share 6 = .ok (.iaload, 1) := by decide +kernel
theorem dX3_share_7 : decode cX3_share 7 = .ok (.aload_n 0, 1) := by decide +kernel
theorem dX3_share_8 : decode cX3_share 8 = .ok (.getfield 7, 3) := by decide +kernel
theorem dX3_share_11 : decode cX3_share 11 = .ok (.bipush 12, 2) := by decide +kernel
theorem dX3_share_13 : decode cX3_share 13 = .ok (.iaload, 1) := by decide +kernel
theorem dX3_share_14 : decode cX3_share 14 = .ok (.iadd, 1) := by decide +kernel
theorem dX3_share_15 : decode cX3_share 15 = .ok (.aload_n 0, 1) := by decide +kernel
theorem dX3_share_16 : decode cX3_share 16 = .ok (.getfield 7, 3) := by decide +kernel
theorem dX3_share_19 : decode cX3_share 19 = .ok (.bipush 16, 2) := by decide +kernel
theorem dX3_share_21 : decode cX3_share 21 = .ok (.iaload, 1) := by decide +kernel
theorem dX3_share_22 : decode cX3_share 22 = .ok (.iadd, 1) := by decide +kernel
theorem dX3_share_23 : decode cX3_share 23 = .ok (.istore_n 1, 1) := by decide +kernel
theorem dX3_share_24 : decode cX3_share 24 = .ok (.aload_n 0, 1) := by decide +kernel
theorem dX3_share_25 : decode cX3_share 25 = .ok (.getfield 7, 3) := by decide +kernel
theorem dX3_share_28 : decode cX3_share 28 = .ok (.bipush 7, 2) := by decide +kernel
theorem dX3_share_30 : decode cX3_share 30 = .ok (.iaload, 1) := by decide +kernel
theorem dX3_share_31 : decode cX3_share 31 = .ok (.ifCond .ne 8, 3) := by decide +kernel
theorem dX3_share_34 : decode cX3_share 34 = .ok (.ldc 163, 2) := by decide +kernel
theorem dX3_share_36 : decode cX3_share 36 = .ok (.goto 17, 3) := by decide +kernel
theorem dX3_share_39 : decode cX3_share 39 = .ok (.iload_n 1, 1) := by decide +kernel
theorem dX3_share_40 : decode cX3_share 40 = .ok (.i2f, 1) := by decide +kernel
theorem dX3_share_41 : decode cX3_share 41 = .ok (.aload_n 0, 1) := by decide +kernel
theorem dX3_share_42 : decode cX3_share 42 = .ok (.getfield 7, 3) := by decide +kernel
theorem dX3_share_45 : decode cX3_share 45 = .ok (.bipush 7, 2) := by decide +kernel
theorem dX3_share_47 : decode cX3_share 47 = .ok (.iaload, 1) := by decide +kernel
theorem dX3_share_48 : decode cX3_share 48 = .ok (.i2f, 1) := by decide +kernel
theorem dX3_share_49 : decode cX3_share 49 = .ok (.fdiv, 1) := by decide +kernel
theorem dX3_share_50 : decode cX3_share 50 = .ok (.invokestatic 168, 3) := by decide +kernel
theorem dX3_share_53 : decode cX3_share 53 = .ok (.ireturn, 1) := by decide +kernel
theorem dX3_wrongAll_0 : decode cX3_wrongAll 0 = .ok (.iconst 0, 1) := by decide +kernel
theorem dX3_wrongAll_1 : decode cX3_wrongAll 1 = .ok (.istore_n 1, 1) := by decide +kernel
theorem dX3_wrongAll_2 : decode cX3_wrongAll 2 = .ok (.iconst 0, 1) := by decide +kernel
theorem dX3_wrongAll_3 : decode cX3_wrongAll 3 = .ok (.istore_n 2, 1) := by decide +kernel
theorem dX3_wrongAll_4 : decode cX3_wrongAll 4 = .ok (.iload_n 2, 1) := by decide +kernel
theorem dX3_wrongAll_5 : decode cX3_wrongAll 5 = .ok (.bipush 6, 2) := by decide +kernel
theorem dX3_wrongAll_7 : decode cX3_wrongAll 7 = .ok (.if_icmp .ge 17, 3) := by decide +kernel
theorem dX3_wrongAll_10 : decode cX3_wrongAll 10 = .ok (.iload_n 1, 1) := by decide +kernel
theorem dX3_wrongAll_11 : decode cX3_wrongAll 11 = .ok (.aload_n 0, 1) := by decide +kernel
theorem dX3_wrongAll_12 : decode cX3_wrongAll 12 = .ok (.iload_n 2, 1) := by decide +kernel
theorem dX3_wrongAll_13 : decode cX3_wrongAll 13 = .ok (.invokevirtual 89, 3) := by decide +kernel
theorem dX3_wrongAll_16 : decode cX3_wrongAll 16 = .ok (.iadd, 1) := by decide +kernel
theorem dX3_wrongAll_17 : decode cX3_wrongAll 17 = .ok (.istore_n 1, 1) := by decide +kernel
theorem dX3_wrongAll_18 : decode cX3_wrongAll 18 = .ok (.iinc 2 1, 3) := by decide +kernel
theorem dX3_wrongAll_21 : decode cX3_wrongAll 21 = .ok (.goto (-17), 3) := by decide +kernel
theorem dX3_wrongAll_24 : decode cX3_wrongAll 24 = .ok (.iload_n 1, 1) := by decide +kernel
theorem dX3_wrongAll_25 : decode cX3_wrongAll 25 = .ok (.ireturn, 1) := by decide +kernel
theorem dX3_isOf_0 : decode cX3_isOf 0 = .ok (.iload_n 2, 1) := by decide +kernel
theorem dX3_isOf_1 : decode cX3_isOf 1 = .ok (.iconst 2, 1) := by decide +kernel
theorem dX3_isOf_2 : decode cX3_isOf 2 = .ok (.if_icmp .ne 19, 3) := by decide +kernel
theorem dX3_isOf_5 : decode cX3_isOf 5 = .ok (.aload_n 0, 1) := by decide +kernel
theorem dX3_isOf_6 : decode cX3_isOf 6 = .ok (.iload_n 1, 1) := by decide +kernel
theorem dX3_isOf_7 : decode cX3_isOf 7 = .ok (.invokevirtual 89, 3) := by decide +kernel
theorem dX3_isOf_10 : decode cX3_isOf 10 = .ok (.ifCond .le 7, 3) := by decide +kernel
theorem dX3_isOf_13 : decode cX3_isOf 13 = .ok (.iconst 1, 1) := by decide +kernel
theorem dX3_isOf_14 : decode cX3_isOf 14 = .ok (.goto 36, 3) := by decide +kernel
theorem dX3_isOf_17 : decode cX3_isOf 17 = .ok (.iconst 0, 1) := by decide +kernel
theorem dX3_isOf_18 : decode cX3_isOf 18 = .ok (.goto 32, 3) := by decide +kernel
theorem dX3_isOf_21 : decode cX3_isOf 21 = .ok (.iload_n 2, 1) := by decide +kernel
theorem dX3_isOf_22 : decode cX3_isOf 22 = .ok (.iconst 3, 1) := by decide +kernel
theorem dX3_isOf_23 : decode cX3_isOf 23 = .ok (.if_icmp .ne 11, 3) := by decide +kernel
theorem dX3_isOf_26 : decode cX3_isOf 26 = .ok (.aload_n 0, 1) := by decide +kernel
theorem dX3_isOf_27 : decode cX3_isOf 27 = .ok (.iload_n 1, 1) := by decide +kernel
theorem dX3_isOf_28 : decode cX3_isOf 28 = .ok (.invokevirtual 71, 3) := by decide +kernel
theorem dX3_isOf_31 : decode cX3_isOf 31 = .ok (.goto 19, 3) := by decide +kernel
theorem dX3_isOf_34 : decode cX3_isOf 34 = .ok (.aload_n 0, 1) := by decide +kernel
theorem dX3_isOf_35 : decode cX3_isOf 35 = .ok (.iload_n 1, 1) := by decide +kernel
theorem dX3_isOf_36 : decode cX3_isOf 36 = .ok (.invokevirtual 154, 3) := by decide +kernel
theorem dX3_isOf_39 : decode cX3_isOf 39 = .ok (.iload_n 2, 1) := by decide +kernel
theorem dX3_isOf_40 : decode cX3_isOf 40 = .ok (.iconst 3, 1) := by decide +kernel
theorem dX3_isOf_41 : decode cX3_isOf 41 = .ok (.isub, 1) := by decide +kernel
theorem dX3_isOf_42 : decode cX3_isOf 42 = .ok (.if_icmp .ne 7, 3) := by decide +kernel
theorem dX3_isOf_45 : decode cX3_isOf 45 = .ok (.iconst 1, 1) := by decide +kernel
theorem dX3_isOf_46 : decode cX3_isOf 46 = .ok (.goto 4, 3) := by decide +kernel
theorem dX3_isOf_49 : decode cX3_isOf 49 = .ok (.iconst 0, 1) := by decide +kernel
theorem dX3_isOf_50 : decode cX3_isOf 50 = .ok (.ireturn, 1) := by decide +kernel
theorem dX3_setOf_0 : decode cX3_setOf 0 = .ok (.iconst 0, 1) := by decide +kernel
theorem dX3_setOf_1 : decode cX3_setOf 1 = .ok (.istore_n 2, 1) := by decide +kernel
theorem dX3_setOf_2 : decode cX3_setOf 2 = .ok (.iconst 0, 1) := by decide +kernel
theorem dX3_setOf_3 : decode cX3_setOf 3 = .ok (.istore_n 3, 1) := by decide +kernel
theorem dX3_setOf_4 : decode cX3_setOf 4 = .ok (.iload_n 3, 1) := by decide +kernel
theorem dX3_setOf_5 : decode cX3_setOf 5 = .ok (.bipush 6, 2) := by decide +kernel
theorem dX3_setOf_7 : decode cX3_setOf 7 = .ok (.if_icmp .ge 28, 3) := by decide +kernel
theorem dX3_setOf_10 : decode cX3_setOf 10 = .ok (.iload_n 2, 1) := by decide +kernel
theorem dX3_setOf_11 : decode cX3_setOf 11 = .ok (.aload_n 0, 1) := by decide +kernel
theorem dX3_setOf_12 : decode cX3_setOf 12 = .ok (.iload_n 3, 1) := by decide +kernel
theorem dX3_setOf_13 : decode cX3_setOf 13 = .ok (.iload_n 1, 1) := by decide +kernel
theorem dX3_setOf_14 : decode cX3_setOf 14 = .ok (.invokevirtual 174, 3) := by decide +kernel
theorem dX3_setOf_17 : decode cX3_setOf 17 = .ok (.ifCond .eq 9, 3) := by decide +kernel
theorem dX3_setOf_20 : decode cX3_setOf 20 = .ok (.iconst 1, 1) := by decide +kernel
theorem dX3_setOf_21 : decode cX3_setOf 21 = .ok (.iload_n 3, 1) := by decide +kernel
theorem dX3_setOf_22 : decode cX3_setOf 22 = .ok (.ishl, 1) := by decide +kernel
theorem dX3_setOf_23 : decode cX3_setOf 23 = .ok (.goto 4, 3) := by decide +kernel
theorem dX3_setOf_26 : decode cX3_setOf 26 = .ok (.iconst 0, 1) := by decide +kernel
theorem dX3_setOf_27 : decode cX3_setOf 27 = .ok (.ior, 1) := by decide +kernel
theorem dX3_setOf_28 : decode cX3_setOf 28 = .ok (.istore_n 2, 1) := by decide +kernel
theorem dX3_setOf_29 : decode cX3_setOf 29 = .ok (.iinc 3 1, 3) := by decide +kernel
theorem dX3_setOf_32 : decode cX3_setOf 32 = .ok (.goto (-28), 3) := by decide +kernel
theorem dX3_setOf_35 : decode cX3_setOf 35 = .ok (.iload_n 2, 1) := by decide +kernel
theorem dX3_setOf_36 : decode cX3_setOf 36 = .ok (.ireturn, 1) := by decide +kernel
theorem dX3_failed_0 : decode cX3_failed 0 = .ok (.iconst 0, 1) := by decide +kernel
theorem dX3_failed_1 : decode cX3_failed 1 = .ok (.istore_n 1, 1) := by decide +kernel
theorem dX3_failed_2 : decode cX3_failed 2 = .ok (.iconst 0, 1) := by decide +kernel
theorem dX3_failed_3 : decode cX3_failed 3 = .ok (.istore_n 2, 1) := by decide +kernel
theorem dX3_failed_4 : decode cX3_failed 4 = .ok (.iload_n 2, 1) := by decide +kernel
theorem dX3_failed_5 : decode cX3_failed 5 = .ok (.bipush 18, 2) := by decide +kernel
theorem dX3_failed_7 : decode cX3_failed 7 = .ok (.if_icmp .ge 25, 3) := by decide +kernel
theorem dX3_failed_10 : decode cX3_failed 10 = .ok (.iload_n 1, 1) := by decide +kernel
theorem dX3_failed_11 : decode cX3_failed 11 = .ok (.aload_n 0, 1) := by decide +kernel
theorem dX3_failed_12 : decode cX3_failed 12 = .ok (.iload_n 2, 1) := by decide +kernel
theorem dX3_failed_13 : decode cX3_failed 13 = .ok (.iconst 3, 1) := by decide +kernel
theorem dX3_failed_14 : decode cX3_failed 14 = .ok (.idiv, 1) := by decide +kernel
theorem dX3_failed_15 : decode cX3_failed 15 = .ok (.bipush 7, 2) := by decide +kernel
theorem dX3_failed_17 : decode cX3_failed 17 = .ok (.iload_n 2, 1) := by decide +kernel
theorem dX3_failed_18 : decode cX3_failed 18 = .ok (.iconst 3, 1) := by decide +kernel
theorem dX3_failed_19 : decode cX3_failed 19 = .ok (.irem, 1) := by decide +kernel
theorem dX3_failed_20 : decode cX3_failed 20 = .ok (.iadd, 1) := by decide +kernel
theorem dX3_failed_21 : decode cX3_failed 21 = .ok (.invokevirtual 52, 3) := by decide +kernel
theorem dX3_failed_24 : decode cX3_failed 24 = .ok (.iadd, 1) := by decide +kernel
theorem dX3_failed_25 : decode cX3_failed 25 = .ok (.istore_n 1, 1) := by decide +kernel
theorem dX3_failed_26 : decode cX3_failed 26 = .ok (.iinc 2 1, 3) := by decide +kernel
theorem dX3_failed_29 : decode cX3_failed 29 = .ok (.goto (-25), 3) := by decide +kernel
theorem dX3_failed_32 : decode cX3_failed 32 = .ok (.iload_n 1, 1) := by decide +kernel
theorem dX3_failed_33 : decode cX3_failed 33 = .ok (.ireturn, 1) := by decide +kernel
theorem dX3_pairs_0 : decode cX3_pairs 0 = .ok (.iconst 0, 1) := by decide +kernel
theorem dX3_pairs_1 : decode cX3_pairs 1 = .ok (.istore_n 1, 1) := by decide +kernel
theorem dX3_pairs_2 : decode cX3_pairs 2 = .ok (.iconst 0, 1) := by decide +kernel
theorem dX3_pairs_3 : decode cX3_pairs 3 = .ok (.istore_n 2, 1) := by decide +kernel
theorem dX3_pairs_4 : decode cX3_pairs 4 = .ok (.iload_n 2, 1) := by decide +kernel
theorem dX3_pairs_5 : decode cX3_pairs 5 = .ok (.bipush 9, 2) := by decide +kernel
theorem dX3_pairs_7 : decode cX3_pairs 7 = .ok (.if_icmp .ge 29, 3) := by decide +kernel
theorem dX3_pairs_10 : decode cX3_pairs 10 = .ok (.iload_n 1, 1) := by decide +kernel
theorem dX3_pairs_11 : decode cX3_pairs 11 = .ok (.aload_n 0, 1) := by decide +kernel
theorem dX3_pairs_12 : decode cX3_pairs 12 = .ok (.getfield 7, 3) := by decide +kernel
theorem dX3_pairs_15 : decode cX3_pairs 15 = .ok (.bipush 8, 2) := by decide +kernel
theorem dX3_pairs_17 : decode cX3_pairs 17 = .ok (.iload_n 2, 1) := by decide +kernel
theorem dX3_pairs_18 : decode cX3_pairs 18 = .ok (.iadd, 1) := by decide +kernel
theorem dX3_pairs_19 : decode cX3_pairs 19 = .ok (.iaload, 1) := by decide +kernel
theorem dX3_pairs_20 : decode cX3_pairs 20 = .ok (.ifCond .le 7, 3) := by decide +kernel
theorem dX3_pairs_23 : decode cX3_pairs 23 = .ok (.iconst 1, 1) := by decide +kernel
theorem dX3_pairs_24 : decode cX3_pairs 24 = .ok (.goto 4, 3) := by decide +kernel
theorem dX3_pairs_27 : decode cX3_pairs 27 = .ok (.iconst 0, 1) := by decide +kernel
theorem dX3_pairs_28 : decode cX3_pairs 28 = .ok (.iadd, 1) := by decide +kernel
theorem dX3_pairs_29 : decode cX3_pairs 29 = .ok (.istore_n 1, 1) := by decide +kernel
theorem dX3_pairs_30 : decode cX3_pairs 30 = .ok (.iinc 2 1, 3) := by decide +kernel
theorem dX3_pairs_33 : decode cX3_pairs 33 = .ok (.goto (-29), 3) := by decide +kernel
theorem dX3_pairs_36 : decode cX3_pairs 36 = .ok (.iload_n 1, 1) := by decide +kernel
theorem dX3_pairs_37 : decode cX3_pairs 37 = .ok (.ireturn, 1) := by decide +kernel
theorem dX3_ofLevel_0 : decode cX3_ofLevel 0 = .ok (.iconst 0, 1) := by decide +kernel
theorem dX3_ofLevel_1 : decode cX3_ofLevel 1 = .ok (.istore_n 2, 1) := by decide +kernel
theorem dX3_ofLevel_2 : decode cX3_ofLevel 2 = .ok (.iconst 0, 1) := by decide +kernel
theorem dX3_ofLevel_3 : decode cX3_ofLevel 3 = .ok (.istore_n 3, 1) := by decide +kernel
theorem dX3_ofLevel_4 : decode cX3_ofLevel 4 = .ok (.iload_n 3, 1) := by decide +kernel
theorem dX3_ofLevel_5 : decode cX3_ofLevel 5 = .ok (.bipush 48, 2) := by decide +kernel
theorem dX3_ofLevel_7 : decode cX3_ofLevel 7 = .ok (.if_icmp .ge 34, 3) := by decide +kernel
theorem dX3_ofLevel_10 : decode cX3_ofLevel 10 = .ok (.iload_n 2, 1) := by decide +kernel
theorem dX3_ofLevel_11 : decode cX3_ofLevel 11 = .ok (.aload_n 0, 1) := by decide +kernel
theorem dX3_ofLevel_12 : decode cX3_ofLevel 12 = .ok (.iload_n 3, 1) := by decide +kernel
theorem dX3_ofLevel_13 : decode cX3_ofLevel 13 = .ok (.bipush 8, 2) := by decide +kernel
theorem dX3_ofLevel_15 : decode cX3_ofLevel 15 = .ok (.idiv, 1) := by decide +kernel
theorem dX3_ofLevel_16 : decode cX3_ofLevel 16 = .ok (.iload_n 3, 1) := by decide +kernel
theorem dX3_ofLevel_17 : decode cX3_ofLevel 17 = .ok (.bipush 8, 2) := by decide +kernel
theorem dX3_ofLevel_19 : decode cX3_ofLevel 19 = .ok (.irem, 1) := by decide +kernel
theorem dX3_ofLevel_20 : decode cX3_ofLevel 20 = .ok (.iconst 0, 1) := by decide +kernel
theorem dX3_ofLevel_21 : decode cX3_ofLevel 21 = .ok (.invokevirtual 56, 3) := by decide +kernel
theorem dX3_ofLevel_24 : decode cX3_ofLevel 24 = .ok (.iload_n 1, 1) := by decide +kernel
theorem dX3_ofLevel_25 : decode cX3_ofLevel 25 = .ok (.if_icmp .ne 7, 3) := by decide +kernel
theorem dX3_ofLevel_28 : decode cX3_ofLevel 28 = .ok (.iconst 1, 1) := by decide +kernel
theorem dX3_ofLevel_29 : decode cX3_ofLevel 29 = .ok (.goto 4, 3) := by decide +kernel
theorem dX3_ofLevel_32 : decode cX3_ofLevel 32 = .ok (.iconst 0, 1) := by decide +kernel
theorem dX3_ofLevel_33 : decode cX3_ofLevel 33 = .ok (.iadd, 1) := by decide +kernel
theorem dX3_ofLevel_34 : decode cX3_ofLevel 34 = .ok (.istore_n 2, 1) := by decide +kernel
theorem dX3_ofLevel_35 : decode cX3_ofLevel 35 = .ok (.iinc 3 1, 3) := by decide +kernel
theorem dX3_ofLevel_38 : decode cX3_ofLevel 38 = .ok (.goto (-34), 3) := by decide +kernel
theorem dX3_ofLevel_41 : decode cX3_ofLevel 41 = .ok (.iload_n 2, 1) := by decide +kernel
theorem dX3_ofLevel_42 : decode cX3_ofLevel 42 = .ok (.ireturn, 1) := by decide +kernel
theorem dX3_count_0 : decode cX3_count 0 = .ok (.iload_n 1, 1) := by decide +kernel
theorem dX3_count_1 : decode cX3_count 1 = .ok (.bipush 7, 2) := by decide +kernel
theorem dX3_count_3 : decode cX3_count 3 = .ok (.bipush 10, 2) := by decide +kernel
theorem dX3_count_5 : decode cX3_count 5 = .ok (.invokestatic 48, 3) := by decide +kernel
theorem dX3_count_8 : decode cX3_count 8 = .ok (.ifCond .eq 15, 3) := by decide +kernel
theorem dX3_count_11 : decode cX3_count 11 = .ok (.aload_n 0, 1) := by decide +kernel
theorem dX3_count_12 : decode cX3_count 12 = .ok (.getfield 7, 3) := by decide +kernel
theorem dX3_count_15 : decode cX3_count 15 = .ok (.iconst 4, 1) := by decide +kernel
theorem dX3_count_16 : decode cX3_count 16 = .ok (.iload_n 1, 1) := by decide +kernel
theorem dX3_count_17 : decode cX3_count 17 = .ok (.iadd, 1) := by decide +kernel
theorem dX3_count_18 : decode cX3_count 18 = .ok (.bipush 7, 2) := by decide +kernel
theorem dX3_count_20 : decode cX3_count 20 = .ok (.isub, 1) := by decide +kernel
theorem dX3_count_21 : decode cX3_count 21 = .ok (.iaload, 1) := by decide +kernel
theorem dX3_count_22 : decode cX3_count 22 = .ok (.ireturn, 1) := by decide +kernel
theorem dX3_count_23 : decode cX3_count 23 = .ok (.iload_n 1, 1) := by decide +kernel
theorem dX3_count_24 : decode cX3_count 24 = .ok (.tableswitch 167 0 22 #[108, 115, 120, 120, 120, 120, 126, 167, 167, 167, 167, 131, 136, 136, 136, 145, 150, 167, 167, 167, 155, 155, 155], 108) := by decide +kernel
theorem dX3_count_132 : decode cX3_count 132 = .ok (.aload_n 0, 1) := by decide +kernel
theorem dX3_count_133 : decode cX3_count 133 = .ok (.getfield 7, 3) := by decide +kernel
theorem dX3_count_136 : decode cX3_count 136 = .ok (.iconst 0, 1) := by decide +kernel
theorem dX3_count_137 : decode cX3_count 137 = .ok (.iaload, 1) := by decide +kernel
theorem dX3_count_138 : decode cX3_count 138 = .ok (.ireturn, 1) := by decide +kernel
theorem dX3_count_139 : decode cX3_count 139 = .ok (.aload_n 0, 1) := by decide +kernel
theorem dX3_count_140 : decode cX3_count 140 = .ok (.invokevirtual 178, 3) := by decide +kernel
theorem dX3_count_143 : decode cX3_count 143 = .ok (.ireturn, 1) := by decide +kernel
theorem dX3_count_144 : decode cX3_count 144 = .ok (.aload_n 0, 1) := by decide +kernel
theorem dX3_count_145 : decode cX3_count 145 = .ok (.iload_n 1, 1) := by decide +kernel
theorem dX3_count_146 : decode cX3_count 146 = .ok (.invokevirtual 181, 3) := by decide +kernel
theorem dX3_count_149 : decode cX3_count 149 = .ok (.ireturn, 1) := by decide +kernel
theorem dX3_count_150 : decode cX3_count 150 = .ok (.aload_n 0, 1) := by decide +kernel
theorem dX3_count_151 : decode cX3_count 151 = .ok (.invokevirtual 184, 3) := by decide +kernel
theorem dX3_count_154 : decode cX3_count 154 = .ok (.ireturn, 1) := by decide +kernel
theorem dX3_count_155 : decode cX3_count 155 = .ok (.aload_n 0, 1) := by decide +kernel
theorem dX3_count_156 : decode cX3_count 156 = .ok (.invokevirtual 187, 3) := by decide +kernel
theorem dX3_count_159 : decode cX3_count 159 = .ok (.ireturn, 1) := by decide +kernel
theorem dX3_count_160 : decode cX3_count 160 = .ok (.aload_n 0, 1) := by decide +kernel
theorem dX3_count_161 : decode cX3_count 161 = .ok (.iload_n 1, 1) := by decide +kernel
theorem dX3_count_162 : decode cX3_count 162 = .ok (.bipush 12, 2) := by decide +kernel
theorem dX3_count_164 : decode cX3_count 164 = .ok (.isub, 1) := by decide +kernel
theorem dX3_count_165 : decode cX3_count 165 = .ok (.invokevirtual 190, 3) := by decide +kernel
theorem dX3_count_168 : decode cX3_count 168 = .ok (.ireturn, 1) := by decide +kernel
theorem dX3_count_169 : decode cX3_count 169 = .ok (.aload_n 0, 1) := by decide +kernel
theorem dX3_count_170 : decode cX3_count 170 = .ok (.getfield 40, 3) := by decide +kernel
theorem dX3_count_173 : decode cX3_count 173 = .ok (.ireturn, 1) := by decide +kernel
theorem dX3_count_174 : decode cX3_count 174 = .ok (.aload_n 0, 1) := by decide +kernel
theorem dX3_count_175 : decode cX3_count 175 = .ok (.getfield 193, 3) := by decide +kernel
theorem dX3_count_178 : decode cX3_count 178 = .ok (.ireturn, 1) := by decide +kernel
theorem dX3_count_179 : decode cX3_count 179 = .ok (.aload_n 0, 1) := by decide +kernel
theorem dX3_count_180 : decode cX3_count 180 = .ok (.getfield 7, 3) := by decide +kernel
theorem dX3_count_183 : decode cX3_count 183 = .ok (.iconst 1, 1) := by decide +kernel
theorem dX3_count_184 : decode cX3_count 184 = .ok (.iload_n 1, 1) := by decide +kernel
theorem dX3_count_185 : decode cX3_count 185 = .ok (.iadd, 1) := by decide +kernel
theorem dX3_count_186 : decode cX3_count 186 = .ok (.bipush 20, 2) := by decide +kernel
theorem dX3_count_188 : decode cX3_count 188 = .ok (.isub, 1) := by decide +kernel
theorem dX3_count_189 : decode cX3_count 189 = .ok (.iaload, 1) := by decide +kernel
theorem dX3_count_190 : decode cX3_count 190 = .ok (.ireturn, 1) := by decide +kernel
theorem dX3_count_191 : decode cX3_count 191 = .ok (.ldc 124, 2) := by decide +kernel
theorem dX3_count_193 : decode cX3_count 193 = .ok (.ireturn, 1) := by decide +kernel
theorem dX3_type_0 : decode cX3_type 0 = .ok (.iload_n 1, 1) := by decide +kernel
theorem dX3_type_1 : decode cX3_type 1 = .ok (.bipush 32, 2) := by decide +kernel
theorem dX3_type_3 : decode cX3_type 3 = .ok (.bipush 126, 2) := by decide +kernel
theorem dX3_type_5 : decode cX3_type 5 = .ok (.invokestatic 48, 3) := by decide +kernel
theorem dX3_type_8 : decode cX3_type 8 = .ok (.ifCond .ne 6, 3) := by decide +kernel
theorem dX3_type_11 : decode cX3_type 11 = .ok (.ldc 124, 2) := by decide +kernel
theorem dX3_type_13 : decode cX3_type 13 = .ok (.ireturn, 1) := by decide +kernel
theorem dX3_type_14 : decode cX3_type 14 = .ok (.aload_n 0, 1) := by decide +kernel
theorem dX3_type_15 : decode cX3_type 15 = .ok (.getfield 193, 3) := by decide +kernel
theorem dX3_type_18 : decode cX3_type 18 = .ok (.bipush 60, 2) := by decide +kernel
theorem dX3_type_20 : decode cX3_type 20 = .ok (.if_icmp .ne 6, 3) := by decide +kernel
theorem dX3_type_23 : decode cX3_type 23 = .ok (.ldc 126, 2) := by decide +kernel
theorem dX3_type_25 : decode cX3_type 25 = .ok (.ireturn, 1) := by decide +kernel
theorem dX3_type_26 : decode cX3_type 26 = .ok (.aload_n 0, 1) := by decide +kernel
theorem dX3_type_27 : decode cX3_type 27 = .ok (.getfield 22, 3) := by decide +kernel
theorem dX3_type_30 : decode cX3_type 30 = .ok (.aload_n 0, 1) := by decide +kernel
theorem dX3_type_31 : decode cX3_type 31 = .ok (.getfield 193, 3) := by decide +kernel
theorem dX3_type_34 : decode cX3_type 34 = .ok (.iload_n 1, 1) := by decide +kernel
theorem dX3_type_35 : decode cX3_type 35 = .ok (.iastore, 1) := by decide +kernel
theorem dX3_type_36 : decode cX3_type 36 = .ok (.aload_n 0, 1) := by decide +kernel
theorem dX3_type_37 : decode cX3_type 37 = .ok (.dup, 1) := by decide +kernel
theorem dX3_type_38 : decode cX3_type 38 = .ok (.getfield 193, 3) := by decide +kernel
theorem dX3_type_41 : decode cX3_type 41 = .ok (.iconst 1, 1) := by decide +kernel
theorem dX3_type_42 : decode cX3_type 42 = .ok (.iadd, 1) := by decide +kernel
theorem dX3_type_43 : decode cX3_type 43 = .ok (.putfield 193, 3) := by decide +kernel
theorem dX3_type_46 : decode cX3_type 46 = .ok (.aload_n 0, 1) := by decide +kernel
theorem dX3_type_47 : decode cX3_type 47 = .ok (.getfield 193, 3) := by decide +kernel
theorem dX3_type_50 : decode cX3_type 50 = .ok (.ireturn, 1) := by decide +kernel
theorem dX3_clearText_0 : decode cX3_clearText 0 = .ok (.aload_n 0, 1) := by decide +kernel
theorem dX3_clearText_1 : decode cX3_clearText 1 = .ok (.getfield 193, 3) := by decide +kernel
theorem dX3_clearText_4 : decode cX3_clearText 4 = .ok (.istore_n 1, 1) := by decide +kernel
theorem dX3_clearText_5 : decode cX3_clearText 5 = .ok (.aload_n 0, 1) := by decide +kernel
theorem dX3_clearText_6 : decode cX3_clearText 6 = .ok (.iconst 0, 1) := by decide +kernel
theorem dX3_clearText_7 : decode cX3_clearText 7 = .ok (.putfield 193, 3) := by decide +kernel
theorem dX3_clearText_10 : decode cX3_clearText 10 = .ok (.iload_n 1, 1) := by decide +kernel
theorem dX3_clearText_11 : decode cX3_clearText 11 = .ok (.ireturn, 1) := by decide +kernel
theorem dX3_here_0 : decode cX3_here 0 = .ok (.aload_n 0, 1) := by decide +kernel
theorem dX3_here_1 : decode cX3_here 1 = .ok (.getfield 196, 3) := by decide +kernel
theorem dX3_here_4 : decode cX3_here 4 = .ok (.aload_n 0, 1) := by decide +kernel
theorem dX3_here_5 : decode cX3_here 5 = .ok (.getfield 193, 3) := by decide +kernel
theorem dX3_here_8 : decode cX3_here 8 = .ok (.if_icmp .ge 15, 3) := by decide +kernel
theorem dX3_here_11 : decode cX3_here 11 = .ok (.aload_n 0, 1) := by decide +kernel
theorem dX3_here_12 : decode cX3_here 12 = .ok (.getfield 22, 3) := by decide +kernel
theorem dX3_here_15 : decode cX3_here 15 = .ok (.aload_n 0, 1) := by decide +kernel
theorem dX3_here_16 : decode cX3_here 16 = .ok (.getfield 196, 3) := by decide +kernel
theorem dX3_here_19 : decode cX3_here 19 = .ok (.iaload, 1) := by decide +kernel
theorem dX3_here_20 : decode cX3_here 20 = .ok (.goto 4, 3) := by decide +kernel
theorem dX3_here_23 : decode cX3_here 23 = .ok (.iconst 0, 1) := by decide +kernel
theorem dX3_here_24 : decode cX3_here 24 = .ok (.ireturn, 1) := by decide +kernel
theorem dX3_takes_0 : decode cX3_takes 0 = .ok (.aload_n 0, 1) := by decide +kernel
theorem dX3_takes_1 : decode cX3_takes 1 = .ok (.aload_n 0, 1) := by decide +kernel
theorem dX3_takes_2 : decode cX3_takes 2 = .ok (.getfield 199, 3) := by decide +kernel
theorem dX3_takes_5 : decode cX3_takes 5 = .ok (.ifCond .eq 11, 3) := by decide +kernel
theorem dX3_takes_8 : decode cX3_takes 8 = .ok (.iload_n 1, 1) := by decide +kernel
theorem dX3_takes_9 : decode cX3_takes 9 = .ok (.ifCond .eq 7, 3) := by decide +kernel
theorem dX3_takes_12 : decode cX3_takes 12 = .ok (.iconst 1, 1) := by decide +kernel
theorem dX3_takes_13 : decode cX3_takes 13 = .ok (.goto 4, 3) := by decide +kernel
theorem dX3_takes_16 : decode cX3_takes 16 = .ok (.iconst 0, 1) := by decide +kernel
theorem dX3_takes_17 : decode cX3_takes 17 = .ok (.putfield 199, 3) := by decide +kernel
theorem dX3_takes_20 : decode cX3_takes 20 = .ok (.aload_n 0, 1) := by decide +kernel
theorem dX3_takes_21 : decode cX3_takes 21 = .ok (.dup, 1) := by decide +kernel
theorem dX3_takes_22 : decode cX3_takes 22 = .ok (.getfield 196, 3) := by decide +kernel
theorem dX3_takes_25 : decode cX3_takes 25 = .ok (.aload_n 0, 1) := by decide +kernel
theorem dX3_takes_26 : decode cX3_takes 26 = .ok (.getfield 199, 3) := by decide +kernel
theorem dX3_takes_29 : decode cX3_takes 29 = .ok (.ifCond .eq 7, 3) := by decide +kernel
theorem dX3_takes_32 : decode cX3_takes 32 = .ok (.iconst 1, 1) := by decide +kernel
theorem dX3_takes_33 : decode cX3_takes 33 = .ok (.goto 4, 3) := by decide +kernel
theorem dX3_takes_36 : decode cX3_takes 36 = .ok (.iconst 0, 1) := by decide +kernel
theorem dX3_takes_37 : decode cX3_takes 37 = .ok (.iadd, 1) := by decide +kernel
theorem dX3_takes_38 : decode cX3_takes 38 = .ok (.putfield 196, 3) := by decide +kernel
theorem dX3_takes_41 : decode cX3_takes 41 = .ok (.return_, 1) := by decide +kernel
theorem dX3_takesNumber_0 : decode cX3_takesNumber 0 = .ok (.iconst 0, 1) := by decide +kernel
theorem dX3_takesNumber_1 : decode cX3_takesNumber 1 = .ok (.istore_n 2, 1) := by decide +kernel
theorem dX3_takesNumber_2 : decode cX3_takesNumber 2 = .ok (.iconst 0, 1) := by decide +kernel
theorem dX3_takesNumber_3 : decode cX3_takesNumber 3 = .ok (.istore_n 3, 1) := by decide +kernel
theorem dX3_takesNumber_4 : decode cX3_takesNumber 4 = .ok (.aload_n 0, 1) := by decide +kernel
theorem dX3_takesNumber_5 : decode cX3_takesNumber 5 = .ok (.getfield 199, 3) := by decide +kernel
theorem dX3_takesNumber_8 : decode cX3_takesNumber 8 = .ok (.ifCond .eq 51, 3) := by decide +kernel
theorem dX3_takesNumber_11 : decode cX3_takesNumber 11 = .ok (.iload_n 3, 1) := by decide +kernel
theorem dX3_takesNumber_12 : decode cX3_takesNumber 12 = .ok (.iconst 3, 1) := by decide +kernel
theorem dX3_takesNumber_13 : decode cX3_takesNumber 13 = .ok (.if_icmp .ge 46, 3) := by decide +kernel
theorem dX3_takesNumber_16 : decode cX3_takesNumber 16 = .ok (.aload_n 0, 1) := by decide +kernel
theorem dX3_takesNumber_17 : decode cX3_takesNumber 17 = .ok (.invokevirtual 203, 3) := by decide +kernel
theorem dX3_takesNumber_20 : decode cX3_takesNumber 20 = .ok (.bipush 48, 2) := by decide +kernel
theorem dX3_takesNumber_22 : decode cX3_takesNumber 22 = .ok (.bipush 57, 2) := by decide +kernel
theorem dX3_takesNumber_24 : decode cX3_takesNumber 24 = .ok (.invokestatic 48, 3) := by decide +kernel
theorem dX3_takesNumber_27 : decode cX3_takesNumber 27 = .ok (.ifCond .eq 32, 3) := by decide +kernel
theorem dX3_takesNumber_30 : decode cX3_takesNumber 30 = .ok (.bipush 10, 2) := by decide +kernel
theorem dX3_takesNumber_32 : decode cX3_takesNumber 32 = .ok (.iload_n 2, 1) := by decide +kernel
theorem dX3_takesNumber_33 : decode cX3_takesNumber 33 = .ok (.imul, 1) := by decide +kernel
theorem dX3_takesNumber_34 : decode cX3_takesNumber 34 = .ok (.aload_n 0, 1) := by decide +kernel
theorem dX3_takesNumber_35 : decode cX3_takesNumber 35 = .ok (.invokevirtual 203, 3) := by decide +kernel
theorem dX3_takesNumber_38 : decode cX3_takesNumber 38 = .ok (.iadd, 1) := by decide +kernel
theorem dX3_takesNumber_39 : decode cX3_takesNumber 39 = .ok (.bipush 48, 2) := by decide +kernel
theorem dX3_takesNumber_41 : decode cX3_takesNumber 41 = .ok (.isub, 1) := by decide +kernel
theorem dX3_takesNumber_42 : decode cX3_takesNumber 42 = .ok (.istore_n 2, 1) := by decide +kernel
theorem dX3_takesNumber_43 : decode cX3_takesNumber 43 = .ok (.iinc 3 1, 3) := by decide +kernel
theorem dX3_takesNumber_46 : decode cX3_takesNumber 46 = .ok (.aload_n 0, 1) := by decide +kernel
theorem dX3_takesNumber_47 : decode cX3_takesNumber 47 = .ok (.dup, 1) := by decide +kernel
theorem dX3_takesNumber_48 : decode cX3_takesNumber 48 = .ok (.getfield 196, 3) := by decide +kernel
theorem dX3_takesNumber_51 : decode cX3_takesNumber 51 = .ok (.iconst 1, 1) := by decide +kernel
theorem dX3_takesNumber_52 : decode cX3_takesNumber 52 = .ok (.iadd, 1) := by decide +kernel
theorem dX3_takesNumber_53 : decode cX3_takesNumber 53 = .ok (.putfield 196, 3) := by decide +kernel
theorem dX3_takesNumber_56 : decode cX3_takesNumber 56 = .ok (.goto (-52), 3) := by decide +kernel
theorem dX3_takesNumber_59 : decode cX3_takesNumber 59 = .ok (.aload_n 0, 1) := by decide +kernel
theorem dX3_takesNumber_60 : decode cX3_takesNumber 60 = .ok (.aload_n 0, 1) := by decide +kernel
theorem dX3_takesNumber_61 : decode cX3_takesNumber 61 = .ok (.getfield 199, 3) := by decide +kernel
theorem dX3_takesNumber_64 : decode cX3_takesNumber 64 = .ok (.ifCond .eq 11, 3) := by decide +kernel
theorem dX3_takesNumber_67 : decode cX3_takesNumber 67 = .ok (.iload_n 3, 1) := by decide +kernel
theorem dX3_takesNumber_68 : decode cX3_takesNumber 68 = .ok (.ifCond .le 7, 3) := by decide +kernel
theorem dX3_takesNumber_71 : decode cX3_takesNumber 71 = .ok (.iconst 1, 1) := by decide +kernel
theorem dX3_takesNumber_72 : decode cX3_takesNumber 72 = .ok (.goto 4, 3) := by decide +kernel
theorem dX3_takesNumber_75 : decode cX3_takesNumber 75 = .ok (.iconst 0, 1) := by decide +kernel
theorem dX3_takesNumber_76 : decode cX3_takesNumber 76 = .ok (.putfield 199, 3) := by decide +kernel
theorem dX3_takesNumber_79 : decode cX3_takesNumber 79 = .ok (.aload_n 0, 1) := by decide +kernel
theorem dX3_takesNumber_80 : decode cX3_takesNumber 80 = .ok (.getfield 25, 3) := by decide +kernel
theorem dX3_takesNumber_83 : decode cX3_takesNumber 83 = .ok (.iload_n 1, 1) := by decide +kernel
theorem dX3_takesNumber_84 : decode cX3_takesNumber 84 = .ok (.iload_n 2, 1) := by decide +kernel
theorem dX3_takesNumber_85 : decode cX3_takesNumber 85 = .ok (.iastore, 1) := by decide +kernel
theorem dX3_takesNumber_86 : decode cX3_takesNumber 86 = .ok (.return_, 1) := by decide +kernel
theorem dX3_takesOrder_0 : decode cX3_takesOrder 0 = .ok (.aload_n 0, 1) := by decide +kernel
theorem dX3_takesOrder_1 : decode cX3_takesOrder 1 = .ok (.aload_n 0, 1) := by decide +kernel
theorem dX3_takesOrder_2 : decode cX3_takesOrder 2 = .ok (.getfield 196, 3) := by decide +kernel
theorem dX3_takesOrder_5 : decode cX3_takesOrder 5 = .ok (.putfield 206, 3) := by decide +kernel
theorem dX3_takesOrder_8 : decode cX3_takesOrder 8 = .ok (.aload_n 0, 1) := by decide +kernel
theorem dX3_takesOrder_9 : decode cX3_takesOrder 9 = .ok (.iconst 1, 1) := by decide +kernel
theorem dX3_takesOrder_10 : decode cX3_takesOrder 10 = .ok (.putfield 199, 3) := by decide +kernel
theorem dX3_takesOrder_13 : decode cX3_takesOrder 13 = .ok (.aload_n 0, 1) := by decide +kernel
theorem dX3_takesOrder_14 : decode cX3_takesOrder 14 = .ok (.aload_n 0, 1) := by decide +kernel
theorem dX3_takesOrder_15 : decode cX3_takesOrder 15 = .ok (.invokevirtual 203, 3) := by decide +kernel
theorem dX3_takesOrder_18 : decode cX3_takesOrder 18 = .ok (.putfield 209, 3) := by decide +kernel
theorem dX3_takesOrder_21 : decode cX3_takesOrder 21 = .ok (.aload_n 0, 1) := by decide +kernel
theorem dX3_takesOrder_22 : decode cX3_takesOrder 22 = .ok (.aload_n 0, 1) := by decide +kernel
theorem dX3_takesOrder_23 : decode cX3_takesOrder 23 = .ok (.getfield 209, 3) := by decide +kernel
theorem dX3_takesOrder_26 : decode cX3_takesOrder 26 = .ok (.bipush 119, 2) := by decide +kernel
theorem dX3_takesOrder_28 : decode cX3_takesOrder 28 = .ok (.if_icmp .eq 48, 3) := by decide +kernel
theorem dX3_takesOrder_31 : decode cX3_takesOrder 31 = .ok (.aload_n 0, 1) := by decide +kernel
theorem dX3_takesOrder_32 : decode cX3_takesOrder 32 = .ok (.getfield 209, 3) := by decide +kernel
theorem dX3_takesOrder_35 : decode cX3_takesOrder 35 = .ok (.bipush 97, 2) := by decide +kernel
theorem dX3_takesOrder_37 : decode cX3_takesOrder 37 = .ok (.if_icmp .eq 39, 3) := by decide +kernel
theorem dX3_takesOrder_40 : decode cX3_takesOrder 40 = .ok (.aload_n 0, 1) := by decide +kernel
theorem dX3_takesOrder_41 : decode cX3_takesOrder 41 = .ok (.getfield 209, 3) := by decide +kernel
theorem dX3_takesOrder_44 : decode cX3_takesOrder 44 = .ok (.bipush 102, 2) := by decide +kernel
theorem dX3_takesOrder_46 : decode cX3_takesOrder 46 = .ok (.if_icmp .eq 30, 3) := by decide +kernel
theorem dX3_takesOrder_49 : decode cX3_takesOrder 49 = .ok (.aload_n 0, 1) := by decide +kernel
theorem dX3_takesOrder_50 : decode cX3_takesOrder 50 = .ok (.getfield 209, 3) := by decide +kernel
theorem dX3_takesOrder_53 : decode cX3_takesOrder 53 = .ok (.bipush 109, 2) := by decide +kernel
theorem dX3_takesOrder_55 : decode cX3_takesOrder 55 = .ok (.if_icmp .eq 21, 3) := by decide +kernel
theorem dX3_takesOrder_58 : decode cX3_takesOrder 58 = .ok (.aload_n 0, 1) := by decide +kernel
theorem dX3_takesOrder_59 : decode cX3_takesOrder 59 = .ok (.getfield 209, 3) := by decide +kernel
theorem dX3_takesOrder_62 : decode cX3_takesOrder 62 = .ok (.bipush 114, 2) := by decide +kernel
theorem dX3_takesOrder_64 : decode cX3_takesOrder 64 = .ok (.if_icmp .eq 12, 3) := by decide +kernel
theorem dX3_takesOrder_67 : decode cX3_takesOrder 67 = .ok (.aload_n 0, 1) := by decide +kernel
theorem dX3_takesOrder_68 : decode cX3_takesOrder 68 = .ok (.getfield 209, 3) := by decide +kernel
theorem dX3_takesOrder_71 : decode cX3_takesOrder 71 = .ok (.bipush 100, 2) := by decide +kernel
theorem dX3_takesOrder_73 : decode cX3_takesOrder 73 = .ok (.if_icmp .ne 7, 3) := by decide +kernel
theorem dX3_takesOrder_76 : decode cX3_takesOrder 76 = .ok (.iconst 1, 1) := by decide +kernel
theorem dX3_takesOrder_77 : decode cX3_takesOrder 77 = .ok (.goto 4, 3) := by decide +kernel
theorem dX3_takesOrder_80 : decode cX3_takesOrder 80 = .ok (.iconst 0, 1) := by decide +kernel
theorem dX3_takesOrder_81 : decode cX3_takesOrder 81 = .ok (.invokevirtual 212, 3) := by decide +kernel
theorem dX3_takesOrder_84 : decode cX3_takesOrder 84 = .ok (.aload_n 0, 1) := by decide +kernel
theorem dX3_takesOrder_85 : decode cX3_takesOrder 85 = .ok (.getfield 209, 3) := by decide +kernel
theorem dX3_takesOrder_88 : decode cX3_takesOrder 88 = .ok (.bipush 119, 2) := by decide +kernel
theorem dX3_takesOrder_90 : decode cX3_takesOrder 90 = .ok (.if_icmp .eq 12, 3) := by decide +kernel
theorem dX3_takesOrder_93 : decode cX3_takesOrder 93 = .ok (.aload_n 0, 1) := by decide +kernel
theorem dX3_takesOrder_94 : decode cX3_takesOrder 94 = .ok (.getfield 209, 3) := by decide +kernel
theorem dX3_takesOrder_97 : decode cX3_takesOrder 97 = .ok (.bipush 102, 2) := by decide +kernel
theorem dX3_takesOrder_99 : decode cX3_takesOrder 99 = .ok (.if_icmp .ne 7, 3) := by decide +kernel
theorem dX3_takesOrder_102 : decode cX3_takesOrder 102 = .ok (.iconst 3, 1) := by decide +kernel
theorem dX3_takesOrder_103 : decode cX3_takesOrder 103 = .ok (.goto 26, 3) := by decide +kernel
theorem dX3_takesOrder_106 : decode cX3_takesOrder 106 = .ok (.aload_n 0, 1) := by decide +kernel
theorem dX3_takesOrder_107 : decode cX3_takesOrder 107 = .ok (.getfield 209, 3) := by decide +kernel
theorem dX3_takesOrder_110 : decode cX3_takesOrder 110 = .ok (.bipush 109, 2) := by decide +kernel
theorem dX3_takesOrder_112 : decode cX3_takesOrder 112 = .ok (.if_icmp .eq 12, 3) := by decide +kernel
theorem dX3_takesOrder_115 : decode cX3_takesOrder 115 = .ok (.aload_n 0, 1) := by decide +kernel
theorem dX3_takesOrder_116 : decode cX3_takesOrder 116 = .ok (.getfield 209, 3) := by decide +kernel
theorem dX3_takesOrder_119 : decode cX3_takesOrder 119 = .ok (.bipush 114, 2) := by decide +kernel
theorem dX3_takesOrder_121 : decode cX3_takesOrder 121 = .ok (.if_icmp .ne 7, 3) := by decide +kernel
theorem dX3_takesOrder_124 : decode cX3_takesOrder 124 = .ok (.iconst 2, 1) := by decide +kernel
theorem dX3_takesOrder_125 : decode cX3_takesOrder 125 = .ok (.goto 4, 3) := by decide +kernel
theorem dX3_takesOrder_128 : decode cX3_takesOrder 128 = .ok (.iconst 1, 1) := by decide +kernel
theorem dX3_takesOrder_129 : decode cX3_takesOrder 129 = .ok (.istore_n 1, 1) := by decide +kernel
theorem dX3_takesOrder_130 : decode cX3_takesOrder 130 = .ok (.iconst 0, 1) := by decide +kernel
theorem dX3_takesOrder_131 : decode cX3_takesOrder 131 = .ok (.istore_n 2, 1) := by decide +kernel
theorem dX3_takesOrder_132 : decode cX3_takesOrder 132 = .ok (.iload_n 2, 1) := by decide +kernel
theorem dX3_takesOrder_133 : decode cX3_takesOrder 133 = .ok (.iload_n 1, 1) := by decide +kernel
theorem dX3_takesOrder_134 : decode cX3_takesOrder 134 = .ok (.if_icmp .ge 36, 3) := by decide +kernel
theorem dX3_takesOrder_137 : decode cX3_takesOrder 137 = .ok (.iload_n 2, 1) := by decide +kernel
theorem dX3_takesOrder_138 : decode cX3_takesOrder 138 = .ok (.ifCond .le 21, 3) := by decide +kernel
theorem dX3_takesOrder_141 : decode cX3_takesOrder 141 = .ok (.aload_n 0, 1) := by decide +kernel
theorem dX3_takesOrder_142 : decode cX3_takesOrder 142 = .ok (.aload_n 0, 1) := by decide +kernel
theorem dX3_takesOrder_143 : decode cX3_takesOrder 143 = .ok (.invokevirtual 203, 3) := by decide +kernel
theorem dX3_takesOrder_146 : decode cX3_takesOrder 146 = .ok (.bipush 44, 2) := by decide +kernel
theorem dX3_takesOrder_148 : decode cX3_takesOrder 148 = .ok (.if_icmp .ne 7, 3) := by decide +kernel
theorem dX3_takesOrder_151 : decode cX3_takesOrder 151 = .ok (.iconst 1, 1) := by decide +kernel
theorem dX3_takesOrder_152 : decode cX3_takesOrder 152 = .ok (.goto 4, 3) := by decide +kernel
theorem dX3_takesOrder_155 : decode cX3_takesOrder 155 = .ok (.iconst 0, 1) := by decide +kernel
theorem dX3_takesOrder_156 : decode cX3_takesOrder 156 = .ok (.invokevirtual 212, 3) := by decide +kernel
theorem dX3_takesOrder_159 : decode cX3_takesOrder 159 = .ok (.aload_n 0, 1) := by decide +kernel
theorem dX3_takesOrder_160 : decode cX3_takesOrder 160 = .ok (.iload_n 2, 1) := by decide +kernel
theorem dX3_takesOrder_161 : decode cX3_takesOrder 161 = .ok (.invokevirtual 216, 3) := by decide +kernel
theorem dX3_takesOrder_164 : decode cX3_takesOrder 164 = .ok (.iinc 2 1, 3) := by decide +kernel
theorem dX3_takesOrder_167 : decode cX3_takesOrder 167 = .ok (.goto (-35), 3) := by decide +kernel
theorem dX3_takesOrder_170 : decode cX3_takesOrder 170 = .ok (.aload_n 0, 1) := by decide +kernel
theorem dX3_takesOrder_171 : decode cX3_takesOrder 171 = .ok (.aload_n 0, 1) := by decide +kernel
theorem dX3_takesOrder_172 : decode cX3_takesOrder 172 = .ok (.invokevirtual 203, 3) := by decide +kernel
theorem dX3_takesOrder_175 : decode cX3_takesOrder 175 = .ok (.bipush 59, 2) := by decide +kernel
theorem dX3_takesOrder_177 : decode cX3_takesOrder 177 = .ok (.if_icmp .ne 7, 3) := by decide +kernel
theorem dX3_takesOrder_180 : decode cX3_takesOrder 180 = .ok (.iconst 1, 1) := by decide +kernel
theorem dX3_takesOrder_181 : decode cX3_takesOrder 181 = .ok (.goto 4, 3) := by decide +kernel
theorem dX3_takesOrder_184 : decode cX3_takesOrder 184 = .ok (.iconst 0, 1) := by decide +kernel
theorem dX3_takesOrder_185 : decode cX3_takesOrder 185 = .ok (.invokevirtual 212, 3) := by decide +kernel
theorem dX3_takesOrder_188 : decode cX3_takesOrder 188 = .ok (.return_, 1) := by decide +kernel
theorem dX3_errorOfOrder_0 : decode cX3_errorOfOrder 0 = .ok (.aload_n 0, 1) := by decide +kernel
theorem dX3_errorOfOrder_1 : decode cX3_errorOfOrder 1 = .ok (.getfield 209, 3) := by decide +kernel
theorem dX3_errorOfOrder_4 : decode cX3_errorOfOrder 4 = .ok (.lookupswitch 149 #[(97, 74), (102, 93), (109, 116), (114, 133), (119, 52)], 52) := by decide +kernel
theorem dX3_errorOfOrder_56 : decode cX3_errorOfOrder 56 = .ok (.aload_n 0, 1) := by decide +kernel
theorem dX3_errorOfOrder_57 : decode cX3_errorOfOrder 57 = .ok (.getfield 25, 3) := by decide +kernel
theorem dX3_errorOfOrder_60 : decode cX3_errorOfOrder 60 = .ok (.iconst 0, 1) := by decide +kernel
theorem dX3_errorOfOrder_61 : decode cX3_errorOfOrder 61 = .ok (.iaload, 1) := by decide +kernel
theorem dX3_errorOfOrder_62 : decode cX3_errorOfOrder 62 = .ok (.aload_n 0, 1) := by decide +kernel
theorem dX3_errorOfOrder_63 : decode cX3_errorOfOrder 63 = .ok (.getfield 25, 3) := by decide +kernel
theorem dX3_errorOfOrder_66 : decode cX3_errorOfOrder 66 = .ok (.iconst 1, 1) := by decide +kernel
theorem dX3_errorOfOrder_67 : decode cX3_errorOfOrder 67 = .ok (.iaload, 1) := by decide +kernel
theorem dX3_errorOfOrder_68 : decode cX3_errorOfOrder 68 = .ok (.aload_n 0, 1) := by decide +kernel
theorem dX3_errorOfOrder_69 : decode cX3_errorOfOrder 69 = .ok (.getfield 25, 3) := by decide +kernel
theorem dX3_errorOfOrder_72 : decode cX3_errorOfOrder 72 = .ok (.iconst 2, 1) := by decide +kernel
theorem dX3_errorOfOrder_73 : decode cX3_errorOfOrder 73 = .ok (.iaload, 1) := by decide +kernel
theorem dX3_errorOfOrder_74 : decode cX3_errorOfOrder 74 = .ok (.invokestatic 127, 3) := by decide +kernel
theorem dX3_errorOfOrder_77 : decode cX3_errorOfOrder 77 = .ok (.ireturn, 1) := by decide +kernel
theorem dX3_errorOfOrder_78 : decode cX3_errorOfOrder 78 = .ok (.aload_n 0, 1) := by decide +kernel
theorem dX3_errorOfOrder_79 : decode cX3_errorOfOrder 79 = .ok (.getfield 25, 3) := by decide +kernel
theorem dX3_errorOfOrder_82 : decode cX3_errorOfOrder 82 = .ok (.iconst 0, 1) := by decide +kernel
theorem dX3_errorOfOrder_83 : decode cX3_errorOfOrder 83 = .ok (.iaload, 1) := by decide +kernel
theorem dX3_errorOfOrder_84 : decode cX3_errorOfOrder 84 = .ok (.invokestatic 67, 3) := by decide +kernel
theorem dX3_errorOfOrder_87 : decode cX3_errorOfOrder 87 = .ok (.ifCond .eq 7, 3) := by decide +kernel
theorem dX3_errorOfOrder_90 : decode cX3_errorOfOrder 90 = .ok (.iconst 0, 1) := by decide +kernel
theorem dX3_errorOfOrder_91 : decode cX3_errorOfOrder 91 = .ok (.goto 5, 3) := by decide +kernel
theorem dX3_errorOfOrder_94 : decode cX3_errorOfOrder 94 = .ok (.ldc 124, 2) := by decide +kernel
theorem dX3_errorOfOrder_96 : decode cX3_errorOfOrder 96 = .ok (.ireturn, 1) := by decide +kernel
theorem dX3_errorOfOrder_97 : decode cX3_errorOfOrder 97 = .ok (.aload_n 0, 1) := by decide +kernel
theorem dX3_errorOfOrder_98 : decode cX3_errorOfOrder 98 = .ok (.aload_n 0, 1) := by decide +kernel
theorem dX3_errorOfOrder_99 : decode cX3_errorOfOrder 99 = .ok (.getfield 25, 3) := by decide +kernel
theorem dX3_errorOfOrder_102 : decode cX3_errorOfOrder 102 = .ok (.iconst 0, 1) := by decide +kernel
theorem dX3_errorOfOrder_103 : decode cX3_errorOfOrder 103 = .ok (.iaload, 1) := by decide +kernel
theorem dX3_errorOfOrder_104 : decode cX3_errorOfOrder 104 = .ok (.aload_n 0, 1) := by decide +kernel
theorem dX3_errorOfOrder_105 : decode cX3_errorOfOrder 105 = .ok (.getfield 25, 3) := by decide +kernel
theorem dX3_errorOfOrder_108 : decode cX3_errorOfOrder 108 = .ok (.iconst 1, 1) := by decide +kernel
theorem dX3_errorOfOrder_109 : decode cX3_errorOfOrder 109 = .ok (.iaload, 1) := by decide +kernel
theorem dX3_errorOfOrder_110 : decode cX3_errorOfOrder 110 = .ok (.aload_n 0, 1) := by decide +kernel
theorem dX3_errorOfOrder_111 : decode cX3_errorOfOrder 111 = .ok (.getfield 25, 3) := by decide +kernel
theorem dX3_errorOfOrder_114 : decode cX3_errorOfOrder 114 = .ok (.iconst 2, 1) := by decide +kernel
theorem dX3_errorOfOrder_115 : decode cX3_errorOfOrder 115 = .ok (.iaload, 1) := by decide +kernel
theorem dX3_errorOfOrder_116 : decode cX3_errorOfOrder 116 = .ok (.invokevirtual 133, 3) := by decide +kernel
theorem dX3_errorOfOrder_119 : decode cX3_errorOfOrder 119 = .ok (.ireturn, 1) := by decide +kernel
theorem dX3_errorOfOrder_120 : decode cX3_errorOfOrder 120 = .ok (.aload_n 0, 1) := by decide +kernel
theorem dX3_errorOfOrder_121 : decode cX3_errorOfOrder 121 = .ok (.aload_n 0, 1) := by decide +kernel
theorem dX3_errorOfOrder_122 : decode cX3_errorOfOrder 122 = .ok (.getfield 25, 3) := by decide +kernel
theorem dX3_errorOfOrder_125 : decode cX3_errorOfOrder 125 = .ok (.iconst 0, 1) := by decide +kernel
theorem dX3_errorOfOrder_126 : decode cX3_errorOfOrder 126 = .ok (.iaload, 1) := by decide +kernel
theorem dX3_errorOfOrder_127 : decode cX3_errorOfOrder 127 = .ok (.aload_n 0, 1) := by decide +kernel
theorem dX3_errorOfOrder_128 : decode cX3_errorOfOrder 128 = .ok (.getfield 25, 3) := by decide +kernel
theorem dX3_errorOfOrder_131 : decode cX3_errorOfOrder 131 = .ok (.iconst 1, 1) := by decide +kernel
theorem dX3_errorOfOrder_132 : decode cX3_errorOfOrder 132 = .ok (.iaload, 1) := by decide +kernel
theorem dX3_errorOfOrder_133 : decode cX3_errorOfOrder 133 = .ok (.invokevirtual 139, 3) := by decide +kernel
theorem dX3_errorOfOrder_136 : decode cX3_errorOfOrder 136 = .ok (.ireturn, 1) := by decide +kernel
theorem dX3_errorOfOrder_137 : decode cX3_errorOfOrder 137 = .ok (.aload_n 0, 1) := by decide +kernel
theorem dX3_errorOfOrder_138 : decode cX3_errorOfOrder 138 = .ok (.getfield 25, 3) := by decide +kernel
theorem dX3_errorOfOrder_141 : decode cX3_errorOfOrder 141 = .ok (.iconst 0, 1) := by decide +kernel
theorem dX3_errorOfOrder_142 : decode cX3_errorOfOrder 142 = .ok (.iaload, 1) := by decide +kernel
theorem dX3_errorOfOrder_143 : decode cX3_errorOfOrder 143 = .ok (.aload_n 0, 1) := by decide +kernel
theorem dX3_errorOfOrder_144 : decode cX3_errorOfOrder 144 = .ok (.getfield 25, 3) := by decide +kernel
theorem dX3_errorOfOrder_147 : decode cX3_errorOfOrder 147 = .ok (.iconst 1, 1) := by decide +kernel
theorem dX3_errorOfOrder_148 : decode cX3_errorOfOrder 148 = .ok (.iaload, 1) := by decide +kernel
theorem dX3_errorOfOrder_149 : decode cX3_errorOfOrder 149 = .ok (.invokestatic 142, 3) := by decide +kernel
theorem dX3_errorOfOrder_152 : decode cX3_errorOfOrder 152 = .ok (.ireturn, 1) := by decide +kernel
theorem dX3_errorOfOrder_153 : decode cX3_errorOfOrder 153 = .ok (.aload_n 0, 1) := by decide +kernel
theorem dX3_errorOfOrder_154 : decode cX3_errorOfOrder 154 = .ok (.aload_n 0, 1) := by decide +kernel
theorem dX3_errorOfOrder_155 : decode cX3_errorOfOrder 155 = .ok (.getfield 25, 3) := by decide +kernel
theorem dX3_errorOfOrder_158 : decode cX3_errorOfOrder 158 = .ok (.iconst 0, 1) := by decide +kernel
theorem dX3_errorOfOrder_159 : decode cX3_errorOfOrder 159 = .ok (.iaload, 1) := by decide +kernel
theorem dX3_errorOfOrder_160 : decode cX3_errorOfOrder 160 = .ok (.invokevirtual 145, 3) := by decide +kernel
theorem dX3_errorOfOrder_163 : decode cX3_errorOfOrder 163 = .ok (.ireturn, 1) := by decide +kernel
theorem dX3_doesOrder_0 : decode cX3_doesOrder 0 = .ok (.iconst 0, 1) := by decide +kernel
theorem dX3_doesOrder_1 : decode cX3_doesOrder 1 = .ok (.istore_n 1, 1) := by decide +kernel
theorem dX3_doesOrder_2 : decode cX3_doesOrder 2 = .ok (.aload_n 0, 1) := by decide +kernel
theorem dX3_doesOrder_3 : decode cX3_doesOrder 3 = .ok (.getfield 209, 3) := by decide +kernel
theorem dX3_doesOrder_6 : decode cX3_doesOrder 6 = .ok (.lookupswitch 158 #[(97, 76), (102, 90), (109, 115), (114, 138), (119, 50)], 50) := by decide +kernel
theorem dX3_doesOrder_56 : decode cX3_doesOrder 56 = .ok (.aload_n 0, 1) := by decide +kernel
theorem dX3_doesOrder_57 : decode cX3_doesOrder 57 = .ok (.aload_n 0, 1) := by decide +kernel
theorem dX3_doesOrder_58 : decode cX3_doesOrder 58 = .ok (.getfield 25, 3) := by decide +kernel
theorem dX3_doesOrder_61 : decode cX3_doesOrder 61 = .ok (.iconst 0, 1) := by decide +kernel
theorem dX3_doesOrder_62 : decode cX3_doesOrder 62 = .ok (.iaload, 1) := by decide +kernel
theorem dX3_doesOrder_63 : decode cX3_doesOrder 63 = .ok (.aload_n 0, 1) := by decide +kernel
theorem dX3_doesOrder_64 : decode cX3_doesOrder 64 = .ok (.getfield 25, 3) := by decide +kernel
theorem dX3_doesOrder_67 : decode cX3_doesOrder 67 = .ok (.iconst 1, 1) := by decide +kernel
theorem dX3_doesOrder_68 : decode cX3_doesOrder 68 = .ok (.iaload, 1) := by decide +kernel
theorem dX3_doesOrder_69 : decode cX3_doesOrder 69 = .ok (.aload_n 0, 1) := by decide +kernel
theorem dX3_doesOrder_70 : decode cX3_doesOrder 70 = .ok (.getfield 25, 3) := by decide +kernel
theorem dX3_doesOrder_73 : decode cX3_doesOrder 73 = .ok (.iconst 2, 1) := by decide +kernel
theorem dX3_doesOrder_74 : decode cX3_doesOrder 74 = .ok (.iaload, 1) := by decide +kernel
theorem dX3_doesOrder_75 : decode cX3_doesOrder 75 = .ok (.invokevirtual 36, 3) := by decide +kernel
theorem dX3_doesOrder_78 : decode cX3_doesOrder 78 = .ok (.istore_n 1, 1) := by decide +kernel
theorem dX3_doesOrder_79 : decode cX3_doesOrder 79 = .ok (.goto 96, 3) := by decide +kernel
theorem dX3_doesOrder_82 : decode cX3_doesOrder 82 = .ok (.aload_n 0, 1) := by decide +kernel
theorem dX3_doesOrder_83 : decode cX3_doesOrder 83 = .ok (.aload_n 0, 1) := by decide +kernel
theorem dX3_doesOrder_84 : decode cX3_doesOrder 84 = .ok (.getfield 25, 3) := by decide +kernel
theorem dX3_doesOrder_87 : decode cX3_doesOrder 87 = .ok (.iconst 0, 1) := by decide +kernel
theorem dX3_doesOrder_88 : decode cX3_doesOrder 88 = .ok (.iaload, 1) := by decide +kernel
theorem dX3_doesOrder_89 : decode cX3_doesOrder 89 = .ok (.invokevirtual 111, 3) := by decide +kernel
theorem dX3_doesOrder_92 : decode cX3_doesOrder 92 = .ok (.istore_n 1, 1) := by decide +kernel
theorem dX3_doesOrder_93 : decode cX3_doesOrder 93 = .ok (.goto 82, 3) := by decide +kernel
theorem dX3_doesOrder_96 : decode cX3_doesOrder 96 = .ok (.aload_n 0, 1) := by decide +kernel
theorem dX3_doesOrder_97 : decode cX3_doesOrder 97 = .ok (.aload_n 0, 1) := by decide +kernel
theorem dX3_doesOrder_98 : decode cX3_doesOrder 98 = .ok (.getfield 25, 3) := by decide +kernel
theorem dX3_doesOrder_101 : decode cX3_doesOrder 101 = .ok (.iconst 0, 1) := by decide +kernel
theorem dX3_doesOrder_102 : decode cX3_doesOrder 102 = .ok (.iaload, 1) := by decide +kernel
theorem dX3_doesOrder_103 : decode cX3_doesOrder 103 = .ok (.aload_n 0, 1) := by decide +kernel
theorem dX3_doesOrder_104 : decode cX3_doesOrder 104 = .ok (.getfield 25, 3) := by decide +kernel
theorem dX3_doesOrder_107 : decode cX3_doesOrder 107 = .ok (.iconst 1, 1) := by decide +kernel
theorem dX3_doesOrder_108 : decode cX3_doesOrder 108 = .ok (.iaload, 1) := by decide +kernel
theorem dX3_doesOrder_109 : decode cX3_doesOrder 109 = .ok (.aload_n 0, 1) := by decide +kernel
theorem dX3_doesOrder_110 : decode cX3_doesOrder 110 = .ok (.getfield 25, 3) := by decide +kernel
theorem dX3_doesOrder_113 : decode cX3_doesOrder 113 = .ok (.iconst 2, 1) := by decide +kernel
theorem dX3_doesOrder_114 : decode cX3_doesOrder 114 = .ok (.iaload, 1) := by decide +kernel
theorem dX3_doesOrder_115 : decode cX3_doesOrder 115 = .ok (.invokevirtual 136, 3) := by decide +kernel
theorem dX3_doesOrder_118 : decode cX3_doesOrder 118 = .ok (.goto 57, 3) := by decide +kernel
theorem dX3_doesOrder_121 : decode cX3_doesOrder 121 = .ok (.aload_n 0, 1) := by decide +kernel
theorem dX3_doesOrder_122 : decode cX3_doesOrder 122 = .ok (.aload_n 0, 1) := by decide +kernel
theorem dX3_doesOrder_123 : decode cX3_doesOrder 123 = .ok (.getfield 25, 3) := by decide +kernel
theorem dX3_doesOrder_126 : decode cX3_doesOrder 126 = .ok (.iconst 0, 1) := by decide +kernel
theorem dX3_doesOrder_127 : decode cX3_doesOrder 127 = .ok (.iaload, 1) := by decide +kernel
theorem dX3_doesOrder_128 : decode cX3_doesOrder 128 = .ok (.bipush 7, 2) := by decide +kernel
theorem dX3_doesOrder_130 : decode cX3_doesOrder 130 = .ok (.aload_n 0, 1) := by decide +kernel
theorem dX3_doesOrder_131 : decode cX3_doesOrder 131 = .ok (.getfield 25, 3) := by decide +kernel
theorem dX3_doesOrder_134 : decode cX3_doesOrder 134 = .ok (.iconst 1, 1) := by decide +kernel
theorem dX3_doesOrder_135 : decode cX3_doesOrder 135 = .ok (.iaload, 1) := by decide +kernel
theorem dX3_doesOrder_136 : decode cX3_doesOrder 136 = .ok (.iadd, 1) := by decide +kernel
theorem dX3_doesOrder_137 : decode cX3_doesOrder 137 = .ok (.iconst 0, 1) := by decide +kernel
theorem dX3_doesOrder_138 : decode cX3_doesOrder 138 = .ok (.invokevirtual 28, 3) := by decide +kernel
theorem dX3_doesOrder_141 : decode cX3_doesOrder 141 = .ok (.goto 34, 3) := by decide +kernel
theorem dX3_doesOrder_144 : decode cX3_doesOrder 144 = .ok (.aload_n 0, 1) := by decide +kernel
theorem dX3_doesOrder_145 : decode cX3_doesOrder 145 = .ok (.aload_n 0, 1) := by decide +kernel
theorem dX3_doesOrder_146 : decode cX3_doesOrder 146 = .ok (.getfield 25, 3) := by decide +kernel
theorem dX3_doesOrder_149 : decode cX3_doesOrder 149 = .ok (.iconst 0, 1) := by decide +kernel
theorem dX3_doesOrder_150 : decode cX3_doesOrder 150 = .ok (.iaload, 1) := by decide +kernel
theorem dX3_doesOrder_151 : decode cX3_doesOrder 151 = .ok (.iconst 0, 1) := by decide +kernel
theorem dX3_doesOrder_152 : decode cX3_doesOrder 152 = .ok (.aload_n 0, 1) := by decide +kernel
theorem dX3_doesOrder_153 : decode cX3_doesOrder 153 = .ok (.getfield 25, 3) := by decide +kernel
theorem dX3_doesOrder_156 : decode cX3_doesOrder 156 = .ok (.iconst 1, 1) := by decide +kernel
theorem dX3_doesOrder_157 : decode cX3_doesOrder 157 = .ok (.iaload, 1) := by decide +kernel
theorem dX3_doesOrder_158 : decode cX3_doesOrder 158 = .ok (.invokevirtual 28, 3) := by decide +kernel
theorem dX3_doesOrder_161 : decode cX3_doesOrder 161 = .ok (.goto 14, 3) := by decide +kernel
theorem dX3_doesOrder_164 : decode cX3_doesOrder 164 = .ok (.aload_n 0, 1) := by decide +kernel
theorem dX3_doesOrder_165 : decode cX3_doesOrder 165 = .ok (.aload_n 0, 1) := by decide +kernel
theorem dX3_doesOrder_166 : decode cX3_doesOrder 166 = .ok (.getfield 25, 3) := by decide +kernel
theorem dX3_doesOrder_169 : decode cX3_doesOrder 169 = .ok (.iconst 0, 1) := by decide +kernel
theorem dX3_doesOrder_170 : decode cX3_doesOrder 170 = .ok (.iaload, 1) := by decide +kernel
theorem dX3_doesOrder_171 : decode cX3_doesOrder 171 = .ok (.invokevirtual 148, 3) := by decide +kernel
theorem dX3_doesOrder_174 : decode cX3_doesOrder 174 = .ok (.istore_n 1, 1) := by decide +kernel
theorem dX3_doesOrder_175 : decode cX3_doesOrder 175 = .ok (.return_, 1) := by decide +kernel
theorem dX3_doesAll_0 : decode cX3_doesAll 0 = .ok (.iconst 0, 1) := by decide +kernel
theorem dX3_doesAll_1 : decode cX3_doesAll 1 = .ok (.istore_n 1, 1) := by decide +kernel
theorem dX3_doesAll_2 : decode cX3_doesAll 2 = .ok (.aload_n 0, 1) := by decide +kernel
theorem dX3_doesAll_3 : decode cX3_doesAll 3 = .ok (.iconst 0, 1) := by decide +kernel
theorem dX3_doesAll_4 : decode cX3_doesAll 4 = .ok (.putfield 219, 3) := by decide +kernel
theorem dX3_doesAll_7 : decode cX3_doesAll 7 = .ok (.aload_n 0, 1) := by decide +kernel
theorem dX3_doesAll_8 : decode cX3_doesAll 8 = .ok (.iconst 0, 1) := by decide +kernel
theorem dX3_doesAll_9 : decode cX3_doesAll 9 = .ok (.putfield 196, 3) := by decide +kernel
theorem dX3_doesAll_12 : decode cX3_doesAll 12 = .ok (.aload_n 0, 1) := by decide +kernel
theorem dX3_doesAll_13 : decode cX3_doesAll 13 = .ok (.getfield 219, 3) := by decide +kernel
theorem dX3_doesAll_16 : decode cX3_doesAll 16 = .ok (.ifCond .ne 98, 3) := by decide +kernel
theorem dX3_doesAll_19 : decode cX3_doesAll 19 = .ok (.aload_n 0, 1) := by decide +kernel
theorem dX3_doesAll_20 : decode cX3_doesAll 20 = .ok (.getfield 196, 3) := by decide +kernel
theorem dX3_doesAll_23 : decode cX3_doesAll 23 = .ok (.aload_n 0, 1) := by decide +kernel
theorem dX3_doesAll_24 : decode cX3_doesAll 24 = .ok (.getfield 193, 3) := by decide +kernel
theorem dX3_doesAll_27 : decode cX3_doesAll 27 = .ok (.if_icmp .ge 87, 3) := by decide +kernel
theorem dX3_doesAll_30 : decode cX3_doesAll 30 = .ok (.aload_n 0, 1) := by decide +kernel
theorem dX3_doesAll_31 : decode cX3_doesAll 31 = .ok (.invokevirtual 222, 3) := by decide +kernel
theorem dX3_doesAll_34 : decode cX3_doesAll 34 = .ok (.aload_n 0, 1) := by decide +kernel
theorem dX3_doesAll_35 : decode cX3_doesAll 35 = .ok (.getfield 199, 3) := by decide +kernel
theorem dX3_doesAll_38 : decode cX3_doesAll 38 = .ok (.ifCond .eq 10, 3) := by decide +kernel
theorem dX3_doesAll_41 : decode cX3_doesAll 41 = .ok (.aload_n 0, 1) := by decide +kernel
theorem dX3_doesAll_42 : decode cX3_doesAll 42 = .ok (.invokevirtual 225, 3) := by decide +kernel
theorem dX3_doesAll_45 : decode cX3_doesAll 45 = .ok (.goto 4, 3) := by decide +kernel
theorem dX3_doesAll_48 : decode cX3_doesAll 48 = .ok (.iconst 0, 1) := by decide +kernel
theorem dX3_doesAll_49 : decode cX3_doesAll 49 = .ok (.istore_n 2, 1) := by decide +kernel
theorem dX3_doesAll_50 : decode cX3_doesAll 50 = .ok (.aload_n 0, 1) := by decide +kernel
theorem dX3_doesAll_51 : decode cX3_doesAll 51 = .ok (.getfield 199, 3) := by decide +kernel
theorem dX3_doesAll_54 : decode cX3_doesAll 54 = .ok (.ifCond .eq 7, 3) := by decide +kernel
theorem dX3_doesAll_57 : decode cX3_doesAll 57 = .ok (.iload_n 2, 1) := by decide +kernel
theorem dX3_doesAll_58 : decode cX3_doesAll 58 = .ok (.ifCond .ge 46, 3) := by decide +kernel
theorem dX3_doesAll_61 : decode cX3_doesAll 61 = .ok (.aload_n 0, 1) := by decide +kernel
theorem dX3_doesAll_62 : decode cX3_doesAll 62 = .ok (.aload_n 0, 1) := by decide +kernel
theorem dX3_doesAll_63 : decode cX3_doesAll 63 = .ok (.getfield 199, 3) := by decide +kernel
theorem dX3_doesAll_66 : decode cX3_doesAll 66 = .ok (.ifCond .eq 7, 3) := by decide +kernel
theorem dX3_doesAll_69 : decode cX3_doesAll 69 = .ok (.iconst 2, 1) := by decide +kernel
theorem dX3_doesAll_70 : decode cX3_doesAll 70 = .ok (.goto 4, 3) := by decide +kernel
theorem dX3_doesAll_73 : decode cX3_doesAll 73 = .ok (.iconst 1, 1) := by decide +kernel
theorem dX3_doesAll_74 : decode cX3_doesAll 74 = .ok (.putfield 219, 3) := by decide +kernel
theorem dX3_doesAll_77 : decode cX3_doesAll 77 = .ok (.aload_n 0, 1) := by decide +kernel
theorem dX3_doesAll_78 : decode cX3_doesAll 78 = .ok (.aload_n 0, 1) := by decide +kernel
theorem dX3_doesAll_79 : decode cX3_doesAll 79 = .ok (.getfield 199, 3) := by decide +kernel
theorem dX3_doesAll_82 : decode cX3_doesAll 82 = .ok (.ifCond .eq 7, 3) := by decide +kernel
theorem dX3_doesAll_85 : decode cX3_doesAll 85 = .ok (.iload_n 2, 1) := by decide +kernel
theorem dX3_doesAll_86 : decode cX3_doesAll 86 = .ok (.goto 12, 3) := by decide +kernel
theorem dX3_doesAll_89 : decode cX3_doesAll 89 = .ok (.aload_n 0, 1) := by decide +kernel
theorem dX3_doesAll_90 : decode cX3_doesAll 90 = .ok (.getfield 196, 3) := by decide +kernel
theorem dX3_doesAll_93 : decode cX3_doesAll 93 = .ok (.aload_n 0, 1) := by decide +kernel
theorem dX3_doesAll_94 : decode cX3_doesAll 94 = .ok (.getfield 206, 3) := by decide +kernel
theorem dX3_doesAll_97 : decode cX3_doesAll 97 = .ok (.isub, 1) := by decide +kernel
theorem dX3_doesAll_98 : decode cX3_doesAll 98 = .ok (.putfield 228, 3) := by decide +kernel
theorem dX3_doesAll_101 : decode cX3_doesAll 101 = .ok (.goto 10, 3) := by decide +kernel
theorem dX3_doesAll_104 : decode cX3_doesAll 104 = .ok (.aload_n 0, 1) := by decide +kernel
theorem dX3_doesAll_105 : decode cX3_doesAll 105 = .ok (.invokevirtual 231, 3) := by decide +kernel
theorem dX3_doesAll_108 : decode cX3_doesAll 108 = .ok (.iinc 1 1, 3) := by decide +kernel
theorem dX3_doesAll_111 : decode cX3_doesAll 111 = .ok (.goto (-99), 3) := by decide +kernel
theorem dX3_doesAll_114 : decode cX3_doesAll 114 = .ok (.iload_n 1, 1) := by decide +kernel
theorem dX3_doesAll_115 : decode cX3_doesAll 115 = .ok (.ireturn, 1) := by decide +kernel
theorem dX3_fault_0 : decode cX3_fault 0 = .ok (.iload_n 1, 1) := by decide +kernel
theorem dX3_fault_1 : decode cX3_fault 1 = .ok (.iconst 0, 1) := by decide +kernel
theorem dX3_fault_2 : decode cX3_fault 2 = .ok (.iconst 2, 1) := by decide +kernel
theorem dX3_fault_3 : decode cX3_fault 3 = .ok (.invokestatic 48, 3) := by decide +kernel
theorem dX3_fault_6 : decode cX3_fault 6 = .ok (.ifCond .ne 6, 3) := by decide +kernel
theorem dX3_fault_9 : decode cX3_fault 9 = .ok (.ldc 124, 2) := by decide +kernel
theorem dX3_fault_11 : decode cX3_fault 11 = .ok (.ireturn, 1) := by decide +kernel
theorem dX3_fault_12 : decode cX3_fault 12 = .ok (.aload_n 0, 1) := by decide +kernel
theorem dX3_fault_13 : decode cX3_fault 13 = .ok (.getfield 7, 3) := by decide +kernel
theorem dX3_fault_16 : decode cX3_fault 16 = .ok (.iconst 0, 1) := by decide +kernel
theorem dX3_fault_17 : decode cX3_fault 17 = .ok (.aload_n 0, 1) := by decide +kernel
theorem dX3_fault_18 : decode cX3_fault 18 = .ok (.getfield 16, 3) := by decide +kernel
theorem dX3_fault_21 : decode cX3_fault 21 = .ok (.iconst 0, 1) := by decide +kernel
theorem dX3_fault_22 : decode cX3_fault 22 = .ok (.invokestatic 44, 3) := by decide +kernel
theorem dX3_fault_25 : decode cX3_fault 25 = .ok (.aload_n 0, 1) := by decide +kernel
theorem dX3_fault_26 : decode cX3_fault 26 = .ok (.invokevirtual 234, 3) := by decide +kernel
theorem dX3_fault_29 : decode cX3_fault 29 = .ok (.istore_n 2, 1) := by decide +kernel
theorem dX3_fault_30 : decode cX3_fault 30 = .ok (.aload_n 0, 1) := by decide +kernel
theorem dX3_fault_31 : decode cX3_fault 31 = .ok (.getfield 16, 3) := by decide +kernel
theorem dX3_fault_34 : decode cX3_fault 34 = .ok (.iconst 0, 1) := by decide +kernel
theorem dX3_fault_35 : decode cX3_fault 35 = .ok (.aload_n 0, 1) := by decide +kernel
theorem dX3_fault_36 : decode cX3_fault 36 = .ok (.getfield 7, 3) := by decide +kernel
theorem dX3_fault_39 : decode cX3_fault 39 = .ok (.iconst 0, 1) := by decide +kernel
theorem dX3_fault_40 : decode cX3_fault 40 = .ok (.invokestatic 44, 3) := by decide +kernel
theorem dX3_fault_43 : decode cX3_fault 43 = .ok (.aload_n 0, 1) := by decide +kernel
theorem dX3_fault_44 : decode cX3_fault 44 = .ok (.getfield 219, 3) := by decide +kernel
theorem dX3_fault_47 : decode cX3_fault 47 = .ok (.ifCond .ne 8, 3) := by decide +kernel
theorem dX3_fault_50 : decode cX3_fault 50 = .ok (.ldc 163, 2) := by decide +kernel
theorem dX3_fault_52 : decode cX3_fault 52 = .ok (.goto 30, 3) := by decide +kernel
theorem dX3_fault_55 : decode cX3_fault 55 = .ok (.iload_n 1, 1) := by decide +kernel
theorem dX3_fault_56 : decode cX3_fault 56 = .ok (.ifCond .ne 10, 3) := by decide +kernel
theorem dX3_fault_59 : decode cX3_fault 59 = .ok (.aload_n 0, 1) := by decide +kernel
theorem dX3_fault_60 : decode cX3_fault 60 = .ok (.getfield 206, 3) := by decide +kernel
theorem dX3_fault_63 : decode cX3_fault 63 = .ok (.goto 19, 3) := by decide +kernel
theorem dX3_fault_66 : decode cX3_fault 66 = .ok (.iload_n 1, 1) := by decide +kernel
theorem dX3_fault_67 : decode cX3_fault 67 = .ok (.iconst 1, 1) := by decide +kernel
theorem dX3_fault_68 : decode cX3_fault 68 = .ok (.if_icmp .ne 10, 3) := by decide +kernel
theorem dX3_fault_71 : decode cX3_fault 71 = .ok (.aload_n 0, 1) := by decide +kernel
theorem dX3_fault_72 : decode cX3_fault 72 = .ok (.getfield 219, 3) := by decide +kernel
theorem dX3_fault_75 : decode cX3_fault 75 = .ok (.goto 7, 3) := by decide +kernel
theorem dX3_fault_78 : decode cX3_fault 78 = .ok (.aload_n 0, 1) := by decide +kernel
theorem dX3_fault_79 : decode cX3_fault 79 = .ok (.getfield 228, 3) := by decide +kernel
theorem dX3_fault_82 : decode cX3_fault 82 = .ok (.ireturn, 1) := by decide +kernel
theorem dX3_play_0 : decode cX3_play 0 = .ok (.aload_n 0, 1) := by decide +kernel
theorem dX3_play_1 : decode cX3_play 1 = .ok (.getfield 7, 3) := by decide +kernel
theorem dX3_play_4 : decode cX3_play 4 = .ok (.iconst 0, 1) := by decide +kernel
theorem dX3_play_5 : decode cX3_play 5 = .ok (.aload_n 0, 1) := by decide +kernel
theorem dX3_play_6 : decode cX3_play 6 = .ok (.getfield 16, 3) := by decide +kernel
theorem dX3_play_9 : decode cX3_play 9 = .ok (.iconst 0, 1) := by decide +kernel
theorem dX3_play_10 : decode cX3_play 10 = .ok (.invokestatic 44, 3) := by decide +kernel
theorem dX3_play_13 : decode cX3_play 13 = .ok (.aload_n 0, 1) := by decide +kernel
theorem dX3_play_14 : decode cX3_play 14 = .ok (.invokevirtual 234, 3) := by decide +kernel
theorem dX3_play_17 : decode cX3_play 17 = .ok (.istore_n 1, 1) := by decide +kernel
theorem dX3_play_18 : decode cX3_play 18 = .ok (.aload_n 0, 1) := by decide +kernel
theorem dX3_play_19 : decode cX3_play 19 = .ok (.getfield 16, 3) := by decide +kernel
theorem dX3_play_22 : decode cX3_play 22 = .ok (.iconst 0, 1) := by decide +kernel
theorem dX3_play_23 : decode cX3_play 23 = .ok (.aload_n 0, 1) := by decide +kernel
theorem dX3_play_24 : decode cX3_play 24 = .ok (.getfield 7, 3) := by decide +kernel
theorem dX3_play_27 : decode cX3_play 27 = .ok (.iconst 0, 1) := by decide +kernel
theorem dX3_play_28 : decode cX3_play 28 = .ok (.invokestatic 44, 3) := by decide +kernel
theorem dX3_play_31 : decode cX3_play 31 = .ok (.aload_n 0, 1) := by decide +kernel
theorem dX3_play_32 : decode cX3_play 32 = .ok (.getfield 219, 3) := by decide +kernel
theorem dX3_play_35 : decode cX3_play 35 = .ok (.ifCond .le 6, 3) := by decide +kernel
theorem dX3_play_38 : decode cX3_play 38 = .ok (.ldc 125, 2) := by decide +kernel
theorem dX3_play_40 : decode cX3_play 40 = .ok (.ireturn, 1) := by decide +kernel
theorem dX3_play_41 : decode cX3_play 41 = .ok (.aload_n 0, 1) := by decide +kernel
theorem dX3_play_42 : decode cX3_play 42 = .ok (.invokevirtual 130, 3) := by decide +kernel
theorem dX3_play_45 : decode cX3_play 45 = .ok (.aload_n 0, 1) := by decide +kernel
theorem dX3_play_46 : decode cX3_play 46 = .ok (.invokevirtual 234, 3) := by decide +kernel
theorem dX3_play_49 : decode cX3_play 49 = .ok (.istore_n 1, 1) := by decide +kernel
theorem dX3_play_50 : decode cX3_play 50 = .ok (.iload_n 1, 1) := by decide +kernel
theorem dX3_play_51 : decode cX3_play 51 = .ok (.ireturn, 1) := by decide +kernel
theorem dJxf58ca_isNaN_12338_0 : decode cJxf58ca_isNaN_12338 0 = .ok (.fload_n 0, 1) := by decide +kernel
theorem dJxf58ca_isNaN_12338_1 : decode cJxf58ca_isNaN_12338 1 = .ok (.fload_n 0, 1) := by decide +kernel
theorem dJxf58ca_isNaN_12338_2 : decode cJxf58ca_isNaN_12338 2 = .ok (.fcmp .l, 1) := by decide +kernel
theorem dJxf58ca_isNaN_12338_3 : decode cJxf58ca_isNaN_12338 3 = .ok (.ifCond .eq 7, 3) := by decide +kernel
theorem dJxf58ca_isNaN_12338_6 : decode cJxf58ca_isNaN_12338 6 = .ok (.iconst 1, 1) := by decide +kernel
theorem dJxf58ca_isNaN_12338_7 : decode cJxf58ca_isNaN_12338 7 = .ok (.goto 4, 3) := by decide +kernel
theorem dJxf58ca_isNaN_12338_10 : decode cJxf58ca_isNaN_12338 10 = .ok (.iconst 0, 1) := by decide +kernel
theorem dJxf58ca_isNaN_12338_11 : decode cJxf58ca_isNaN_12338 11 = .ok (.ireturn, 1) := by decide +kernel
theorem dJxf58ca_floatToIntBits_5c35a_0 : decode cJxf58ca_floatToIntBits_5c35a 0 = .ok (.fload_n 0, 1) := by decide +kernel
theorem dJxf58ca_floatToIntBits_5c35a_1 : decode cJxf58ca_floatToIntBits_5c35a 1 = .ok (.invokestatic 59, 3) := by decide +kernel
theorem dJxf58ca_floatToIntBits_5c35a_4 : decode cJxf58ca_floatToIntBits_5c35a 4 = .ok (.ifCond .ne 8, 3) := by decide +kernel
theorem dJxf58ca_floatToIntBits_5c35a_7 : decode cJxf58ca_floatToIntBits_5c35a 7 = .ok (.fload_n 0, 1) := by decide +kernel
theorem dJxf58ca_floatToIntBits_5c35a_8 : decode cJxf58ca_floatToIntBits_5c35a 8 = .ok (.invokestatic 74, 3) := by decide +kernel
theorem dJxf58ca_floatToIntBits_5c35a_11 : decode cJxf58ca_floatToIntBits_5c35a 11 = .ok (.ireturn, 1) := by decide +kernel
theorem dJxf58ca_floatToIntBits_5c35a_12 : decode cJxf58ca_floatToIntBits_5c35a 12 = .ok (.ldc 77, 2) := by decide +kernel
theorem dJxf58ca_floatToIntBits_5c35a_14 : decode cJxf58ca_floatToIntBits_5c35a 14 = .ok (.ireturn, 1) := by decide +kernel
theorem dJ9_abs_0f7a4_0 : decode cJ9_abs_0f7a4 0 = .ok (.iload_n 0, 1) := by decide +kernel
theorem dJ9_abs_0f7a4_1 : decode cJ9_abs_0f7a4 1 = .ok (.ifCond .ge 8, 3) := by decide +kernel
theorem dJ9_abs_0f7a4_4 : decode cJ9_abs_0f7a4 4 = .ok (.iload_n 0, 1) := by decide +kernel
theorem dJ9_abs_0f7a4_5 : decode cJ9_abs_0f7a4 5 = .ok (.ineg, 1) := by decide +kernel
theorem dJ9_abs_0f7a4_6 : decode cJ9_abs_0f7a4 6 = .ok (.goto 4, 3) := by decide +kernel
theorem dJ9_abs_0f7a4_9 : decode cJ9_abs_0f7a4 9 = .ok (.iload_n 0, 1) := by decide +kernel
theorem dJ9_abs_0f7a4_10 : decode cJ9_abs_0f7a4 10 = .ok (.ireturn, 1) := by decide +kernel
theorem dJ9_max_7cf53_0 : decode cJ9_max_7cf53 0 = .ok (.iload_n 0, 1) := by decide +kernel
theorem dJ9_max_7cf53_1 : decode cJ9_max_7cf53 1 = .ok (.iload_n 1, 1) := by decide +kernel
theorem dJ9_max_7cf53_2 : decode cJ9_max_7cf53 2 = .ok (.if_icmp .lt 7, 3) := by decide +kernel
theorem dJ9_max_7cf53_5 : decode cJ9_max_7cf53 5 = .ok (.iload_n 0, 1) := by decide +kernel
theorem dJ9_max_7cf53_6 : decode cJ9_max_7cf53 6 = .ok (.goto 4, 3) := by decide +kernel
theorem dJ9_max_7cf53_9 : decode cJ9_max_7cf53 9 = .ok (.iload_n 1, 1) := by decide +kernel
theorem dJ9_max_7cf53_10 : decode cJ9_max_7cf53 10 = .ok (.ireturn, 1) := by decide +kernel
theorem dJ9_min_7cf53_0 : decode cJ9_min_7cf53 0 = .ok (.iload_n 0, 1) := by decide +kernel
theorem dJ9_min_7cf53_1 : decode cJ9_min_7cf53 1 = .ok (.iload_n 1, 1) := by decide +kernel
theorem dJ9_min_7cf53_2 : decode cJ9_min_7cf53 2 = .ok (.if_icmp .gt 7, 3) := by decide +kernel
theorem dJ9_min_7cf53_5 : decode cJ9_min_7cf53 5 = .ok (.iload_n 0, 1) := by decide +kernel
theorem dJ9_min_7cf53_6 : decode cJ9_min_7cf53 6 = .ok (.goto 4, 3) := by decide +kernel
theorem dJ9_min_7cf53_9 : decode cJ9_min_7cf53 9 = .ok (.iload_n 1, 1) := by decide +kernel
theorem dJ9_min_7cf53_10 : decode cJ9_min_7cf53 10 = .ok (.ireturn, 1) := by decide +kernel
theorem dL_law_0 : decode cL_law 0 = .ok (.new 7, 3) := by decide +kernel
theorem dL_law_3 : decode cL_law 3 = .ok (.dup, 1) := by decide +kernel
theorem dL_law_4 : decode cL_law 4 = .ok (.invokespecial 9, 3) := by decide +kernel
theorem dL_law_7 : decode cL_law 7 = .ok (.astore_n 1, 1) := by decide +kernel
theorem dL_law_8 : decode cL_law 8 = .ok (.new 10, 3) := by decide +kernel
theorem dL_law_11 : decode cL_law 11 = .ok (.dup, 1) := by decide +kernel
theorem dL_law_12 : decode cL_law 12 = .ok (.invokespecial 12, 3) := by decide +kernel
theorem dL_law_15 : decode cL_law 15 = .ok (.astore_n 2, 1) := by decide +kernel
theorem dL_law_16 : decode cL_law 16 = .ok (.iconst 0, 1) := by decide +kernel
theorem dL_law_17 : decode cL_law 17 = .ok (.istore_n 3, 1) := by decide +kernel
theorem dL_law_18 : decode cL_law 18 = .ok (.iload_n 3, 1) := by decide +kernel
theorem dL_law_19 : decode cL_law 19 = .ok (.aload_n 0, 1) := by decide +kernel
theorem dL_law_20 : decode cL_law 20 = .ok (.arraylength, 1) := by decide +kernel
theorem dL_law_21 : decode cL_law 21 = .ok (.iconst 4, 1) := by decide +kernel
theorem dL_law_22 : decode cL_law 22 = .ok (.isub, 1) := by decide +kernel
theorem dL_law_23 : decode cL_law 23 = .ok (.if_icmp .gt 796, 3) := by decide +kernel
theorem dL_law_26 : decode cL_law 26 = .ok (.aload_n 0, 1) := by decide +kernel
theorem dL_law_27 : decode cL_law 27 = .ok (.iload_n 3, 1) := by decide +kernel
theorem dL_law_28 : decode cL_law 28 = .ok (.iaload, 1) := by decide +kernel
theorem dL_law_29 : decode cL_law 29 = .ok (.bipush 31, 2) := by decide +kernel
theorem dL_law_31 : decode cL_law 31 = .ok (.iand, 1) := by decide +kernel
theorem dL_law_32 : decode cL_law 32 = .ok (.tableswitch 781 0 24 #[116, 159, 192, 215, 248, 291, 324, 357, 380, 413, 456, 499, 532, 565, 588, 611, 624, 647, 660, 673, 696, 709, 732, 745, 768], 116) := by decide +kernel
theorem dL_law_148 : decode cL_law 148 = .ok (.aload_n 1, 1) := by decide +kernel
theorem dL_law_149 : decode cL_law 149 = .ok (.aload_n 0, 1) := by decide +kernel
theorem dL_law_150 : decode cL_law 150 = .ok (.iload_n 3, 1) := by decide +kernel
theorem dL_law_151 : decode cL_law 151 = .ok (.iconst 1, 1) := by decide +kernel
theorem dL_law_152 : decode cL_law 152 = .ok (.iadd, 1) := by decide +kernel
theorem dL_law_153 : decode cL_law 153 = .ok (.iaload, 1) := by decide +kernel
theorem dL_law_154 : decode cL_law 154 = .ok (.aload_n 0, 1) := by decide +kernel
theorem dL_law_155 : decode cL_law 155 = .ok (.iload_n 3, 1) := by decide +kernel
theorem dL_law_156 : decode cL_law 156 = .ok (.iconst 2, 1) := by decide +kernel
theorem dL_law_157 : decode cL_law 157 = .ok (.iadd, 1) := by decide +kernel
theorem dL_law_158 : decode cL_law 158 = .ok (.iaload, 1) := by decide +kernel
theorem dL_law_159 : decode cL_law 159 = .ok (.aload_n 0, 1) := by decide +kernel
theorem dL_law_160 : decode cL_law 160 = .ok (.iload_n 3, 1) := by decide +kernel
theorem dL_law_161 : decode cL_law 161 = .ok (.iconst 3, 1) := by decide +kernel
theorem dL_law_162 : decode cL_law 162 = .ok (.iadd, 1) := by decide +kernel
theorem dL_law_163 : decode cL_law 163 = .ok (.iaload, 1) := by decide +kernel
theorem dL_law_164 : decode cL_law 164 = .ok (.invokevirtual 13, 3) := by decide +kernel
theorem dL_law_167 : decode cL_law 167 = .ok (.aload_n 2, 1) := by decide +kernel
theorem dL_law_168 : decode cL_law 168 = .ok (.aload_n 0, 1) := by decide +kernel
theorem dL_law_169 : decode cL_law 169 = .ok (.iload_n 3, 1) := by decide +kernel
theorem dL_law_170 : decode cL_law 170 = .ok (.iconst 1, 1) := by decide +kernel
theorem dL_law_171 : decode cL_law 171 = .ok (.iadd, 1) := by decide +kernel
theorem dL_law_172 : decode cL_law 172 = .ok (.iaload, 1) := by decide +kernel
theorem dL_law_173 : decode cL_law 173 = .ok (.aload_n 0, 1) := by decide +kernel
theorem dL_law_174 : decode cL_law 174 = .ok (.iload_n 3, 1) := by decide +kernel
theorem dL_law_175 : decode cL_law 175 = .ok (.iconst 2, 1) := by decide +kernel
theorem dL_law_176 : decode cL_law 176 = .ok (.iadd, 1) := by decide +kernel
theorem dL_law_177 : decode cL_law 177 = .ok (.iaload, 1) := by decide +kernel
theorem dL_law_178 : decode cL_law 178 = .ok (.aload_n 0, 1) := by decide +kernel
theorem dL_law_179 : decode cL_law 179 = .ok (.iload_n 3, 1) := by decide +kernel
theorem dL_law_180 : decode cL_law 180 = .ok (.iconst 3, 1) := by decide +kernel
theorem dL_law_181 : decode cL_law 181 = .ok (.iadd, 1) := by decide +kernel
theorem dL_law_182 : decode cL_law 182 = .ok (.iaload, 1) := by decide +kernel
theorem dL_law_183 : decode cL_law 183 = .ok (.invokevirtual 17, 3) := by decide +kernel
theorem dL_law_186 : decode cL_law 186 = .ok (.if_icmp .eq 627, 3) := by decide +kernel
theorem dL_law_189 : decode cL_law 189 = .ok (.iconst 0, 1) := by decide +kernel
theorem dL_law_190 : decode cL_law 190 = .ok (.ireturn, 1) := by decide +kernel
theorem dL_law_191 : decode cL_law 191 = .ok (.aload_n 1, 1) := by decide +kernel
theorem dL_law_192 : decode cL_law 192 = .ok (.aload_n 0, 1) := by decide +kernel
theorem dL_law_193 : decode cL_law 193 = .ok (.iload_n 3, 1) := by decide +kernel
theorem dL_law_194 : decode cL_law 194 = .ok (.iconst 1, 1) := by decide +kernel
theorem dL_law_195 : decode cL_law 195 = .ok (.iadd, 1) := by decide +kernel
theorem dL_law_196 : decode cL_law 196 = .ok (.iaload, 1) := by decide +kernel
theorem dL_law_197 : decode cL_law 197 = .ok (.aload_n 0, 1) := by decide +kernel
theorem dL_law_198 : decode cL_law 198 = .ok (.iload_n 3, 1) := by decide +kernel
theorem dL_law_199 : decode cL_law 199 = .ok (.iconst 2, 1) := by decide +kernel
theorem dL_law_200 : decode cL_law 200 = .ok (.iadd, 1) := by decide +kernel
theorem dL_law_201 : decode cL_law 201 = .ok (.iaload, 1) := by decide +kernel
theorem dL_law_202 : decode cL_law 202 = .ok (.invokevirtual 18, 3) := by decide +kernel
theorem dL_law_205 : decode cL_law 205 = .ok (.aload_n 2, 1) := by decide +kernel
theorem dL_law_206 : decode cL_law 206 = .ok (.aload_n 0, 1) := by decide +kernel
theorem dL_law_207 : decode cL_law 207 = .ok (.iload_n 3, 1) := by decide +kernel
theorem dL_law_208 : decode cL_law 208 = .ok (.iconst 1, 1) := by decide +kernel
theorem dL_law_209 : decode cL_law 209 = .ok (.iadd, 1) := by decide +kernel
theorem dL_law_210 : decode cL_law 210 = .ok (.iaload, 1) := by decide +kernel
theorem dL_law_211 : decode cL_law 211 = .ok (.aload_n 0, 1) := by decide +kernel
theorem dL_law_212 : decode cL_law 212 = .ok (.iload_n 3, 1) := by decide +kernel
theorem dL_law_213 : decode cL_law 213 = .ok (.iconst 2, 1) := by decide +kernel
theorem dL_law_214 : decode cL_law 214 = .ok (.iadd, 1) := by decide +kernel
theorem dL_law_215 : decode cL_law 215 = .ok (.iaload, 1) := by decide +kernel
theorem dL_law_216 : decode cL_law 216 = .ok (.invokevirtual 22, 3) := by decide +kernel
theorem dL_law_219 : decode cL_law 219 = .ok (.if_icmp .eq 594, 3) := by decide +kernel
theorem dL_law_222 : decode cL_law 222 = .ok (.iconst 0, 1) := by decide +kernel
theorem dL_law_223 : decode cL_law 223 = .ok (.ireturn, 1) := by decide +kernel
theorem dL_law_224 : decode cL_law 224 = .ok (.aload_n 1, 1) := by decide +kernel
theorem dL_law_225 : decode cL_law 225 = .ok (.aload_n 0, 1) := by decide +kernel
theorem dL_law_226 : decode cL_law 226 = .ok (.iload_n 3, 1) := by decide +kernel
theorem dL_law_227 : decode cL_law 227 = .ok (.iconst 1, 1) := by decide +kernel
theorem dL_law_228 : decode cL_law 228 = .ok (.iadd, 1) := by decide +kernel
theorem dL_law_229 : decode cL_law 229 = .ok (.iaload, 1) := by decide +kernel
theorem dL_law_230 : decode cL_law 230 = .ok (.invokevirtual 23, 3) := by decide +kernel
theorem dL_law_233 : decode cL_law 233 = .ok (.aload_n 2, 1) := by decide +kernel
theorem dL_law_234 : decode cL_law 234 = .ok (.aload_n 0, 1) := by decide +kernel
theorem dL_law_235 : decode cL_law 235 = .ok (.iload_n 3, 1) := by decide +kernel
theorem dL_law_236 : decode cL_law 236 = .ok (.iconst 1, 1) := by decide +kernel
theorem dL_law_237 : decode cL_law 237 = .ok (.iadd, 1) := by decide +kernel
theorem dL_law_238 : decode cL_law 238 = .ok (.iaload, 1) := by decide +kernel
theorem dL_law_239 : decode cL_law 239 = .ok (.invokevirtual 27, 3) := by decide +kernel
theorem dL_law_242 : decode cL_law 242 = .ok (.if_icmp .eq 571, 3) := by decide +kernel
theorem dL_law_245 : decode cL_law 245 = .ok (.iconst 0, 1) := by decide +kernel
theorem dL_law_246 : decode cL_law 246 = .ok (.ireturn, 1) := by decide +kernel
theorem dL_law_247 : decode cL_law 247 = .ok (.aload_n 1, 1) := by decide +kernel
theorem dL_law_248 : decode cL_law 248 = .ok (.aload_n 0, 1) := by decide +kernel
theorem dL_law_249 : decode cL_law 249 = .ok (.iload_n 3, 1) := by decide +kernel
theorem dL_law_250 : decode cL_law 250 = .ok (.iconst 1, 1) := by decide +kernel
theorem dL_law_251 : decode cL_law 251 = .ok (.iadd, 1) := by decide +kernel
theorem dL_law_252 : decode cL_law 252 = .ok (.iaload, 1) := by decide +kernel
theorem dL_law_253 : decode cL_law 253 = .ok (.aload_n 0, 1) := by decide +kernel
theorem dL_law_254 : decode cL_law 254 = .ok (.iload_n 3, 1) := by decide +kernel
theorem dL_law_255 : decode cL_law 255 = .ok (.iconst 2, 1) := by decide +kernel
theorem dL_law_256 : decode cL_law 256 = .ok (.iadd, 1) := by decide +kernel
theorem dL_law_257 : decode cL_law 257 = .ok (.iaload, 1) := by decide +kernel
theorem dL_law_258 : decode cL_law 258 = .ok (.invokevirtual 28, 3) := by decide +kernel
theorem dL_law_261 : decode cL_law 261 = .ok (.aload_n 2, 1) := by decide +kernel
theorem dL_law_262 : decode cL_law 262 = .ok (.aload_n 0, 1) := by decide +kernel
theorem dL_law_263 : decode cL_law 263 = .ok (.iload_n 3, 1) := by decide +kernel
theorem dL_law_264 : decode cL_law 264 = .ok (.iconst 1, 1) := by decide +kernel
theorem dL_law_265 : decode cL_law 265 = .ok (.iadd, 1) := by decide +kernel
theorem dL_law_266 : decode cL_law 266 = .ok (.iaload, 1) := by decide +kernel
theorem dL_law_267 : decode cL_law 267 = .ok (.aload_n 0, 1) := by decide +kernel
theorem dL_law_268 : decode cL_law 268 = .ok (.iload_n 3, 1) := by decide +kernel
theorem dL_law_269 : decode cL_law 269 = .ok (.iconst 2, 1) := by decide +kernel
theorem dL_law_270 : decode cL_law 270 = .ok (.iadd, 1) := by decide +kernel
theorem dL_law_271 : decode cL_law 271 = .ok (.iaload, 1) := by decide +kernel
theorem dL_law_272 : decode cL_law 272 = .ok (.invokevirtual 31, 3) := by decide +kernel
theorem dL_law_275 : decode cL_law 275 = .ok (.if_icmp .eq 538, 3) := by decide +kernel
theorem dL_law_278 : decode cL_law 278 = .ok (.iconst 0, 1) := by decide +kernel
theorem dL_law_279 : decode cL_law 279 = .ok (.ireturn, 1) := by decide +kernel
theorem dL_law_280 : decode cL_law 280 = .ok (.aload_n 1, 1) := by decide +kernel
theorem dL_law_281 : decode cL_law 281 = .ok (.aload_n 0, 1) := by decide +kernel
theorem dL_law_282 : decode cL_law 282 = .ok (.iload_n 3, 1) := by decide +kernel
theorem dL_law_283 : decode cL_law 283 = .ok (.iconst 1, 1) := by decide +kernel
theorem dL_law_284 : decode cL_law 284 = .ok (.iadd, 1) := by decide +kernel
theorem dL_law_285 : decode cL_law 285 = .ok (.iaload, 1) := by decide +kernel
theorem dL_law_286 : decode cL_law 286 = .ok (.aload_n 0, 1) := by decide +kernel
theorem dL_law_287 : decode cL_law 287 = .ok (.iload_n 3, 1) := by decide +kernel
theorem dL_law_288 : decode cL_law 288 = .ok (.iconst 2, 1) := by decide +kernel
theorem dL_law_289 : decode cL_law 289 = .ok (.iadd, 1) := by decide +kernel
theorem dL_law_290 : decode cL_law 290 = .ok (.iaload, 1) := by decide +kernel
theorem dL_law_291 : decode cL_law 291 = .ok (.aload_n 0, 1) := by decide +kernel
theorem dL_law_292 : decode cL_law 292 = .ok (.iload_n 3, 1) := by decide +kernel
theorem dL_law_293 : decode cL_law 293 = .ok (.iconst 3, 1) := by decide +kernel
theorem dL_law_294 : decode cL_law 294 = .ok (.iadd, 1) := by decide +kernel
theorem dL_law_295 : decode cL_law 295 = .ok (.iaload, 1) := by decide +kernel
theorem dL_law_296 : decode cL_law 296 = .ok (.invokevirtual 32, 3) := by decide +kernel
theorem dL_law_299 : decode cL_law 299 = .ok (.aload_n 2, 1) := by decide +kernel
theorem dL_law_300 : decode cL_law 300 = .ok (.aload_n 0, 1) := by decide +kernel
theorem dL_law_301 : decode cL_law 301 = .ok (.iload_n 3, 1) := by decide +kernel
theorem dL_law_302 : decode cL_law 302 = .ok (.iconst 1, 1) := by decide +kernel
theorem dL_law_303 : decode cL_law 303 = .ok (.iadd, 1) := by decide +kernel
theorem dL_law_304 : decode cL_law 304 = .ok (.iaload, 1) := by decide +kernel
theorem dL_law_305 : decode cL_law 305 = .ok (.aload_n 0, 1) := by decide +kernel
theorem dL_law_306 : decode cL_law 306 = .ok (.iload_n 3, 1) := by decide +kernel
theorem dL_law_307 : decode cL_law 307 = .ok (.iconst 2, 1) := by decide +kernel
theorem dL_law_308 : decode cL_law 308 = .ok (.iadd, 1) := by decide +kernel
theorem dL_law_309 : decode cL_law 309 = .ok (.iaload, 1) := by decide +kernel
theorem dL_law_310 : decode cL_law 310 = .ok (.aload_n 0, 1) := by decide +kernel
theorem dL_law_311 : decode cL_law 311 = .ok (.iload_n 3, 1) := by decide +kernel
theorem dL_law_312 : decode cL_law 312 = .ok (.iconst 3, 1) := by decide +kernel
theorem dL_law_313 : decode cL_law 313 = .ok (.iadd, 1) := by decide +kernel
theorem dL_law_314 : decode cL_law 314 = .ok (.iaload, 1) := by decide +kernel
theorem dL_law_315 : decode cL_law 315 = .ok (.invokevirtual 35, 3) := by decide +kernel
theorem dL_law_318 : decode cL_law 318 = .ok (.if_icmp .eq 495, 3) := by decide +kernel
theorem dL_law_321 : decode cL_law 321 = .ok (.iconst 0, 1) := by decide +kernel
theorem dL_law_322 : decode cL_law 322 = .ok (.ireturn, 1) := by decide +kernel
theorem dL_law_323 : decode cL_law 323 = .ok (.aload_n 1, 1) := by decide +kernel
theorem dL_law_324 : decode cL_law 324 = .ok (.aload_n 0, 1) := by decide +kernel
theorem dL_law_325 : decode cL_law 325 = .ok (.iload_n 3, 1) := by decide +kernel
theorem dL_law_326 : decode cL_law 326 = .ok (.iconst 1, 1) := by decide +kernel
theorem dL_law_327 : decode cL_law 327 = .ok (.iadd, 1) := by decide +kernel
theorem dL_law_328 : decode cL_law 328 = .ok (.iaload, 1) := by decide +kernel
theorem dL_law_329 : decode cL_law 329 = .ok (.aload_n 0, 1) := by decide +kernel
theorem dL_law_330 : decode cL_law 330 = .ok (.iload_n 3, 1) := by decide +kernel
theorem dL_law_331 : decode cL_law 331 = .ok (.iconst 2, 1) := by decide +kernel
theorem dL_law_332 : decode cL_law 332 = .ok (.iadd, 1) := by decide +kernel
theorem dL_law_333 : decode cL_law 333 = .ok (.iaload, 1) := by decide +kernel
theorem dL_law_334 : decode cL_law 334 = .ok (.invokevirtual 36, 3) := by decide +kernel
theorem dL_law_337 : decode cL_law 337 = .ok (.aload_n 2, 1) := by decide +kernel
theorem dL_law_338 : decode cL_law 338 = .ok (.aload_n 0, 1) := by decide +kernel
theorem dL_law_339 : decode cL_law 339 = .ok (.iload_n 3, 1) := by decide +kernel
theorem dL_law_340 : decode cL_law 340 = .ok (.iconst 1, 1) := by decide +kernel
theorem dL_law_341 : decode cL_law 341 = .ok (.iadd, 1) := by decide +kernel
theorem dL_law_342 : decode cL_law 342 = .ok (.iaload, 1) := by decide +kernel
theorem dL_law_343 : decode cL_law 343 = .ok (.aload_n 0, 1) := by decide +kernel
theorem dL_law_344 : decode cL_law 344 = .ok (.iload_n 3, 1) := by decide +kernel
theorem dL_law_345 : decode cL_law 345 = .ok (.iconst 2, 1) := by decide +kernel
theorem dL_law_346 : decode cL_law 346 = .ok (.iadd, 1) := by decide +kernel
theorem dL_law_347 : decode cL_law 347 = .ok (.iaload, 1) := by decide +kernel
theorem dL_law_348 : decode cL_law 348 = .ok (.invokevirtual 39, 3) := by decide +kernel
theorem dL_law_351 : decode cL_law 351 = .ok (.if_icmp .eq 462, 3) := by decide +kernel
theorem dL_law_354 : decode cL_law 354 = .ok (.iconst 0, 1) := by decide +kernel
theorem dL_law_355 : decode cL_law 355 = .ok (.ireturn, 1) := by decide +kernel
theorem dL_law_356 : decode cL_law 356 = .ok (.aload_n 1, 1) := by decide +kernel
theorem dL_law_357 : decode cL_law 357 = .ok (.aload_n 0, 1) := by decide +kernel
theorem dL_law_358 : decode cL_law 358 = .ok (.iload_n 3, 1) := by decide +kernel
theorem dL_law_359 : decode cL_law 359 = .ok (.iconst 1, 1) := by decide +kernel
theorem dL_law_360 : decode cL_law 360 = .ok (.iadd, 1) := by decide +kernel
theorem dL_law_361 : decode cL_law 361 = .ok (.iaload, 1) := by decide +kernel
theorem dL_law_362 : decode cL_law 362 = .ok (.aload_n 0, 1) := by decide +kernel
theorem dL_law_363 : decode cL_law 363 = .ok (.iload_n 3, 1) := by decide +kernel
theorem dL_law_364 : decode cL_law 364 = .ok (.iconst 2, 1) := by decide +kernel
theorem dL_law_365 : decode cL_law 365 = .ok (.iadd, 1) := by decide +kernel
theorem dL_law_366 : decode cL_law 366 = .ok (.iaload, 1) := by decide +kernel
theorem dL_law_367 : decode cL_law 367 = .ok (.invokevirtual 40, 3) := by decide +kernel
theorem dL_law_370 : decode cL_law 370 = .ok (.aload_n 2, 1) := by decide +kernel
theorem dL_law_371 : decode cL_law 371 = .ok (.aload_n 0, 1) := by decide +kernel
theorem dL_law_372 : decode cL_law 372 = .ok (.iload_n 3, 1) := by decide +kernel
theorem dL_law_373 : decode cL_law 373 = .ok (.iconst 1, 1) := by decide +kernel
theorem dL_law_374 : decode cL_law 374 = .ok (.iadd, 1) := by decide +kernel
theorem dL_law_375 : decode cL_law 375 = .ok (.iaload, 1) := by decide +kernel
theorem dL_law_376 : decode cL_law 376 = .ok (.aload_n 0, 1) := by decide +kernel
theorem dL_law_377 : decode cL_law 377 = .ok (.iload_n 3, 1) := by decide +kernel
theorem dL_law_378 : decode cL_law 378 = .ok (.iconst 2, 1) := by decide +kernel
theorem dL_law_379 : decode cL_law 379 = .ok (.iadd, 1) := by decide +kernel
theorem dL_law_380 : decode cL_law 380 = .ok (.iaload, 1) := by decide +kernel
theorem dL_law_381 : decode cL_law 381 = .ok (.invokevirtual 43, 3) := by decide +kernel
theorem dL_law_384 : decode cL_law 384 = .ok (.if_icmp .eq 429, 3) := by decide +kernel
theorem dL_law_387 : decode cL_law 387 = .ok (.iconst 0, 1) := by decide +kernel
theorem dL_law_388 : decode cL_law 388 = .ok (.ireturn, 1) := by decide +kernel
theorem dL_law_389 : decode cL_law 389 = .ok (.aload_n 1, 1) := by decide +kernel
theorem dL_law_390 : decode cL_law 390 = .ok (.aload_n 0, 1) := by decide +kernel
theorem dL_law_391 : decode cL_law 391 = .ok (.iload_n 3, 1) := by decide +kernel
theorem dL_law_392 : decode cL_law 392 = .ok (.iconst 1, 1) := by decide +kernel
theorem dL_law_393 : decode cL_law 393 = .ok (.iadd, 1) := by decide +kernel
theorem dL_law_394 : decode cL_law 394 = .ok (.iaload, 1) := by decide +kernel
theorem dL_law_395 : decode cL_law 395 = .ok (.invokevirtual 44, 3) := by decide +kernel
theorem dL_law_398 : decode cL_law 398 = .ok (.aload_n 2, 1) := by decide +kernel
theorem dL_law_399 : decode cL_law 399 = .ok (.aload_n 0, 1) := by decide +kernel
theorem dL_law_400 : decode cL_law 400 = .ok (.iload_n 3, 1) := by decide +kernel
theorem dL_law_401 : decode cL_law 401 = .ok (.iconst 1, 1) := by decide +kernel
theorem dL_law_402 : decode cL_law 402 = .ok (.iadd, 1) := by decide +kernel
theorem dL_law_403 : decode cL_law 403 = .ok (.iaload, 1) := by decide +kernel
theorem dL_law_404 : decode cL_law 404 = .ok (.invokevirtual 47, 3) := by decide +kernel
theorem dL_law_407 : decode cL_law 407 = .ok (.if_icmp .eq 406, 3) := by decide +kernel
theorem dL_law_410 : decode cL_law 410 = .ok (.iconst 0, 1) := by decide +kernel
theorem dL_law_411 : decode cL_law 411 = .ok (.ireturn, 1) := by decide +kernel
theorem dL_law_412 : decode cL_law 412 = .ok (.aload_n 1, 1) := by decide +kernel
theorem dL_law_413 : decode cL_law 413 = .ok (.aload_n 0, 1) := by decide +kernel
theorem dL_law_414 : decode cL_law 414 = .ok (.iload_n 3, 1) := by decide +kernel
theorem dL_law_415 : decode cL_law 415 = .ok (.iconst 1, 1) := by decide +kernel
theorem dL_law_416 : decode cL_law 416 = .ok (.iadd, 1) := by decide +kernel
theorem dL_law_417 : decode cL_law 417 = .ok (.iaload, 1) := by decide +kernel
theorem dL_law_418 : decode cL_law 418 = .ok (.aload_n 0, 1) := by decide +kernel
theorem dL_law_419 : decode cL_law 419 = .ok (.iload_n 3, 1) := by decide +kernel
theorem dL_law_420 : decode cL_law 420 = .ok (.iconst 2, 1) := by decide +kernel
theorem dL_law_421 : decode cL_law 421 = .ok (.iadd, 1) := by decide +kernel
theorem dL_law_422 : decode cL_law 422 = .ok (.iaload, 1) := by decide +kernel
theorem dL_law_423 : decode cL_law 423 = .ok (.invokevirtual 48, 3) := by decide +kernel
theorem dL_law_426 : decode cL_law 426 = .ok (.aload_n 2, 1) := by decide +kernel
theorem dL_law_427 : decode cL_law 427 = .ok (.aload_n 0, 1) := by decide +kernel
theorem dL_law_428 : decode cL_law 428 = .ok (.iload_n 3, 1) := by decide +kernel
theorem dL_law_429 : decode cL_law 429 = .ok (.iconst 1, 1) := by decide +kernel
theorem dL_law_430 : decode cL_law 430 = .ok (.iadd, 1) := by decide +kernel
theorem dL_law_431 : decode cL_law 431 = .ok (.iaload, 1) := by decide +kernel
theorem dL_law_432 : decode cL_law 432 = .ok (.aload_n 0, 1) := by decide +kernel
theorem dL_law_433 : decode cL_law 433 = .ok (.iload_n 3, 1) := by decide +kernel
theorem dL_law_434 : decode cL_law 434 = .ok (.iconst 2, 1) := by decide +kernel
theorem dL_law_435 : decode cL_law 435 = .ok (.iadd, 1) := by decide +kernel
theorem dL_law_436 : decode cL_law 436 = .ok (.iaload, 1) := by decide +kernel
theorem dL_law_437 : decode cL_law 437 = .ok (.invokevirtual 51, 3) := by decide +kernel
theorem dL_law_440 : decode cL_law 440 = .ok (.if_icmp .eq 373, 3) := by decide +kernel
theorem dL_law_443 : decode cL_law 443 = .ok (.iconst 0, 1) := by decide +kernel
theorem dL_law_444 : decode cL_law 444 = .ok (.ireturn, 1) := by decide +kernel
theorem dL_law_445 : decode cL_law 445 = .ok (.aload_n 1, 1) := by decide +kernel
theorem dL_law_446 : decode cL_law 446 = .ok (.aload_n 0, 1) := by decide +kernel
theorem dL_law_447 : decode cL_law 447 = .ok (.iload_n 3, 1) := by decide +kernel
theorem dL_law_448 : decode cL_law 448 = .ok (.iconst 1, 1) := by decide +kernel
theorem dL_law_449 : decode cL_law 449 = .ok (.iadd, 1) := by decide +kernel
theorem dL_law_450 : decode cL_law 450 = .ok (.iaload, 1) := by decide +kernel
theorem dL_law_451 : decode cL_law 451 = .ok (.aload_n 0, 1) := by decide +kernel
theorem dL_law_452 : decode cL_law 452 = .ok (.iload_n 3, 1) := by decide +kernel
theorem dL_law_453 : decode cL_law 453 = .ok (.iconst 2, 1) := by decide +kernel
theorem dL_law_454 : decode cL_law 454 = .ok (.iadd, 1) := by decide +kernel
theorem dL_law_455 : decode cL_law 455 = .ok (.iaload, 1) := by decide +kernel
theorem dL_law_456 : decode cL_law 456 = .ok (.aload_n 0, 1) := by decide +kernel
theorem dL_law_457 : decode cL_law 457 = .ok (.iload_n 3, 1) := by decide +kernel
theorem dL_law_458 : decode cL_law 458 = .ok (.iconst 3, 1) := by decide +kernel
theorem dL_law_459 : decode cL_law 459 = .ok (.iadd, 1) := by decide +kernel
theorem dL_law_460 : decode cL_law 460 = .ok (.iaload, 1) := by decide +kernel
theorem dL_law_461 : decode cL_law 461 = .ok (.invokevirtual 52, 3) := by decide +kernel
theorem dL_law_464 : decode cL_law 464 = .ok (.aload_n 2, 1) := by decide +kernel
theorem dL_law_465 : decode cL_law 465 = .ok (.aload_n 0, 1) := by decide +kernel
theorem dL_law_466 : decode cL_law 466 = .ok (.iload_n 3, 1) := by decide +kernel
theorem dL_law_467 : decode cL_law 467 = .ok (.iconst 1, 1) := by decide +kernel
theorem dL_law_468 : decode cL_law 468 = .ok (.iadd, 1) := by decide +kernel
theorem dL_law_469 : decode cL_law 469 = .ok (.iaload, 1) := by decide +kernel
theorem dL_law_470 : decode cL_law 470 = .ok (.aload_n 0, 1) := by decide +kernel
theorem dL_law_471 : decode cL_law 471 = .ok (.iload_n 3, 1) := by decide +kernel
theorem dL_law_472 : decode cL_law 472 = .ok (.iconst 2, 1) := by decide +kernel
theorem dL_law_473 : decode cL_law 473 = .ok (.iadd, 1) := by decide +kernel
theorem dL_law_474 : decode cL_law 474 = .ok (.iaload, 1) := by decide +kernel
theorem dL_law_475 : decode cL_law 475 = .ok (.aload_n 0, 1) := by decide +kernel
theorem dL_law_476 : decode cL_law 476 = .ok (.iload_n 3, 1) := by decide +kernel
theorem dL_law_477 : decode cL_law 477 = .ok (.iconst 3, 1) := by decide +kernel
theorem dL_law_478 : decode cL_law 478 = .ok (.iadd, 1) := by decide +kernel
theorem dL_law_479 : decode cL_law 479 = .ok (.iaload, 1) := by decide +kernel
theorem dL_law_480 : decode cL_law 480 = .ok (.invokevirtual 55, 3) := by decide +kernel
theorem dL_law_483 : decode cL_law 483 = .ok (.if_icmp .eq 330, 3) := by decide +kernel
theorem dL_law_486 : decode cL_law 486 = .ok (.iconst 0, 1) := by decide +kernel
theorem dL_law_487 : decode cL_law 487 = .ok (.ireturn, 1) := by decide +kernel
theorem dL_law_488 : decode cL_law 488 = .ok (.aload_n 1, 1) := by decide +kernel
theorem dL_law_489 : decode cL_law 489 = .ok (.aload_n 0, 1) := by decide +kernel
theorem dL_law_490 : decode cL_law 490 = .ok (.iload_n 3, 1) := by decide +kernel
theorem dL_law_491 : decode cL_law 491 = .ok (.iconst 1, 1) := by decide +kernel
theorem dL_law_492 : decode cL_law 492 = .ok (.iadd, 1) := by decide +kernel
theorem dL_law_493 : decode cL_law 493 = .ok (.iaload, 1) := by decide +kernel
theorem dL_law_494 : decode cL_law 494 = .ok (.aload_n 0, 1) := by decide +kernel
theorem dL_law_495 : decode cL_law 495 = .ok (.iload_n 3, 1) := by decide +kernel
theorem dL_law_496 : decode cL_law 496 = .ok (.iconst 2, 1) := by decide +kernel
theorem dL_law_497 : decode cL_law 497 = .ok (.iadd, 1) := by decide +kernel
theorem dL_law_498 : decode cL_law 498 = .ok (.iaload, 1) := by decide +kernel
theorem dL_law_499 : decode cL_law 499 = .ok (.aload_n 0, 1) := by decide +kernel
theorem dL_law_500 : decode cL_law 500 = .ok (.iload_n 3, 1) := by decide +kernel
theorem dL_law_501 : decode cL_law 501 = .ok (.iconst 3, 1) := by decide +kernel
theorem dL_law_502 : decode cL_law 502 = .ok (.iadd, 1) := by decide +kernel
theorem dL_law_503 : decode cL_law 503 = .ok (.iaload, 1) := by decide +kernel
theorem dL_law_504 : decode cL_law 504 = .ok (.invokevirtual 56, 3) := by decide +kernel
theorem dL_law_507 : decode cL_law 507 = .ok (.aload_n 2, 1) := by decide +kernel
theorem dL_law_508 : decode cL_law 508 = .ok (.aload_n 0, 1) := by decide +kernel
theorem dL_law_509 : decode cL_law 509 = .ok (.iload_n 3, 1) := by decide +kernel
theorem dL_law_510 : decode cL_law 510 = .ok (.iconst 1, 1) := by decide +kernel
theorem dL_law_511 : decode cL_law 511 = .ok (.iadd, 1) := by decide +kernel
theorem dL_law_512 : decode cL_law 512 = .ok (.iaload, 1) := by decide +kernel
theorem dL_law_513 : decode cL_law 513 = .ok (.aload_n 0, 1) := by decide +kernel
theorem dL_law_514 : decode cL_law 514 = .ok (.iload_n 3, 1) := by decide +kernel
theorem dL_law_515 : decode cL_law 515 = .ok (.iconst 2, 1) := by decide +kernel
theorem dL_law_516 : decode cL_law 516 = .ok (.iadd, 1) := by decide +kernel
theorem dL_law_517 : decode cL_law 517 = .ok (.iaload, 1) := by decide +kernel
theorem dL_law_518 : decode cL_law 518 = .ok (.aload_n 0, 1) := by decide +kernel
theorem dL_law_519 : decode cL_law 519 = .ok (.iload_n 3, 1) := by decide +kernel
theorem dL_law_520 : decode cL_law 520 = .ok (.iconst 3, 1) := by decide +kernel
theorem dL_law_521 : decode cL_law 521 = .ok (.iadd, 1) := by decide +kernel
theorem dL_law_522 : decode cL_law 522 = .ok (.iaload, 1) := by decide +kernel
theorem dL_law_523 : decode cL_law 523 = .ok (.invokevirtual 59, 3) := by decide +kernel
theorem dL_law_526 : decode cL_law 526 = .ok (.if_icmp .eq 287, 3) := by decide +kernel
theorem dL_law_529 : decode cL_law 529 = .ok (.iconst 0, 1) := by decide +kernel
theorem dL_law_530 : decode cL_law 530 = .ok (.ireturn, 1) := by decide +kernel
theorem dL_law_531 : decode cL_law 531 = .ok (.aload_n 1, 1) := by decide +kernel
theorem dL_law_532 : decode cL_law 532 = .ok (.aload_n 0, 1) := by decide +kernel
theorem dL_law_533 : decode cL_law 533 = .ok (.iload_n 3, 1) := by decide +kernel
theorem dL_law_534 : decode cL_law 534 = .ok (.iconst 1, 1) := by decide +kernel
theorem dL_law_535 : decode cL_law 535 = .ok (.iadd, 1) := by decide +kernel
theorem dL_law_536 : decode cL_law 536 = .ok (.iaload, 1) := by decide +kernel
theorem dL_law_537 : decode cL_law 537 = .ok (.aload_n 0, 1) := by decide +kernel
theorem dL_law_538 : decode cL_law 538 = .ok (.iload_n 3, 1) := by decide +kernel
theorem dL_law_539 : decode cL_law 539 = .ok (.iconst 2, 1) := by decide +kernel
theorem dL_law_540 : decode cL_law 540 = .ok (.iadd, 1) := by decide +kernel
theorem dL_law_541 : decode cL_law 541 = .ok (.iaload, 1) := by decide +kernel
theorem dL_law_542 : decode cL_law 542 = .ok (.invokevirtual 60, 3) := by decide +kernel
theorem dL_law_545 : decode cL_law 545 = .ok (.aload_n 2, 1) := by decide +kernel
theorem dL_law_546 : decode cL_law 546 = .ok (.aload_n 0, 1) := by decide +kernel
theorem dL_law_547 : decode cL_law 547 = .ok (.iload_n 3, 1) := by decide +kernel
theorem dL_law_548 : decode cL_law 548 = .ok (.iconst 1, 1) := by decide +kernel
theorem dL_law_549 : decode cL_law 549 = .ok (.iadd, 1) := by decide +kernel
theorem dL_law_550 : decode cL_law 550 = .ok (.iaload, 1) := by decide +kernel
theorem dL_law_551 : decode cL_law 551 = .ok (.aload_n 0, 1) := by decide +kernel
theorem dL_law_552 : decode cL_law 552 = .ok (.iload_n 3, 1) := by decide +kernel
theorem dL_law_553 : decode cL_law 553 = .ok (.iconst 2, 1) := by decide +kernel
theorem dL_law_554 : decode cL_law 554 = .ok (.iadd, 1) := by decide +kernel
theorem dL_law_555 : decode cL_law 555 = .ok (.iaload, 1) := by decide +kernel
theorem dL_law_556 : decode cL_law 556 = .ok (.invokevirtual 63, 3) := by decide +kernel
theorem dL_law_559 : decode cL_law 559 = .ok (.if_icmp .eq 254, 3) := by decide +kernel
theorem dL_law_562 : decode cL_law 562 = .ok (.iconst 0, 1) := by decide +kernel
theorem dL_law_563 : decode cL_law 563 = .ok (.ireturn, 1) := by decide +kernel
theorem dL_law_564 : decode cL_law 564 = .ok (.aload_n 1, 1) := by decide +kernel
theorem dL_law_565 : decode cL_law 565 = .ok (.aload_n 0, 1) := by decide +kernel
theorem dL_law_566 : decode cL_law 566 = .ok (.iload_n 3, 1) := by decide +kernel
theorem dL_law_567 : decode cL_law 567 = .ok (.iconst 1, 1) := by decide +kernel
theorem dL_law_568 : decode cL_law 568 = .ok (.iadd, 1) := by decide +kernel
theorem dL_law_569 : decode cL_law 569 = .ok (.iaload, 1) := by decide +kernel
theorem dL_law_570 : decode cL_law 570 = .ok (.aload_n 0, 1) := by decide +kernel
theorem dL_law_571 : decode cL_law 571 = .ok (.iload_n 3, 1) := by decide +kernel
theorem dL_law_572 : decode cL_law 572 = .ok (.iconst 2, 1) := by decide +kernel
theorem dL_law_573 : decode cL_law 573 = .ok (.iadd, 1) := by decide +kernel
theorem dL_law_574 : decode cL_law 574 = .ok (.iaload, 1) := by decide +kernel
theorem dL_law_575 : decode cL_law 575 = .ok (.invokevirtual 64, 3) := by decide +kernel
theorem dL_law_578 : decode cL_law 578 = .ok (.aload_n 2, 1) := by decide +kernel
theorem dL_law_579 : decode cL_law 579 = .ok (.aload_n 0, 1) := by decide +kernel
theorem dL_law_580 : decode cL_law 580 = .ok (.iload_n 3, 1) := by decide +kernel
theorem dL_law_581 : decode cL_law 581 = .ok (.iconst 1, 1) := by decide +kernel
theorem dL_law_582 : decode cL_law 582 = .ok (.iadd, 1) := by decide +kernel
theorem dL_law_583 : decode cL_law 583 = .ok (.iaload, 1) := by decide +kernel
theorem dL_law_584 : decode cL_law 584 = .ok (.aload_n 0, 1) := by decide +kernel
theorem dL_law_585 : decode cL_law 585 = .ok (.iload_n 3, 1) := by decide +kernel
theorem dL_law_586 : decode cL_law 586 = .ok (.iconst 2, 1) := by decide +kernel
theorem dL_law_587 : decode cL_law 587 = .ok (.iadd, 1) := by decide +kernel
theorem dL_law_588 : decode cL_law 588 = .ok (.iaload, 1) := by decide +kernel
theorem dL_law_589 : decode cL_law 589 = .ok (.invokevirtual 67, 3) := by decide +kernel
theorem dL_law_592 : decode cL_law 592 = .ok (.if_icmp .eq 221, 3) := by decide +kernel
theorem dL_law_595 : decode cL_law 595 = .ok (.iconst 0, 1) := by decide +kernel
theorem dL_law_596 : decode cL_law 596 = .ok (.ireturn, 1) := by decide +kernel
theorem dL_law_597 : decode cL_law 597 = .ok (.aload_n 1, 1) := by decide +kernel
theorem dL_law_598 : decode cL_law 598 = .ok (.aload_n 0, 1) := by decide +kernel
theorem dL_law_599 : decode cL_law 599 = .ok (.iload_n 3, 1) := by decide +kernel
theorem dL_law_600 : decode cL_law 600 = .ok (.iconst 1, 1) := by decide +kernel
theorem dL_law_601 : decode cL_law 601 = .ok (.iadd, 1) := by decide +kernel
theorem dL_law_602 : decode cL_law 602 = .ok (.iaload, 1) := by decide +kernel
theorem dL_law_603 : decode cL_law 603 = .ok (.invokevirtual 68, 3) := by decide +kernel
theorem dL_law_606 : decode cL_law 606 = .ok (.aload_n 2, 1) := by decide +kernel
theorem dL_law_607 : decode cL_law 607 = .ok (.aload_n 0, 1) := by decide +kernel
theorem dL_law_608 : decode cL_law 608 = .ok (.iload_n 3, 1) := by decide +kernel
theorem dL_law_609 : decode cL_law 609 = .ok (.iconst 1, 1) := by decide +kernel
theorem dL_law_610 : decode cL_law 610 = .ok (.iadd, 1) := by decide +kernel
theorem dL_law_611 : decode cL_law 611 = .ok (.iaload, 1) := by decide +kernel
theorem dL_law_612 : decode cL_law 612 = .ok (.invokevirtual 71, 3) := by decide +kernel
theorem dL_law_615 : decode cL_law 615 = .ok (.if_icmp .eq 198, 3) := by decide +kernel
theorem dL_law_618 : decode cL_law 618 = .ok (.iconst 0, 1) := by decide +kernel
theorem dL_law_619 : decode cL_law 619 = .ok (.ireturn, 1) := by decide +kernel
theorem dL_law_620 : decode cL_law 620 = .ok (.aload_n 1, 1) := by decide +kernel
theorem dL_law_621 : decode cL_law 621 = .ok (.aload_n 0, 1) := by decide +kernel
theorem dL_law_622 : decode cL_law 622 = .ok (.iload_n 3, 1) := by decide +kernel
theorem dL_law_623 : decode cL_law 623 = .ok (.iconst 1, 1) := by decide +kernel
theorem dL_law_624 : decode cL_law 624 = .ok (.iadd, 1) := by decide +kernel
theorem dL_law_625 : decode cL_law 625 = .ok (.iaload, 1) := by decide +kernel
theorem dL_law_626 : decode cL_law 626 = .ok (.invokevirtual 72, 3) := by decide +kernel
theorem dL_law_629 : decode cL_law 629 = .ok (.aload_n 2, 1) := by decide +kernel
theorem dL_law_630 : decode cL_law 630 = .ok (.aload_n 0, 1) := by decide +kernel
theorem dL_law_631 : decode cL_law 631 = .ok (.iload_n 3, 1) := by decide +kernel
theorem dL_law_632 : decode cL_law 632 = .ok (.iconst 1, 1) := by decide +kernel
theorem dL_law_633 : decode cL_law 633 = .ok (.iadd, 1) := by decide +kernel
theorem dL_law_634 : decode cL_law 634 = .ok (.iaload, 1) := by decide +kernel
theorem dL_law_635 : decode cL_law 635 = .ok (.invokevirtual 75, 3) := by decide +kernel
theorem dL_law_638 : decode cL_law 638 = .ok (.if_icmp .eq 175, 3) := by decide +kernel
theorem dL_law_641 : decode cL_law 641 = .ok (.iconst 0, 1) := by decide +kernel
theorem dL_law_642 : decode cL_law 642 = .ok (.ireturn, 1) := by decide +kernel
theorem dL_law_643 : decode cL_law 643 = .ok (.aload_n 1, 1) := by decide +kernel
theorem dL_law_644 : decode cL_law 644 = .ok (.invokevirtual 76, 3) := by decide +kernel
theorem dL_law_647 : decode cL_law 647 = .ok (.aload_n 2, 1) := by decide +kernel
theorem dL_law_648 : decode cL_law 648 = .ok (.invokevirtual 80, 3) := by decide +kernel
theorem dL_law_651 : decode cL_law 651 = .ok (.if_icmp .eq 162, 3) := by decide +kernel
theorem dL_law_654 : decode cL_law 654 = .ok (.iconst 0, 1) := by decide +kernel
theorem dL_law_655 : decode cL_law 655 = .ok (.ireturn, 1) := by decide +kernel
theorem dL_law_656 : decode cL_law 656 = .ok (.aload_n 1, 1) := by decide +kernel
theorem dL_law_657 : decode cL_law 657 = .ok (.aload_n 0, 1) := by decide +kernel
theorem dL_law_658 : decode cL_law 658 = .ok (.iload_n 3, 1) := by decide +kernel
theorem dL_law_659 : decode cL_law 659 = .ok (.iconst 1, 1) := by decide +kernel
theorem dL_law_660 : decode cL_law 660 = .ok (.iadd, 1) := by decide +kernel
theorem dL_law_661 : decode cL_law 661 = .ok (.iaload, 1) := by decide +kernel
theorem dL_law_662 : decode cL_law 662 = .ok (.invokevirtual 81, 3) := by decide +kernel
theorem dL_law_665 : decode cL_law 665 = .ok (.aload_n 2, 1) := by decide +kernel
theorem dL_law_666 : decode cL_law 666 = .ok (.aload_n 0, 1) := by decide +kernel
theorem dL_law_667 : decode cL_law 667 = .ok (.iload_n 3, 1) := by decide +kernel
theorem dL_law_668 : decode cL_law 668 = .ok (.iconst 1, 1) := by decide +kernel
theorem dL_law_669 : decode cL_law 669 = .ok (.iadd, 1) := by decide +kernel
theorem dL_law_670 : decode cL_law 670 = .ok (.iaload, 1) := by decide +kernel
theorem dL_law_671 : decode cL_law 671 = .ok (.invokevirtual 84, 3) := by decide +kernel
theorem dL_law_674 : decode cL_law 674 = .ok (.if_icmp .eq 139, 3) := by decide +kernel
theorem dL_law_677 : decode cL_law 677 = .ok (.iconst 0, 1) := by decide +kernel
theorem dL_law_678 : decode cL_law 678 = .ok (.ireturn, 1) := by decide +kernel
theorem dL_law_679 : decode cL_law 679 = .ok (.aload_n 1, 1) := by decide +kernel
theorem dL_law_680 : decode cL_law 680 = .ok (.invokevirtual 85, 3) := by decide +kernel
theorem dL_law_683 : decode cL_law 683 = .ok (.aload_n 2, 1) := by decide +kernel
theorem dL_law_684 : decode cL_law 684 = .ok (.invokevirtual 88, 3) := by decide +kernel
theorem dL_law_687 : decode cL_law 687 = .ok (.if_icmp .eq 126, 3) := by decide +kernel
theorem dL_law_690 : decode cL_law 690 = .ok (.iconst 0, 1) := by decide +kernel
theorem dL_law_691 : decode cL_law 691 = .ok (.ireturn, 1) := by decide +kernel
theorem dL_law_692 : decode cL_law 692 = .ok (.aload_n 1, 1) := by decide +kernel
theorem dL_law_693 : decode cL_law 693 = .ok (.invokevirtual 89, 3) := by decide +kernel
theorem dL_law_696 : decode cL_law 696 = .ok (.aload_n 2, 1) := by decide +kernel
theorem dL_law_697 : decode cL_law 697 = .ok (.invokevirtual 92, 3) := by decide +kernel
theorem dL_law_700 : decode cL_law 700 = .ok (.if_icmp .eq 113, 3) := by decide +kernel
theorem dL_law_703 : decode cL_law 703 = .ok (.iconst 0, 1) := by decide +kernel
theorem dL_law_704 : decode cL_law 704 = .ok (.ireturn, 1) := by decide +kernel
theorem dL_law_705 : decode cL_law 705 = .ok (.aload_n 1, 1) := by decide +kernel
theorem dL_law_706 : decode cL_law 706 = .ok (.aload_n 0, 1) := by decide +kernel
theorem dL_law_707 : decode cL_law 707 = .ok (.iload_n 3, 1) := by decide +kernel
theorem dL_law_708 : decode cL_law 708 = .ok (.iconst 1, 1) := by decide +kernel
theorem dL_law_709 : decode cL_law 709 = .ok (.iadd, 1) := by decide +kernel
theorem dL_law_710 : decode cL_law 710 = .ok (.iaload, 1) := by decide +kernel
theorem dL_law_711 : decode cL_law 711 = .ok (.invokevirtual 93, 3) := by decide +kernel
theorem dL_law_714 : decode cL_law 714 = .ok (.aload_n 2, 1) := by decide +kernel
theorem dL_law_715 : decode cL_law 715 = .ok (.aload_n 0, 1) := by decide +kernel
theorem dL_law_716 : decode cL_law 716 = .ok (.iload_n 3, 1) := by decide +kernel
theorem dL_law_717 : decode cL_law 717 = .ok (.iconst 1, 1) := by decide +kernel
theorem dL_law_718 : decode cL_law 718 = .ok (.iadd, 1) := by decide +kernel
theorem dL_law_719 : decode cL_law 719 = .ok (.iaload, 1) := by decide +kernel
theorem dL_law_720 : decode cL_law 720 = .ok (.invokevirtual 96, 3) := by decide +kernel
theorem dL_law_723 : decode cL_law 723 = .ok (.if_icmp .eq 90, 3) := by decide +kernel
theorem dL_law_726 : decode cL_law 726 = .ok (.iconst 0, 1) := by decide +kernel
theorem dL_law_727 : decode cL_law 727 = .ok (.ireturn, 1) := by decide +kernel
theorem dL_law_728 : decode cL_law 728 = .ok (.aload_n 1, 1) := by decide +kernel
theorem dL_law_729 : decode cL_law 729 = .ok (.invokevirtual 97, 3) := by decide +kernel
theorem dL_law_732 : decode cL_law 732 = .ok (.aload_n 2, 1) := by decide +kernel
theorem dL_law_733 : decode cL_law 733 = .ok (.invokevirtual 100, 3) := by decide +kernel
theorem dL_law_736 : decode cL_law 736 = .ok (.if_icmp .eq 77, 3) := by decide +kernel
theorem dL_law_739 : decode cL_law 739 = .ok (.iconst 0, 1) := by decide +kernel
theorem dL_law_740 : decode cL_law 740 = .ok (.ireturn, 1) := by decide +kernel
theorem dL_law_741 : decode cL_law 741 = .ok (.aload_n 1, 1) := by decide +kernel
theorem dL_law_742 : decode cL_law 742 = .ok (.aload_n 0, 1) := by decide +kernel
theorem dL_law_743 : decode cL_law 743 = .ok (.iload_n 3, 1) := by decide +kernel
theorem dL_law_744 : decode cL_law 744 = .ok (.iconst 1, 1) := by decide +kernel
theorem dL_law_745 : decode cL_law 745 = .ok (.iadd, 1) := by decide +kernel
theorem dL_law_746 : decode cL_law 746 = .ok (.iaload, 1) := by decide +kernel
theorem dL_law_747 : decode cL_law 747 = .ok (.invokevirtual 101, 3) := by decide +kernel
theorem dL_law_750 : decode cL_law 750 = .ok (.aload_n 2, 1) := by decide +kernel
theorem dL_law_751 : decode cL_law 751 = .ok (.aload_n 0, 1) := by decide +kernel
theorem dL_law_752 : decode cL_law 752 = .ok (.iload_n 3, 1) := by decide +kernel
theorem dL_law_753 : decode cL_law 753 = .ok (.iconst 1, 1) := by decide +kernel
theorem dL_law_754 : decode cL_law 754 = .ok (.iadd, 1) := by decide +kernel
theorem dL_law_755 : decode cL_law 755 = .ok (.iaload, 1) := by decide +kernel
theorem dL_law_756 : decode cL_law 756 = .ok (.invokevirtual 104, 3) := by decide +kernel
theorem dL_law_759 : decode cL_law 759 = .ok (.if_icmp .eq 54, 3) := by decide +kernel
theorem dL_law_762 : decode cL_law 762 = .ok (.iconst 0, 1) := by decide +kernel
theorem dL_law_763 : decode cL_law 763 = .ok (.ireturn, 1) := by decide +kernel
theorem dL_law_764 : decode cL_law 764 = .ok (.aload_n 1, 1) := by decide +kernel
theorem dL_law_765 : decode cL_law 765 = .ok (.invokevirtual 105, 3) := by decide +kernel
theorem dL_law_768 : decode cL_law 768 = .ok (.aload_n 2, 1) := by decide +kernel
theorem dL_law_769 : decode cL_law 769 = .ok (.invokevirtual 108, 3) := by decide +kernel
theorem dL_law_772 : decode cL_law 772 = .ok (.if_icmp .eq 41, 3) := by decide +kernel
theorem dL_law_775 : decode cL_law 775 = .ok (.iconst 0, 1) := by decide +kernel
theorem dL_law_776 : decode cL_law 776 = .ok (.ireturn, 1) := by decide +kernel
theorem dL_law_777 : decode cL_law 777 = .ok (.aload_n 1, 1) := by decide +kernel
theorem dL_law_778 : decode cL_law 778 = .ok (.aload_n 0, 1) := by decide +kernel
theorem dL_law_779 : decode cL_law 779 = .ok (.iload_n 3, 1) := by decide +kernel
theorem dL_law_780 : decode cL_law 780 = .ok (.iconst 1, 1) := by decide +kernel
theorem dL_law_781 : decode cL_law 781 = .ok (.iadd, 1) := by decide +kernel
theorem dL_law_782 : decode cL_law 782 = .ok (.iaload, 1) := by decide +kernel
theorem dL_law_783 : decode cL_law 783 = .ok (.invokevirtual 109, 3) := by decide +kernel
theorem dL_law_786 : decode cL_law 786 = .ok (.aload_n 2, 1) := by decide +kernel
theorem dL_law_787 : decode cL_law 787 = .ok (.aload_n 0, 1) := by decide +kernel
theorem dL_law_788 : decode cL_law 788 = .ok (.iload_n 3, 1) := by decide +kernel
theorem dL_law_789 : decode cL_law 789 = .ok (.iconst 1, 1) := by decide +kernel
theorem dL_law_790 : decode cL_law 790 = .ok (.iadd, 1) := by decide +kernel
theorem dL_law_791 : decode cL_law 791 = .ok (.iaload, 1) := by decide +kernel
theorem dL_law_792 : decode cL_law 792 = .ok (.invokevirtual 112, 3) := by decide +kernel
theorem dL_law_795 : decode cL_law 795 = .ok (.if_icmp .eq 18, 3) := by decide +kernel
theorem dL_law_798 : decode cL_law 798 = .ok (.iconst 0, 1) := by decide +kernel
theorem dL_law_799 : decode cL_law 799 = .ok (.ireturn, 1) := by decide +kernel
theorem dL_law_800 : decode cL_law 800 = .ok (.aload_n 1, 1) := by decide +kernel
theorem dL_law_801 : decode cL_law 801 = .ok (.invokevirtual 113, 3) := by decide +kernel
theorem dL_law_804 : decode cL_law 804 = .ok (.aload_n 2, 1) := by decide +kernel
theorem dL_law_805 : decode cL_law 805 = .ok (.invokevirtual 116, 3) := by decide +kernel
theorem dL_law_808 : decode cL_law 808 = .ok (.if_icmp .eq 5, 3) := by decide +kernel
theorem dL_law_811 : decode cL_law 811 = .ok (.iconst 0, 1) := by decide +kernel
theorem dL_law_812 : decode cL_law 812 = .ok (.ireturn, 1) := by decide +kernel
theorem dL_law_813 : decode cL_law 813 = .ok (.iinc 3 4, 3) := by decide +kernel
theorem dL_law_816 : decode cL_law 816 = .ok (.goto (-798), 3) := by decide +kernel
theorem dL_law_819 : decode cL_law 819 = .ok (.iconst 1, 1) := by decide +kernel
theorem dL_law_820 : decode cL_law 820 = .ok (.ireturn, 1) := by decide +kernel
