theorem dX2_type_8 : decode cX2_type 8 = .ok (.ireturn, 1) := by decide +kernel
theorem dX2_clearText_0 : decode cX2_clearText 0 = .ok (.aload_n 0, 1) := by decide +kernel
theorem dX2_clearText_1 : decode cX2_clearText 1 = .ok (.getfield 29, 3) := by decide +kernel
theorem dX2_clearText_4 : decode cX2_clearText 4 = .ok (.invokevirtual 131, 3) := by decide +kernel
theorem dX2_clearText_7 : decode cX2_clearText 7 = .ok (.ireturn, 1) := by decide +kernel
theorem dX2_fault_0 : decode cX2_fault 0 = .ok (.iload_n 1, 1) := by decide +kernel
theorem dX2_fault_1 : decode cX2_fault 1 = .ok (.iconst 0, 1) := by decide +kernel
theorem dX2_fault_2 : decode cX2_fault 2 = .ok (.iconst 2, 1) := by decide +kernel
theorem dX2_fault_3 : decode cX2_fault 3 = .ok (.invokestatic 82, 3) := by decide +kernel
theorem dX2_fault_6 : decode cX2_fault 6 = .ok (.ifCond .eq 6, 3) := by decide +kernel
theorem dX2_fault_9 : decode cX2_fault 9 = .ok (.ldc 86, 2) := by decide +kernel
theorem dX2_fault_11 : decode cX2_fault 11 = .ok (.ireturn, 1) := by decide +kernel
theorem dX2_fault_12 : decode cX2_fault 12 = .ok (.aload_n 0, 1) := by decide +kernel
theorem dX2_fault_13 : decode cX2_fault 13 = .ok (.invokevirtual 134, 3) := by decide +kernel
theorem dX2_fault_16 : decode cX2_fault 16 = .ok (.ifCond .ne 6, 3) := by decide +kernel
theorem dX2_fault_19 : decode cX2_fault 19 = .ok (.ldc 91, 2) := by decide +kernel
theorem dX2_fault_21 : decode cX2_fault 21 = .ok (.ireturn, 1) := by decide +kernel
theorem dX2_fault_22 : decode cX2_fault 22 = .ok (.iload_n 1, 1) := by decide +kernel
theorem dX2_fault_23 : decode cX2_fault 23 = .ok (.lookupswitch 35 #[(0, 25), (1, 30)], 25) := by decide +kernel
theorem dX2_fault_48 : decode cX2_fault 48 = .ok (.aload_n 0, 1) := by decide +kernel
theorem dX2_fault_49 : decode cX2_fault 49 = .ok (.getfield 138, 3) := by decide +kernel
theorem dX2_fault_52 : decode cX2_fault 52 = .ok (.ireturn, 1) := by decide +kernel
theorem dX2_fault_53 : decode cX2_fault 53 = .ok (.aload_n 0, 1) := by decide +kernel
theorem dX2_fault_54 : decode cX2_fault 54 = .ok (.getfield 141, 3) := by decide +kernel
theorem dX2_fault_57 : decode cX2_fault 57 = .ok (.ireturn, 1) := by decide +kernel
theorem dX2_fault_58 : decode cX2_fault 58 = .ok (.aload_n 0, 1) := by decide +kernel
theorem dX2_fault_59 : decode cX2_fault 59 = .ok (.getfield 144, 3) := by decide +kernel
theorem dX2_fault_62 : decode cX2_fault 62 = .ok (.ireturn, 1) := by decide +kernel
theorem dX2_play_0 : decode cX2_play 0 = .ok (.aload_n 0, 1) := by decide +kernel
theorem dX2_play_1 : decode cX2_play 1 = .ok (.invokevirtual 134, 3) := by decide +kernel
theorem dX2_play_4 : decode cX2_play 4 = .ok (.ifCond .eq 6, 3) := by decide +kernel
theorem dX2_play_7 : decode cX2_play 7 = .ok (.ldc 127, 2) := by decide +kernel
theorem dX2_play_9 : decode cX2_play 9 = .ok (.ireturn, 1) := by decide +kernel
theorem dX2_play_10 : decode cX2_play 10 = .ok (.aload_n 0, 1) := by decide +kernel
theorem dX2_play_11 : decode cX2_play 11 = .ok (.getfield 16, 3) := by decide +kernel
theorem dX2_play_14 : decode cX2_play 14 = .ok (.aload_n 0, 1) := by decide +kernel
theorem dX2_play_15 : decode cX2_play 15 = .ok (.getfield 12, 3) := by decide +kernel
theorem dX2_play_18 : decode cX2_play 18 = .ok (.invokevirtual 33, 3) := by decide +kernel
theorem dX2_play_21 : decode cX2_play 21 = .ok (.aload_n 0, 1) := by decide +kernel
theorem dX2_play_22 : decode cX2_play 22 = .ok (.getfield 12, 3) := by decide +kernel
theorem dX2_play_25 : decode cX2_play 25 = .ok (.aload_n 0, 1) := by decide +kernel
theorem dX2_play_26 : decode cX2_play 26 = .ok (.getfield 19, 3) := by decide +kernel
theorem dX2_play_29 : decode cX2_play 29 = .ok (.invokevirtual 33, 3) := by decide +kernel
theorem dX2_play_32 : decode cX2_play 32 = .ok (.aload_n 0, 1) := by decide +kernel
theorem dX2_play_33 : decode cX2_play 33 = .ok (.aload_n 0, 1) := by decide +kernel
theorem dX2_play_34 : decode cX2_play 34 = .ok (.getfield 147, 3) := by decide +kernel
theorem dX2_play_37 : decode cX2_play 37 = .ok (.invokevirtual 41, 3) := by decide +kernel
theorem dX2_play_40 : decode cX2_play 40 = .ok (.ireturn, 1) := by decide +kernel
theorem dX2_recorded_0 : decode cX2_recorded 0 = .ok (.iload_n 1, 1) := by decide +kernel
theorem dX2_recorded_1 : decode cX2_recorded 1 = .ok (.ifCond .ge 5, 3) := by decide +kernel
theorem dX2_recorded_4 : decode cX2_recorded 4 = .ok (.iload_n 1, 1) := by decide +kernel
theorem dX2_recorded_5 : decode cX2_recorded 5 = .ok (.ireturn, 1) := by decide +kernel
theorem dX2_recorded_6 : decode cX2_recorded 6 = .ok (.aload_n 0, 1) := by decide +kernel
theorem dX2_recorded_7 : decode cX2_recorded 7 = .ok (.getfield 117, 3) := by decide +kernel
theorem dX2_recorded_10 : decode cX2_recorded 10 = .ok (.iconst 4, 1) := by decide +kernel
theorem dX2_recorded_11 : decode cX2_recorded 11 = .ok (.if_icmp .lt 7, 3) := by decide +kernel
theorem dX2_recorded_14 : decode cX2_recorded 14 = .ok (.aload_n 0, 1) := by decide +kernel
theorem dX2_recorded_15 : decode cX2_recorded 15 = .ok (.invokevirtual 150, 3) := by decide +kernel
theorem dX2_recorded_18 : decode cX2_recorded 18 = .ok (.aload_n 0, 1) := by decide +kernel
theorem dX2_recorded_19 : decode cX2_recorded 19 = .ok (.getfield 22, 3) := by decide +kernel
theorem dX2_recorded_22 : decode cX2_recorded 22 = .ok (.aload_n 0, 1) := by decide +kernel
theorem dX2_recorded_23 : decode cX2_recorded 23 = .ok (.getfield 117, 3) := by decide +kernel
theorem dX2_recorded_26 : decode cX2_recorded 26 = .ok (.aaload, 1) := by decide +kernel
theorem dX2_recorded_27 : decode cX2_recorded 27 = .ok (.astore_n 2, 1) := by decide +kernel
theorem dX2_recorded_28 : decode cX2_recorded 28 = .ok (.aload_n 0, 1) := by decide +kernel
theorem dX2_recorded_29 : decode cX2_recorded 29 = .ok (.getfield 22, 3) := by decide +kernel
theorem dX2_recorded_32 : decode cX2_recorded 32 = .ok (.aload_n 0, 1) := by decide +kernel
theorem dX2_recorded_33 : decode cX2_recorded 33 = .ok (.getfield 117, 3) := by decide +kernel
theorem dX2_recorded_36 : decode cX2_recorded 36 = .ok (.aload_n 0, 1) := by decide +kernel
theorem dX2_recorded_37 : decode cX2_recorded 37 = .ok (.getfield 16, 3) := by decide +kernel
theorem dX2_recorded_40 : decode cX2_recorded 40 = .ok (.aastore, 1) := by decide +kernel
theorem dX2_recorded_41 : decode cX2_recorded 41 = .ok (.aload_n 0, 1) := by decide +kernel
theorem dX2_recorded_42 : decode cX2_recorded 42 = .ok (.aload_n 2, 1) := by decide +kernel
theorem dX2_recorded_43 : decode cX2_recorded 43 = .ok (.putfield 16, 3) := by decide +kernel
theorem dX2_recorded_46 : decode cX2_recorded 46 = .ok (.aload_n 0, 1) := by decide +kernel
theorem dX2_recorded_47 : decode cX2_recorded 47 = .ok (.dup, 1) := by decide +kernel
theorem dX2_recorded_48 : decode cX2_recorded 48 = .ok (.getfield 117, 3) := by decide +kernel
theorem dX2_recorded_51 : decode cX2_recorded 51 = .ok (.iconst 1, 1) := by decide +kernel
theorem dX2_recorded_52 : decode cX2_recorded 52 = .ok (.iadd, 1) := by decide +kernel
theorem dX2_recorded_53 : decode cX2_recorded 53 = .ok (.putfield 117, 3) := by decide +kernel
theorem dX2_recorded_56 : decode cX2_recorded 56 = .ok (.iload_n 1, 1) := by decide +kernel
theorem dX2_recorded_57 : decode cX2_recorded 57 = .ok (.ireturn, 1) := by decide +kernel
theorem dX2_dropOldest_0 : decode cX2_dropOldest 0 = .ok (.aload_n 0, 1) := by decide +kernel
theorem dX2_dropOldest_1 : decode cX2_dropOldest 1 = .ok (.getfield 22, 3) := by decide +kernel
theorem dX2_dropOldest_4 : decode cX2_dropOldest 4 = .ok (.iconst 0, 1) := by decide +kernel
theorem dX2_dropOldest_5 : decode cX2_dropOldest 5 = .ok (.aaload, 1) := by decide +kernel
theorem dX2_dropOldest_6 : decode cX2_dropOldest 6 = .ok (.astore_n 1, 1) := by decide +kernel
theorem dX2_dropOldest_7 : decode cX2_dropOldest 7 = .ok (.iconst 1, 1) := by decide +kernel
theorem dX2_dropOldest_8 : decode cX2_dropOldest 8 = .ok (.istore_n 2, 1) := by decide +kernel
theorem dX2_dropOldest_9 : decode cX2_dropOldest 9 = .ok (.iload_n 2, 1) := by decide +kernel
theorem dX2_dropOldest_10 : decode cX2_dropOldest 10 = .ok (.iconst 4, 1) := by decide +kernel
theorem dX2_dropOldest_11 : decode cX2_dropOldest 11 = .ok (.if_icmp .ge 23, 3) := by decide +kernel
theorem dX2_dropOldest_14 : decode cX2_dropOldest 14 = .ok (.aload_n 0, 1) := by decide +kernel
theorem dX2_dropOldest_15 : decode cX2_dropOldest 15 = .ok (.getfield 22, 3) := by decide +kernel
theorem dX2_dropOldest_18 : decode cX2_dropOldest 18 = .ok (.iload_n 2, 1) := by decide +kernel
theorem dX2_dropOldest_19 : decode cX2_dropOldest 19 = .ok (.iconst 1, 1) := by decide +kernel
theorem dX2_dropOldest_20 : decode cX2_dropOldest 20 = .ok (.isub, 1) := by decide +kernel
theorem dX2_dropOldest_21 : decode cX2_dropOldest 21 = .ok (.aload_n 0, 1) := by decide +kernel
theorem dX2_dropOldest_22 : decode cX2_dropOldest 22 = .ok (.getfield 22, 3) := by decide +kernel
theorem dX2_dropOldest_25 : decode cX2_dropOldest 25 = .ok (.iload_n 2, 1) := by decide +kernel
theorem dX2_dropOldest_26 : decode cX2_dropOldest 26 = .ok (.aaload, 1) := by decide +kernel
theorem dX2_dropOldest_27 : decode cX2_dropOldest 27 = .ok (.aastore, 1) := by decide +kernel
theorem dX2_dropOldest_28 : decode cX2_dropOldest 28 = .ok (.iinc 2 1, 3) := by decide +kernel
theorem dX2_dropOldest_31 : decode cX2_dropOldest 31 = .ok (.goto (-22), 3) := by decide +kernel
theorem dX2_dropOldest_34 : decode cX2_dropOldest 34 = .ok (.aload_n 0, 1) := by decide +kernel
theorem dX2_dropOldest_35 : decode cX2_dropOldest 35 = .ok (.getfield 22, 3) := by decide +kernel
theorem dX2_dropOldest_38 : decode cX2_dropOldest 38 = .ok (.iconst 3, 1) := by decide +kernel
theorem dX2_dropOldest_39 : decode cX2_dropOldest 39 = .ok (.aload_n 1, 1) := by decide +kernel
theorem dX2_dropOldest_40 : decode cX2_dropOldest 40 = .ok (.aastore, 1) := by decide +kernel
theorem dX2_dropOldest_41 : decode cX2_dropOldest 41 = .ok (.aload_n 0, 1) := by decide +kernel
theorem dX2_dropOldest_42 : decode cX2_dropOldest 42 = .ok (.iconst 3, 1) := by decide +kernel
theorem dX2_dropOldest_43 : decode cX2_dropOldest 43 = .ok (.putfield 117, 3) := by decide +kernel
theorem dX2_dropOldest_46 : decode cX2_dropOldest 46 = .ok (.return_, 1) := by decide +kernel
theorem dX2_isSafe_0 : decode cX2_isSafe 0 = .ok (.aload_n 0, 1) := by decide +kernel
theorem dX2_isSafe_1 : decode cX2_isSafe 1 = .ok (.getfield 19, 3) := by decide +kernel
theorem dX2_isSafe_4 : decode cX2_isSafe 4 = .ok (.aload_n 0, 1) := by decide +kernel
theorem dX2_isSafe_5 : decode cX2_isSafe 5 = .ok (.getfield 12, 3) := by decide +kernel
theorem dX2_isSafe_8 : decode cX2_isSafe 8 = .ok (.invokevirtual 33, 3) := by decide +kernel
theorem dX2_isSafe_11 : decode cX2_isSafe 11 = .ok (.aload_n 0, 1) := by decide +kernel
theorem dX2_isSafe_12 : decode cX2_isSafe 12 = .ok (.getfield 19, 3) := by decide +kernel
theorem dX2_isSafe_15 : decode cX2_isSafe 15 = .ok (.iconst 2, 1) := by decide +kernel
theorem dX2_isSafe_16 : decode cX2_isSafe 16 = .ok (.iload_n 1, 1) := by decide +kernel
theorem dX2_isSafe_17 : decode cX2_isSafe 17 = .ok (.invokevirtual 67, 3) := by decide +kernel
theorem dX2_isSafe_20 : decode cX2_isSafe 20 = .ok (.pop, 1) := by decide +kernel
theorem dX2_isSafe_21 : decode cX2_isSafe 21 = .ok (.iconst 0, 1) := by decide +kernel
theorem dX2_isSafe_22 : decode cX2_isSafe 22 = .ok (.istore_n 2, 1) := by decide +kernel
theorem dX2_isSafe_23 : decode cX2_isSafe 23 = .ok (.iload_n 2, 1) := by decide +kernel
theorem dX2_isSafe_24 : decode cX2_isSafe 24 = .ok (.bipush 60, 2) := by decide +kernel
theorem dX2_isSafe_26 : decode cX2_isSafe 26 = .ok (.if_icmp .ge 24, 3) := by decide +kernel
theorem dX2_isSafe_29 : decode cX2_isSafe 29 = .ok (.aload_n 0, 1) := by decide +kernel
theorem dX2_isSafe_30 : decode cX2_isSafe 30 = .ok (.getfield 19, 3) := by decide +kernel
theorem dX2_isSafe_33 : decode cX2_isSafe 33 = .ok (.iconst 1, 1) := by decide +kernel
theorem dX2_isSafe_34 : decode cX2_isSafe 34 = .ok (.ldc 90, 2) := by decide +kernel
theorem dX2_isSafe_36 : decode cX2_isSafe 36 = .ok (.invokevirtual 64, 3) := by decide +kernel
theorem dX2_isSafe_39 : decode cX2_isSafe 39 = .ok (.ifCond .le 5, 3) := by decide +kernel
theorem dX2_isSafe_42 : decode cX2_isSafe 42 = .ok (.iconst 0, 1) := by decide +kernel
theorem dX2_isSafe_43 : decode cX2_isSafe 43 = .ok (.ireturn, 1) := by decide +kernel
theorem dX2_isSafe_44 : decode cX2_isSafe 44 = .ok (.iinc 2 1, 3) := by decide +kernel
theorem dX2_isSafe_47 : decode cX2_isSafe 47 = .ok (.goto (-24), 3) := by decide +kernel
theorem dX2_isSafe_50 : decode cX2_isSafe 50 = .ok (.iconst 1, 1) := by decide +kernel
theorem dX2_isSafe_51 : decode cX2_isSafe 51 = .ok (.ireturn, 1) := by decide +kernel
theorem dX2_findFault_0 : decode cX2_findFault 0 = .ok (.aload_n 0, 1) := by decide +kernel
theorem dX2_findFault_1 : decode cX2_findFault 1 = .ok (.getfield 19, 3) := by decide +kernel
theorem dX2_findFault_4 : decode cX2_findFault 4 = .ok (.aload_n 0, 1) := by decide +kernel
theorem dX2_findFault_5 : decode cX2_findFault 5 = .ok (.getfield 12, 3) := by decide +kernel
theorem dX2_findFault_8 : decode cX2_findFault 8 = .ok (.invokevirtual 33, 3) := by decide +kernel
theorem dX2_findFault_11 : decode cX2_findFault 11 = .ok (.aload_n 0, 1) := by decide +kernel
theorem dX2_findFault_12 : decode cX2_findFault 12 = .ok (.iconst 0, 1) := by decide +kernel
theorem dX2_findFault_13 : decode cX2_findFault 13 = .ok (.putfield 147, 3) := by decide +kernel
theorem dX2_findFault_16 : decode cX2_findFault 16 = .ok (.iconst 0, 1) := by decide +kernel
theorem dX2_findFault_17 : decode cX2_findFault 17 = .ok (.istore_n 1, 1) := by decide +kernel
theorem dX2_findFault_18 : decode cX2_findFault 18 = .ok (.aload_n 0, 1) := by decide +kernel
theorem dX2_findFault_19 : decode cX2_findFault 19 = .ok (.getfield 147, 3) := by decide +kernel
theorem dX2_findFault_22 : decode cX2_findFault 22 = .ok (.bipush 60, 2) := by decide +kernel
theorem dX2_findFault_24 : decode cX2_findFault 24 = .ok (.if_icmp .ge 86, 3) := by decide +kernel
theorem dX2_findFault_27 : decode cX2_findFault 27 = .ok (.iload_n 1, 1) := by decide +kernel
theorem dX2_findFault_28 : decode cX2_findFault 28 = .ok (.aload_n 0, 1) := by decide +kernel
theorem dX2_findFault_29 : decode cX2_findFault 29 = .ok (.getfield 29, 3) := by decide +kernel
theorem dX2_findFault_32 : decode cX2_findFault 32 = .ok (.invokevirtual 121, 3) := by decide +kernel
theorem dX2_findFault_35 : decode cX2_findFault 35 = .ok (.if_icmp .ge 75, 3) := by decide +kernel
theorem dX2_findFault_38 : decode cX2_findFault 38 = .ok (.aload_n 0, 1) := by decide +kernel
theorem dX2_findFault_39 : decode cX2_findFault 39 = .ok (.getfield 29, 3) := by decide +kernel
theorem dX2_findFault_42 : decode cX2_findFault 42 = .ok (.iload_n 1, 1) := by decide +kernel
theorem dX2_findFault_43 : decode cX2_findFault 43 = .ok (.invokevirtual 153, 3) := by decide +kernel
theorem dX2_findFault_46 : decode cX2_findFault 46 = .ok (.ifCond .ne 19, 3) := by decide +kernel
theorem dX2_findFault_49 : decode cX2_findFault 49 = .ok (.aload_n 0, 1) := by decide +kernel
theorem dX2_findFault_50 : decode cX2_findFault 50 = .ok (.iload_n 1, 1) := by decide +kernel
theorem dX2_findFault_51 : decode cX2_findFault 51 = .ok (.iconst 1, 1) := by decide +kernel
theorem dX2_findFault_52 : decode cX2_findFault 52 = .ok (.aload_n 0, 1) := by decide +kernel
theorem dX2_findFault_53 : decode cX2_findFault 53 = .ok (.getfield 29, 3) := by decide +kernel
theorem dX2_findFault_56 : decode cX2_findFault 56 = .ok (.invokevirtual 156, 3) := by decide +kernel
theorem dX2_findFault_59 : decode cX2_findFault 59 = .ok (.iload_n 1, 1) := by decide +kernel
theorem dX2_findFault_60 : decode cX2_findFault 60 = .ok (.isub, 1) := by decide +kernel
theorem dX2_findFault_61 : decode cX2_findFault 61 = .ok (.invokevirtual 159, 3) := by decide +kernel
theorem dX2_findFault_64 : decode cX2_findFault 64 = .ok (.ireturn, 1) := by decide +kernel
theorem dX2_findFault_65 : decode cX2_findFault 65 = .ok (.aload_n 0, 1) := by decide +kernel
theorem dX2_findFault_66 : decode cX2_findFault 66 = .ok (.getfield 29, 3) := by decide +kernel
theorem dX2_findFault_69 : decode cX2_findFault 69 = .ok (.aload_n 0, 1) := by decide +kernel
theorem dX2_findFault_70 : decode cX2_findFault 70 = .ok (.getfield 19, 3) := by decide +kernel
theorem dX2_findFault_73 : decode cX2_findFault 73 = .ok (.invokevirtual 162, 3) := by decide +kernel
theorem dX2_findFault_76 : decode cX2_findFault 76 = .ok (.istore_n 2, 1) := by decide +kernel
theorem dX2_findFault_77 : decode cX2_findFault 77 = .ok (.iload_n 2, 1) := by decide +kernel
theorem dX2_findFault_78 : decode cX2_findFault 78 = .ok (.ifCond .ge 11, 3) := by decide +kernel
theorem dX2_findFault_81 : decode cX2_findFault 81 = .ok (.aload_n 0, 1) := by decide +kernel
theorem dX2_findFault_82 : decode cX2_findFault 82 = .ok (.iload_n 1, 1) := by decide +kernel
theorem dX2_findFault_83 : decode cX2_findFault 83 = .ok (.iconst 2, 1) := by decide +kernel
theorem dX2_findFault_84 : decode cX2_findFault 84 = .ok (.iload_n 2, 1) := by decide +kernel
theorem dX2_findFault_85 : decode cX2_findFault 85 = .ok (.invokevirtual 159, 3) := by decide +kernel
theorem dX2_findFault_88 : decode cX2_findFault 88 = .ok (.ireturn, 1) := by decide +kernel
theorem dX2_findFault_89 : decode cX2_findFault 89 = .ok (.aload_n 0, 1) := by decide +kernel
theorem dX2_findFault_90 : decode cX2_findFault 90 = .ok (.dup, 1) := by decide +kernel
theorem dX2_findFault_91 : decode cX2_findFault 91 = .ok (.getfield 147, 3) := by decide +kernel
theorem dX2_findFault_94 : decode cX2_findFault 94 = .ok (.iconst 1, 1) := by decide +kernel
theorem dX2_findFault_95 : decode cX2_findFault 95 = .ok (.iadd, 1) := by decide +kernel
theorem dX2_findFault_96 : decode cX2_findFault 96 = .ok (.putfield 147, 3) := by decide +kernel
theorem dX2_findFault_99 : decode cX2_findFault 99 = .ok (.aload_n 0, 1) := by decide +kernel
theorem dX2_findFault_100 : decode cX2_findFault 100 = .ok (.getfield 29, 3) := by decide +kernel
theorem dX2_findFault_103 : decode cX2_findFault 103 = .ok (.invokevirtual 156, 3) := by decide +kernel
theorem dX2_findFault_106 : decode cX2_findFault 106 = .ok (.istore_n 1, 1) := by decide +kernel
theorem dX2_findFault_107 : decode cX2_findFault 107 = .ok (.goto (-89), 3) := by decide +kernel
theorem dX2_findFault_110 : decode cX2_findFault 110 = .ok (.iconst 0, 1) := by decide +kernel
theorem dX2_findFault_111 : decode cX2_findFault 111 = .ok (.ireturn, 1) := by decide +kernel
theorem dX2_noteFault_0 : decode cX2_noteFault 0 = .ok (.aload_n 0, 1) := by decide +kernel
theorem dX2_noteFault_1 : decode cX2_noteFault 1 = .ok (.iload_n 1, 1) := by decide +kernel
theorem dX2_noteFault_2 : decode cX2_noteFault 2 = .ok (.putfield 138, 3) := by decide +kernel
theorem dX2_noteFault_5 : decode cX2_noteFault 5 = .ok (.aload_n 0, 1) := by decide +kernel
theorem dX2_noteFault_6 : decode cX2_noteFault 6 = .ok (.iload_n 2, 1) := by decide +kernel
theorem dX2_noteFault_7 : decode cX2_noteFault 7 = .ok (.putfield 141, 3) := by decide +kernel
theorem dX2_noteFault_10 : decode cX2_noteFault 10 = .ok (.aload_n 0, 1) := by decide +kernel
theorem dX2_noteFault_11 : decode cX2_noteFault 11 = .ok (.iload_n 3, 1) := by decide +kernel
theorem dX2_noteFault_12 : decode cX2_noteFault 12 = .ok (.putfield 144, 3) := by decide +kernel
theorem dX2_noteFault_15 : decode cX2_noteFault 15 = .ok (.iconst 1, 1) := by decide +kernel
theorem dX2_noteFault_16 : decode cX2_noteFault 16 = .ok (.ireturn, 1) := by decide +kernel
theorem dX2_isOutside_0 : decode cX2_isOutside 0 = .ok (.iload_n 0, 1) := by decide +kernel
theorem dX2_isOutside_1 : decode cX2_isOutside 1 = .ok (.iload_n 1, 1) := by decide +kernel
theorem dX2_isOutside_2 : decode cX2_isOutside 2 = .ok (.if_icmp .lt 8, 3) := by decide +kernel
theorem dX2_isOutside_5 : decode cX2_isOutside 5 = .ok (.iload_n 0, 1) := by decide +kernel
theorem dX2_isOutside_6 : decode cX2_isOutside 6 = .ok (.iload_n 2, 1) := by decide +kernel
theorem dX2_isOutside_7 : decode cX2_isOutside 7 = .ok (.if_icmp .le 7, 3) := by decide +kernel
theorem dX2_isOutside_10 : decode cX2_isOutside 10 = .ok (.iconst 1, 1) := by decide +kernel
theorem dX2_isOutside_11 : decode cX2_isOutside 11 = .ok (.goto 4, 3) := by decide +kernel
theorem dX2_isOutside_14 : decode cX2_isOutside 14 = .ok (.iconst 0, 1) := by decide +kernel
theorem dX2_isOutside_15 : decode cX2_isOutside 15 = .ok (.ireturn, 1) := by decide +kernel
theorem dX2_bitsOf_0 : decode cX2_bitsOf 0 = .ok (.fload_n 0, 1) := by decide +kernel
theorem dX2_bitsOf_1 : decode cX2_bitsOf 1 = .ok (.fconst 0, 1) := by decide +kernel
theorem dX2_bitsOf_2 : decode cX2_bitsOf 2 = .ok (.fcmp .g, 1) := by decide +kernel
theorem dX2_bitsOf_3 : decode cX2_bitsOf 3 = .ok (.ifCond .gt 5, 3) := by decide +kernel
theorem dX2_bitsOf_6 : decode cX2_bitsOf 6 = .ok (.iconst 0, 1) := by decide +kernel
theorem dX2_bitsOf_7 : decode cX2_bitsOf 7 = .ok (.ireturn, 1) := by decide +kernel
theorem dX2_bitsOf_8 : decode cX2_bitsOf 8 = .ok (.fload_n 0, 1) := by decide +kernel
theorem dX2_bitsOf_9 : decode cX2_bitsOf 9 = .ok (.fstore_n 1, 1) := by decide +kernel
theorem dX2_bitsOf_10 : decode cX2_bitsOf 10 = .ok (.bipush 127, 2) := by decide +kernel
theorem dX2_bitsOf_12 : decode cX2_bitsOf 12 = .ok (.istore_n 2, 1) := by decide +kernel
theorem dX2_bitsOf_13 : decode cX2_bitsOf 13 = .ok (.fload_n 1, 1) := by decide +kernel
theorem dX2_bitsOf_14 : decode cX2_bitsOf 14 = .ok (.fconst 2, 1) := by decide +kernel
theorem dX2_bitsOf_15 : decode cX2_bitsOf 15 = .ok (.fcmp .l, 1) := by decide +kernel
theorem dX2_bitsOf_16 : decode cX2_bitsOf 16 = .ok (.ifCond .lt 20, 3) := by decide +kernel
theorem dX2_bitsOf_19 : decode cX2_bitsOf 19 = .ok (.iload_n 2, 1) := by decide +kernel
theorem dX2_bitsOf_20 : decode cX2_bitsOf 20 = .ok (.sipush 254, 3) := by decide +kernel
theorem dX2_bitsOf_23 : decode cX2_bitsOf 23 = .ok (.if_icmp .ge 13, 3) := by decide +kernel
theorem dX2_bitsOf_26 : decode cX2_bitsOf 26 = .ok (.fload_n 1, 1) := by decide +kernel
theorem dX2_bitsOf_27 : decode cX2_bitsOf 27 = .ok (.fconst 2, 1) := by decide +kernel
theorem dX2_bitsOf_28 : decode cX2_bitsOf 28 = .ok (.fdiv, 1) := by decide +kernel
theorem dX2_bitsOf_29 : decode cX2_bitsOf 29 = .ok (.fstore_n 1, 1) := by decide +kernel
theorem dX2_bitsOf_30 : decode cX2_bitsOf 30 = .ok (.iinc 2 1, 3) := by decide +kernel
theorem dX2_bitsOf_33 : decode cX2_bitsOf 33 = .ok (.goto (-20), 3) := by decide +kernel
theorem dX2_bitsOf_36 : decode cX2_bitsOf 36 = .ok (.fload_n 1, 1) := by decide +kernel
theorem dX2_bitsOf_37 : decode cX2_bitsOf 37 = .ok (.fconst 1, 1) := by decide +kernel
theorem dX2_bitsOf_38 : decode cX2_bitsOf 38 = .ok (.fcmp .g, 1) := by decide +kernel
theorem dX2_bitsOf_39 : decode cX2_bitsOf 39 = .ok (.ifCond .ge 18, 3) := by decide +kernel
theorem dX2_bitsOf_42 : decode cX2_bitsOf 42 = .ok (.iload_n 2, 1) := by decide +kernel
theorem dX2_bitsOf_43 : decode cX2_bitsOf 43 = .ok (.iconst 1, 1) := by decide +kernel
theorem dX2_bitsOf_44 : decode cX2_bitsOf 44 = .ok (.if_icmp .le 13, 3) := by decide +kernel
theorem dX2_bitsOf_47 : decode cX2_bitsOf 47 = .ok (.fload_n 1, 1) := by decide +kernel
theorem dX2_bitsOf_48 : decode cX2_bitsOf 48 = .ok (.fconst 2, 1) := by decide +kernel
theorem dX2_bitsOf_49 : decode cX2_bitsOf 49 = .ok (.fmul, 1) := by decide +kernel
theorem dX2_bitsOf_50 : decode cX2_bitsOf 50 = .ok (.fstore_n 1, 1) := by decide +kernel
theorem dX2_bitsOf_51 : decode cX2_bitsOf 51 = .ok (.iinc 2 (-1), 3) := by decide +kernel
theorem dX2_bitsOf_54 : decode cX2_bitsOf 54 = .ok (.goto (-18), 3) := by decide +kernel
theorem dX2_bitsOf_57 : decode cX2_bitsOf 57 = .ok (.fload_n 1, 1) := by decide +kernel
theorem dX2_bitsOf_58 : decode cX2_bitsOf 58 = .ok (.fconst 1, 1) := by decide +kernel
theorem dX2_bitsOf_59 : decode cX2_bitsOf 59 = .ok (.fsub, 1) := by decide +kernel
theorem dX2_bitsOf_60 : decode cX2_bitsOf 60 = .ok (.ldc 166, 2) := by decide +kernel
theorem dX2_bitsOf_62 : decode cX2_bitsOf 62 = .ok (.fmul, 1) := by decide +kernel
theorem dX2_bitsOf_63 : decode cX2_bitsOf 63 = .ok (.f2i, 1) := by decide +kernel
theorem dX2_bitsOf_64 : decode cX2_bitsOf 64 = .ok (.istore_n 3, 1) := by decide +kernel
theorem dX2_bitsOf_65 : decode cX2_bitsOf 65 = .ok (.iload_n 2, 1) := by decide +kernel
theorem dX2_bitsOf_66 : decode cX2_bitsOf 66 = .ok (.bipush 23, 2) := by decide +kernel
theorem dX2_bitsOf_68 : decode cX2_bitsOf 68 = .ok (.ishl, 1) := by decide +kernel
theorem dX2_bitsOf_69 : decode cX2_bitsOf 69 = .ok (.iload_n 3, 1) := by decide +kernel
theorem dX2_bitsOf_70 : decode cX2_bitsOf 70 = .ok (.ior, 1) := by decide +kernel
theorem dX2_bitsOf_71 : decode cX2_bitsOf 71 = .ok (.ireturn, 1) := by decide +kernel
theorem dJ9_abs_0f7a4_0 : decode cJ9_abs_0f7a4 0 = .ok (.iload_n 0, 1) := by decide +kernel
theorem dJ9_abs_0f7a4_1 : decode cJ9_abs_0f7a4 1 = .ok (.ifCond .ge 8, 3) := by decide +kernel
theorem dJ9_abs_0f7a4_4 : decode cJ9_abs_0f7a4 4 = .ok (.iload_n 0, 1) := by decide +kernel
theorem dJ9_abs_0f7a4_5 : decode cJ9_abs_0f7a4 5 = .ok (.ineg, 1) := by decide +kernel
theorem dJ9_abs_0f7a4_6 : decode cJ9_abs_0f7a4 6 = .ok (.goto 4, 3) := by decide +kernel
theorem dJ9_abs_0f7a4_9 : decode cJ9_abs_0f7a4 9 = .ok (.iload_n 0, 1) := by decide +kernel
theorem dJ9_abs_0f7a4_10 : decode cJ9_abs_0f7a4 10 = .ok (.ireturn, 1) := by decide +kernel
theorem dJ9_max_7cf53_0 : decode cJ9_max_7cf53 0 = .ok (.iload_n 0, 1) := by decide +kernel
theorem dJ9_max_7cf53_1 : decode cJ9_max_7cf53 1 = .ok (.iload_n 1, 1) := by decide +kernel
theorem dJ9_max_7cf53_2 : decode cJ9_max_7cf53 2 = .ok (.if_icmp .lt 7, 3) := by decide +kernel
theorem dJ9_max_7cf53_5 : decode cJ9_max_7cf53 5 = .ok (.iload_n 0, 1) := by decide +kernel
theorem dJ9_max_7cf53_6 : decode cJ9_max_7cf53 6 = .ok (.goto 4, 3) := by decide +kernel
theorem dJ9_max_7cf53_9 : decode cJ9_max_7cf53 9 = .ok (.iload_n 1, 1) := by decide +kernel
theorem dJ9_max_7cf53_10 : decode cJ9_max_7cf53 10 = .ok (.ireturn, 1) := by decide +kernel
theorem dJ9_min_7cf53_0 : decode cJ9_min_7cf53 0 = .ok (.iload_n 0, 1) := by decide +kernel
theorem dJ9_min_7cf53_1 : decode cJ9_min_7cf53 1 = .ok (.iload_n 1, 1) := by decide +kernel
theorem dJ9_min_7cf53_2 : decode cJ9_min_7cf53 2 = .ok (.if_icmp .gt 7, 3) := by decide +kernel
theorem dJ9_min_7cf53_5 : decode cJ9_min_7cf53 5 = .ok (.iload_n 0, 1) := by decide +kernel
theorem dJ9_min_7cf53_6 : decode cJ9_min_7cf53 6 = .ok (.goto 4, 3) := by decide +kernel
theorem dJ9_min_7cf53_9 : decode cJ9_min_7cf53 9 = .ok (.iload_n 1, 1) := by decide +kernel
theorem dJ9_min_7cf53_10 : decode cJ9_min_7cf53 10 = .ok (.ireturn, 1) := by decide +kernel
theorem dL_lot_0 : decode cL_lot 0 = .ok (.iload_n 1, 1) := by decide +kernel
theorem dL_lot_1 : decode cL_lot 1 = .ok (.aload_n 0, 1) := by decide +kernel
theorem dL_lot_2 : decode cL_lot 2 = .ok (.arraylength, 1) := by decide +kernel
theorem dL_lot_3 : decode cL_lot 3 = .ok (.if_icmp .ge 9, 3) := by decide +kernel
theorem dL_lot_6 : decode cL_lot 6 = .ok (.aload_n 0, 1) := by decide +kernel
theorem dL_lot_7 : decode cL_lot 7 = .ok (.iload_n 1, 1) := by decide +kernel
theorem dL_lot_8 : decode cL_lot 8 = .ok (.iaload, 1) := by decide +kernel
theorem dL_lot_9 : decode cL_lot 9 = .ok (.goto 15, 3) := by decide +kernel
theorem dL_lot_12 : decode cL_lot 12 = .ok (.ldc 7, 2) := by decide +kernel
theorem dL_lot_14 : decode cL_lot 14 = .ok (.iload_n 1, 1) := by decide +kernel
theorem dL_lot_15 : decode cL_lot 15 = .ok (.sipush 4211, 3) := by decide +kernel
theorem dL_lot_18 : decode cL_lot 18 = .ok (.iadd, 1) := by decide +kernel
theorem dL_lot_19 : decode cL_lot 19 = .ok (.imul, 1) := by decide +kernel
theorem dL_lot_20 : decode cL_lot 20 = .ok (.sipush 3947, 3) := by decide +kernel
theorem dL_lot_23 : decode cL_lot 23 = .ok (.iadd, 1) := by decide +kernel
theorem dL_lot_24 : decode cL_lot 24 = .ok (.ireturn, 1) := by decide +kernel
theorem dL_low_0 : decode cL_low 0 = .ok (.iload_n 0, 1) := by decide +kernel
theorem dL_low_1 : decode cL_low 1 = .ok (.ldc 8, 2) := by decide +kernel
theorem dL_low_3 : decode cL_low 3 = .ok (.iand, 1) := by decide +kernel
theorem dL_low_4 : decode cL_low 4 = .ok (.iload_n 1, 1) := by decide +kernel
theorem dL_low_5 : decode cL_low 5 = .ok (.irem, 1) := by decide +kernel
theorem dL_low_6 : decode cL_low 6 = .ok (.ireturn, 1) := by decide +kernel
theorem dL_look_0 : decode cL_look 0 = .ok (.ldc2_w 9, 3) := by decide +kernel
theorem dL_look_3 : decode cL_look 3 = .ok (.lstore_n 1, 1) := by decide +kernel
theorem dL_look_4 : decode cL_look 4 = .ok (.iconst 0, 1) := by decide +kernel
theorem dL_look_5 : decode cL_look 5 = .ok (.istore_n 3, 1) := by decide +kernel
theorem dL_look_6 : decode cL_look 6 = .ok (.iload_n 3, 1) := by decide +kernel
theorem dL_look_7 : decode cL_look 7 = .ok (.bipush 15, 2) := by decide +kernel
theorem dL_look_9 : decode cL_look 9 = .ok (.if_icmp .ge 22, 3) := by decide +kernel
theorem dL_look_12 : decode cL_look 12 = .ok (.ldc2_w 11, 3) := by decide +kernel
theorem dL_look_15 : decode cL_look 15 = .ok (.lload_n 1, 1) := by decide +kernel
theorem dL_look_16 : decode cL_look 16 = .ok (.lmul, 1) := by decide +kernel
theorem dL_look_17 : decode cL_look 17 = .ok (.aload_n 0, 1) := by decide +kernel
theorem dL_look_18 : decode cL_look 18 = .ok (.iload_n 3, 1) := by decide +kernel
theorem dL_look_19 : decode cL_look 19 = .ok (.invokevirtual 13, 3) := by decide +kernel
theorem dL_look_22 : decode cL_look 22 = .ok (.i2l, 1) := by decide +kernel
theorem dL_look_23 : decode cL_look 23 = .ok (.ladd, 1) := by decide +kernel
theorem dL_look_24 : decode cL_look 24 = .ok (.lstore_n 1, 1) := by decide +kernel
theorem dL_look_25 : decode cL_look 25 = .ok (.iinc 3 1, 3) := by decide +kernel
theorem dL_look_28 : decode cL_look 28 = .ok (.goto (-22), 3) := by decide +kernel
theorem dL_look_31 : decode cL_look 31 = .ok (.iconst 0, 1) := by decide +kernel
theorem dL_look_32 : decode cL_look 32 = .ok (.istore_n 3, 1) := by decide +kernel
theorem dL_look_33 : decode cL_look 33 = .ok (.iload_n 3, 1) := by decide +kernel
theorem dL_look_34 : decode cL_look 34 = .ok (.bipush 9, 2) := by decide +kernel
theorem dL_look_36 : decode cL_look 36 = .ok (.if_icmp .ge 50, 3) := by decide +kernel
theorem dL_look_39 : decode cL_look 39 = .ok (.ldc2_w 11, 3) := by decide +kernel
theorem dL_look_42 : decode cL_look 42 = .ok (.ldc2_w 11, 3) := by decide +kernel
theorem dL_look_45 : decode cL_look 45 = .ok (.lload_n 1, 1) := by decide +kernel
theorem dL_look_46 : decode cL_look 46 = .ok (.lmul, 1) := by decide +kernel
theorem dL_look_47 : decode cL_look 47 = .ok (.aload_n 0, 1) := by decide +kernel
theorem dL_look_48 : decode cL_look 48 = .ok (.iload_n 3, 1) := by decide +kernel
theorem dL_look_49 : decode cL_look 49 = .ok (.iconst 3, 1) := by decide +kernel
theorem dL_look_50 : decode cL_look 50 = .ok (.idiv, 1) := by decide +kernel
theorem dL_look_51 : decode cL_look 51 = .ok (.iload_n 3, 1) := by decide +kernel
theorem dL_look_52 : decode cL_look 52 = .ok (.iconst 3, 1) := by decide +kernel
theorem dL_look_53 : decode cL_look 53 = .ok (.irem, 1) := by decide +kernel
theorem dL_look_54 : decode cL_look 54 = .ok (.invokevirtual 19, 3) := by decide +kernel
theorem dL_look_57 : decode cL_look 57 = .ok (.i2l, 1) := by decide +kernel
theorem dL_look_58 : decode cL_look 58 = .ok (.ladd, 1) := by decide +kernel
theorem dL_look_59 : decode cL_look 59 = .ok (.lmul, 1) := by decide +kernel
theorem dL_look_60 : decode cL_look 60 = .ok (.iload_n 3, 1) := by decide +kernel
theorem dL_look_61 : decode cL_look 61 = .ok (.iconst 3, 1) := by decide +kernel
theorem dL_look_62 : decode cL_look 62 = .ok (.if_icmp .ge 14, 3) := by decide +kernel
theorem dL_look_65 : decode cL_look 65 = .ok (.aload_n 0, 1) := by decide +kernel
theorem dL_look_66 : decode cL_look 66 = .ok (.bipush 20, 2) := by decide +kernel
theorem dL_look_68 : decode cL_look 68 = .ok (.iload_n 3, 1) := by decide +kernel
theorem dL_look_69 : decode cL_look 69 = .ok (.iadd, 1) := by decide +kernel
theorem dL_look_70 : decode cL_look 70 = .ok (.invokevirtual 13, 3) := by decide +kernel
theorem dL_look_73 : decode cL_look 73 = .ok (.goto 4, 3) := by decide +kernel
theorem dL_look_76 : decode cL_look 76 = .ok (.iconst 0, 1) := by decide +kernel
theorem dL_look_77 : decode cL_look 77 = .ok (.i2l, 1) := by decide +kernel
theorem dL_look_78 : decode cL_look 78 = .ok (.ladd, 1) := by decide +kernel
theorem dL_look_79 : decode cL_look 79 = .ok (.lstore_n 1, 1) := by decide +kernel
theorem dL_look_80 : decode cL_look 80 = .ok (.iinc 3 1, 3) := by decide +kernel
theorem dL_look_83 : decode cL_look 83 = .ok (.goto (-50), 3) := by decide +kernel
theorem dL_look_86 : decode cL_look 86 = .ok (.iconst 0, 1) := by decide +kernel
theorem dL_look_87 : decode cL_look 87 = .ok (.istore_n 3, 1) := by decide +kernel
theorem dL_look_88 : decode cL_look 88 = .ok (.iload_n 3, 1) := by decide +kernel
theorem dL_look_89 : decode cL_look 89 = .ok (.bipush 6, 2) := by decide +kernel
theorem dL_look_91 : decode cL_look 91 = .ok (.if_icmp .ge 153, 3) := by decide +kernel
theorem dL_look_94 : decode cL_look 94 = .ok (.bipush 8, 2) := by decide +kernel
theorem dL_look_96 : decode cL_look 96 = .ok (.istore 4, 2) := by decide +kernel
theorem dL_look_98 : decode cL_look 98 = .ok (.iload 4, 2) := by decide +kernel
theorem dL_look_100 : decode cL_look 100 = .ok (.bipush 14, 2) := by decide +kernel
theorem dL_look_102 : decode cL_look 102 = .ok (.if_icmp .ge 24, 3) := by decide +kernel
theorem dL_look_105 : decode cL_look 105 = .ok (.ldc2_w 11, 3) := by decide +kernel
theorem dL_look_108 : decode cL_look 108 = .ok (.lload_n 1, 1) := by decide +kernel
theorem dL_look_109 : decode cL_look 109 = .ok (.lmul, 1) := by decide +kernel
theorem dL_look_110 : decode cL_look 110 = .ok (.aload_n 0, 1) := by decide +kernel
theorem dL_look_111 : decode cL_look 111 = .ok (.iload_n 3, 1) := by decide +kernel
theorem dL_look_112 : decode cL_look 112 = .ok (.iload 4, 2) := by decide +kernel
theorem dL_look_114 : decode cL_look 114 = .ok (.invokevirtual 23, 3) := by decide +kernel
theorem dL_look_117 : decode cL_look 117 = .ok (.i2l, 1) := by decide +kernel
theorem dL_look_118 : decode cL_look 118 = .ok (.ladd, 1) := by decide +kernel
theorem dL_look_119 : decode cL_look 119 = .ok (.lstore_n 1, 1) := by decide +kernel
theorem dL_look_120 : decode cL_look 120 = .ok (.iinc 4 1, 3) := by decide +kernel
theorem dL_look_123 : decode cL_look 123 = .ok (.goto (-25), 3) := by decide +kernel
theorem dL_look_126 : decode cL_look 126 = .ok (.iconst 0, 1) := by decide +kernel
theorem dL_look_127 : decode cL_look 127 = .ok (.istore 4, 2) := by decide +kernel
theorem dL_look_129 : decode cL_look 129 = .ok (.iload 4, 2) := by decide +kernel
theorem dL_look_131 : decode cL_look 131 = .ok (.bipush 6, 2) := by decide +kernel
theorem dL_look_133 : decode cL_look 133 = .ok (.if_icmp .ge 30, 3) := by decide +kernel
theorem dL_look_136 : decode cL_look 136 = .ok (.ldc2_w 11, 3) := by decide +kernel
theorem dL_look_139 : decode cL_look 139 = .ok (.lload_n 1, 1) := by decide +kernel
theorem dL_look_140 : decode cL_look 140 = .ok (.lmul, 1) := by decide +kernel
theorem dL_look_141 : decode cL_look 141 = .ok (.aload_n 0, 1) := by decide +kernel
theorem dL_look_142 : decode cL_look 142 = .ok (.iload_n 3, 1) := by decide +kernel
theorem dL_look_143 : decode cL_look 143 = .ok (.iload 4, 2) := by decide +kernel
theorem dL_look_145 : decode cL_look 145 = .ok (.iconst 2, 1) := by decide +kernel
theorem dL_look_146 : decode cL_look 146 = .ok (.idiv, 1) := by decide +kernel
theorem dL_look_147 : decode cL_look 147 = .ok (.iload 4, 2) := by decide +kernel
theorem dL_look_149 : decode cL_look 149 = .ok (.iconst 2, 1) := by decide +kernel
theorem dL_look_150 : decode cL_look 150 = .ok (.irem, 1) := by decide +kernel
theorem dL_look_151 : decode cL_look 151 = .ok (.invokevirtual 26, 3) := by decide +kernel
theorem dL_look_154 : decode cL_look 154 = .ok (.i2l, 1) := by decide +kernel
theorem dL_look_155 : decode cL_look 155 = .ok (.ladd, 1) := by decide +kernel
theorem dL_look_156 : decode cL_look 156 = .ok (.lstore_n 1, 1) := by decide +kernel
theorem dL_look_157 : decode cL_look 157 = .ok (.iinc 4 1, 3) := by decide +kernel
theorem dL_look_160 : decode cL_look 160 = .ok (.goto (-31), 3) := by decide +kernel
theorem dL_look_163 : decode cL_look 163 = .ok (.iconst 0, 1) := by decide +kernel
theorem dL_look_164 : decode cL_look 164 = .ok (.istore 4, 2) := by decide +kernel
theorem dL_look_166 : decode cL_look 166 = .ok (.iload 4, 2) := by decide +kernel
theorem dL_look_168 : decode cL_look 168 = .ok (.bipush 8, 2) := by decide +kernel
theorem dL_look_170 : decode cL_look 170 = .ok (.if_icmp .ge 68, 3) := by decide +kernel
theorem dL_look_173 : decode cL_look 173 = .ok (.ldc2_w 11, 3) := by decide +kernel
theorem dL_look_176 : decode cL_look 176 = .ok (.ldc2_w 11, 3) := by decide +kernel
theorem dL_look_179 : decode cL_look 179 = .ok (.ldc2_w 11, 3) := by decide +kernel
theorem dL_look_182 : decode cL_look 182 = .ok (.ldc2_w 11, 3) := by decide +kernel
theorem dL_look_185 : decode cL_look 185 = .ok (.lload_n 1, 1) := by decide +kernel
theorem dL_look_186 : decode cL_look 186 = .ok (.lmul, 1) := by decide +kernel
theorem dL_look_187 : decode cL_look 187 = .ok (.aload_n 0, 1) := by decide +kernel
theorem dL_look_188 : decode cL_look 188 = .ok (.iload_n 3, 1) := by decide +kernel
theorem dL_look_189 : decode cL_look 189 = .ok (.iload 4, 2) := by decide +kernel
theorem dL_look_191 : decode cL_look 191 = .ok (.iconst 0, 1) := by decide +kernel
theorem dL_look_192 : decode cL_look 192 = .ok (.invokevirtual 30, 3) := by decide +kernel
theorem dL_look_195 : decode cL_look 195 = .ok (.i2l, 1) := by decide +kernel
theorem dL_look_196 : decode cL_look 196 = .ok (.ladd, 1) := by decide +kernel
theorem dL_look_197 : decode cL_look 197 = .ok (.lmul, 1) := by decide +kernel
theorem dL_look_198 : decode cL_look 198 = .ok (.aload_n 0, 1) := by decide +kernel
theorem dL_look_199 : decode cL_look 199 = .ok (.iload_n 3, 1) := by decide +kernel
theorem dL_look_200 : decode cL_look 200 = .ok (.iload 4, 2) := by decide +kernel
theorem dL_look_202 : decode cL_look 202 = .ok (.iconst 1, 1) := by decide +kernel
theorem dL_look_203 : decode cL_look 203 = .ok (.invokevirtual 30, 3) := by decide +kernel
theorem dL_look_206 : decode cL_look 206 = .ok (.i2l, 1) := by decide +kernel
theorem dL_look_207 : decode cL_look 207 = .ok (.ladd, 1) := by decide +kernel
theorem dL_look_208 : decode cL_look 208 = .ok (.lmul, 1) := by decide +kernel
theorem dL_look_209 : decode cL_look 209 = .ok (.aload_n 0, 1) := by decide +kernel
theorem dL_look_210 : decode cL_look 210 = .ok (.iload_n 3, 1) := by decide +kernel
theorem dL_look_211 : decode cL_look 211 = .ok (.iload 4, 2) := by decide +kernel
theorem dL_look_213 : decode cL_look 213 = .ok (.iconst 5, 1) := by decide +kernel
theorem dL_look_214 : decode cL_look 214 = .ok (.invokevirtual 30, 3) := by decide +kernel
theorem dL_look_217 : decode cL_look 217 = .ok (.i2l, 1) := by decide +kernel
theorem dL_look_218 : decode cL_look 218 = .ok (.ladd, 1) := by decide +kernel
theorem dL_look_219 : decode cL_look 219 = .ok (.lmul, 1) := by decide +kernel
theorem dL_look_220 : decode cL_look 220 = .ok (.aload_n 0, 1) := by decide +kernel
theorem dL_look_221 : decode cL_look 221 = .ok (.iload_n 3, 1) := by decide +kernel
theorem dL_look_222 : decode cL_look 222 = .ok (.iload 4, 2) := by decide +kernel
theorem dL_look_224 : decode cL_look 224 = .ok (.bipush 7, 2) := by decide +kernel
theorem dL_look_226 : decode cL_look 226 = .ok (.invokevirtual 30, 3) := by decide +kernel
theorem dL_look_229 : decode cL_look 229 = .ok (.i2l, 1) := by decide +kernel
theorem dL_look_230 : decode cL_look 230 = .ok (.ladd, 1) := by decide +kernel
theorem dL_look_231 : decode cL_look 231 = .ok (.lstore_n 1, 1) := by decide +kernel
theorem dL_look_232 : decode cL_look 232 = .ok (.iinc 4 1, 3) := by decide +kernel
theorem dL_look_235 : decode cL_look 235 = .ok (.goto (-69), 3) := by decide +kernel
theorem dL_look_238 : decode cL_look 238 = .ok (.iinc 3 1, 3) := by decide +kernel
theorem dL_look_241 : decode cL_look 241 = .ok (.goto (-153), 3) := by decide +kernel
theorem dL_look_244 : decode cL_look 244 = .ok (.lload_n 1, 1) := by decide +kernel
theorem dL_look_245 : decode cL_look 245 = .ok (.lreturn, 1) := by decide +kernel
theorem dL_holds_0 : decode cL_holds 0 = .ok (.iconst 0, 1) := by decide +kernel
theorem dL_holds_1 : decode cL_holds 1 = .ok (.istore_n 1, 1) := by decide +kernel
theorem dL_holds_2 : decode cL_holds 2 = .ok (.iconst 0, 1) := by decide +kernel
theorem dL_holds_3 : decode cL_holds 3 = .ok (.istore_n 2, 1) := by decide +kernel
theorem dL_holds_4 : decode cL_holds 4 = .ok (.aload_n 0, 1) := by decide +kernel
theorem dL_holds_5 : decode cL_holds 5 = .ok (.bipush 12, 2) := by decide +kernel
theorem dL_holds_7 : decode cL_holds 7 = .ok (.invokevirtual 13, 3) := by decide +kernel
theorem dL_holds_10 : decode cL_holds 10 = .ok (.aload_n 0, 1) := by decide +kernel
theorem dL_holds_11 : decode cL_holds 11 = .ok (.bipush 13, 2) := by decide +kernel
theorem dL_holds_13 : decode cL_holds 13 = .ok (.invokevirtual 13, 3) := by decide +kernel
theorem dL_holds_16 : decode cL_holds 16 = .ok (.iadd, 1) := by decide +kernel
theorem dL_holds_17 : decode cL_holds 17 = .ok (.aload_n 0, 1) := by decide +kernel
theorem dL_holds_18 : decode cL_holds 18 = .ok (.bipush 14, 2) := by decide +kernel
theorem dL_holds_20 : decode cL_holds 20 = .ok (.invokevirtual 13, 3) := by decide +kernel
theorem dL_holds_23 : decode cL_holds 23 = .ok (.iadd, 1) := by decide +kernel
theorem dL_holds_24 : decode cL_holds 24 = .ok (.bipush 48, 2) := by decide +kernel
theorem dL_holds_26 : decode cL_holds 26 = .ok (.if_icmp .ne 56, 3) := by decide +kernel
theorem dL_holds_29 : decode cL_holds 29 = .ok (.aload_n 0, 1) := by decide +kernel
theorem dL_holds_30 : decode cL_holds 30 = .ok (.bipush 11, 2) := by decide +kernel
theorem dL_holds_32 : decode cL_holds 32 = .ok (.invokevirtual 13, 3) := by decide +kernel
theorem dL_holds_35 : decode cL_holds 35 = .ok (.bipush 9, 2) := by decide +kernel
theorem dL_holds_37 : decode cL_holds 37 = .ok (.if_icmp .gt 45, 3) := by decide +kernel
theorem dL_holds_40 : decode cL_holds 40 = .ok (.aload_n 0, 1) := by decide +kernel
theorem dL_holds_41 : decode cL_holds 41 = .ok (.invokevirtual 33, 3) := by decide +kernel
theorem dL_holds_44 : decode cL_holds 44 = .ok (.ldc 39, 2) := by decide +kernel
theorem dL_holds_46 : decode cL_holds 46 = .ok (.if_icmp .ne 7, 3) := by decide +kernel
theorem dL_holds_49 : decode cL_holds 49 = .ok (.iconst 1, 1) := by decide +kernel
theorem dL_holds_50 : decode cL_holds 50 = .ok (.goto 4, 3) := by decide +kernel
theorem dL_holds_53 : decode cL_holds 53 = .ok (.iconst 0, 1) := by decide +kernel
theorem dL_holds_54 : decode cL_holds 54 = .ok (.aload_n 0, 1) := by decide +kernel
theorem dL_holds_55 : decode cL_holds 55 = .ok (.bipush 10, 2) := by decide +kernel
theorem dL_holds_57 : decode cL_holds 57 = .ok (.invokevirtual 13, 3) := by decide +kernel
theorem dL_holds_60 : decode cL_holds 60 = .ok (.ifCond .ne 7, 3) := by decide +kernel
theorem dL_holds_63 : decode cL_holds 63 = .ok (.iconst 1, 1) := by decide +kernel
theorem dL_holds_64 : decode cL_holds 64 = .ok (.goto 4, 3) := by decide +kernel
theorem dL_holds_67 : decode cL_holds 67 = .ok (.iconst 0, 1) := by decide +kernel
theorem dL_holds_68 : decode cL_holds 68 = .ok (.if_icmp .ne 14, 3) := by decide +kernel
theorem dL_holds_71 : decode cL_holds 71 = .ok (.aload_n 0, 1) := by decide +kernel
theorem dL_holds_72 : decode cL_holds 72 = .ok (.invokevirtual 40, 3) := by decide +kernel
theorem dL_holds_75 : decode cL_holds 75 = .ok (.ifCond .lt 7, 3) := by decide +kernel
theorem dL_holds_78 : decode cL_holds 78 = .ok (.iconst 1, 1) := by decide +kernel
theorem dL_holds_79 : decode cL_holds 79 = .ok (.goto 4, 3) := by decide +kernel
theorem dL_holds_82 : decode cL_holds 82 = .ok (.iconst 0, 1) := by decide +kernel
theorem dL_holds_83 : decode cL_holds 83 = .ok (.istore_n 3, 1) := by decide +kernel
theorem dL_holds_84 : decode cL_holds 84 = .ok (.iconst 0, 1) := by decide +kernel
theorem dL_holds_85 : decode cL_holds 85 = .ok (.istore 4, 2) := by decide +kernel
theorem dL_holds_87 : decode cL_holds 87 = .ok (.iload 4, 2) := by decide +kernel
theorem dL_holds_89 : decode cL_holds 89 = .ok (.bipush 6, 2) := by decide +kernel
theorem dL_holds_91 : decode cL_holds 91 = .ok (.if_icmp .ge 570, 3) := by decide +kernel
theorem dL_holds_94 : decode cL_holds 94 = .ok (.iload_n 3, 1) := by decide +kernel
theorem dL_holds_95 : decode cL_holds 95 = .ok (.ifCond .eq 566, 3) := by decide +kernel
theorem dL_holds_98 : decode cL_holds 98 = .ok (.aload_n 0, 1) := by decide +kernel
theorem dL_holds_99 : decode cL_holds 99 = .ok (.iload 4, 2) := by decide +kernel
theorem dL_holds_101 : decode cL_holds 101 = .ok (.iconst 1, 1) := by decide +kernel
theorem dL_holds_102 : decode cL_holds 102 = .ok (.iconst 0, 1) := by decide +kernel
theorem dL_holds_103 : decode cL_holds 103 = .ok (.invokevirtual 26, 3) := by decide +kernel
theorem dL_holds_106 : decode cL_holds 106 = .ok (.istore 5, 2) := by decide +kernel
theorem dL_holds_108 : decode cL_holds 108 = .ok (.iload 5, 2) := by decide +kernel
theorem dL_holds_110 : decode cL_holds 110 = .ok (.aload_n 0, 1) := by decide +kernel
theorem dL_holds_111 : decode cL_holds 111 = .ok (.iload 4, 2) := by decide +kernel
theorem dL_holds_113 : decode cL_holds 113 = .ok (.iconst 0, 1) := by decide +kernel
theorem dL_holds_114 : decode cL_holds 114 = .ok (.iconst 0, 1) := by decide +kernel
theorem dL_holds_115 : decode cL_holds 115 = .ok (.invokevirtual 26, 3) := by decide +kernel
theorem dL_holds_118 : decode cL_holds 118 = .ok (.isub, 1) := by decide +kernel
theorem dL_holds_119 : decode cL_holds 119 = .ok (.aload_n 0, 1) := by decide +kernel
theorem dL_holds_120 : decode cL_holds 120 = .ok (.bipush 21, 2) := by decide +kernel
theorem dL_holds_122 : decode cL_holds 122 = .ok (.invokevirtual 13, 3) := by decide +kernel
theorem dL_holds_125 : decode cL_holds 125 = .ok (.if_icmp .lt 27, 3) := by decide +kernel
theorem dL_holds_128 : decode cL_holds 128 = .ok (.aload_n 0, 1) := by decide +kernel
theorem dL_holds_129 : decode cL_holds 129 = .ok (.iload 4, 2) := by decide +kernel
theorem dL_holds_131 : decode cL_holds 131 = .ok (.iconst 2, 1) := by decide +kernel
theorem dL_holds_132 : decode cL_holds 132 = .ok (.iconst 0, 1) := by decide +kernel
theorem dL_holds_133 : decode cL_holds 133 = .ok (.invokevirtual 26, 3) := by decide +kernel
theorem dL_holds_136 : decode cL_holds 136 = .ok (.iload 5, 2) := by decide +kernel
theorem dL_holds_138 : decode cL_holds 138 = .ok (.isub, 1) := by decide +kernel
theorem dL_holds_139 : decode cL_holds 139 = .ok (.aload_n 0, 1) := by decide +kernel
theorem dL_holds_140 : decode cL_holds 140 = .ok (.bipush 21, 2) := by decide +kernel
theorem dL_holds_142 : decode cL_holds 142 = .ok (.invokevirtual 13, 3) := by decide +kernel
theorem dL_holds_145 : decode cL_holds 145 = .ok (.if_icmp .lt 7, 3) := by decide +kernel
theorem dL_holds_148 : decode cL_holds 148 = .ok (.iconst 1, 1) := by decide +kernel
theorem dL_holds_149 : decode cL_holds 149 = .ok (.goto 4, 3) := by decide +kernel
theorem dL_holds_152 : decode cL_holds 152 = .ok (.iconst 0, 1) := by decide +kernel
theorem dL_holds_153 : decode cL_holds 153 = .ok (.istore 6, 2) := by decide +kernel
theorem dL_holds_155 : decode cL_holds 155 = .ok (.aload_n 0, 1) := by decide +kernel
theorem dL_holds_156 : decode cL_holds 156 = .ok (.iload 4, 2) := by decide +kernel
theorem dL_holds_158 : decode cL_holds 158 = .ok (.iconst 4, 1) := by decide +kernel
theorem dL_holds_159 : decode cL_holds 159 = .ok (.invokevirtual 23, 3) := by decide +kernel
theorem dL_holds_162 : decode cL_holds 162 = .ok (.istore 7, 2) := by decide +kernel
theorem dL_holds_164 : decode cL_holds 164 = .ok (.aload_n 0, 1) := by decide +kernel
theorem dL_holds_165 : decode cL_holds 165 = .ok (.iload 4, 2) := by decide +kernel
theorem dL_holds_167 : decode cL_holds 167 = .ok (.iconst 5, 1) := by decide +kernel
theorem dL_holds_168 : decode cL_holds 168 = .ok (.invokevirtual 23, 3) := by decide +kernel
theorem dL_holds_171 : decode cL_holds 171 = .ok (.istore 8, 2) := by decide +kernel
theorem dL_holds_173 : decode cL_holds 173 = .ok (.iload 4, 2) := by decide +kernel
theorem dL_holds_175 : decode cL_holds 175 = .ok (.ifCond .le 16, 3) := by decide +kernel
theorem dL_holds_178 : decode cL_holds 178 = .ok (.aload_n 0, 1) := by decide +kernel
theorem dL_holds_179 : decode cL_holds 179 = .ok (.iload 4, 2) := by decide +kernel
theorem dL_holds_181 : decode cL_holds 181 = .ok (.iconst 1, 1) := by decide +kernel
theorem dL_holds_182 : decode cL_holds 182 = .ok (.isub, 1) := by decide +kernel
theorem dL_holds_183 : decode cL_holds 183 = .ok (.iconst 2, 1) := by decide +kernel
theorem dL_holds_184 : decode cL_holds 184 = .ok (.invokevirtual 23, 3) := by decide +kernel
theorem dL_holds_187 : decode cL_holds 187 = .ok (.iconst 1, 1) := by decide +kernel
theorem dL_holds_188 : decode cL_holds 188 = .ok (.if_icmp .eq 22, 3) := by decide +kernel
theorem dL_holds_191 : decode cL_holds 191 = .ok (.iload 4, 2) := by decide +kernel
theorem dL_holds_193 : decode cL_holds 193 = .ok (.iconst 5, 1) := by decide +kernel
theorem dL_holds_194 : decode cL_holds 194 = .ok (.if_icmp .ge 20, 3) := by decide +kernel
theorem dL_holds_197 : decode cL_holds 197 = .ok (.aload_n 0, 1) := by decide +kernel
theorem dL_holds_198 : decode cL_holds 198 = .ok (.iload 4, 2) := by decide +kernel
theorem dL_holds_200 : decode cL_holds 200 = .ok (.iconst 1, 1) := by decide +kernel
theorem dL_holds_201 : decode cL_holds 201 = .ok (.iadd, 1) := by decide +kernel
theorem dL_holds_202 : decode cL_holds 202 = .ok (.iconst 2, 1) := by decide +kernel
theorem dL_holds_203 : decode cL_holds 203 = .ok (.invokevirtual 23, 3) := by decide +kernel
theorem dL_holds_206 : decode cL_holds 206 = .ok (.iconst 1, 1) := by decide +kernel
theorem dL_holds_207 : decode cL_holds 207 = .ok (.if_icmp .ne 7, 3) := by decide +kernel
theorem dL_holds_210 : decode cL_holds 210 = .ok (.iconst 1, 1) := by decide +kernel
theorem dL_holds_211 : decode cL_holds 211 = .ok (.goto 4, 3) := by decide +kernel
theorem dL_holds_214 : decode cL_holds 214 = .ok (.iconst 0, 1) := by decide +kernel
theorem dL_holds_215 : decode cL_holds 215 = .ok (.istore 9, 2) := by decide +kernel
theorem dL_holds_217 : decode cL_holds 217 = .ok (.iload_n 1, 1) := by decide +kernel
theorem dL_holds_218 : decode cL_holds 218 = .ok (.aload_n 0, 1) := by decide +kernel
theorem dL_holds_219 : decode cL_holds 219 = .ok (.iload 4, 2) := by decide +kernel
theorem dL_holds_221 : decode cL_holds 221 = .ok (.bipush 6, 2) := by decide +kernel
theorem dL_holds_223 : decode cL_holds 223 = .ok (.invokevirtual 23, 3) := by decide +kernel
theorem dL_holds_226 : decode cL_holds 226 = .ok (.iadd, 1) := by decide +kernel
theorem dL_holds_227 : decode cL_holds 227 = .ok (.istore_n 1, 1) := by decide +kernel
theorem dL_holds_228 : decode cL_holds 228 = .ok (.iload_n 2, 1) := by decide +kernel
theorem dL_holds_229 : decode cL_holds 229 = .ok (.aload_n 0, 1) := by decide +kernel
theorem dL_holds_230 : decode cL_holds 230 = .ok (.iload 4, 2) := by decide +kernel
theorem dL_holds_232 : decode cL_holds 232 = .ok (.iconst 0, 1) := by decide +kernel
theorem dL_holds_233 : decode cL_holds 233 = .ok (.iconst 1, 1) := by decide +kernel
theorem dL_holds_234 : decode cL_holds 234 = .ok (.invokevirtual 26, 3) := by decide +kernel
theorem dL_holds_237 : decode cL_holds 237 = .ok (.aload_n 0, 1) := by decide +kernel
theorem dL_holds_238 : decode cL_holds 238 = .ok (.iload 4, 2) := by decide +kernel
theorem dL_holds_240 : decode cL_holds 240 = .ok (.iconst 1, 1) := by decide +kernel
theorem dL_holds_241 : decode cL_holds 241 = .ok (.iconst 1, 1) := by decide +kernel
theorem dL_holds_242 : decode cL_holds 242 = .ok (.invokevirtual 26, 3) := by decide +kernel
theorem dL_holds_245 : decode cL_holds 245 = .ok (.iadd, 1) := by decide +kernel
theorem dL_holds_246 : decode cL_holds 246 = .ok (.aload_n 0, 1) := by decide +kernel
theorem dL_holds_247 : decode cL_holds 247 = .ok (.iload 4, 2) := by decide +kernel
theorem dL_holds_249 : decode cL_holds 249 = .ok (.iconst 2, 1) := by decide +kernel
theorem dL_holds_250 : decode cL_holds 250 = .ok (.iconst 1, 1) := by decide +kernel
theorem dL_holds_251 : decode cL_holds 251 = .ok (.invokevirtual 26, 3) := by decide +kernel
theorem dL_holds_254 : decode cL_holds 254 = .ok (.iadd, 1) := by decide +kernel
theorem dL_holds_255 : decode cL_holds 255 = .ok (.iadd, 1) := by decide +kernel
theorem dL_holds_256 : decode cL_holds 256 = .ok (.istore_n 2, 1) := by decide +kernel
theorem dL_holds_257 : decode cL_holds 257 = .ok (.aload_n 0, 1) := by decide +kernel
theorem dL_holds_258 : decode cL_holds 258 = .ok (.iload 4, 2) := by decide +kernel
theorem dL_holds_260 : decode cL_holds 260 = .ok (.iconst 2, 1) := by decide +kernel
theorem dL_holds_261 : decode cL_holds 261 = .ok (.invokevirtual 23, 3) := by decide +kernel
theorem dL_holds_264 : decode cL_holds 264 = .ok (.iload 6, 2) := by decide +kernel
theorem dL_holds_266 : decode cL_holds 266 = .ok (.ifCond .eq 7, 3) := by decide +kernel
theorem dL_holds_269 : decode cL_holds 269 = .ok (.iconst 1, 1) := by decide +kernel
theorem dL_holds_270 : decode cL_holds 270 = .ok (.goto 4, 3) := by decide +kernel
theorem dL_holds_273 : decode cL_holds 273 = .ok (.iconst 0, 1) := by decide +kernel
theorem dL_holds_274 : decode cL_holds 274 = .ok (.if_icmp .ne 186, 3) := by decide +kernel
theorem dL_holds_277 : decode cL_holds 277 = .ok (.aload_n 0, 1) := by decide +kernel
theorem dL_holds_278 : decode cL_holds 278 = .ok (.iload 4, 2) := by decide +kernel
theorem dL_holds_280 : decode cL_holds 280 = .ok (.iconst 3, 1) := by decide +kernel
theorem dL_holds_281 : decode cL_holds 281 = .ok (.invokevirtual 23, 3) := by decide +kernel
theorem dL_holds_284 : decode cL_holds 284 = .ok (.iload 6, 2) := by decide +kernel
theorem dL_holds_286 : decode cL_holds 286 = .ok (.ifCond .eq 7, 3) := by decide +kernel
theorem dL_holds_289 : decode cL_holds 289 = .ok (.iconst 0, 1) := by decide +kernel
theorem dL_holds_290 : decode cL_holds 290 = .ok (.goto 13, 3) := by decide +kernel
theorem dL_holds_293 : decode cL_holds 293 = .ok (.iload 9, 2) := by decide +kernel
theorem dL_holds_295 : decode cL_holds 295 = .ok (.ifCond .eq 7, 3) := by decide +kernel
theorem dL_holds_298 : decode cL_holds 298 = .ok (.iconst 1, 1) := by decide +kernel
theorem dL_holds_299 : decode cL_holds 299 = .ok (.goto 4, 3) := by decide +kernel
theorem dL_holds_302 : decode cL_holds 302 = .ok (.iconst 2, 1) := by decide +kernel
theorem dL_holds_303 : decode cL_holds 303 = .ok (.if_icmp .ne 157, 3) := by decide +kernel
theorem dL_holds_306 : decode cL_holds 306 = .ok (.aload_n 0, 1) := by decide +kernel
theorem dL_holds_307 : decode cL_holds 307 = .ok (.iload 4, 2) := by decide +kernel
theorem dL_holds_309 : decode cL_holds 309 = .ok (.iconst 0, 1) := by decide +kernel
theorem dL_holds_310 : decode cL_holds 310 = .ok (.invokevirtual 23, 3) := by decide +kernel
theorem dL_holds_313 : decode cL_holds 313 = .ok (.aload_n 0, 1) := by decide +kernel
theorem dL_holds_314 : decode cL_holds 314 = .ok (.iload 4, 2) := by decide +kernel
theorem dL_holds_316 : decode cL_holds 316 = .ok (.iconst 0, 1) := by decide +kernel
theorem dL_holds_317 : decode cL_holds 317 = .ok (.iconst 0, 1) := by decide +kernel
theorem dL_holds_318 : decode cL_holds 318 = .ok (.invokevirtual 26, 3) := by decide +kernel
theorem dL_holds_321 : decode cL_holds 321 = .ok (.iload 5, 2) := by decide +kernel
theorem dL_holds_323 : decode cL_holds 323 = .ok (.iadd, 1) := by decide +kernel
theorem dL_holds_324 : decode cL_holds 324 = .ok (.iconst 2, 1) := by decide +kernel
theorem dL_holds_325 : decode cL_holds 325 = .ok (.idiv, 1) := by decide +kernel
theorem dL_holds_326 : decode cL_holds 326 = .ok (.if_icmp .ne 134, 3) := by decide +kernel
theorem dL_holds_329 : decode cL_holds 329 = .ok (.aload_n 0, 1) := by decide +kernel
theorem dL_holds_330 : decode cL_holds 330 = .ok (.iload 4, 2) := by decide +kernel
theorem dL_holds_332 : decode cL_holds 332 = .ok (.iconst 1, 1) := by decide +kernel
theorem dL_holds_333 : decode cL_holds 333 = .ok (.invokevirtual 23, 3) := by decide +kernel
theorem dL_holds_336 : decode cL_holds 336 = .ok (.iload 5, 2) := by decide +kernel
theorem dL_holds_338 : decode cL_holds 338 = .ok (.aload_n 0, 1) := by decide +kernel
theorem dL_holds_339 : decode cL_holds 339 = .ok (.iload 4, 2) := by decide +kernel
theorem dL_holds_341 : decode cL_holds 341 = .ok (.iconst 2, 1) := by decide +kernel
theorem dL_holds_342 : decode cL_holds 342 = .ok (.iconst 0, 1) := by decide +kernel
theorem dL_holds_343 : decode cL_holds 343 = .ok (.invokevirtual 26, 3) := by decide +kernel
theorem dL_holds_346 : decode cL_holds 346 = .ok (.iadd, 1) := by decide +kernel
theorem dL_holds_347 : decode cL_holds 347 = .ok (.iconst 2, 1) := by decide +kernel
theorem dL_holds_348 : decode cL_holds 348 = .ok (.idiv, 1) := by decide +kernel
theorem dL_holds_349 : decode cL_holds 349 = .ok (.if_icmp .ne 111, 3) := by decide +kernel
theorem dL_holds_352 : decode cL_holds 352 = .ok (.iload 6, 2) := by decide +kernel
theorem dL_holds_354 : decode cL_holds 354 = .ok (.ifCond .eq 27, 3) := by decide +kernel
theorem dL_holds_357 : decode cL_holds 357 = .ok (.iload 7, 2) := by decide +kernel
theorem dL_holds_359 : decode cL_holds 359 = .ok (.aload_n 0, 1) := by decide +kernel
theorem dL_holds_360 : decode cL_holds 360 = .ok (.iload 4, 2) := by decide +kernel
theorem dL_holds_362 : decode cL_holds 362 = .ok (.iconst 0, 1) := by decide +kernel
theorem dL_holds_363 : decode cL_holds 363 = .ok (.invokevirtual 23, 3) := by decide +kernel
theorem dL_holds_366 : decode cL_holds 366 = .ok (.if_icmp .ne 94, 3) := by decide +kernel
theorem dL_holds_369 : decode cL_holds 369 = .ok (.iload 8, 2) := by decide +kernel
theorem dL_holds_371 : decode cL_holds 371 = .ok (.aload_n 0, 1) := by decide +kernel
theorem dL_holds_372 : decode cL_holds 372 = .ok (.iload 4, 2) := by decide +kernel
theorem dL_holds_374 : decode cL_holds 374 = .ok (.iconst 1, 1) := by decide +kernel
theorem dL_holds_375 : decode cL_holds 375 = .ok (.invokevirtual 23, 3) := by decide +kernel
theorem dL_holds_378 : decode cL_holds 378 = .ok (.if_icmp .ne 82, 3) := by decide +kernel
theorem dL_holds_381 : decode cL_holds 381 = .ok (.iload 6, 2) := by decide +kernel
theorem dL_holds_383 : decode cL_holds 383 = .ok (.ifCond .ne 24, 3) := by decide +kernel
theorem dL_holds_386 : decode cL_holds 386 = .ok (.iload 9, 2) := by decide +kernel
theorem dL_holds_388 : decode cL_holds 388 = .ok (.ifCond .ne 19, 3) := by decide +kernel
theorem dL_holds_391 : decode cL_holds 391 = .ok (.iload 7, 2) := by decide +kernel
theorem dL_holds_393 : decode cL_holds 393 = .ok (.sipush 300, 3) := by decide +kernel
theorem dL_holds_396 : decode cL_holds 396 = .ok (.if_icmp .ne 64, 3) := by decide +kernel
theorem dL_holds_399 : decode cL_holds 399 = .ok (.iload 8, 2) := by decide +kernel
theorem dL_holds_401 : decode cL_holds 401 = .ok (.sipush 700, 3) := by decide +kernel
theorem dL_holds_404 : decode cL_holds 404 = .ok (.if_icmp .ne 56, 3) := by decide +kernel
theorem dL_holds_407 : decode cL_holds 407 = .ok (.iload 7, 2) := by decide +kernel
theorem dL_holds_409 : decode cL_holds 409 = .ok (.iload 8, 2) := by decide +kernel
theorem dL_holds_411 : decode cL_holds 411 = .ok (.if_icmp .ge 49, 3) := by decide +kernel
theorem dL_holds_414 : decode cL_holds 414 = .ok (.aload_n 0, 1) := by decide +kernel
theorem dL_holds_415 : decode cL_holds 415 = .ok (.iload 4, 2) := by decide +kernel
theorem dL_holds_417 : decode cL_holds 417 = .ok (.bipush 9, 2) := by decide +kernel
theorem dL_holds_419 : decode cL_holds 419 = .ok (.invokevirtual 23, 3) := by decide +kernel
theorem dL_holds_422 : decode cL_holds 422 = .ok (.aload_n 0, 1) := by decide +kernel
theorem dL_holds_423 : decode cL_holds 423 = .ok (.iconst 0, 1) := by decide +kernel
theorem dL_holds_424 : decode cL_holds 424 = .ok (.invokevirtual 13, 3) := by decide +kernel
theorem dL_holds_427 : decode cL_holds 427 = .ok (.if_icmp .gt 33, 3) := by decide +kernel
theorem dL_holds_430 : decode cL_holds 430 = .ok (.aload_n 0, 1) := by decide +kernel
theorem dL_holds_431 : decode cL_holds 431 = .ok (.iload 4, 2) := by decide +kernel
theorem dL_holds_433 : decode cL_holds 433 = .ok (.bipush 8, 2) := by decide +kernel
theorem dL_holds_435 : decode cL_holds 435 = .ok (.invokevirtual 23, 3) := by decide +kernel
theorem dL_holds_438 : decode cL_holds 438 = .ok (.iconst 1, 1) := by decide +kernel
theorem dL_holds_439 : decode cL_holds 439 = .ok (.if_icmp .lt 21, 3) := by decide +kernel
theorem dL_holds_442 : decode cL_holds 442 = .ok (.aload_n 0, 1) := by decide +kernel
theorem dL_holds_443 : decode cL_holds 443 = .ok (.iload 4, 2) := by decide +kernel
theorem dL_holds_445 : decode cL_holds 445 = .ok (.bipush 8, 2) := by decide +kernel
theorem dL_holds_447 : decode cL_holds 447 = .ok (.invokevirtual 23, 3) := by decide +kernel
theorem dL_holds_450 : decode cL_holds 450 = .ok (.sipush 200, 3) := by decide +kernel
theorem dL_holds_453 : decode cL_holds 453 = .ok (.if_icmp .gt 7, 3) := by decide +kernel
theorem dL_holds_456 : decode cL_holds 456 = .ok (.iconst 1, 1) := by decide +kernel
theorem dL_holds_457 : decode cL_holds 457 = .ok (.goto 4, 3) := by decide +kernel
theorem dL_holds_460 : decode cL_holds 460 = .ok (.iconst 0, 1) := by decide +kernel
theorem dL_holds_461 : decode cL_holds 461 = .ok (.istore_n 3, 1) := by decide +kernel
theorem dL_holds_462 : decode cL_holds 462 = .ok (.iconst 0, 1) := by decide +kernel
theorem dL_holds_463 : decode cL_holds 463 = .ok (.istore 10, 2) := by decide +kernel
theorem dL_holds_465 : decode cL_holds 465 = .ok (.iload 10, 2) := by decide +kernel
theorem dL_holds_467 : decode cL_holds 467 = .ok (.bipush 8, 2) := by decide +kernel
theorem dL_holds_469 : decode cL_holds 469 = .ok (.if_icmp .ge 186, 3) := by decide +kernel
theorem dL_holds_472 : decode cL_holds 472 = .ok (.iload_n 3, 1) := by decide +kernel
theorem dL_holds_473 : decode cL_holds 473 = .ok (.ifCond .eq 182, 3) := by decide +kernel
theorem dL_holds_476 : decode cL_holds 476 = .ok (.aload_n 0, 1) := by decide +kernel
theorem dL_holds_477 : decode cL_holds 477 = .ok (.iload 4, 2) := by decide +kernel
theorem dL_holds_479 : decode cL_holds 479 = .ok (.iload 10, 2) := by decide +kernel
theorem dL_holds_481 : decode cL_holds 481 = .ok (.iconst 1, 1) := by decide +kernel
theorem dL_holds_482 : decode cL_holds 482 = .ok (.invokevirtual 30, 3) := by decide +kernel
theorem dL_holds_485 : decode cL_holds 485 = .ok (.istore 11, 2) := by decide +kernel
theorem dL_holds_487 : decode cL_holds 487 = .ok (.iload 11, 2) := by decide +kernel
theorem dL_holds_489 : decode cL_holds 489 = .ok (.iload 7, 2) := by decide +kernel
theorem dL_holds_491 : decode cL_holds 491 = .ok (.if_icmp .ge 11, 3) := by decide +kernel
theorem dL_holds_494 : decode cL_holds 494 = .ok (.iload 7, 2) := by decide +kernel
theorem dL_holds_496 : decode cL_holds 496 = .ok (.iload 11, 2) := by decide +kernel
theorem dL_holds_498 : decode cL_holds 498 = .ok (.isub, 1) := by decide +kernel
theorem dL_holds_499 : decode cL_holds 499 = .ok (.goto 8, 3) := by decide +kernel
theorem dL_holds_502 : decode cL_holds 502 = .ok (.iload 11, 2) := by decide +kernel
theorem dL_holds_504 : decode cL_holds 504 = .ok (.iload 7, 2) := by decide +kernel
theorem dL_holds_506 : decode cL_holds 506 = .ok (.isub, 1) := by decide +kernel
theorem dL_holds_507 : decode cL_holds 507 = .ok (.istore 12, 2) := by decide +kernel
theorem dL_holds_509 : decode cL_holds 509 = .ok (.iload 11, 2) := by decide +kernel
theorem dL_holds_511 : decode cL_holds 511 = .ok (.iload 8, 2) := by decide +kernel
theorem dL_holds_513 : decode cL_holds 513 = .ok (.if_icmp .ge 11, 3) := by decide +kernel
theorem dL_holds_516 : decode cL_holds 516 = .ok (.iload 8, 2) := by decide +kernel
theorem dL_holds_518 : decode cL_holds 518 = .ok (.iload 11, 2) := by decide +kernel
theorem dL_holds_520 : decode cL_holds 520 = .ok (.isub, 1) := by decide +kernel
theorem dL_holds_521 : decode cL_holds 521 = .ok (.goto 8, 3) := by decide +kernel
theorem dL_holds_524 : decode cL_holds 524 = .ok (.iload 11, 2) := by decide +kernel
theorem dL_holds_526 : decode cL_holds 526 = .ok (.iload 8, 2) := by decide +kernel
theorem dL_holds_528 : decode cL_holds 528 = .ok (.isub, 1) := by decide +kernel
theorem dL_holds_529 : decode cL_holds 529 = .ok (.istore 13, 2) := by decide +kernel
theorem dL_holds_531 : decode cL_holds 531 = .ok (.aload_n 0, 1) := by decide +kernel
theorem dL_holds_532 : decode cL_holds 532 = .ok (.iload 4, 2) := by decide +kernel
theorem dL_holds_534 : decode cL_holds 534 = .ok (.iload 10, 2) := by decide +kernel
theorem dL_holds_536 : decode cL_holds 536 = .ok (.iconst 2, 1) := by decide +kernel
theorem dL_holds_537 : decode cL_holds 537 = .ok (.invokevirtual 30, 3) := by decide +kernel
theorem dL_holds_540 : decode cL_holds 540 = .ok (.iload 11, 2) := by decide +kernel
theorem dL_holds_542 : decode cL_holds 542 = .ok (.iload 7, 2) := by decide +kernel
theorem dL_holds_544 : decode cL_holds 544 = .ok (.if_icmp .ge 7, 3) := by decide +kernel
theorem dL_holds_547 : decode cL_holds 547 = .ok (.iconst 0, 1) := by decide +kernel
theorem dL_holds_548 : decode cL_holds 548 = .ok (.goto 15, 3) := by decide +kernel
theorem dL_holds_551 : decode cL_holds 551 = .ok (.iload 11, 2) := by decide +kernel
theorem dL_holds_553 : decode cL_holds 553 = .ok (.iload 8, 2) := by decide +kernel
theorem dL_holds_555 : decode cL_holds 555 = .ok (.if_icmp .lt 7, 3) := by decide +kernel
theorem dL_holds_558 : decode cL_holds 558 = .ok (.iconst 2, 1) := by decide +kernel
theorem dL_holds_559 : decode cL_holds 559 = .ok (.goto 4, 3) := by decide +kernel
theorem dL_holds_562 : decode cL_holds 562 = .ok (.iconst 1, 1) := by decide +kernel
theorem dL_holds_563 : decode cL_holds 563 = .ok (.if_icmp .ne 84, 3) := by decide +kernel
theorem dL_holds_566 : decode cL_holds 566 = .ok (.aload_n 0, 1) := by decide +kernel
theorem dL_holds_567 : decode cL_holds 567 = .ok (.iload 4, 2) := by decide +kernel
theorem dL_holds_569 : decode cL_holds 569 = .ok (.iload 10, 2) := by decide +kernel
theorem dL_holds_571 : decode cL_holds 571 = .ok (.iconst 4, 1) := by decide +kernel
theorem dL_holds_572 : decode cL_holds 572 = .ok (.invokevirtual 30, 3) := by decide +kernel
theorem dL_holds_575 : decode cL_holds 575 = .ok (.iload 11, 2) := by decide +kernel
theorem dL_holds_577 : decode cL_holds 577 = .ok (.sipush 300, 3) := by decide +kernel
theorem dL_holds_580 : decode cL_holds 580 = .ok (.if_icmp .ge 7, 3) := by decide +kernel
theorem dL_holds_583 : decode cL_holds 583 = .ok (.iconst 0, 1) := by decide +kernel
theorem dL_holds_584 : decode cL_holds 584 = .ok (.goto 16, 3) := by decide +kernel
theorem dL_holds_587 : decode cL_holds 587 = .ok (.iload 11, 2) := by decide +kernel
theorem dL_holds_589 : decode cL_holds 589 = .ok (.sipush 700, 3) := by decide +kernel
theorem dL_holds_592 : decode cL_holds 592 = .ok (.if_icmp .lt 7, 3) := by decide +kernel
theorem dL_holds_595 : decode cL_holds 595 = .ok (.iconst 2, 1) := by decide +kernel
theorem dL_holds_596 : decode cL_holds 596 = .ok (.goto 4, 3) := by decide +kernel
theorem dL_holds_599 : decode cL_holds 599 = .ok (.iconst 1, 1) := by decide +kernel
theorem dL_holds_600 : decode cL_holds 600 = .ok (.if_icmp .ne 47, 3) := by decide +kernel
theorem dL_holds_603 : decode cL_holds 603 = .ok (.aload_n 0, 1) := by decide +kernel
theorem dL_holds_604 : decode cL_holds 604 = .ok (.iload 4, 2) := by decide +kernel
theorem dL_holds_606 : decode cL_holds 606 = .ok (.iload 10, 2) := by decide +kernel
theorem dL_holds_608 : decode cL_holds 608 = .ok (.bipush 6, 2) := by decide +kernel
theorem dL_holds_610 : decode cL_holds 610 = .ok (.invokevirtual 30, 3) := by decide +kernel
theorem dL_holds_613 : decode cL_holds 613 = .ok (.iload 12, 2) := by decide +kernel
theorem dL_holds_615 : decode cL_holds 615 = .ok (.iload 13, 2) := by decide +kernel
theorem dL_holds_617 : decode cL_holds 617 = .ok (.if_icmp .ge 8, 3) := by decide +kernel
theorem dL_holds_620 : decode cL_holds 620 = .ok (.iload 12, 2) := by decide +kernel
theorem dL_holds_622 : decode cL_holds 622 = .ok (.goto 5, 3) := by decide +kernel
theorem dL_holds_625 : decode cL_holds 625 = .ok (.iload 13, 2) := by decide +kernel
theorem dL_holds_627 : decode cL_holds 627 = .ok (.if_icmp .ne 20, 3) := by decide +kernel
theorem dL_holds_630 : decode cL_holds 630 = .ok (.iload 11, 2) := by decide +kernel
theorem dL_holds_632 : decode cL_holds 632 = .ok (.ifCond .lt 15, 3) := by decide +kernel
theorem dL_holds_635 : decode cL_holds 635 = .ok (.iload 11, 2) := by decide +kernel
theorem dL_holds_637 : decode cL_holds 637 = .ok (.sipush 999, 3) := by decide +kernel
theorem dL_holds_640 : decode cL_holds 640 = .ok (.if_icmp .gt 7, 3) := by decide +kernel
theorem dL_holds_643 : decode cL_holds 643 = .ok (.iconst 1, 1) := by decide +kernel
theorem dL_holds_644 : decode cL_holds 644 = .ok (.goto 4, 3) := by decide +kernel
theorem dL_holds_647 : decode cL_holds 647 = .ok (.iconst 0, 1) := by decide +kernel
theorem dL_holds_648 : decode cL_holds 648 = .ok (.istore_n 3, 1) := by decide +kernel
theorem dL_holds_649 : decode cL_holds 649 = .ok (.iinc 10 1, 3) := by decide +kernel
theorem dL_holds_652 : decode cL_holds 652 = .ok (.goto (-187), 3) := by decide +kernel
theorem dL_holds_655 : decode cL_holds 655 = .ok (.iinc 4 1, 3) := by decide +kernel
theorem dL_holds_658 : decode cL_holds 658 = .ok (.goto (-571), 3) := by decide +kernel
theorem dL_holds_661 : decode cL_holds 661 = .ok (.aload_n 0, 1) := by decide +kernel
theorem dL_holds_662 : decode cL_holds 662 = .ok (.iconst 0, 1) := by decide +kernel
theorem dL_holds_663 : decode cL_holds 663 = .ok (.invokevirtual 43, 3) := by decide +kernel
theorem dL_holds_666 : decode cL_holds 666 = .ok (.istore 4, 2) := by decide +kernel
theorem dL_holds_668 : decode cL_holds 668 = .ok (.iconst 1, 1) := by decide +kernel
theorem dL_holds_669 : decode cL_holds 669 = .ok (.istore 5, 2) := by decide +kernel
theorem dL_holds_671 : decode cL_holds 671 = .ok (.iload 5, 2) := by decide +kernel
theorem dL_holds_673 : decode cL_holds 673 = .ok (.bipush 6, 2) := by decide +kernel
theorem dL_holds_675 : decode cL_holds 675 = .ok (.if_icmp .ge 76, 3) := by decide +kernel
theorem dL_holds_678 : decode cL_holds 678 = .ok (.iload_n 3, 1) := by decide +kernel
theorem dL_holds_679 : decode cL_holds 679 = .ok (.ifCond .eq 72, 3) := by decide +kernel
theorem dL_holds_682 : decode cL_holds 682 = .ok (.aload_n 0, 1) := by decide +kernel
theorem dL_holds_683 : decode cL_holds 683 = .ok (.iload 5, 2) := by decide +kernel
theorem dL_holds_685 : decode cL_holds 685 = .ok (.invokevirtual 43, 3) := by decide +kernel
theorem dL_holds_688 : decode cL_holds 688 = .ok (.istore 6, 2) := by decide +kernel
theorem dL_holds_690 : decode cL_holds 690 = .ok (.aload_n 0, 1) := by decide +kernel
theorem dL_holds_691 : decode cL_holds 691 = .ok (.iload 6, 2) := by decide +kernel
theorem dL_holds_693 : decode cL_holds 693 = .ok (.bipush 6, 2) := by decide +kernel
theorem dL_holds_695 : decode cL_holds 695 = .ok (.invokevirtual 23, 3) := by decide +kernel
theorem dL_holds_698 : decode cL_holds 698 = .ok (.aload_n 0, 1) := by decide +kernel
theorem dL_holds_699 : decode cL_holds 699 = .ok (.iload 4, 2) := by decide +kernel
theorem dL_holds_701 : decode cL_holds 701 = .ok (.bipush 6, 2) := by decide +kernel
theorem dL_holds_703 : decode cL_holds 703 = .ok (.invokevirtual 23, 3) := by decide +kernel
theorem dL_holds_706 : decode cL_holds 706 = .ok (.if_icmp .lt 29, 3) := by decide +kernel
theorem dL_holds_709 : decode cL_holds 709 = .ok (.aload_n 0, 1) := by decide +kernel
theorem dL_holds_710 : decode cL_holds 710 = .ok (.iload 6, 2) := by decide +kernel
theorem dL_holds_712 : decode cL_holds 712 = .ok (.bipush 6, 2) := by decide +kernel
theorem dL_holds_714 : decode cL_holds 714 = .ok (.invokevirtual 23, 3) := by decide +kernel
theorem dL_holds_717 : decode cL_holds 717 = .ok (.aload_n 0, 1) := by decide +kernel
theorem dL_holds_718 : decode cL_holds 718 = .ok (.iload 4, 2) := by decide +kernel
theorem dL_holds_720 : decode cL_holds 720 = .ok (.bipush 6, 2) := by decide +kernel
theorem dL_holds_722 : decode cL_holds 722 = .ok (.invokevirtual 23, 3) := by decide +kernel
theorem dL_holds_725 : decode cL_holds 725 = .ok (.if_icmp .ne 14, 3) := by decide +kernel
theorem dL_holds_728 : decode cL_holds 728 = .ok (.iload 6, 2) := by decide +kernel
theorem dL_holds_730 : decode cL_holds 730 = .ok (.iload 4, 2) := by decide +kernel
theorem dL_holds_732 : decode cL_holds 732 = .ok (.if_icmp .le 7, 3) := by decide +kernel
theorem dL_holds_735 : decode cL_holds 735 = .ok (.iconst 1, 1) := by decide +kernel
theorem dL_holds_736 : decode cL_holds 736 = .ok (.goto 4, 3) := by decide +kernel
theorem dL_holds_739 : decode cL_holds 739 = .ok (.iconst 0, 1) := by decide +kernel
theorem dL_holds_740 : decode cL_holds 740 = .ok (.istore_n 3, 1) := by decide +kernel
theorem dL_holds_741 : decode cL_holds 741 = .ok (.iload 6, 2) := by decide +kernel
theorem dL_holds_743 : decode cL_holds 743 = .ok (.istore 4, 2) := by decide +kernel
theorem dL_holds_745 : decode cL_holds 745 = .ok (.iinc 5 1, 3) := by decide +kernel
theorem dL_holds_748 : decode cL_holds 748 = .ok (.goto (-77), 3) := by decide +kernel
theorem dL_holds_751 : decode cL_holds 751 = .ok (.iload_n 3, 1) := by decide +kernel
theorem dL_holds_752 : decode cL_holds 752 = .ok (.ifCond .eq 26, 3) := by decide +kernel
theorem dL_holds_755 : decode cL_holds 755 = .ok (.iload_n 1, 1) := by decide +kernel
theorem dL_holds_756 : decode cL_holds 756 = .ok (.aload_n 0, 1) := by decide +kernel
theorem dL_holds_757 : decode cL_holds 757 = .ok (.iconst 1, 1) := by decide +kernel
theorem dL_holds_758 : decode cL_holds 758 = .ok (.invokevirtual 13, 3) := by decide +kernel
theorem dL_holds_761 : decode cL_holds 761 = .ok (.if_icmp .ne 17, 3) := by decide +kernel
theorem dL_holds_764 : decode cL_holds 764 = .ok (.iload_n 2, 1) := by decide +kernel
theorem dL_holds_765 : decode cL_holds 765 = .ok (.aload_n 0, 1) := by decide +kernel
theorem dL_holds_766 : decode cL_holds 766 = .ok (.bipush 6, 2) := by decide +kernel
theorem dL_holds_768 : decode cL_holds 768 = .ok (.invokevirtual 13, 3) := by decide +kernel
theorem dL_holds_771 : decode cL_holds 771 = .ok (.if_icmp .ne 7, 3) := by decide +kernel
theorem dL_holds_774 : decode cL_holds 774 = .ok (.iconst 1, 1) := by decide +kernel
theorem dL_holds_775 : decode cL_holds 775 = .ok (.goto 4, 3) := by decide +kernel
theorem dL_holds_778 : decode cL_holds 778 = .ok (.iconst 0, 1) := by decide +kernel
theorem dL_holds_779 : decode cL_holds 779 = .ok (.ireturn, 1) := by decide +kernel
theorem dL_would_0 : decode cL_would 0 = .ok (.iload_n 1, 1) := by decide +kernel
theorem dL_would_1 : decode cL_would 1 = .ok (.bipush 7, 2) := by decide +kernel
theorem dL_would_3 : decode cL_would 3 = .ok (.invokestatic 46, 3) := by decide +kernel
theorem dL_would_6 : decode cL_would 6 = .ok (.istore_n 2, 1) := by decide +kernel
theorem dL_would_7 : decode cL_would 7 = .ok (.aload_n 0, 1) := by decide +kernel
theorem dL_would_8 : decode cL_would 8 = .ok (.iload_n 2, 1) := by decide +kernel
theorem dL_would_9 : decode cL_would 9 = .ok (.invokevirtual 49, 3) := by decide +kernel
theorem dL_would_12 : decode cL_would 12 = .ok (.istore_n 3, 1) := by decide +kernel
theorem dL_would_13 : decode cL_would 13 = .ok (.aload_n 0, 1) := by decide +kernel
theorem dL_would_14 : decode cL_would 14 = .ok (.iload_n 2, 1) := by decide +kernel
theorem dL_would_15 : decode cL_would 15 = .ok (.invokevirtual 52, 3) := by decide +kernel
theorem dL_would_18 : decode cL_would 18 = .ok (.istore 4, 2) := by decide +kernel
theorem dL_would_20 : decode cL_would 20 = .ok (.aload_n 0, 1) := by decide +kernel
theorem dL_would_21 : decode cL_would 21 = .ok (.invokevirtual 55, 3) := by decide +kernel
theorem dL_would_24 : decode cL_would 24 = .ok (.istore 5, 2) := by decide +kernel
theorem dL_would_26 : decode cL_would 26 = .ok (.iload_n 2, 1) := by decide +kernel
theorem dL_would_27 : decode cL_would 27 = .ok (.bipush 6, 2) := by decide +kernel
theorem dL_would_29 : decode cL_would 29 = .ok (.if_icmp .ne 24, 3) := by decide +kernel
theorem dL_would_32 : decode cL_would 32 = .ok (.iload_n 3, 1) := by decide +kernel
theorem dL_would_33 : decode cL_would 33 = .ok (.ldc 58, 2) := by decide +kernel
theorem dL_would_35 : decode cL_would 35 = .ok (.if_icmp .ne 14, 3) := by decide +kernel
theorem dL_would_38 : decode cL_would 38 = .ok (.iload 4, 2) := by decide +kernel
theorem dL_would_40 : decode cL_would 40 = .ok (.ldc 58, 2) := by decide +kernel
theorem dL_would_42 : decode cL_would 42 = .ok (.if_icmp .ne 7, 3) := by decide +kernel
theorem dL_would_45 : decode cL_would 45 = .ok (.iconst 1, 1) := by decide +kernel
theorem dL_would_46 : decode cL_would 46 = .ok (.goto 103, 3) := by decide +kernel
theorem dL_would_49 : decode cL_would 49 = .ok (.iconst 0, 1) := by decide +kernel
theorem dL_would_50 : decode cL_would 50 = .ok (.goto 99, 3) := by decide +kernel
theorem dL_would_53 : decode cL_would 53 = .ok (.iload_n 3, 1) := by decide +kernel
theorem dL_would_54 : decode cL_would 54 = .ok (.ldc 39, 2) := by decide +kernel
theorem dL_would_56 : decode cL_would 56 = .ok (.if_icmp .eq 14, 3) := by decide +kernel
theorem dL_would_59 : decode cL_would 59 = .ok (.iload_n 3, 1) := by decide +kernel
theorem dL_would_60 : decode cL_would 60 = .ok (.ifCond .lt 88, 3) := by decide +kernel
theorem dL_would_63 : decode cL_would 63 = .ok (.iload_n 3, 1) := by decide +kernel
theorem dL_would_64 : decode cL_would 64 = .ok (.sipush 300, 3) := by decide +kernel
theorem dL_would_67 : decode cL_would 67 = .ok (.if_icmp .gt 81, 3) := by decide +kernel
theorem dL_would_70 : decode cL_would 70 = .ok (.iload 4, 2) := by decide +kernel
theorem dL_would_72 : decode cL_would 72 = .ok (.ldc 39, 2) := by decide +kernel
theorem dL_would_74 : decode cL_would 74 = .ok (.if_icmp .eq 16, 3) := by decide +kernel
theorem dL_would_77 : decode cL_would 77 = .ok (.iload 4, 2) := by decide +kernel
theorem dL_would_79 : decode cL_would 79 = .ok (.ifCond .lt 69, 3) := by decide +kernel
theorem dL_would_82 : decode cL_would 82 = .ok (.iload 4, 2) := by decide +kernel
theorem dL_would_84 : decode cL_would 84 = .ok (.sipush 300, 3) := by decide +kernel
theorem dL_would_87 : decode cL_would 87 = .ok (.if_icmp .gt 61, 3) := by decide +kernel
theorem dL_would_90 : decode cL_would 90 = .ok (.iload_n 3, 1) := by decide +kernel
theorem dL_would_91 : decode cL_would 91 = .ok (.ifCond .ne 7, 3) := by decide +kernel
theorem dL_would_94 : decode cL_would 94 = .ok (.iconst 1, 1) := by decide +kernel
theorem dL_would_95 : decode cL_would 95 = .ok (.goto 4, 3) := by decide +kernel
theorem dL_would_98 : decode cL_would 98 = .ok (.iconst 0, 1) := by decide +kernel
theorem dL_would_99 : decode cL_would 99 = .ok (.aload_n 0, 1) := by decide +kernel
theorem dL_would_100 : decode cL_would 100 = .ok (.iload_n 2, 1) := by decide +kernel
theorem dL_would_101 : decode cL_would 101 = .ok (.bipush 6, 2) := by decide +kernel
theorem dL_would_103 : decode cL_would 103 = .ok (.invokevirtual 23, 3) := by decide +kernel
theorem dL_would_106 : decode cL_would 106 = .ok (.ifCond .le 7, 3) := by decide +kernel
theorem dL_would_109 : decode cL_would 109 = .ok (.iconst 1, 1) := by decide +kernel
theorem dL_would_110 : decode cL_would 110 = .ok (.goto 4, 3) := by decide +kernel
theorem dL_would_113 : decode cL_would 113 = .ok (.iconst 0, 1) := by decide +kernel
theorem dL_would_114 : decode cL_would 114 = .ok (.if_icmp .ne 34, 3) := by decide +kernel
theorem dL_would_117 : decode cL_would 117 = .ok (.iload 4, 2) := by decide +kernel
theorem dL_would_119 : decode cL_would 119 = .ok (.ifCond .ne 7, 3) := by decide +kernel
theorem dL_would_122 : decode cL_would 122 = .ok (.iconst 1, 1) := by decide +kernel
theorem dL_would_123 : decode cL_would 123 = .ok (.goto 4, 3) := by decide +kernel
theorem dL_would_126 : decode cL_would 126 = .ok (.iconst 0, 1) := by decide +kernel
theorem dL_would_127 : decode cL_would 127 = .ok (.aload_n 0, 1) := by decide +kernel
theorem dL_would_128 : decode cL_would 128 = .ok (.iload_n 2, 1) := by decide +kernel
theorem dL_would_129 : decode cL_would 129 = .ok (.iconst 2, 1) := by decide +kernel
theorem dL_would_130 : decode cL_would 130 = .ok (.invokevirtual 23, 3) := by decide +kernel
theorem dL_would_133 : decode cL_would 133 = .ok (.ifCond .ne 7, 3) := by decide +kernel
theorem dL_would_136 : decode cL_would 136 = .ok (.iconst 1, 1) := by decide +kernel
theorem dL_would_137 : decode cL_would 137 = .ok (.goto 4, 3) := by decide +kernel
theorem dL_would_140 : decode cL_would 140 = .ok (.iconst 0, 1) := by decide +kernel
theorem dL_would_141 : decode cL_would 141 = .ok (.if_icmp .ne 7, 3) := by decide +kernel
theorem dL_would_144 : decode cL_would 144 = .ok (.iconst 1, 1) := by decide +kernel
theorem dL_would_145 : decode cL_would 145 = .ok (.goto 4, 3) := by decide +kernel
theorem dL_would_148 : decode cL_would 148 = .ok (.iconst 0, 1) := by decide +kernel
theorem dL_would_149 : decode cL_would 149 = .ok (.istore 6, 2) := by decide +kernel
theorem dL_would_151 : decode cL_would 151 = .ok (.iload 6, 2) := by decide +kernel
theorem dL_would_153 : decode cL_would 153 = .ok (.ifCond .eq 27, 3) := by decide +kernel
theorem dL_would_156 : decode cL_would 156 = .ok (.iload 5, 2) := by decide +kernel
theorem dL_would_158 : decode cL_would 158 = .ok (.ldc 39, 2) := by decide +kernel
theorem dL_would_160 : decode cL_would 160 = .ok (.if_icmp .eq 16, 3) := by decide +kernel
theorem dL_would_163 : decode cL_would 163 = .ok (.iload 5, 2) := by decide +kernel
theorem dL_would_165 : decode cL_would 165 = .ok (.iconst 1, 1) := by decide +kernel
theorem dL_would_166 : decode cL_would 166 = .ok (.if_icmp .lt 14, 3) := by decide +kernel
theorem dL_would_169 : decode cL_would 169 = .ok (.iload 5, 2) := by decide +kernel
theorem dL_would_171 : decode cL_would 171 = .ok (.bipush 60, 2) := by decide +kernel
theorem dL_would_173 : decode cL_would 173 = .ok (.if_icmp .gt 7, 3) := by decide +kernel
theorem dL_would_176 : decode cL_would 176 = .ok (.iconst 1, 1) := by decide +kernel
theorem dL_would_177 : decode cL_would 177 = .ok (.goto 4, 3) := by decide +kernel
theorem dL_would_180 : decode cL_would 180 = .ok (.iconst 0, 1) := by decide +kernel
theorem dL_would_181 : decode cL_would 181 = .ok (.ireturn, 1) := by decide +kernel
theorem dL_number_0 : decode cL_number 0 = .ok (.iload_n 1, 1) := by decide +kernel
theorem dL_number_1 : decode cL_number 1 = .ok (.bipush 100, 2) := by decide +kernel
theorem dL_number_3 : decode cL_number 3 = .ok (.if_icmp .lt 17, 3) := by decide +kernel
theorem dL_number_6 : decode cL_number 6 = .ok (.aload_n 0, 1) := by decide +kernel
theorem dL_number_7 : decode cL_number 7 = .ok (.bipush 48, 2) := by decide +kernel
theorem dL_number_9 : decode cL_number 9 = .ok (.iload_n 1, 1) := by decide +kernel
theorem dL_number_10 : decode cL_number 10 = .ok (.bipush 100, 2) := by decide +kernel
theorem dL_number_12 : decode cL_number 12 = .ok (.idiv, 1) := by decide +kernel
theorem dL_number_13 : decode cL_number 13 = .ok (.iadd, 1) := by decide +kernel
theorem dL_number_14 : decode cL_number 14 = .ok (.invokevirtual 59, 3) := by decide +kernel
theorem dL_number_17 : decode cL_number 17 = .ok (.ifCond .le 44, 3) := by decide +kernel
theorem dL_number_20 : decode cL_number 20 = .ok (.iload_n 1, 1) := by decide +kernel
theorem dL_number_21 : decode cL_number 21 = .ok (.bipush 10, 2) := by decide +kernel
theorem dL_number_23 : decode cL_number 23 = .ok (.if_icmp .lt 20, 3) := by decide +kernel
theorem dL_number_26 : decode cL_number 26 = .ok (.aload_n 0, 1) := by decide +kernel
theorem dL_number_27 : decode cL_number 27 = .ok (.bipush 48, 2) := by decide +kernel
theorem dL_number_29 : decode cL_number 29 = .ok (.iload_n 1, 1) := by decide +kernel
theorem dL_number_30 : decode cL_number 30 = .ok (.bipush 10, 2) := by decide +kernel
theorem dL_number_32 : decode cL_number 32 = .ok (.idiv, 1) := by decide +kernel
theorem dL_number_33 : decode cL_number 33 = .ok (.bipush 10, 2) := by decide +kernel
theorem dL_number_35 : decode cL_number 35 = .ok (.irem, 1) := by decide +kernel
theorem dL_number_36 : decode cL_number 36 = .ok (.iadd, 1) := by decide +kernel
theorem dL_number_37 : decode cL_number 37 = .ok (.invokevirtual 59, 3) := by decide +kernel
theorem dL_number_40 : decode cL_number 40 = .ok (.ifCond .le 21, 3) := by decide +kernel
theorem dL_number_43 : decode cL_number 43 = .ok (.aload_n 0, 1) := by decide +kernel
theorem dL_number_44 : decode cL_number 44 = .ok (.bipush 48, 2) := by decide +kernel
theorem dL_number_46 : decode cL_number 46 = .ok (.iload_n 1, 1) := by decide +kernel
theorem dL_number_47 : decode cL_number 47 = .ok (.bipush 10, 2) := by decide +kernel
theorem dL_number_49 : decode cL_number 49 = .ok (.irem, 1) := by decide +kernel
theorem dL_number_50 : decode cL_number 50 = .ok (.iadd, 1) := by decide +kernel
theorem dL_number_51 : decode cL_number 51 = .ok (.invokevirtual 59, 3) := by decide +kernel
theorem dL_number_54 : decode cL_number 54 = .ok (.ifCond .le 7, 3) := by decide +kernel
theorem dL_number_57 : decode cL_number 57 = .ok (.iconst 1, 1) := by decide +kernel
theorem dL_number_58 : decode cL_number 58 = .ok (.goto 4, 3) := by decide +kernel
theorem dL_number_61 : decode cL_number 61 = .ok (.iconst 0, 1) := by decide +kernel
theorem dL_number_62 : decode cL_number 62 = .ok (.ireturn, 1) := by decide +kernel
theorem dL_types_0 : decode cL_types 0 = .ok (.iload_n 1, 1) := by decide +kernel
theorem dL_types_1 : decode cL_types 1 = .ok (.bipush 6, 2) := by decide +kernel
theorem dL_types_3 : decode cL_types 3 = .ok (.invokestatic 46, 3) := by decide +kernel
theorem dL_types_6 : decode cL_types 6 = .ok (.istore_n 2, 1) := by decide +kernel
theorem dL_types_7 : decode cL_types 7 = .ok (.aload_n 0, 1) := by decide +kernel
theorem dL_types_8 : decode cL_types 8 = .ok (.invokevirtual 62, 3) := by decide +kernel
theorem dL_types_11 : decode cL_types 11 = .ok (.ifCond .lt 7, 3) := by decide +kernel
theorem dL_types_14 : decode cL_types 14 = .ok (.iconst 1, 1) := by decide +kernel
theorem dL_types_15 : decode cL_types 15 = .ok (.goto 4, 3) := by decide +kernel
theorem dL_types_18 : decode cL_types 18 = .ok (.iconst 0, 1) := by decide +kernel
theorem dL_types_19 : decode cL_types 19 = .ok (.istore_n 3, 1) := by decide +kernel
theorem dL_types_20 : decode cL_types 20 = .ok (.iconst 0, 1) := by decide +kernel
theorem dL_types_21 : decode cL_types 21 = .ok (.istore 4, 2) := by decide +kernel
theorem dL_types_23 : decode cL_types 23 = .ok (.iload 4, 2) := by decide +kernel
theorem dL_types_25 : decode cL_types 25 = .ok (.iload_n 2, 1) := by decide +kernel
theorem dL_types_26 : decode cL_types 26 = .ok (.if_icmp .ge 395, 3) := by decide +kernel
theorem dL_types_29 : decode cL_types 29 = .ok (.iload_n 1, 1) := by decide +kernel
theorem dL_types_30 : decode cL_types 30 = .ok (.iconst 3, 1) := by decide +kernel
theorem dL_types_31 : decode cL_types 31 = .ok (.iconst 4, 1) := by decide +kernel
theorem dL_types_32 : decode cL_types 32 = .ok (.iload 4, 2) := by decide +kernel
theorem dL_types_34 : decode cL_types 34 = .ok (.imul, 1) := by decide +kernel
theorem dL_types_35 : decode cL_types 35 = .ok (.iadd, 1) := by decide +kernel
theorem dL_types_36 : decode cL_types 36 = .ok (.ishr, 1) := by decide +kernel
theorem dL_types_37 : decode cL_types 37 = .ok (.istore 5, 2) := by decide +kernel
theorem dL_types_39 : decode cL_types 39 = .ok (.iload 5, 2) := by decide +kernel
theorem dL_types_41 : decode cL_types 41 = .ok (.bipush 9, 2) := by decide +kernel
theorem dL_types_43 : decode cL_types 43 = .ok (.invokestatic 46, 3) := by decide +kernel
theorem dL_types_46 : decode cL_types 46 = .ok (.istore 6, 2) := by decide +kernel
theorem dL_types_48 : decode cL_types 48 = .ok (.iload 5, 2) := by decide +kernel
theorem dL_types_50 : decode cL_types 50 = .ok (.iconst 1, 1) := by decide +kernel
theorem dL_types_51 : decode cL_types 51 = .ok (.ishr, 1) := by decide +kernel
theorem dL_types_52 : decode cL_types 52 = .ok (.iload_n 1, 1) := by decide +kernel
theorem dL_types_53 : decode cL_types 53 = .ok (.bipush 23, 2) := by decide +kernel
theorem dL_types_55 : decode cL_types 55 = .ok (.ishr, 1) := by decide +kernel
theorem dL_types_56 : decode cL_types 56 = .ok (.bipush 9, 2) := by decide +kernel
theorem dL_types_58 : decode cL_types 58 = .ok (.invokestatic 46, 3) := by decide +kernel
theorem dL_types_61 : decode cL_types 61 = .ok (.ifCond .ne 8, 3) := by decide +kernel
theorem dL_types_64 : decode cL_types 64 = .ok (.bipush 7, 2) := by decide +kernel
theorem dL_types_66 : decode cL_types 66 = .ok (.goto 5, 3) := by decide +kernel
theorem dL_types_69 : decode cL_types 69 = .ok (.bipush 6, 2) := by decide +kernel
theorem dL_types_71 : decode cL_types 71 = .ok (.invokestatic 46, 3) := by decide +kernel
theorem dL_types_74 : decode cL_types 74 = .ok (.istore 7, 2) := by decide +kernel
theorem dL_types_76 : decode cL_types 76 = .ok (.iload_n 3, 1) := by decide +kernel
theorem dL_types_77 : decode cL_types 77 = .ok (.ifCond .eq 119, 3) := by decide +kernel
theorem dL_types_80 : decode cL_types 80 = .ok (.aload_n 0, 1) := by decide +kernel
theorem dL_types_81 : decode cL_types 81 = .ok (.iload 6, 2) := by decide +kernel
theorem dL_types_83 : decode cL_types 83 = .ok (.iconst 3, 1) := by decide +kernel
theorem dL_types_84 : decode cL_types 84 = .ok (.if_icmp .ge 8, 3) := by decide +kernel
theorem dL_types_87 : decode cL_types 87 = .ok (.bipush 119, 2) := by decide +kernel
theorem dL_types_89 : decode cL_types 89 = .ok (.goto 50, 3) := by decide +kernel
theorem dL_types_92 : decode cL_types 92 = .ok (.iload 6, 2) := by decide +kernel
theorem dL_types_94 : decode cL_types 94 = .ok (.iconst 3, 1) := by decide +kernel
theorem dL_types_95 : decode cL_types 95 = .ok (.if_icmp .ne 8, 3) := by decide +kernel
theorem dL_types_98 : decode cL_types 98 = .ok (.bipush 97, 2) := by decide +kernel
theorem dL_types_100 : decode cL_types 100 = .ok (.goto 39, 3) := by decide +kernel
theorem dL_types_103 : decode cL_types 103 = .ok (.iload 6, 2) := by decide +kernel
theorem dL_types_105 : decode cL_types 105 = .ok (.iconst 4, 1) := by decide +kernel
theorem dL_types_106 : decode cL_types 106 = .ok (.if_icmp .ne 8, 3) := by decide +kernel
theorem dL_types_109 : decode cL_types 109 = .ok (.bipush 102, 2) := by decide +kernel
theorem dL_types_111 : decode cL_types 111 = .ok (.goto 28, 3) := by decide +kernel
theorem dL_types_114 : decode cL_types 114 = .ok (.iload 6, 2) := by decide +kernel
theorem dL_types_116 : decode cL_types 116 = .ok (.iconst 5, 1) := by decide +kernel
theorem dL_types_117 : decode cL_types 117 = .ok (.if_icmp .ne 8, 3) := by decide +kernel
theorem dL_types_120 : decode cL_types 120 = .ok (.bipush 109, 2) := by decide +kernel
theorem dL_types_122 : decode cL_types 122 = .ok (.goto 17, 3) := by decide +kernel
theorem dL_types_125 : decode cL_types 125 = .ok (.iload 6, 2) := by decide +kernel
theorem dL_types_127 : decode cL_types 127 = .ok (.bipush 6, 2) := by decide +kernel
theorem dL_types_129 : decode cL_types 129 = .ok (.if_icmp .ne 8, 3) := by decide +kernel
theorem dL_types_132 : decode cL_types 132 = .ok (.bipush 114, 2) := by decide +kernel
theorem dL_types_134 : decode cL_types 134 = .ok (.goto 5, 3) := by decide +kernel
theorem dL_types_137 : decode cL_types 137 = .ok (.bipush 100, 2) := by decide +kernel
theorem dL_types_139 : decode cL_types 139 = .ok (.invokevirtual 59, 3) := by decide +kernel
theorem dL_types_142 : decode cL_types 142 = .ok (.ifCond .le 54, 3) := by decide +kernel
theorem dL_types_145 : decode cL_types 145 = .ok (.aload_n 0, 1) := by decide +kernel
theorem dL_types_146 : decode cL_types 146 = .ok (.iload 6, 2) := by decide +kernel
theorem dL_types_148 : decode cL_types 148 = .ok (.bipush 6, 2) := by decide +kernel
theorem dL_types_150 : decode cL_types 150 = .ok (.if_icmp .le 34, 3) := by decide +kernel
theorem dL_types_153 : decode cL_types 153 = .ok (.iconst 1, 1) := by decide +kernel
theorem dL_types_154 : decode cL_types 154 = .ok (.iload 5, 2) := by decide +kernel
theorem dL_types_156 : decode cL_types 156 = .ok (.iconst 2, 1) := by decide +kernel
theorem dL_types_157 : decode cL_types 157 = .ok (.ishr, 1) := by decide +kernel
theorem dL_types_158 : decode cL_types 158 = .ok (.iload_n 1, 1) := by decide +kernel
theorem dL_types_159 : decode cL_types 159 = .ok (.bipush 25, 2) := by decide +kernel
theorem dL_types_161 : decode cL_types 161 = .ok (.ishr, 1) := by decide +kernel
theorem dL_types_162 : decode cL_types 162 = .ok (.bipush 9, 2) := by decide +kernel
theorem dL_types_164 : decode cL_types 164 = .ok (.invokestatic 46, 3) := by decide +kernel
theorem dL_types_167 : decode cL_types 167 = .ok (.ifCond .ne 8, 3) := by decide +kernel
theorem dL_types_170 : decode cL_types 170 = .ok (.bipush 120, 2) := by decide +kernel
theorem dL_types_172 : decode cL_types 172 = .ok (.goto 5, 3) := by decide +kernel
theorem dL_types_175 : decode cL_types 175 = .ok (.bipush 9, 2) := by decide +kernel
theorem dL_types_177 : decode cL_types 177 = .ok (.invokestatic 46, 3) := by decide +kernel
theorem dL_types_180 : decode cL_types 180 = .ok (.iadd, 1) := by decide +kernel
theorem dL_types_181 : decode cL_types 181 = .ok (.goto 5, 3) := by decide +kernel
theorem dL_types_184 : decode cL_types 184 = .ok (.iload 7, 2) := by decide +kernel
theorem dL_types_186 : decode cL_types 186 = .ok (.invokestatic 65, 3) := by decide +kernel
theorem dL_types_189 : decode cL_types 189 = .ok (.ifCond .eq 7, 3) := by decide +kernel
theorem dL_types_192 : decode cL_types 192 = .ok (.iconst 1, 1) := by decide +kernel
theorem dL_types_193 : decode cL_types 193 = .ok (.goto 4, 3) := by decide +kernel
theorem dL_types_196 : decode cL_types 196 = .ok (.iconst 0, 1) := by decide +kernel
theorem dL_types_197 : decode cL_types 197 = .ok (.istore_n 3, 1) := by decide +kernel
theorem dL_types_198 : decode cL_types 198 = .ok (.iload 6, 2) := by decide +kernel
theorem dL_types_200 : decode cL_types 200 = .ok (.iconst 3, 1) := by decide +kernel
theorem dL_types_201 : decode cL_types 201 = .ok (.if_icmp .lt 16, 3) := by decide +kernel
theorem dL_types_204 : decode cL_types 204 = .ok (.iload 6, 2) := by decide +kernel
theorem dL_types_206 : decode cL_types 206 = .ok (.iconst 3, 1) := by decide +kernel
theorem dL_types_207 : decode cL_types 207 = .ok (.if_icmp .le 83, 3) := by decide +kernel
theorem dL_types_210 : decode cL_types 210 = .ok (.iload 6, 2) := by decide +kernel
theorem dL_types_212 : decode cL_types 212 = .ok (.bipush 7, 2) := by decide +kernel
theorem dL_types_214 : decode cL_types 214 = .ok (.if_icmp .ge 76, 3) := by decide +kernel
theorem dL_types_217 : decode cL_types 217 = .ok (.iload_n 3, 1) := by decide +kernel
theorem dL_types_218 : decode cL_types 218 = .ok (.ifCond .eq 70, 3) := by decide +kernel
theorem dL_types_221 : decode cL_types 221 = .ok (.aload_n 0, 1) := by decide +kernel
theorem dL_types_222 : decode cL_types 222 = .ok (.bipush 44, 2) := by decide +kernel
theorem dL_types_224 : decode cL_types 224 = .ok (.invokevirtual 59, 3) := by decide +kernel
theorem dL_types_227 : decode cL_types 227 = .ok (.ifCond .le 61, 3) := by decide +kernel
theorem dL_types_230 : decode cL_types 230 = .ok (.aload_n 0, 1) := by decide +kernel
theorem dL_types_231 : decode cL_types 231 = .ok (.iload 6, 2) := by decide +kernel
theorem dL_types_233 : decode cL_types 233 = .ok (.iconst 3, 1) := by decide +kernel
theorem dL_types_234 : decode cL_types 234 = .ok (.if_icmp .ge 15, 3) := by decide +kernel
theorem dL_types_237 : decode cL_types 237 = .ok (.iload 5, 2) := by decide +kernel
theorem dL_types_239 : decode cL_types 239 = .ok (.iconst 2, 1) := by decide +kernel
theorem dL_types_240 : decode cL_types 240 = .ok (.ishr, 1) := by decide +kernel
theorem dL_types_241 : decode cL_types 241 = .ok (.bipush 8, 2) := by decide +kernel
theorem dL_types_243 : decode cL_types 243 = .ok (.invokestatic 46, 3) := by decide +kernel
theorem dL_types_246 : decode cL_types 246 = .ok (.goto 32, 3) := by decide +kernel
theorem dL_types_249 : decode cL_types 249 = .ok (.iload 6, 2) := by decide +kernel
theorem dL_types_251 : decode cL_types 251 = .ok (.bipush 6, 2) := by decide +kernel
theorem dL_types_253 : decode cL_types 253 = .ok (.if_icmp .ne 17, 3) := by decide +kernel
theorem dL_types_256 : decode cL_types 256 = .ok (.iconst 1, 1) := by decide +kernel
theorem dL_types_257 : decode cL_types 257 = .ok (.iload 5, 2) := by decide +kernel
theorem dL_types_259 : decode cL_types 259 = .ok (.iconst 2, 1) := by decide +kernel
theorem dL_types_260 : decode cL_types 260 = .ok (.ishr, 1) := by decide +kernel
theorem dL_types_261 : decode cL_types 261 = .ok (.bipush 100, 2) := by decide +kernel
theorem dL_types_263 : decode cL_types 263 = .ok (.invokestatic 46, 3) := by decide +kernel
theorem dL_types_266 : decode cL_types 266 = .ok (.iadd, 1) := by decide +kernel
theorem dL_types_267 : decode cL_types 267 = .ok (.goto 11, 3) := by decide +kernel
theorem dL_types_270 : decode cL_types 270 = .ok (.iload 5, 2) := by decide +kernel
theorem dL_types_272 : decode cL_types 272 = .ok (.iconst 2, 1) := by decide +kernel
theorem dL_types_273 : decode cL_types 273 = .ok (.ishr, 1) := by decide +kernel
theorem dL_types_274 : decode cL_types 274 = .ok (.iconst 3, 1) := by decide +kernel
theorem dL_types_275 : decode cL_types 275 = .ok (.invokestatic 46, 3) := by decide +kernel
theorem dL_types_278 : decode cL_types 278 = .ok (.invokestatic 65, 3) := by decide +kernel
theorem dL_types_281 : decode cL_types 281 = .ok (.ifCond .eq 7, 3) := by decide +kernel
theorem dL_types_284 : decode cL_types 284 = .ok (.iconst 1, 1) := by decide +kernel
theorem dL_types_285 : decode cL_types 285 = .ok (.goto 4, 3) := by decide +kernel
theorem dL_types_288 : decode cL_types 288 = .ok (.iconst 0, 1) := by decide +kernel
theorem dL_types_289 : decode cL_types 289 = .ok (.istore_n 3, 1) := by decide +kernel
theorem dL_types_290 : decode cL_types 290 = .ok (.iload 6, 2) := by decide +kernel
theorem dL_types_292 : decode cL_types 292 = .ok (.iconst 3, 1) := by decide +kernel
theorem dL_types_293 : decode cL_types 293 = .ok (.if_icmp .lt 9, 3) := by decide +kernel
theorem dL_types_296 : decode cL_types 296 = .ok (.iload 6, 2) := by decide +kernel
theorem dL_types_298 : decode cL_types 298 = .ok (.iconst 4, 1) := by decide +kernel
theorem dL_types_299 : decode cL_types 299 = .ok (.if_icmp .ne 72, 3) := by decide +kernel
theorem dL_types_302 : decode cL_types 302 = .ok (.iload_n 3, 1) := by decide +kernel
theorem dL_types_303 : decode cL_types 303 = .ok (.ifCond .eq 66, 3) := by decide +kernel
theorem dL_types_306 : decode cL_types 306 = .ok (.aload_n 0, 1) := by decide +kernel
theorem dL_types_307 : decode cL_types 307 = .ok (.bipush 44, 2) := by decide +kernel
theorem dL_types_309 : decode cL_types 309 = .ok (.invokevirtual 59, 3) := by decide +kernel
theorem dL_types_312 : decode cL_types 312 = .ok (.ifCond .le 57, 3) := by decide +kernel
theorem dL_types_315 : decode cL_types 315 = .ok (.aload_n 0, 1) := by decide +kernel
theorem dL_types_316 : decode cL_types 316 = .ok (.iload 6, 2) := by decide +kernel
theorem dL_types_318 : decode cL_types 318 = .ok (.iconst 4, 1) := by decide +kernel
theorem dL_types_319 : decode cL_types 319 = .ok (.if_icmp .ne 16, 3) := by decide +kernel
theorem dL_types_322 : decode cL_types 322 = .ok (.iload 5, 2) := by decide +kernel
theorem dL_types_324 : decode cL_types 324 = .ok (.iconst 3, 1) := by decide +kernel
theorem dL_types_325 : decode cL_types 325 = .ok (.ishr, 1) := by decide +kernel
theorem dL_types_326 : decode cL_types 326 = .ok (.sipush 1000, 3) := by decide +kernel
theorem dL_types_329 : decode cL_types 329 = .ok (.invokestatic 46, 3) := by decide +kernel
theorem dL_types_332 : decode cL_types 332 = .ok (.goto 27, 3) := by decide +kernel
theorem dL_types_335 : decode cL_types 335 = .ok (.iload 5, 2) := by decide +kernel
theorem dL_types_337 : decode cL_types 337 = .ok (.iconst 3, 1) := by decide +kernel
theorem dL_types_338 : decode cL_types 338 = .ok (.ishr, 1) := by decide +kernel
theorem dL_types_339 : decode cL_types 339 = .ok (.iload_n 1, 1) := by decide +kernel
theorem dL_types_340 : decode cL_types 340 = .ok (.bipush 24, 2) := by decide +kernel
theorem dL_types_342 : decode cL_types 342 = .ok (.ishr, 1) := by decide +kernel
theorem dL_types_343 : decode cL_types 343 = .ok (.bipush 9, 2) := by decide +kernel
theorem dL_types_345 : decode cL_types 345 = .ok (.invokestatic 46, 3) := by decide +kernel
theorem dL_types_348 : decode cL_types 348 = .ok (.ifCond .ne 7, 3) := by decide +kernel
theorem dL_types_351 : decode cL_types 351 = .ok (.iconst 4, 1) := by decide +kernel
theorem dL_types_352 : decode cL_types 352 = .ok (.goto 4, 3) := by decide +kernel
theorem dL_types_355 : decode cL_types 355 = .ok (.iconst 3, 1) := by decide +kernel
theorem dL_types_356 : decode cL_types 356 = .ok (.invokestatic 46, 3) := by decide +kernel
theorem dL_types_359 : decode cL_types 359 = .ok (.invokestatic 65, 3) := by decide +kernel
theorem dL_types_362 : decode cL_types 362 = .ok (.ifCond .eq 7, 3) := by decide +kernel
theorem dL_types_365 : decode cL_types 365 = .ok (.iconst 1, 1) := by decide +kernel
theorem dL_types_366 : decode cL_types 366 = .ok (.goto 4, 3) := by decide +kernel
theorem dL_types_369 : decode cL_types 369 = .ok (.iconst 0, 1) := by decide +kernel
theorem dL_types_370 : decode cL_types 370 = .ok (.istore_n 3, 1) := by decide +kernel
theorem dL_types_371 : decode cL_types 371 = .ok (.iload_n 3, 1) := by decide +kernel
theorem dL_types_372 : decode cL_types 372 = .ok (.ifCond .eq 41, 3) := by decide +kernel
theorem dL_types_375 : decode cL_types 375 = .ok (.aload_n 0, 1) := by decide +kernel
theorem dL_types_376 : decode cL_types 376 = .ok (.iload 4, 2) := by decide +kernel
theorem dL_types_378 : decode cL_types 378 = .ok (.iload_n 2, 1) := by decide +kernel
theorem dL_types_379 : decode cL_types 379 = .ok (.iconst 1, 1) := by decide +kernel
theorem dL_types_380 : decode cL_types 380 = .ok (.isub, 1) := by decide +kernel
theorem dL_types_381 : decode cL_types 381 = .ok (.if_icmp .ne 20, 3) := by decide +kernel
theorem dL_types_384 : decode cL_types 384 = .ok (.iload_n 1, 1) := by decide +kernel
theorem dL_types_385 : decode cL_types 385 = .ok (.bipush 26, 2) := by decide +kernel
theorem dL_types_387 : decode cL_types 387 = .ok (.ishr, 1) := by decide +kernel
theorem dL_types_388 : decode cL_types 388 = .ok (.bipush 7, 2) := by decide +kernel
theorem dL_types_390 : decode cL_types 390 = .ok (.invokestatic 46, 3) := by decide +kernel
theorem dL_types_393 : decode cL_types 393 = .ok (.ifCond .ne 8, 3) := by decide +kernel
theorem dL_types_396 : decode cL_types 396 = .ok (.bipush 46, 2) := by decide +kernel
theorem dL_types_398 : decode cL_types 398 = .ok (.goto 5, 3) := by decide +kernel
theorem dL_types_401 : decode cL_types 401 = .ok (.bipush 59, 2) := by decide +kernel
theorem dL_types_403 : decode cL_types 403 = .ok (.invokevirtual 59, 3) := by decide +kernel
theorem dL_types_406 : decode cL_types 406 = .ok (.ifCond .le 7, 3) := by decide +kernel
theorem dL_types_409 : decode cL_types 409 = .ok (.iconst 1, 1) := by decide +kernel
theorem dL_types_410 : decode cL_types 410 = .ok (.goto 4, 3) := by decide +kernel
theorem dL_types_413 : decode cL_types 413 = .ok (.iconst 0, 1) := by decide +kernel
theorem dL_types_414 : decode cL_types 414 = .ok (.istore_n 3, 1) := by decide +kernel
theorem dL_types_415 : decode cL_types 415 = .ok (.iinc 4 1, 3) := by decide +kernel
theorem dL_types_418 : decode cL_types 418 = .ok (.goto (-395), 3) := by decide +kernel
theorem dL_types_421 : decode cL_types 421 = .ok (.iload_n 3, 1) := by decide +kernel
theorem dL_types_422 : decode cL_types 422 = .ok (.ireturn, 1) := by decide +kernel
theorem dL_reads_0 : decode cL_reads 0 = .ok (.aload_n 0, 1) := by decide +kernel
theorem dL_reads_1 : decode cL_reads 1 = .ok (.iload_n 1, 1) := by decide +kernel
theorem dL_reads_2 : decode cL_reads 2 = .ok (.invokestatic 69, 3) := by decide +kernel
theorem dL_reads_5 : decode cL_reads 5 = .ok (.istore_n 2, 1) := by decide +kernel
theorem dL_reads_6 : decode cL_reads 6 = .ok (.aload_n 0, 1) := by decide +kernel
theorem dL_reads_7 : decode cL_reads 7 = .ok (.bipush 16, 2) := by decide +kernel
theorem dL_reads_9 : decode cL_reads 9 = .ok (.invokevirtual 13, 3) := by decide +kernel
theorem dL_reads_12 : decode cL_reads 12 = .ok (.istore_n 3, 1) := by decide +kernel
theorem dL_reads_13 : decode cL_reads 13 = .ok (.aload_n 0, 1) := by decide +kernel
theorem dL_reads_14 : decode cL_reads 14 = .ok (.bipush 15, 2) := by decide +kernel
theorem dL_reads_16 : decode cL_reads 16 = .ok (.invokevirtual 13, 3) := by decide +kernel
theorem dL_reads_19 : decode cL_reads 19 = .ok (.istore 4, 2) := by decide +kernel
theorem dL_reads_21 : decode cL_reads 21 = .ok (.aload_n 0, 1) := by decide +kernel
theorem dL_reads_22 : decode cL_reads 22 = .ok (.iconst 0, 1) := by decide +kernel
theorem dL_reads_23 : decode cL_reads 23 = .ok (.invokevirtual 72, 3) := by decide +kernel
theorem dL_reads_26 : decode cL_reads 26 = .ok (.istore 5, 2) := by decide +kernel
theorem dL_reads_28 : decode cL_reads 28 = .ok (.aload_n 0, 1) := by decide +kernel
theorem dL_reads_29 : decode cL_reads 29 = .ok (.iconst 1, 1) := by decide +kernel
theorem dL_reads_30 : decode cL_reads 30 = .ok (.invokevirtual 72, 3) := by decide +kernel
theorem dL_reads_33 : decode cL_reads 33 = .ok (.istore 6, 2) := by decide +kernel
theorem dL_reads_35 : decode cL_reads 35 = .ok (.aload_n 0, 1) := by decide +kernel
theorem dL_reads_36 : decode cL_reads 36 = .ok (.iconst 2, 1) := by decide +kernel
theorem dL_reads_37 : decode cL_reads 37 = .ok (.invokevirtual 72, 3) := by decide +kernel
theorem dL_reads_40 : decode cL_reads 40 = .ok (.istore 7, 2) := by decide +kernel
theorem dL_reads_42 : decode cL_reads 42 = .ok (.aload_n 0, 1) := by decide +kernel
theorem dL_reads_43 : decode cL_reads 43 = .ok (.invokevirtual 75, 3) := by decide +kernel
theorem dL_reads_46 : decode cL_reads 46 = .ok (.istore 8, 2) := by decide +kernel
theorem dL_reads_48 : decode cL_reads 48 = .ok (.iload_n 2, 1) := by decide +kernel
theorem dL_reads_49 : decode cL_reads 49 = .ok (.ifCond .eq 96, 3) := by decide +kernel
theorem dL_reads_52 : decode cL_reads 52 = .ok (.aload_n 0, 1) := by decide +kernel
theorem dL_reads_53 : decode cL_reads 53 = .ok (.bipush 16, 2) := by decide +kernel
theorem dL_reads_55 : decode cL_reads 55 = .ok (.invokevirtual 13, 3) := by decide +kernel
theorem dL_reads_58 : decode cL_reads 58 = .ok (.iload_n 3, 1) := by decide +kernel
theorem dL_reads_59 : decode cL_reads 59 = .ok (.if_icmp .ne 86, 3) := by decide +kernel
theorem dL_reads_62 : decode cL_reads 62 = .ok (.iload 5, 2) := by decide +kernel
theorem dL_reads_64 : decode cL_reads 64 = .ok (.ldc 39, 2) := by decide +kernel
theorem dL_reads_66 : decode cL_reads 66 = .ok (.if_icmp .ne 7, 3) := by decide +kernel
theorem dL_reads_69 : decode cL_reads 69 = .ok (.iconst 1, 1) := by decide +kernel
theorem dL_reads_70 : decode cL_reads 70 = .ok (.goto 4, 3) := by decide +kernel
theorem dL_reads_73 : decode cL_reads 73 = .ok (.iconst 0, 1) := by decide +kernel
theorem dL_reads_74 : decode cL_reads 74 = .ok (.iload 6, 2) := by decide +kernel
theorem dL_reads_76 : decode cL_reads 76 = .ok (.ldc 39, 2) := by decide +kernel
theorem dL_reads_78 : decode cL_reads 78 = .ok (.if_icmp .ne 7, 3) := by decide +kernel
theorem dL_reads_81 : decode cL_reads 81 = .ok (.iconst 1, 1) := by decide +kernel
theorem dL_reads_82 : decode cL_reads 82 = .ok (.goto 4, 3) := by decide +kernel
theorem dL_reads_85 : decode cL_reads 85 = .ok (.iconst 0, 1) := by decide +kernel
theorem dL_reads_86 : decode cL_reads 86 = .ok (.if_icmp .ne 59, 3) := by decide +kernel
theorem dL_reads_89 : decode cL_reads 89 = .ok (.iload 5, 2) := by decide +kernel
theorem dL_reads_91 : decode cL_reads 91 = .ok (.ldc 39, 2) := by decide +kernel
theorem dL_reads_93 : decode cL_reads 93 = .ok (.if_icmp .ne 7, 3) := by decide +kernel
theorem dL_reads_96 : decode cL_reads 96 = .ok (.iconst 1, 1) := by decide +kernel
theorem dL_reads_97 : decode cL_reads 97 = .ok (.goto 4, 3) := by decide +kernel
theorem dL_reads_100 : decode cL_reads 100 = .ok (.iconst 0, 1) := by decide +kernel
theorem dL_reads_101 : decode cL_reads 101 = .ok (.iload 7, 2) := by decide +kernel
theorem dL_reads_103 : decode cL_reads 103 = .ok (.ldc 39, 2) := by decide +kernel
theorem dL_reads_105 : decode cL_reads 105 = .ok (.if_icmp .ne 7, 3) := by decide +kernel
theorem dL_reads_108 : decode cL_reads 108 = .ok (.iconst 1, 1) := by decide +kernel
theorem dL_reads_109 : decode cL_reads 109 = .ok (.goto 4, 3) := by decide +kernel
theorem dL_reads_112 : decode cL_reads 112 = .ok (.iconst 0, 1) := by decide +kernel
theorem dL_reads_113 : decode cL_reads 113 = .ok (.if_icmp .ne 32, 3) := by decide +kernel
theorem dL_reads_116 : decode cL_reads 116 = .ok (.iload 8, 2) := by decide +kernel
theorem dL_reads_118 : decode cL_reads 118 = .ok (.ldc 78, 2) := by decide +kernel
theorem dL_reads_120 : decode cL_reads 120 = .ok (.if_icmp .ne 7, 3) := by decide +kernel
theorem dL_reads_123 : decode cL_reads 123 = .ok (.iconst 1, 1) := by decide +kernel
theorem dL_reads_124 : decode cL_reads 124 = .ok (.goto 4, 3) := by decide +kernel
theorem dL_reads_127 : decode cL_reads 127 = .ok (.iconst 0, 1) := by decide +kernel
theorem dL_reads_128 : decode cL_reads 128 = .ok (.iload 5, 2) := by decide +kernel
theorem dL_reads_130 : decode cL_reads 130 = .ok (.ifCond .lt 7, 3) := by decide +kernel
theorem dL_reads_133 : decode cL_reads 133 = .ok (.iconst 1, 1) := by decide +kernel
theorem dL_reads_134 : decode cL_reads 134 = .ok (.goto 4, 3) := by decide +kernel
theorem dL_reads_137 : decode cL_reads 137 = .ok (.iconst 0, 1) := by decide +kernel
theorem dL_reads_138 : decode cL_reads 138 = .ok (.if_icmp .ne 7, 3) := by decide +kernel
theorem dL_reads_141 : decode cL_reads 141 = .ok (.iconst 1, 1) := by decide +kernel
theorem dL_reads_142 : decode cL_reads 142 = .ok (.goto 4, 3) := by decide +kernel
theorem dL_reads_145 : decode cL_reads 145 = .ok (.iconst 0, 1) := by decide +kernel
theorem dL_reads_146 : decode cL_reads 146 = .ok (.istore 9, 2) := by decide +kernel
theorem dL_reads_148 : decode cL_reads 148 = .ok (.iload 9, 2) := by decide +kernel
theorem dL_reads_150 : decode cL_reads 150 = .ok (.ifCond .eq 116, 3) := by decide +kernel
theorem dL_reads_153 : decode cL_reads 153 = .ok (.iload 5, 2) := by decide +kernel
theorem dL_reads_155 : decode cL_reads 155 = .ok (.ifCond .lt 73, 3) := by decide +kernel
theorem dL_reads_158 : decode cL_reads 158 = .ok (.iload 5, 2) := by decide +kernel
theorem dL_reads_160 : decode cL_reads 160 = .ok (.iload_n 3, 1) := by decide +kernel
theorem dL_reads_161 : decode cL_reads 161 = .ok (.if_icmp .ge 105, 3) := by decide +kernel
theorem dL_reads_164 : decode cL_reads 164 = .ok (.iload 6, 2) := by decide +kernel
theorem dL_reads_166 : decode cL_reads 166 = .ok (.iconst 1, 1) := by decide +kernel
theorem dL_reads_167 : decode cL_reads 167 = .ok (.if_icmp .ne 20, 3) := by decide +kernel
theorem dL_reads_170 : decode cL_reads 170 = .ok (.iload 7, 2) := by decide +kernel
theorem dL_reads_172 : decode cL_reads 172 = .ok (.ifCond .lt 94, 3) := by decide +kernel
theorem dL_reads_175 : decode cL_reads 175 = .ok (.iload 5, 2) := by decide +kernel
theorem dL_reads_177 : decode cL_reads 177 = .ok (.iload 7, 2) := by decide +kernel
theorem dL_reads_179 : decode cL_reads 179 = .ok (.iadd, 1) := by decide +kernel
theorem dL_reads_180 : decode cL_reads 180 = .ok (.iload_n 3, 1) := by decide +kernel
theorem dL_reads_181 : decode cL_reads 181 = .ok (.if_icmp .gt 85, 3) := by decide +kernel
theorem dL_reads_184 : decode cL_reads 184 = .ok (.goto 30, 3) := by decide +kernel
theorem dL_reads_187 : decode cL_reads 187 = .ok (.iload 6, 2) := by decide +kernel
theorem dL_reads_189 : decode cL_reads 189 = .ok (.iconst 2, 1) := by decide +kernel
theorem dL_reads_190 : decode cL_reads 190 = .ok (.if_icmp .ne 76, 3) := by decide +kernel
theorem dL_reads_193 : decode cL_reads 193 = .ok (.iload 7, 2) := by decide +kernel
theorem dL_reads_195 : decode cL_reads 195 = .ok (.ldc 58, 2) := by decide +kernel
theorem dL_reads_197 : decode cL_reads 197 = .ok (.if_icmp .eq 17, 3) := by decide +kernel
theorem dL_reads_200 : decode cL_reads 200 = .ok (.iload 7, 2) := by decide +kernel
theorem dL_reads_202 : decode cL_reads 202 = .ok (.ldc 78, 2) := by decide +kernel
theorem dL_reads_204 : decode cL_reads 204 = .ok (.if_icmp .eq 10, 3) := by decide +kernel
theorem dL_reads_207 : decode cL_reads 207 = .ok (.iload 7, 2) := by decide +kernel
theorem dL_reads_209 : decode cL_reads 209 = .ok (.ldc 79, 2) := by decide +kernel
theorem dL_reads_211 : decode cL_reads 211 = .ok (.if_icmp .ne 55, 3) := by decide +kernel
theorem dL_reads_214 : decode cL_reads 214 = .ok (.aload_n 0, 1) := by decide +kernel
theorem dL_reads_215 : decode cL_reads 215 = .ok (.bipush 15, 2) := by decide +kernel
theorem dL_reads_217 : decode cL_reads 217 = .ok (.invokevirtual 13, 3) := by decide +kernel
theorem dL_reads_220 : decode cL_reads 220 = .ok (.iload 4, 2) := by decide +kernel
theorem dL_reads_222 : decode cL_reads 222 = .ok (.if_icmp .ne 44, 3) := by decide +kernel
theorem dL_reads_225 : decode cL_reads 225 = .ok (.goto 37, 3) := by decide +kernel
theorem dL_reads_228 : decode cL_reads 228 = .ok (.iload 8, 2) := by decide +kernel
theorem dL_reads_230 : decode cL_reads 230 = .ok (.iload_n 1, 1) := by decide +kernel
theorem dL_reads_231 : decode cL_reads 231 = .ok (.bipush 6, 2) := by decide +kernel
theorem dL_reads_233 : decode cL_reads 233 = .ok (.invokestatic 46, 3) := by decide +kernel
theorem dL_reads_236 : decode cL_reads 236 = .ok (.if_icmp .ne 30, 3) := by decide +kernel
theorem dL_reads_239 : decode cL_reads 239 = .ok (.aload_n 0, 1) := by decide +kernel
theorem dL_reads_240 : decode cL_reads 240 = .ok (.bipush 15, 2) := by decide +kernel
theorem dL_reads_242 : decode cL_reads 242 = .ok (.invokevirtual 13, 3) := by decide +kernel
theorem dL_reads_245 : decode cL_reads 245 = .ok (.iload 4, 2) := by decide +kernel
theorem dL_reads_247 : decode cL_reads 247 = .ok (.iconst 4, 1) := by decide +kernel
theorem dL_reads_248 : decode cL_reads 248 = .ok (.if_icmp .ge 10, 3) := by decide +kernel
theorem dL_reads_251 : decode cL_reads 251 = .ok (.iload 4, 2) := by decide +kernel
theorem dL_reads_253 : decode cL_reads 253 = .ok (.iconst 1, 1) := by decide +kernel
theorem dL_reads_254 : decode cL_reads 254 = .ok (.iadd, 1) := by decide +kernel
theorem dL_reads_255 : decode cL_reads 255 = .ok (.goto 4, 3) := by decide +kernel
theorem dL_reads_258 : decode cL_reads 258 = .ok (.iconst 4, 1) := by decide +kernel
theorem dL_reads_259 : decode cL_reads 259 = .ok (.if_icmp .ne 7, 3) := by decide +kernel
theorem dL_reads_262 : decode cL_reads 262 = .ok (.iconst 1, 1) := by decide +kernel
theorem dL_reads_263 : decode cL_reads 263 = .ok (.goto 4, 3) := by decide +kernel
theorem dL_reads_266 : decode cL_reads 266 = .ok (.iconst 0, 1) := by decide +kernel
theorem dL_reads_267 : decode cL_reads 267 = .ok (.ireturn, 1) := by decide +kernel
theorem dL_cells_0 : decode cL_cells 0 = .ok (.iload_n 2, 1) := by decide +kernel
theorem dL_cells_1 : decode cL_cells 1 = .ok (.bipush 7, 2) := by decide +kernel
theorem dL_cells_3 : decode cL_cells 3 = .ok (.invokestatic 46, 3) := by decide +kernel
theorem dL_cells_6 : decode cL_cells 6 = .ok (.istore_n 3, 1) := by decide +kernel
theorem dL_cells_7 : decode cL_cells 7 = .ok (.iload_n 2, 1) := by decide +kernel
theorem dL_cells_8 : decode cL_cells 8 = .ok (.iconst 4, 1) := by decide +kernel
theorem dL_cells_9 : decode cL_cells 9 = .ok (.ishr, 1) := by decide +kernel
theorem dL_cells_10 : decode cL_cells 10 = .ok (.iload_n 2, 1) := by decide +kernel
theorem dL_cells_11 : decode cL_cells 11 = .ok (.bipush 18, 2) := by decide +kernel
theorem dL_cells_13 : decode cL_cells 13 = .ok (.ishr, 1) := by decide +kernel
theorem dL_cells_14 : decode cL_cells 14 = .ok (.bipush 6, 2) := by decide +kernel
theorem dL_cells_16 : decode cL_cells 16 = .ok (.invokestatic 46, 3) := by decide +kernel
theorem dL_cells_19 : decode cL_cells 19 = .ok (.ifCond .ne 8, 3) := by decide +kernel
theorem dL_cells_22 : decode cL_cells 22 = .ok (.bipush 9, 2) := by decide +kernel
theorem dL_cells_24 : decode cL_cells 24 = .ok (.goto 5, 3) := by decide +kernel
theorem dL_cells_27 : decode cL_cells 27 = .ok (.bipush 8, 2) := by decide +kernel
theorem dL_cells_29 : decode cL_cells 29 = .ok (.invokestatic 46, 3) := by decide +kernel
theorem dL_cells_32 : decode cL_cells 32 = .ok (.istore 4, 2) := by decide +kernel
theorem dL_cells_34 : decode cL_cells 34 = .ok (.iload_n 2, 1) := by decide +kernel
theorem dL_cells_35 : decode cL_cells 35 = .ok (.bipush 7, 2) := by decide +kernel
theorem dL_cells_37 : decode cL_cells 37 = .ok (.ishr, 1) := by decide +kernel
theorem dL_cells_38 : decode cL_cells 38 = .ok (.iload_n 2, 1) := by decide +kernel
theorem dL_cells_39 : decode cL_cells 39 = .ok (.bipush 17, 2) := by decide +kernel
theorem dL_cells_41 : decode cL_cells 41 = .ok (.ishr, 1) := by decide +kernel
theorem dL_cells_42 : decode cL_cells 42 = .ok (.bipush 6, 2) := by decide +kernel
theorem dL_cells_44 : decode cL_cells 44 = .ok (.invokestatic 46, 3) := by decide +kernel
theorem dL_cells_47 : decode cL_cells 47 = .ok (.ifCond .ne 7, 3) := by decide +kernel
theorem dL_cells_50 : decode cL_cells 50 = .ok (.iconst 4, 1) := by decide +kernel
theorem dL_cells_51 : decode cL_cells 51 = .ok (.goto 4, 3) := by decide +kernel
theorem dL_cells_54 : decode cL_cells 54 = .ok (.iconst 3, 1) := by decide +kernel
theorem dL_cells_55 : decode cL_cells 55 = .ok (.invokestatic 46, 3) := by decide +kernel
theorem dL_cells_58 : decode cL_cells 58 = .ok (.istore 5, 2) := by decide +kernel
theorem dL_cells_60 : decode cL_cells 60 = .ok (.iload_n 3, 1) := by decide +kernel
theorem dL_cells_61 : decode cL_cells 61 = .ok (.bipush 6, 2) := by decide +kernel
theorem dL_cells_63 : decode cL_cells 63 = .ok (.if_icmp .eq 10, 3) := by decide +kernel
theorem dL_cells_66 : decode cL_cells 66 = .ok (.iload 4, 2) := by decide +kernel
theorem dL_cells_68 : decode cL_cells 68 = .ok (.bipush 8, 2) := by decide +kernel
theorem dL_cells_70 : decode cL_cells 70 = .ok (.if_icmp .ne 7, 3) := by decide +kernel
theorem dL_cells_73 : decode cL_cells 73 = .ok (.iconst 1, 1) := by decide +kernel
theorem dL_cells_74 : decode cL_cells 74 = .ok (.goto 4, 3) := by decide +kernel
theorem dL_cells_77 : decode cL_cells 77 = .ok (.iconst 0, 1) := by decide +kernel
theorem dL_cells_78 : decode cL_cells 78 = .ok (.istore 6, 2) := by decide +kernel
theorem dL_cells_80 : decode cL_cells 80 = .ok (.iload 6, 2) := by decide +kernel
theorem dL_cells_82 : decode cL_cells 82 = .ok (.ifCond .eq 7, 3) := by decide +kernel
theorem dL_cells_85 : decode cL_cells 85 = .ok (.iconst 0, 1) := by decide +kernel
theorem dL_cells_86 : decode cL_cells 86 = .ok (.goto 11, 3) := by decide +kernel
theorem dL_cells_89 : decode cL_cells 89 = .ok (.aload_n 0, 1) := by decide +kernel
theorem dL_cells_90 : decode cL_cells 90 = .ok (.iload_n 3, 1) := by decide +kernel
theorem dL_cells_91 : decode cL_cells 91 = .ok (.iload 4, 2) := by decide +kernel
theorem dL_cells_93 : decode cL_cells 93 = .ok (.iconst 2, 1) := by decide +kernel
theorem dL_cells_94 : decode cL_cells 94 = .ok (.invokevirtual 30, 3) := by decide +kernel
theorem dL_cells_97 : decode cL_cells 97 = .ok (.istore 7, 2) := by decide +kernel
theorem dL_cells_99 : decode cL_cells 99 = .ok (.iload 6, 2) := by decide +kernel
theorem dL_cells_101 : decode cL_cells 101 = .ok (.ifCond .eq 7, 3) := by decide +kernel
theorem dL_cells_104 : decode cL_cells 104 = .ok (.iconst 0, 1) := by decide +kernel
theorem dL_cells_105 : decode cL_cells 105 = .ok (.goto 11, 3) := by decide +kernel
theorem dL_cells_108 : decode cL_cells 108 = .ok (.aload_n 0, 1) := by decide +kernel
theorem dL_cells_109 : decode cL_cells 109 = .ok (.iload_n 3, 1) := by decide +kernel
theorem dL_cells_110 : decode cL_cells 110 = .ok (.iload 4, 2) := by decide +kernel
theorem dL_cells_112 : decode cL_cells 112 = .ok (.iconst 0, 1) := by decide +kernel
theorem dL_cells_113 : decode cL_cells 113 = .ok (.invokevirtual 30, 3) := by decide +kernel
theorem dL_cells_116 : decode cL_cells 116 = .ok (.istore 8, 2) := by decide +kernel
theorem dL_cells_118 : decode cL_cells 118 = .ok (.iload 6, 2) := by decide +kernel
theorem dL_cells_120 : decode cL_cells 120 = .ok (.ifCond .eq 7, 3) := by decide +kernel
theorem dL_cells_123 : decode cL_cells 123 = .ok (.iconst 0, 1) := by decide +kernel
theorem dL_cells_124 : decode cL_cells 124 = .ok (.goto 11, 3) := by decide +kernel
theorem dL_cells_127 : decode cL_cells 127 = .ok (.aload_n 0, 1) := by decide +kernel
theorem dL_cells_128 : decode cL_cells 128 = .ok (.iload_n 3, 1) := by decide +kernel
theorem dL_cells_129 : decode cL_cells 129 = .ok (.iload 4, 2) := by decide +kernel
theorem dL_cells_131 : decode cL_cells 131 = .ok (.iconst 5, 1) := by decide +kernel
theorem dL_cells_132 : decode cL_cells 132 = .ok (.invokevirtual 30, 3) := by decide +kernel
theorem dL_cells_135 : decode cL_cells 135 = .ok (.istore 9, 2) := by decide +kernel
theorem dL_cells_137 : decode cL_cells 137 = .ok (.iload 6, 2) := by decide +kernel
theorem dL_cells_139 : decode cL_cells 139 = .ok (.ifCond .eq 7, 3) := by decide +kernel
theorem dL_cells_142 : decode cL_cells 142 = .ok (.iconst 0, 1) := by decide +kernel
theorem dL_cells_143 : decode cL_cells 143 = .ok (.goto 11, 3) := by decide +kernel
theorem dL_cells_146 : decode cL_cells 146 = .ok (.aload_n 0, 1) := by decide +kernel
theorem dL_cells_147 : decode cL_cells 147 = .ok (.iload 8, 2) := by decide +kernel
theorem dL_cells_149 : decode cL_cells 149 = .ok (.iload 7, 2) := by decide +kernel
theorem dL_cells_151 : decode cL_cells 151 = .ok (.invokevirtual 19, 3) := by decide +kernel
theorem dL_cells_154 : decode cL_cells 154 = .ok (.istore 10, 2) := by decide +kernel
theorem dL_cells_156 : decode cL_cells 156 = .ok (.iload_n 1, 1) := by decide +kernel
theorem dL_cells_157 : decode cL_cells 157 = .ok (.iconst 4, 1) := by decide +kernel
theorem dL_cells_158 : decode cL_cells 158 = .ok (.if_icmp .ge 134, 3) := by decide +kernel
theorem dL_cells_161 : decode cL_cells 161 = .ok (.bipush 90, 2) := by decide +kernel
theorem dL_cells_163 : decode cL_cells 163 = .ok (.sipush 400, 3) := by decide +kernel
theorem dL_cells_166 : decode cL_cells 166 = .ok (.iload 5, 2) := by decide +kernel
theorem dL_cells_168 : decode cL_cells 168 = .ok (.imul, 1) := by decide +kernel
theorem dL_cells_169 : decode cL_cells 169 = .ok (.iadd, 1) := by decide +kernel
theorem dL_cells_170 : decode cL_cells 170 = .ok (.bipush 37, 2) := by decide +kernel
theorem dL_cells_172 : decode cL_cells 172 = .ok (.bipush 8, 2) := by decide +kernel
theorem dL_cells_174 : decode cL_cells 174 = .ok (.iload_n 3, 1) := by decide +kernel
theorem dL_cells_175 : decode cL_cells 175 = .ok (.imul, 1) := by decide +kernel
theorem dL_cells_176 : decode cL_cells 176 = .ok (.iload 4, 2) := by decide +kernel
theorem dL_cells_178 : decode cL_cells 178 = .ok (.iadd, 1) := by decide +kernel
theorem dL_cells_179 : decode cL_cells 179 = .ok (.imul, 1) := by decide +kernel
theorem dL_cells_180 : decode cL_cells 180 = .ok (.bipush 11, 2) := by decide +kernel
theorem dL_cells_182 : decode cL_cells 182 = .ok (.iload 9, 2) := by decide +kernel
theorem dL_cells_184 : decode cL_cells 184 = .ok (.imul, 1) := by decide +kernel
theorem dL_cells_185 : decode cL_cells 185 = .ok (.iadd, 1) := by decide +kernel
theorem dL_cells_186 : decode cL_cells 186 = .ok (.bipush 21, 2) := by decide +kernel
theorem dL_cells_188 : decode cL_cells 188 = .ok (.irem, 1) := by decide +kernel
theorem dL_cells_189 : decode cL_cells 189 = .ok (.iadd, 1) := by decide +kernel
theorem dL_cells_190 : decode cL_cells 190 = .ok (.istore 11, 2) := by decide +kernel
theorem dL_cells_192 : decode cL_cells 192 = .ok (.aload_n 0, 1) := by decide +kernel
theorem dL_cells_193 : decode cL_cells 193 = .ok (.iload_n 3, 1) := by decide +kernel
theorem dL_cells_194 : decode cL_cells 194 = .ok (.iload 4, 2) := by decide +kernel
theorem dL_cells_196 : decode cL_cells 196 = .ok (.iload 5, 2) := by decide +kernel
theorem dL_cells_198 : decode cL_cells 198 = .ok (.invokevirtual 80, 3) := by decide +kernel
theorem dL_cells_201 : decode cL_cells 201 = .ok (.iload 6, 2) := by decide +kernel
theorem dL_cells_203 : decode cL_cells 203 = .ok (.ifCond .ne 9, 3) := by decide +kernel
theorem dL_cells_206 : decode cL_cells 206 = .ok (.iload 5, 2) := by decide +kernel
theorem dL_cells_208 : decode cL_cells 208 = .ok (.iconst 3, 1) := by decide +kernel
theorem dL_cells_209 : decode cL_cells 209 = .ok (.if_icmp .ne 8, 3) := by decide +kernel
theorem dL_cells_212 : decode cL_cells 212 = .ok (.ldc 58, 2) := by decide +kernel
theorem dL_cells_214 : decode cL_cells 214 = .ok (.goto 5, 3) := by decide +kernel
theorem dL_cells_217 : decode cL_cells 217 = .ok (.iload 11, 2) := by decide +kernel
theorem dL_cells_219 : decode cL_cells 219 = .ok (.if_icmp .ne 71, 3) := by decide +kernel
theorem dL_cells_222 : decode cL_cells 222 = .ok (.iload 6, 2) := by decide +kernel
theorem dL_cells_224 : decode cL_cells 224 = .ok (.ifCond .ne 62, 3) := by decide +kernel
theorem dL_cells_227 : decode cL_cells 227 = .ok (.iload 5, 2) := by decide +kernel
theorem dL_cells_229 : decode cL_cells 229 = .ok (.iconst 3, 1) := by decide +kernel
theorem dL_cells_230 : decode cL_cells 230 = .ok (.if_icmp .eq 56, 3) := by decide +kernel
theorem dL_cells_233 : decode cL_cells 233 = .ok (.aload_n 0, 1) := by decide +kernel
theorem dL_cells_234 : decode cL_cells 234 = .ok (.iload_n 3, 1) := by decide +kernel
theorem dL_cells_235 : decode cL_cells 235 = .ok (.iload 4, 2) := by decide +kernel
theorem dL_cells_237 : decode cL_cells 237 = .ok (.iconst 0, 1) := by decide +kernel
theorem dL_cells_238 : decode cL_cells 238 = .ok (.invokevirtual 30, 3) := by decide +kernel
theorem dL_cells_241 : decode cL_cells 241 = .ok (.iload 5, 2) := by decide +kernel
theorem dL_cells_243 : decode cL_cells 243 = .ok (.if_icmp .ne 47, 3) := by decide +kernel
theorem dL_cells_246 : decode cL_cells 246 = .ok (.aload_n 0, 1) := by decide +kernel
theorem dL_cells_247 : decode cL_cells 247 = .ok (.iload_n 3, 1) := by decide +kernel
theorem dL_cells_248 : decode cL_cells 248 = .ok (.iload 4, 2) := by decide +kernel
theorem dL_cells_250 : decode cL_cells 250 = .ok (.iconst 1, 1) := by decide +kernel
theorem dL_cells_251 : decode cL_cells 251 = .ok (.invokevirtual 30, 3) := by decide +kernel
theorem dL_cells_254 : decode cL_cells 254 = .ok (.iload 11, 2) := by decide +kernel
theorem dL_cells_256 : decode cL_cells 256 = .ok (.if_icmp .ne 34, 3) := by decide +kernel
theorem dL_cells_259 : decode cL_cells 259 = .ok (.aload_n 0, 1) := by decide +kernel
theorem dL_cells_260 : decode cL_cells 260 = .ok (.iload_n 3, 1) := by decide +kernel
theorem dL_cells_261 : decode cL_cells 261 = .ok (.iload 4, 2) := by decide +kernel
theorem dL_cells_263 : decode cL_cells 263 = .ok (.iconst 5, 1) := by decide +kernel
theorem dL_cells_264 : decode cL_cells 264 = .ok (.invokevirtual 30, 3) := by decide +kernel
theorem dL_cells_267 : decode cL_cells 267 = .ok (.iload 9, 2) := by decide +kernel
theorem dL_cells_269 : decode cL_cells 269 = .ok (.iconst 1, 1) := by decide +kernel
theorem dL_cells_270 : decode cL_cells 270 = .ok (.iadd, 1) := by decide +kernel
theorem dL_cells_271 : decode cL_cells 271 = .ok (.if_icmp .ne 19, 3) := by decide +kernel
theorem dL_cells_274 : decode cL_cells 274 = .ok (.aload_n 0, 1) := by decide +kernel
theorem dL_cells_275 : decode cL_cells 275 = .ok (.iload_n 3, 1) := by decide +kernel
theorem dL_cells_276 : decode cL_cells 276 = .ok (.iload 4, 2) := by decide +kernel
theorem dL_cells_278 : decode cL_cells 278 = .ok (.bipush 7, 2) := by decide +kernel
theorem dL_cells_280 : decode cL_cells 280 = .ok (.invokevirtual 30, 3) := by decide +kernel
theorem dL_cells_283 : decode cL_cells 283 = .ok (.ifCond .ne 7, 3) := by decide +kernel
theorem dL_cells_286 : decode cL_cells 286 = .ok (.iconst 1, 1) := by decide +kernel
theorem dL_cells_287 : decode cL_cells 287 = .ok (.goto 4, 3) := by decide +kernel
theorem dL_cells_290 : decode cL_cells 290 = .ok (.iconst 0, 1) := by decide +kernel
theorem dL_cells_291 : decode cL_cells 291 = .ok (.ireturn, 1) := by decide +kernel
theorem dL_cells_292 : decode cL_cells 292 = .ok (.iload_n 1, 1) := by decide +kernel
theorem dL_cells_293 : decode cL_cells 293 = .ok (.bipush 6, 2) := by decide +kernel
theorem dL_cells_295 : decode cL_cells 295 = .ok (.if_icmp .ge 81, 3) := by decide +kernel
theorem dL_cells_298 : decode cL_cells 298 = .ok (.aload_n 0, 1) := by decide +kernel
theorem dL_cells_299 : decode cL_cells 299 = .ok (.bipush 10, 2) := by decide +kernel
theorem dL_cells_301 : decode cL_cells 301 = .ok (.invokevirtual 13, 3) := by decide +kernel
theorem dL_cells_304 : decode cL_cells 304 = .ok (.istore 11, 2) := by decide +kernel
theorem dL_cells_306 : decode cL_cells 306 = .ok (.aload_n 0, 1) := by decide +kernel
theorem dL_cells_307 : decode cL_cells 307 = .ok (.iload_n 3, 1) := by decide +kernel
theorem dL_cells_308 : decode cL_cells 308 = .ok (.iload 4, 2) := by decide +kernel
theorem dL_cells_310 : decode cL_cells 310 = .ok (.invokevirtual 83, 3) := by decide +kernel
theorem dL_cells_313 : decode cL_cells 313 = .ok (.iload 6, 2) := by decide +kernel
theorem dL_cells_315 : decode cL_cells 315 = .ok (.ifCond .eq 8, 3) := by decide +kernel
theorem dL_cells_318 : decode cL_cells 318 = .ok (.ldc 58, 2) := by decide +kernel
theorem dL_cells_320 : decode cL_cells 320 = .ok (.goto 5, 3) := by decide +kernel
theorem dL_cells_323 : decode cL_cells 323 = .ok (.iload 7, 2) := by decide +kernel
theorem dL_cells_325 : decode cL_cells 325 = .ok (.if_icmp .ne 49, 3) := by decide +kernel
theorem dL_cells_328 : decode cL_cells 328 = .ok (.aload_n 0, 1) := by decide +kernel
theorem dL_cells_329 : decode cL_cells 329 = .ok (.bipush 10, 2) := by decide +kernel
theorem dL_cells_331 : decode cL_cells 331 = .ok (.invokevirtual 13, 3) := by decide +kernel
theorem dL_cells_334 : decode cL_cells 334 = .ok (.iload 11, 2) := by decide +kernel
theorem dL_cells_336 : decode cL_cells 336 = .ok (.iload 6, 2) := by decide +kernel
theorem dL_cells_338 : decode cL_cells 338 = .ok (.ifCond .eq 7, 3) := by decide +kernel
theorem dL_cells_341 : decode cL_cells 341 = .ok (.iconst 0, 1) := by decide +kernel
theorem dL_cells_342 : decode cL_cells 342 = .ok (.goto 4, 3) := by decide +kernel
theorem dL_cells_345 : decode cL_cells 345 = .ok (.iconst 1, 1) := by decide +kernel
theorem dL_cells_346 : decode cL_cells 346 = .ok (.iadd, 1) := by decide +kernel
theorem dL_cells_347 : decode cL_cells 347 = .ok (.if_icmp .ne 27, 3) := by decide +kernel
theorem dL_cells_350 : decode cL_cells 350 = .ok (.iload 6, 2) := by decide +kernel
theorem dL_cells_352 : decode cL_cells 352 = .ok (.ifCond .ne 18, 3) := by decide +kernel
theorem dL_cells_355 : decode cL_cells 355 = .ok (.aload_n 0, 1) := by decide +kernel
theorem dL_cells_356 : decode cL_cells 356 = .ok (.iload 8, 2) := by decide +kernel
theorem dL_cells_358 : decode cL_cells 358 = .ok (.iload 7, 2) := by decide +kernel
theorem dL_cells_360 : decode cL_cells 360 = .ok (.invokevirtual 19, 3) := by decide +kernel
theorem dL_cells_363 : decode cL_cells 363 = .ok (.iload 10, 2) := by decide +kernel
theorem dL_cells_365 : decode cL_cells 365 = .ok (.iconst 1, 1) := by decide +kernel
theorem dL_cells_366 : decode cL_cells 366 = .ok (.iadd, 1) := by decide +kernel
theorem dL_cells_367 : decode cL_cells 367 = .ok (.if_icmp .ne 7, 3) := by decide +kernel
theorem dL_cells_370 : decode cL_cells 370 = .ok (.iconst 1, 1) := by decide +kernel
theorem dL_cells_371 : decode cL_cells 371 = .ok (.goto 4, 3) := by decide +kernel
theorem dL_cells_374 : decode cL_cells 374 = .ok (.iconst 0, 1) := by decide +kernel
theorem dL_cells_375 : decode cL_cells 375 = .ok (.ireturn, 1) := by decide +kernel
theorem dL_cells_376 : decode cL_cells 376 = .ok (.iload_n 2, 1) := by decide +kernel
theorem dL_cells_377 : decode cL_cells 377 = .ok (.bipush 7, 2) := by decide +kernel
theorem dL_cells_379 : decode cL_cells 379 = .ok (.ishr, 1) := by decide +kernel
theorem dL_cells_380 : decode cL_cells 380 = .ok (.sipush 6562, 3) := by decide +kernel
theorem dL_cells_383 : decode cL_cells 383 = .ok (.invokestatic 46, 3) := by decide +kernel
theorem dL_cells_386 : decode cL_cells 386 = .ok (.istore 11, 2) := by decide +kernel
theorem dL_cells_388 : decode cL_cells 388 = .ok (.iload_n 3, 1) := by decide +kernel
theorem dL_cells_389 : decode cL_cells 389 = .ok (.bipush 6, 2) := by decide +kernel
theorem dL_cells_391 : decode cL_cells 391 = .ok (.if_icmp .ne 7, 3) := by decide +kernel
theorem dL_cells_394 : decode cL_cells 394 = .ok (.iconst 0, 1) := by decide +kernel
theorem dL_cells_395 : decode cL_cells 395 = .ok (.goto 10, 3) := by decide +kernel
theorem dL_cells_398 : decode cL_cells 398 = .ok (.aload_n 0, 1) := by decide +kernel
theorem dL_cells_399 : decode cL_cells 399 = .ok (.iload_n 3, 1) := by decide +kernel
theorem dL_cells_400 : decode cL_cells 400 = .ok (.bipush 10, 2) := by decide +kernel
theorem dL_cells_402 : decode cL_cells 402 = .ok (.invokevirtual 23, 3) := by decide +kernel
theorem dL_cells_405 : decode cL_cells 405 = .ok (.istore 12, 2) := by decide +kernel
theorem dL_cells_407 : decode cL_cells 407 = .ok (.iload_n 3, 1) := by decide +kernel
theorem dL_cells_408 : decode cL_cells 408 = .ok (.bipush 6, 2) := by decide +kernel
theorem dL_cells_410 : decode cL_cells 410 = .ok (.if_icmp .eq 11, 3) := by decide +kernel
theorem dL_cells_413 : decode cL_cells 413 = .ok (.iload 11, 2) := by decide +kernel
theorem dL_cells_415 : decode cL_cells 415 = .ok (.sipush 6561, 3) := by decide +kernel
theorem dL_cells_418 : decode cL_cells 418 = .ok (.if_icmp .ne 7, 3) := by decide +kernel
theorem dL_cells_421 : decode cL_cells 421 = .ok (.iconst 1, 1) := by decide +kernel
theorem dL_cells_422 : decode cL_cells 422 = .ok (.goto 4, 3) := by decide +kernel
theorem dL_cells_425 : decode cL_cells 425 = .ok (.iconst 0, 1) := by decide +kernel
theorem dL_cells_426 : decode cL_cells 426 = .ok (.istore 13, 2) := by decide +kernel
theorem dL_cells_428 : decode cL_cells 428 = .ok (.iload_n 1, 1) := by decide +kernel
theorem dL_cells_429 : decode cL_cells 429 = .ok (.bipush 6, 2) := by decide +kernel
theorem dL_cells_431 : decode cL_cells 431 = .ok (.if_icmp .ne 48, 3) := by decide +kernel
theorem dL_cells_434 : decode cL_cells 434 = .ok (.aload_n 0, 1) := by decide +kernel
theorem dL_cells_435 : decode cL_cells 435 = .ok (.iload_n 3, 1) := by decide +kernel
theorem dL_cells_436 : decode cL_cells 436 = .ok (.iload 11, 2) := by decide +kernel
theorem dL_cells_438 : decode cL_cells 438 = .ok (.invokevirtual 86, 3) := by decide +kernel
theorem dL_cells_441 : decode cL_cells 441 = .ok (.iload 13, 2) := by decide +kernel
theorem dL_cells_443 : decode cL_cells 443 = .ok (.ifCond .eq 8, 3) := by decide +kernel
theorem dL_cells_446 : decode cL_cells 446 = .ok (.ldc 58, 2) := by decide +kernel
theorem dL_cells_448 : decode cL_cells 448 = .ok (.goto 5, 3) := by decide +kernel
theorem dL_cells_451 : decode cL_cells 451 = .ok (.iload 12, 2) := by decide +kernel
theorem dL_cells_453 : decode cL_cells 453 = .ok (.if_icmp .ne 24, 3) := by decide +kernel
theorem dL_cells_456 : decode cL_cells 456 = .ok (.iload 13, 2) := by decide +kernel
theorem dL_cells_458 : decode cL_cells 458 = .ok (.ifCond .ne 15, 3) := by decide +kernel
theorem dL_cells_461 : decode cL_cells 461 = .ok (.aload_n 0, 1) := by decide +kernel
theorem dL_cells_462 : decode cL_cells 462 = .ok (.iload_n 3, 1) := by decide +kernel
theorem dL_cells_463 : decode cL_cells 463 = .ok (.bipush 11, 2) := by decide +kernel
theorem dL_cells_465 : decode cL_cells 465 = .ok (.invokevirtual 23, 3) := by decide +kernel
theorem dL_cells_468 : decode cL_cells 468 = .ok (.iload 11, 2) := by decide +kernel
theorem dL_cells_470 : decode cL_cells 470 = .ok (.if_icmp .ne 7, 3) := by decide +kernel
theorem dL_cells_473 : decode cL_cells 473 = .ok (.iconst 1, 1) := by decide +kernel
theorem dL_cells_474 : decode cL_cells 474 = .ok (.goto 4, 3) := by decide +kernel
theorem dL_cells_477 : decode cL_cells 477 = .ok (.iconst 0, 1) := by decide +kernel
theorem dL_cells_478 : decode cL_cells 478 = .ok (.ireturn, 1) := by decide +kernel
theorem dL_cells_479 : decode cL_cells 479 = .ok (.iload_n 3, 1) := by decide +kernel
theorem dL_cells_480 : decode cL_cells 480 = .ok (.bipush 6, 2) := by decide +kernel
theorem dL_cells_482 : decode cL_cells 482 = .ok (.if_icmp .ne 7, 3) := by decide +kernel
theorem dL_cells_485 : decode cL_cells 485 = .ok (.iconst 0, 1) := by decide +kernel
theorem dL_cells_486 : decode cL_cells 486 = .ok (.goto 10, 3) := by decide +kernel
theorem dL_cells_489 : decode cL_cells 489 = .ok (.aload_n 0, 1) := by decide +kernel
theorem dL_cells_490 : decode cL_cells 490 = .ok (.iload_n 3, 1) := by decide +kernel
theorem dL_cells_491 : decode cL_cells 491 = .ok (.bipush 6, 2) := by decide +kernel
theorem dL_cells_493 : decode cL_cells 493 = .ok (.invokevirtual 23, 3) := by decide +kernel
theorem dL_cells_496 : decode cL_cells 496 = .ok (.istore 14, 2) := by decide +kernel
theorem dL_cells_498 : decode cL_cells 498 = .ok (.aload_n 0, 1) := by decide +kernel
theorem dL_cells_499 : decode cL_cells 499 = .ok (.bipush 7, 2) := by decide +kernel
theorem dL_cells_501 : decode cL_cells 501 = .ok (.invokevirtual 13, 3) := by decide +kernel
theorem dL_cells_504 : decode cL_cells 504 = .ok (.istore 15, 2) := by decide +kernel
theorem dL_cells_506 : decode cL_cells 506 = .ok (.aload_n 0, 1) := by decide +kernel
theorem dL_cells_507 : decode cL_cells 507 = .ok (.iload_n 3, 1) := by decide +kernel
theorem dL_cells_508 : decode cL_cells 508 = .ok (.invokevirtual 89, 3) := by decide +kernel
theorem dL_cells_511 : decode cL_cells 511 = .ok (.iload_n 3, 1) := by decide +kernel
theorem dL_cells_512 : decode cL_cells 512 = .ok (.bipush 6, 2) := by decide +kernel
theorem dL_cells_514 : decode cL_cells 514 = .ok (.if_icmp .ne 8, 3) := by decide +kernel
theorem dL_cells_517 : decode cL_cells 517 = .ok (.ldc 58, 2) := by decide +kernel
theorem dL_cells_519 : decode cL_cells 519 = .ok (.goto 5, 3) := by decide +kernel
theorem dL_cells_522 : decode cL_cells 522 = .ok (.iload 14, 2) := by decide +kernel
theorem dL_cells_524 : decode cL_cells 524 = .ok (.if_icmp .ne 73, 3) := by decide +kernel
theorem dL_cells_527 : decode cL_cells 527 = .ok (.iload_n 3, 1) := by decide +kernel
theorem dL_cells_528 : decode cL_cells 528 = .ok (.bipush 6, 2) := by decide +kernel
theorem dL_cells_530 : decode cL_cells 530 = .ok (.if_icmp .eq 63, 3) := by decide +kernel
theorem dL_cells_533 : decode cL_cells 533 = .ok (.aload_n 0, 1) := by decide +kernel
theorem dL_cells_534 : decode cL_cells 534 = .ok (.iload_n 3, 1) := by decide +kernel
theorem dL_cells_535 : decode cL_cells 535 = .ok (.bipush 11, 2) := by decide +kernel
theorem dL_cells_537 : decode cL_cells 537 = .ok (.invokevirtual 23, 3) := by decide +kernel
theorem dL_cells_540 : decode cL_cells 540 = .ok (.iload 12, 2) := by decide +kernel
theorem dL_cells_542 : decode cL_cells 542 = .ok (.if_icmp .ne 55, 3) := by decide +kernel
theorem dL_cells_545 : decode cL_cells 545 = .ok (.aload_n 0, 1) := by decide +kernel
theorem dL_cells_546 : decode cL_cells 546 = .ok (.iload_n 3, 1) := by decide +kernel
theorem dL_cells_547 : decode cL_cells 547 = .ok (.bipush 9, 2) := by decide +kernel
theorem dL_cells_549 : decode cL_cells 549 = .ok (.invokevirtual 23, 3) := by decide +kernel
theorem dL_cells_552 : decode cL_cells 552 = .ok (.ifCond .ne 45, 3) := by decide +kernel
theorem dL_cells_555 : decode cL_cells 555 = .ok (.aload_n 0, 1) := by decide +kernel
theorem dL_cells_556 : decode cL_cells 556 = .ok (.bipush 7, 2) := by decide +kernel
theorem dL_cells_558 : decode cL_cells 558 = .ok (.invokevirtual 13, 3) := by decide +kernel
theorem dL_cells_561 : decode cL_cells 561 = .ok (.iload 15, 2) := by decide +kernel
theorem dL_cells_563 : decode cL_cells 563 = .ok (.iload 14, 2) := by decide +kernel
theorem dL_cells_565 : decode cL_cells 565 = .ok (.iadd, 1) := by decide +kernel
theorem dL_cells_566 : decode cL_cells 566 = .ok (.if_icmp .ne 31, 3) := by decide +kernel
theorem dL_cells_569 : decode cL_cells 569 = .ok (.aload_n 0, 1) := by decide +kernel
theorem dL_cells_570 : decode cL_cells 570 = .ok (.iload_n 3, 1) := by decide +kernel
theorem dL_cells_571 : decode cL_cells 571 = .ok (.iconst 1, 1) := by decide +kernel
theorem dL_cells_572 : decode cL_cells 572 = .ok (.iconst 1, 1) := by decide +kernel
theorem dL_cells_573 : decode cL_cells 573 = .ok (.invokevirtual 26, 3) := by decide +kernel
theorem dL_cells_576 : decode cL_cells 576 = .ok (.iconst 1, 1) := by decide +kernel
theorem dL_cells_577 : decode cL_cells 577 = .ok (.if_icmp .eq 16, 3) := by decide +kernel
theorem dL_cells_580 : decode cL_cells 580 = .ok (.aload_n 0, 1) := by decide +kernel
theorem dL_cells_581 : decode cL_cells 581 = .ok (.iload_n 3, 1) := by decide +kernel
theorem dL_cells_582 : decode cL_cells 582 = .ok (.iconst 1, 1) := by decide +kernel
theorem dL_cells_583 : decode cL_cells 583 = .ok (.iconst 0, 1) := by decide +kernel
theorem dL_cells_584 : decode cL_cells 584 = .ok (.invokevirtual 26, 3) := by decide +kernel
theorem dL_cells_587 : decode cL_cells 587 = .ok (.sipush 500, 3) := by decide +kernel
theorem dL_cells_590 : decode cL_cells 590 = .ok (.if_icmp .ne 7, 3) := by decide +kernel
theorem dL_cells_593 : decode cL_cells 593 = .ok (.iconst 1, 1) := by decide +kernel
theorem dL_cells_594 : decode cL_cells 594 = .ok (.goto 4, 3) := by decide +kernel
theorem dL_cells_597 : decode cL_cells 597 = .ok (.iconst 0, 1) := by decide +kernel
theorem dL_cells_598 : decode cL_cells 598 = .ok (.ireturn, 1) := by decide +kernel
theorem dL_acts_0 : decode cL_acts 0 = .ok (.iload_n 1, 1) := by decide +kernel
theorem dL_acts_1 : decode cL_acts 1 = .ok (.bipush 24, 2) := by decide +kernel
theorem dL_acts_3 : decode cL_acts 3 = .ok (.invokestatic 46, 3) := by decide +kernel
theorem dL_acts_6 : decode cL_acts 6 = .ok (.istore_n 3, 1) := by decide +kernel
theorem dL_acts_7 : decode cL_acts 7 = .ok (.iload_n 3, 1) := by decide +kernel
theorem dL_acts_8 : decode cL_acts 8 = .ok (.bipush 9, 2) := by decide +kernel
theorem dL_acts_10 : decode cL_acts 10 = .ok (.if_icmp .ge 10, 3) := by decide +kernel
theorem dL_acts_13 : decode cL_acts 13 = .ok (.aload_n 0, 1) := by decide +kernel
theorem dL_acts_14 : decode cL_acts 14 = .ok (.iload_n 3, 1) := by decide +kernel
theorem dL_acts_15 : decode cL_acts 15 = .ok (.iload_n 2, 1) := by decide +kernel
theorem dL_acts_16 : decode cL_acts 16 = .ok (.invokestatic 92, 3) := by decide +kernel
theorem dL_acts_19 : decode cL_acts 19 = .ok (.ireturn, 1) := by decide +kernel
theorem dL_acts_20 : decode cL_acts 20 = .ok (.iload_n 2, 1) := by decide +kernel
theorem dL_acts_21 : decode cL_acts 21 = .ok (.bipush 7, 2) := by decide +kernel
theorem dL_acts_23 : decode cL_acts 23 = .ok (.invokestatic 46, 3) := by decide +kernel
theorem dL_acts_26 : decode cL_acts 26 = .ok (.istore 4, 2) := by decide +kernel
theorem dL_acts_28 : decode cL_acts 28 = .ok (.iload_n 2, 1) := by decide +kernel
theorem dL_acts_29 : decode cL_acts 29 = .ok (.iconst 4, 1) := by decide +kernel
theorem dL_acts_30 : decode cL_acts 30 = .ok (.ishr, 1) := by decide +kernel
theorem dL_acts_31 : decode cL_acts 31 = .ok (.iload_n 2, 1) := by decide +kernel
theorem dL_acts_32 : decode cL_acts 32 = .ok (.bipush 18, 2) := by decide +kernel
theorem dL_acts_34 : decode cL_acts 34 = .ok (.ishr, 1) := by decide +kernel
theorem dL_acts_35 : decode cL_acts 35 = .ok (.bipush 6, 2) := by decide +kernel
theorem dL_acts_37 : decode cL_acts 37 = .ok (.invokestatic 46, 3) := by decide +kernel
theorem dL_acts_40 : decode cL_acts 40 = .ok (.ifCond .ne 7, 3) := by decide +kernel
theorem dL_acts_43 : decode cL_acts 43 = .ok (.iconst 4, 1) := by decide +kernel
theorem dL_acts_44 : decode cL_acts 44 = .ok (.goto 4, 3) := by decide +kernel
theorem dL_acts_47 : decode cL_acts 47 = .ok (.iconst 3, 1) := by decide +kernel
theorem dL_acts_48 : decode cL_acts 48 = .ok (.invokestatic 46, 3) := by decide +kernel
theorem dL_acts_51 : decode cL_acts 51 = .ok (.istore 5, 2) := by decide +kernel
theorem dL_acts_53 : decode cL_acts 53 = .ok (.iload 4, 2) := by decide +kernel
theorem dL_acts_55 : decode cL_acts 55 = .ok (.bipush 6, 2) := by decide +kernel
theorem dL_acts_57 : decode cL_acts 57 = .ok (.if_icmp .eq 9, 3) := by decide +kernel
theorem dL_acts_60 : decode cL_acts 60 = .ok (.iload 5, 2) := by decide +kernel
theorem dL_acts_62 : decode cL_acts 62 = .ok (.iconst 3, 1) := by decide +kernel
theorem dL_acts_63 : decode cL_acts 63 = .ok (.if_icmp .ne 7, 3) := by decide +kernel
theorem dL_acts_66 : decode cL_acts 66 = .ok (.iconst 1, 1) := by decide +kernel
theorem dL_acts_67 : decode cL_acts 67 = .ok (.goto 4, 3) := by decide +kernel
theorem dL_acts_70 : decode cL_acts 70 = .ok (.iconst 0, 1) := by decide +kernel
theorem dL_acts_71 : decode cL_acts 71 = .ok (.istore 6, 2) := by decide +kernel
theorem dL_acts_73 : decode cL_acts 73 = .ok (.iload 6, 2) := by decide +kernel
theorem dL_acts_75 : decode cL_acts 75 = .ok (.ifCond .eq 7, 3) := by decide +kernel
theorem dL_acts_78 : decode cL_acts 78 = .ok (.iconst 0, 1) := by decide +kernel
theorem dL_acts_79 : decode cL_acts 79 = .ok (.goto 12, 3) := by decide +kernel
theorem dL_acts_82 : decode cL_acts 82 = .ok (.aload_n 0, 1) := by decide +kernel
theorem dL_acts_83 : decode cL_acts 83 = .ok (.iload 4, 2) := by decide +kernel
theorem dL_acts_85 : decode cL_acts 85 = .ok (.iload 5, 2) := by decide +kernel
theorem dL_acts_87 : decode cL_acts 87 = .ok (.iconst 0, 1) := by decide +kernel
theorem dL_acts_88 : decode cL_acts 88 = .ok (.invokevirtual 26, 3) := by decide +kernel
theorem dL_acts_91 : decode cL_acts 91 = .ok (.istore 7, 2) := by decide +kernel
theorem dL_acts_93 : decode cL_acts 93 = .ok (.iload 6, 2) := by decide +kernel
theorem dL_acts_95 : decode cL_acts 95 = .ok (.ifCond .ne 20, 3) := by decide +kernel
theorem dL_acts_98 : decode cL_acts 98 = .ok (.aload_n 0, 1) := by decide +kernel
theorem dL_acts_99 : decode cL_acts 99 = .ok (.iload 4, 2) := by decide +kernel
theorem dL_acts_101 : decode cL_acts 101 = .ok (.iload 5, 2) := by decide +kernel
theorem dL_acts_103 : decode cL_acts 103 = .ok (.iconst 1, 1) := by decide +kernel
theorem dL_acts_104 : decode cL_acts 104 = .ok (.invokevirtual 26, 3) := by decide +kernel
theorem dL_acts_107 : decode cL_acts 107 = .ok (.iconst 1, 1) := by decide +kernel
theorem dL_acts_108 : decode cL_acts 108 = .ok (.if_icmp .ne 7, 3) := by decide +kernel
theorem dL_acts_111 : decode cL_acts 111 = .ok (.iconst 1, 1) := by decide +kernel
theorem dL_acts_112 : decode cL_acts 112 = .ok (.goto 4, 3) := by decide +kernel
theorem dL_acts_115 : decode cL_acts 115 = .ok (.iconst 0, 1) := by decide +kernel
theorem dL_acts_116 : decode cL_acts 116 = .ok (.istore 8, 2) := by decide +kernel
theorem dL_acts_118 : decode cL_acts 118 = .ok (.iload_n 3, 1) := by decide +kernel
theorem dL_acts_119 : decode cL_acts 119 = .ok (.bipush 12, 2) := by decide +kernel
theorem dL_acts_121 : decode cL_acts 121 = .ok (.if_icmp .ge 109, 3) := by decide +kernel
theorem dL_acts_124 : decode cL_acts 124 = .ok (.iload_n 2, 1) := by decide +kernel
theorem dL_acts_125 : decode cL_acts 125 = .ok (.bipush 6, 2) := by decide +kernel
theorem dL_acts_127 : decode cL_acts 127 = .ok (.ishr, 1) := by decide +kernel
theorem dL_acts_128 : decode cL_acts 128 = .ok (.sipush 1001, 3) := by decide +kernel
theorem dL_acts_131 : decode cL_acts 131 = .ok (.invokestatic 46, 3) := by decide +kernel
theorem dL_acts_134 : decode cL_acts 134 = .ok (.istore 9, 2) := by decide +kernel
theorem dL_acts_136 : decode cL_acts 136 = .ok (.aload_n 0, 1) := by decide +kernel
theorem dL_acts_137 : decode cL_acts 137 = .ok (.iload 4, 2) := by decide +kernel
theorem dL_acts_139 : decode cL_acts 139 = .ok (.iload 5, 2) := by decide +kernel
theorem dL_acts_141 : decode cL_acts 141 = .ok (.iload 9, 2) := by decide +kernel
theorem dL_acts_143 : decode cL_acts 143 = .ok (.invokevirtual 96, 3) := by decide +kernel
theorem dL_acts_146 : decode cL_acts 146 = .ok (.iload 6, 2) := by decide +kernel
theorem dL_acts_148 : decode cL_acts 148 = .ok (.ifCond .ne 11, 3) := by decide +kernel
theorem dL_acts_151 : decode cL_acts 151 = .ok (.iload 9, 2) := by decide +kernel
theorem dL_acts_153 : decode cL_acts 153 = .ok (.sipush 1000, 3) := by decide +kernel
theorem dL_acts_156 : decode cL_acts 156 = .ok (.if_icmp .ne 8, 3) := by decide +kernel
theorem dL_acts_159 : decode cL_acts 159 = .ok (.ldc 58, 2) := by decide +kernel
theorem dL_acts_161 : decode cL_acts 161 = .ok (.goto 15, 3) := by decide +kernel
theorem dL_acts_164 : decode cL_acts 164 = .ok (.iload 8, 2) := by decide +kernel
theorem dL_acts_166 : decode cL_acts 166 = .ok (.ifCond .eq 8, 3) := by decide +kernel
theorem dL_acts_169 : decode cL_acts 169 = .ok (.ldc 78, 2) := by decide +kernel
theorem dL_acts_171 : decode cL_acts 171 = .ok (.goto 5, 3) := by decide +kernel
theorem dL_acts_174 : decode cL_acts 174 = .ok (.iload 7, 2) := by decide +kernel
theorem dL_acts_176 : decode cL_acts 176 = .ok (.if_icmp .ne 52, 3) := by decide +kernel
theorem dL_acts_179 : decode cL_acts 179 = .ok (.iload 6, 2) := by decide +kernel
theorem dL_acts_181 : decode cL_acts 181 = .ok (.ifCond .ne 43, 3) := by decide +kernel
theorem dL_acts_184 : decode cL_acts 184 = .ok (.iload 9, 2) := by decide +kernel
theorem dL_acts_186 : decode cL_acts 186 = .ok (.sipush 1000, 3) := by decide +kernel
theorem dL_acts_189 : decode cL_acts 189 = .ok (.if_icmp .eq 35, 3) := by decide +kernel
theorem dL_acts_192 : decode cL_acts 192 = .ok (.iload 8, 2) := by decide +kernel
theorem dL_acts_194 : decode cL_acts 194 = .ok (.ifCond .ne 30, 3) := by decide +kernel
theorem dL_acts_197 : decode cL_acts 197 = .ok (.aload_n 0, 1) := by decide +kernel
theorem dL_acts_198 : decode cL_acts 198 = .ok (.iload 4, 2) := by decide +kernel
theorem dL_acts_200 : decode cL_acts 200 = .ok (.iload 5, 2) := by decide +kernel
theorem dL_acts_202 : decode cL_acts 202 = .ok (.iconst 0, 1) := by decide +kernel
theorem dL_acts_203 : decode cL_acts 203 = .ok (.invokevirtual 26, 3) := by decide +kernel
theorem dL_acts_206 : decode cL_acts 206 = .ok (.iload 9, 2) := by decide +kernel
theorem dL_acts_208 : decode cL_acts 208 = .ok (.if_icmp .ne 20, 3) := by decide +kernel
theorem dL_acts_211 : decode cL_acts 211 = .ok (.aload_n 0, 1) := by decide +kernel
theorem dL_acts_212 : decode cL_acts 212 = .ok (.iload 4, 2) := by decide +kernel
theorem dL_acts_214 : decode cL_acts 214 = .ok (.iload 5, 2) := by decide +kernel
theorem dL_acts_216 : decode cL_acts 216 = .ok (.iconst 1, 1) := by decide +kernel
theorem dL_acts_217 : decode cL_acts 217 = .ok (.invokevirtual 26, 3) := by decide +kernel
theorem dL_acts_220 : decode cL_acts 220 = .ok (.iconst 1, 1) := by decide +kernel
theorem dL_acts_221 : decode cL_acts 221 = .ok (.if_icmp .ne 7, 3) := by decide +kernel
theorem dL_acts_224 : decode cL_acts 224 = .ok (.iconst 1, 1) := by decide +kernel
theorem dL_acts_225 : decode cL_acts 225 = .ok (.goto 4, 3) := by decide +kernel
theorem dL_acts_228 : decode cL_acts 228 = .ok (.iconst 0, 1) := by decide +kernel
theorem dL_acts_229 : decode cL_acts 229 = .ok (.ireturn, 1) := by decide +kernel
theorem dL_acts_230 : decode cL_acts 230 = .ok (.iload_n 3, 1) := by decide +kernel
theorem dL_acts_231 : decode cL_acts 231 = .ok (.bipush 14, 2) := by decide +kernel
theorem dL_acts_233 : decode cL_acts 233 = .ok (.if_icmp .ge 73, 3) := by decide +kernel
theorem dL_acts_236 : decode cL_acts 236 = .ok (.aload_n 0, 1) := by decide +kernel
theorem dL_acts_237 : decode cL_acts 237 = .ok (.iload 4, 2) := by decide +kernel
theorem dL_acts_239 : decode cL_acts 239 = .ok (.iload 5, 2) := by decide +kernel
theorem dL_acts_241 : decode cL_acts 241 = .ok (.invokevirtual 99, 3) := by decide +kernel
theorem dL_acts_244 : decode cL_acts 244 = .ok (.iload 6, 2) := by decide +kernel
theorem dL_acts_246 : decode cL_acts 246 = .ok (.ifCond .eq 8, 3) := by decide +kernel
theorem dL_acts_249 : decode cL_acts 249 = .ok (.ldc 58, 2) := by decide +kernel
theorem dL_acts_251 : decode cL_acts 251 = .ok (.goto 15, 3) := by decide +kernel
theorem dL_acts_254 : decode cL_acts 254 = .ok (.iload 8, 2) := by decide +kernel
theorem dL_acts_256 : decode cL_acts 256 = .ok (.ifCond .eq 8, 3) := by decide +kernel
theorem dL_acts_259 : decode cL_acts 259 = .ok (.iload 7, 2) := by decide +kernel
theorem dL_acts_261 : decode cL_acts 261 = .ok (.goto 5, 3) := by decide +kernel
theorem dL_acts_264 : decode cL_acts 264 = .ok (.ldc 78, 2) := by decide +kernel
theorem dL_acts_266 : decode cL_acts 266 = .ok (.if_icmp .ne 38, 3) := by decide +kernel
theorem dL_acts_269 : decode cL_acts 269 = .ok (.iload 6, 2) := by decide +kernel
theorem dL_acts_271 : decode cL_acts 271 = .ok (.ifCond .ne 29, 3) := by decide +kernel
theorem dL_acts_274 : decode cL_acts 274 = .ok (.aload_n 0, 1) := by decide +kernel
theorem dL_acts_275 : decode cL_acts 275 = .ok (.iload 4, 2) := by decide +kernel
theorem dL_acts_277 : decode cL_acts 277 = .ok (.iload 5, 2) := by decide +kernel
theorem dL_acts_279 : decode cL_acts 279 = .ok (.iconst 1, 1) := by decide +kernel
theorem dL_acts_280 : decode cL_acts 280 = .ok (.invokevirtual 26, 3) := by decide +kernel
theorem dL_acts_283 : decode cL_acts 283 = .ok (.ifCond .ne 21, 3) := by decide +kernel
theorem dL_acts_286 : decode cL_acts 286 = .ok (.aload_n 0, 1) := by decide +kernel
theorem dL_acts_287 : decode cL_acts 287 = .ok (.iload 4, 2) := by decide +kernel
theorem dL_acts_289 : decode cL_acts 289 = .ok (.iload 5, 2) := by decide +kernel
theorem dL_acts_291 : decode cL_acts 291 = .ok (.iconst 0, 1) := by decide +kernel
theorem dL_acts_292 : decode cL_acts 292 = .ok (.invokevirtual 26, 3) := by decide +kernel
theorem dL_acts_295 : decode cL_acts 295 = .ok (.iload 7, 2) := by decide +kernel
theorem dL_acts_297 : decode cL_acts 297 = .ok (.if_icmp .ne 7, 3) := by decide +kernel
theorem dL_acts_300 : decode cL_acts 300 = .ok (.iconst 1, 1) := by decide +kernel
theorem dL_acts_301 : decode cL_acts 301 = .ok (.goto 4, 3) := by decide +kernel
theorem dL_acts_304 : decode cL_acts 304 = .ok (.iconst 0, 1) := by decide +kernel
theorem dL_acts_305 : decode cL_acts 305 = .ok (.ireturn, 1) := by decide +kernel
theorem dL_acts_306 : decode cL_acts 306 = .ok (.iload_n 3, 1) := by decide +kernel
theorem dL_acts_307 : decode cL_acts 307 = .ok (.bipush 16, 2) := by decide +kernel
theorem dL_acts_309 : decode cL_acts 309 = .ok (.if_icmp .ge 109, 3) := by decide +kernel
theorem dL_acts_312 : decode cL_acts 312 = .ok (.iload_n 2, 1) := by decide +kernel
theorem dL_acts_313 : decode cL_acts 313 = .ok (.iconst 5, 1) := by decide +kernel
theorem dL_acts_314 : decode cL_acts 314 = .ok (.ishr, 1) := by decide +kernel
theorem dL_acts_315 : decode cL_acts 315 = .ok (.sipush 202, 3) := by decide +kernel
theorem dL_acts_318 : decode cL_acts 318 = .ok (.invokestatic 46, 3) := by decide +kernel
theorem dL_acts_321 : decode cL_acts 321 = .ok (.istore 9, 2) := by decide +kernel
theorem dL_acts_323 : decode cL_acts 323 = .ok (.iload 4, 2) := by decide +kernel
theorem dL_acts_325 : decode cL_acts 325 = .ok (.bipush 6, 2) := by decide +kernel
theorem dL_acts_327 : decode cL_acts 327 = .ok (.if_icmp .eq 16, 3) := by decide +kernel
theorem dL_acts_330 : decode cL_acts 330 = .ok (.iload 9, 2) := by decide +kernel
theorem dL_acts_332 : decode cL_acts 332 = .ok (.ifCond .eq 11, 3) := by decide +kernel
theorem dL_acts_335 : decode cL_acts 335 = .ok (.iload 9, 2) := by decide +kernel
theorem dL_acts_337 : decode cL_acts 337 = .ok (.sipush 201, 3) := by decide +kernel
theorem dL_acts_340 : decode cL_acts 340 = .ok (.if_icmp .ne 7, 3) := by decide +kernel
theorem dL_acts_343 : decode cL_acts 343 = .ok (.iconst 1, 1) := by decide +kernel
theorem dL_acts_344 : decode cL_acts 344 = .ok (.goto 4, 3) := by decide +kernel
theorem dL_acts_347 : decode cL_acts 347 = .ok (.iconst 0, 1) := by decide +kernel
theorem dL_acts_348 : decode cL_acts 348 = .ok (.istore 10, 2) := by decide +kernel
theorem dL_acts_350 : decode cL_acts 350 = .ok (.iload 4, 2) := by decide +kernel
theorem dL_acts_352 : decode cL_acts 352 = .ok (.bipush 6, 2) := by decide +kernel
theorem dL_acts_354 : decode cL_acts 354 = .ok (.if_icmp .ne 7, 3) := by decide +kernel
theorem dL_acts_357 : decode cL_acts 357 = .ok (.iconst 0, 1) := by decide +kernel
theorem dL_acts_358 : decode cL_acts 358 = .ok (.goto 11, 3) := by decide +kernel
theorem dL_acts_361 : decode cL_acts 361 = .ok (.aload_n 0, 1) := by decide +kernel
theorem dL_acts_362 : decode cL_acts 362 = .ok (.iload 4, 2) := by decide +kernel
theorem dL_acts_364 : decode cL_acts 364 = .ok (.bipush 8, 2) := by decide +kernel
theorem dL_acts_366 : decode cL_acts 366 = .ok (.invokevirtual 23, 3) := by decide +kernel
theorem dL_acts_369 : decode cL_acts 369 = .ok (.istore 11, 2) := by decide +kernel
theorem dL_acts_371 : decode cL_acts 371 = .ok (.aload_n 0, 1) := by decide +kernel
theorem dL_acts_372 : decode cL_acts 372 = .ok (.iload 4, 2) := by decide +kernel
theorem dL_acts_374 : decode cL_acts 374 = .ok (.iload 9, 2) := by decide +kernel
theorem dL_acts_376 : decode cL_acts 376 = .ok (.invokevirtual 102, 3) := by decide +kernel
theorem dL_acts_379 : decode cL_acts 379 = .ok (.iload 10, 2) := by decide +kernel
theorem dL_acts_381 : decode cL_acts 381 = .ok (.ifCond .eq 8, 3) := by decide +kernel
theorem dL_acts_384 : decode cL_acts 384 = .ok (.ldc 58, 2) := by decide +kernel
theorem dL_acts_386 : decode cL_acts 386 = .ok (.goto 5, 3) := by decide +kernel
theorem dL_acts_389 : decode cL_acts 389 = .ok (.iload 11, 2) := by decide +kernel
theorem dL_acts_391 : decode cL_acts 391 = .ok (.if_icmp .ne 25, 3) := by decide +kernel
theorem dL_acts_394 : decode cL_acts 394 = .ok (.iload 10, 2) := by decide +kernel
theorem dL_acts_396 : decode cL_acts 396 = .ok (.ifCond .ne 16, 3) := by decide +kernel
theorem dL_acts_399 : decode cL_acts 399 = .ok (.aload_n 0, 1) := by decide +kernel
theorem dL_acts_400 : decode cL_acts 400 = .ok (.iload 4, 2) := by decide +kernel
theorem dL_acts_402 : decode cL_acts 402 = .ok (.bipush 8, 2) := by decide +kernel
theorem dL_acts_404 : decode cL_acts 404 = .ok (.invokevirtual 23, 3) := by decide +kernel
theorem dL_acts_407 : decode cL_acts 407 = .ok (.iload 9, 2) := by decide +kernel
theorem dL_acts_409 : decode cL_acts 409 = .ok (.if_icmp .ne 7, 3) := by decide +kernel
theorem dL_acts_412 : decode cL_acts 412 = .ok (.iconst 1, 1) := by decide +kernel
theorem dL_acts_413 : decode cL_acts 413 = .ok (.goto 4, 3) := by decide +kernel
theorem dL_acts_416 : decode cL_acts 416 = .ok (.iconst 0, 1) := by decide +kernel
theorem dL_acts_417 : decode cL_acts 417 = .ok (.ireturn, 1) := by decide +kernel
theorem dL_acts_418 : decode cL_acts 418 = .ok (.iload_n 3, 1) := by decide +kernel
theorem dL_acts_419 : decode cL_acts 419 = .ok (.bipush 19, 2) := by decide +kernel
theorem dL_acts_421 : decode cL_acts 421 = .ok (.if_icmp .ge 153, 3) := by decide +kernel
theorem dL_acts_424 : decode cL_acts 424 = .ok (.iload_n 2, 1) := by decide +kernel
theorem dL_acts_425 : decode cL_acts 425 = .ok (.iload_n 2, 1) := by decide +kernel
theorem dL_acts_426 : decode cL_acts 426 = .ok (.bipush 8, 2) := by decide +kernel
theorem dL_acts_428 : decode cL_acts 428 = .ok (.ishr, 1) := by decide +kernel
theorem dL_acts_429 : decode cL_acts 429 = .ok (.iconst 5, 1) := by decide +kernel
theorem dL_acts_430 : decode cL_acts 430 = .ok (.invokestatic 46, 3) := by decide +kernel
theorem dL_acts_433 : decode cL_acts 433 = .ok (.ifCond .ne 8, 3) := by decide +kernel
theorem dL_acts_436 : decode cL_acts 436 = .ok (.bipush 101, 2) := by decide +kernel
theorem dL_acts_438 : decode cL_acts 438 = .ok (.goto 5, 3) := by decide +kernel
theorem dL_acts_441 : decode cL_acts 441 = .ok (.bipush 10, 2) := by decide +kernel
theorem dL_acts_443 : decode cL_acts 443 = .ok (.invokestatic 46, 3) := by decide +kernel
theorem dL_acts_446 : decode cL_acts 446 = .ok (.istore 9, 2) := by decide +kernel
theorem dL_acts_448 : decode cL_acts 448 = .ok (.iload 9, 2) := by decide +kernel
theorem dL_acts_450 : decode cL_acts 450 = .ok (.ifCond .eq 10, 3) := by decide +kernel
theorem dL_acts_453 : decode cL_acts 453 = .ok (.iload 9, 2) := by decide +kernel
theorem dL_acts_455 : decode cL_acts 455 = .ok (.bipush 100, 2) := by decide +kernel
theorem dL_acts_457 : decode cL_acts 457 = .ok (.if_icmp .ne 7, 3) := by decide +kernel
theorem dL_acts_460 : decode cL_acts 460 = .ok (.iconst 1, 1) := by decide +kernel
theorem dL_acts_461 : decode cL_acts 461 = .ok (.goto 4, 3) := by decide +kernel
theorem dL_acts_464 : decode cL_acts 464 = .ok (.iconst 0, 1) := by decide +kernel
theorem dL_acts_465 : decode cL_acts 465 = .ok (.istore 10, 2) := by decide +kernel
theorem dL_acts_467 : decode cL_acts 467 = .ok (.aload_n 0, 1) := by decide +kernel
theorem dL_acts_468 : decode cL_acts 468 = .ok (.iconst 0, 1) := by decide +kernel
theorem dL_acts_469 : decode cL_acts 469 = .ok (.invokevirtual 13, 3) := by decide +kernel
theorem dL_acts_472 : decode cL_acts 472 = .ok (.istore 11, 2) := by decide +kernel
theorem dL_acts_474 : decode cL_acts 474 = .ok (.aload_n 0, 1) := by decide +kernel
theorem dL_acts_475 : decode cL_acts 475 = .ok (.bipush 7, 2) := by decide +kernel
theorem dL_acts_477 : decode cL_acts 477 = .ok (.invokevirtual 13, 3) := by decide +kernel
theorem dL_acts_480 : decode cL_acts 480 = .ok (.istore 12, 2) := by decide +kernel
theorem dL_acts_482 : decode cL_acts 482 = .ok (.aload_n 0, 1) := by decide +kernel
theorem dL_acts_483 : decode cL_acts 483 = .ok (.iload 9, 2) := by decide +kernel
theorem dL_acts_485 : decode cL_acts 485 = .ok (.invokevirtual 105, 3) := by decide +kernel
theorem dL_acts_488 : decode cL_acts 488 = .ok (.istore 13, 2) := by decide +kernel
theorem dL_acts_490 : decode cL_acts 490 = .ok (.iload 10, 2) := by decide +kernel
theorem dL_acts_492 : decode cL_acts 492 = .ok (.ifCond .ne 14, 3) := by decide +kernel
theorem dL_acts_495 : decode cL_acts 495 = .ok (.iload 11, 2) := by decide +kernel
theorem dL_acts_497 : decode cL_acts 497 = .ok (.iload 9, 2) := by decide +kernel
theorem dL_acts_499 : decode cL_acts 499 = .ok (.iadd, 1) := by decide +kernel
theorem dL_acts_500 : decode cL_acts 500 = .ok (.sipush 9999, 3) := by decide +kernel
theorem dL_acts_503 : decode cL_acts 503 = .ok (.if_icmp .le 38, 3) := by decide +kernel
theorem dL_acts_506 : decode cL_acts 506 = .ok (.iload 13, 2) := by decide +kernel
theorem dL_acts_508 : decode cL_acts 508 = .ok (.iload 10, 2) := by decide +kernel
theorem dL_acts_510 : decode cL_acts 510 = .ok (.ifCond .eq 8, 3) := by decide +kernel
theorem dL_acts_513 : decode cL_acts 513 = .ok (.ldc 58, 2) := by decide +kernel
theorem dL_acts_515 : decode cL_acts 515 = .ok (.goto 5, 3) := by decide +kernel
theorem dL_acts_518 : decode cL_acts 518 = .ok (.ldc 79, 2) := by decide +kernel
theorem dL_acts_520 : decode cL_acts 520 = .ok (.if_icmp .ne 17, 3) := by decide +kernel
theorem dL_acts_523 : decode cL_acts 523 = .ok (.aload_n 0, 1) := by decide +kernel
theorem dL_acts_524 : decode cL_acts 524 = .ok (.iconst 0, 1) := by decide +kernel
theorem dL_acts_525 : decode cL_acts 525 = .ok (.invokevirtual 13, 3) := by decide +kernel
theorem dL_acts_528 : decode cL_acts 528 = .ok (.iload 11, 2) := by decide +kernel
theorem dL_acts_530 : decode cL_acts 530 = .ok (.if_icmp .ne 7, 3) := by decide +kernel
theorem dL_acts_533 : decode cL_acts 533 = .ok (.iconst 1, 1) := by decide +kernel
theorem dL_acts_534 : decode cL_acts 534 = .ok (.goto 39, 3) := by decide +kernel
theorem dL_acts_537 : decode cL_acts 537 = .ok (.iconst 0, 1) := by decide +kernel
theorem dL_acts_538 : decode cL_acts 538 = .ok (.goto 35, 3) := by decide +kernel
theorem dL_acts_541 : decode cL_acts 541 = .ok (.aload_n 0, 1) := by decide +kernel
theorem dL_acts_542 : decode cL_acts 542 = .ok (.iconst 0, 1) := by decide +kernel
theorem dL_acts_543 : decode cL_acts 543 = .ok (.invokevirtual 13, 3) := by decide +kernel
theorem dL_acts_546 : decode cL_acts 546 = .ok (.iload 11, 2) := by decide +kernel
theorem dL_acts_548 : decode cL_acts 548 = .ok (.iload 9, 2) := by decide +kernel
theorem dL_acts_550 : decode cL_acts 550 = .ok (.iadd, 1) := by decide +kernel
theorem dL_acts_551 : decode cL_acts 551 = .ok (.if_icmp .ne 21, 3) := by decide +kernel
theorem dL_acts_554 : decode cL_acts 554 = .ok (.aload_n 0, 1) := by decide +kernel
theorem dL_acts_555 : decode cL_acts 555 = .ok (.bipush 7, 2) := by decide +kernel
theorem dL_acts_557 : decode cL_acts 557 = .ok (.invokevirtual 13, 3) := by decide +kernel
theorem dL_acts_560 : decode cL_acts 560 = .ok (.iload 12, 2) := by decide +kernel
theorem dL_acts_562 : decode cL_acts 562 = .ok (.iload 13, 2) := by decide +kernel
theorem dL_acts_564 : decode cL_acts 564 = .ok (.iadd, 1) := by decide +kernel
theorem dL_acts_565 : decode cL_acts 565 = .ok (.if_icmp .ne 7, 3) := by decide +kernel
theorem dL_acts_568 : decode cL_acts 568 = .ok (.iconst 1, 1) := by decide +kernel
theorem dL_acts_569 : decode cL_acts 569 = .ok (.goto 4, 3) := by decide +kernel
theorem dL_acts_572 : decode cL_acts 572 = .ok (.iconst 0, 1) := by decide +kernel
theorem dL_acts_573 : decode cL_acts 573 = .ok (.ireturn, 1) := by decide +kernel
theorem dL_acts_574 : decode cL_acts 574 = .ok (.iload_n 3, 1) := by decide +kernel
theorem dL_acts_575 : decode cL_acts 575 = .ok (.bipush 21, 2) := by decide +kernel
theorem dL_acts_577 : decode cL_acts 577 = .ok (.if_icmp .ge 193, 3) := by decide +kernel
theorem dL_acts_580 : decode cL_acts 580 = .ok (.iload_n 2, 1) := by decide +kernel
theorem dL_acts_581 : decode cL_acts 581 = .ok (.iconst 4, 1) := by decide +kernel
theorem dL_acts_582 : decode cL_acts 582 = .ok (.invokestatic 46, 3) := by decide +kernel
theorem dL_acts_585 : decode cL_acts 585 = .ok (.istore 9, 2) := by decide +kernel
theorem dL_acts_587 : decode cL_acts 587 = .ok (.iload 9, 2) := by decide +kernel
theorem dL_acts_589 : decode cL_acts 589 = .ok (.ifCond .ne 19, 3) := by decide +kernel
theorem dL_acts_592 : decode cL_acts 592 = .ok (.sipush 299, 3) := by decide +kernel
theorem dL_acts_595 : decode cL_acts 595 = .ok (.iload_n 2, 1) := by decide +kernel
theorem dL_acts_596 : decode cL_acts 596 = .ok (.iconst 2, 1) := by decide +kernel
theorem dL_acts_597 : decode cL_acts 597 = .ok (.ishr, 1) := by decide +kernel
theorem dL_acts_598 : decode cL_acts 598 = .ok (.sipush 403, 3) := by decide +kernel
theorem dL_acts_601 : decode cL_acts 601 = .ok (.invokestatic 46, 3) := by decide +kernel
theorem dL_acts_604 : decode cL_acts 604 = .ok (.iadd, 1) := by decide +kernel
theorem dL_acts_605 : decode cL_acts 605 = .ok (.goto 29, 3) := by decide +kernel
theorem dL_acts_608 : decode cL_acts 608 = .ok (.iload 9, 2) := by decide +kernel
theorem dL_acts_610 : decode cL_acts 610 = .ok (.iconst 1, 1) := by decide +kernel
theorem dL_acts_611 : decode cL_acts 611 = .ok (.if_icmp .ne 15, 3) := by decide +kernel
theorem dL_acts_614 : decode cL_acts 614 = .ok (.iload_n 2, 1) := by decide +kernel
theorem dL_acts_615 : decode cL_acts 615 = .ok (.iconst 2, 1) := by decide +kernel
theorem dL_acts_616 : decode cL_acts 616 = .ok (.ishr, 1) := by decide +kernel
theorem dL_acts_617 : decode cL_acts 617 = .ok (.sipush 302, 3) := by decide +kernel
theorem dL_acts_620 : decode cL_acts 620 = .ok (.invokestatic 46, 3) := by decide +kernel
theorem dL_acts_623 : decode cL_acts 623 = .ok (.goto 11, 3) := by decide +kernel
theorem dL_acts_626 : decode cL_acts 626 = .ok (.iload_n 2, 1) := by decide +kernel
theorem dL_acts_627 : decode cL_acts 627 = .ok (.iconst 2, 1) := by decide +kernel
theorem dL_acts_628 : decode cL_acts 628 = .ok (.ishr, 1) := by decide +kernel
theorem dL_acts_629 : decode cL_acts 629 = .ok (.bipush 101, 2) := by decide +kernel
theorem dL_acts_631 : decode cL_acts 631 = .ok (.invokestatic 46, 3) := by decide +kernel
theorem dL_acts_634 : decode cL_acts 634 = .ok (.istore 10, 2) := by decide +kernel
theorem dL_acts_636 : decode cL_acts 636 = .ok (.iload 9, 2) := by decide +kernel
theorem dL_acts_638 : decode cL_acts 638 = .ok (.iconst 3, 1) := by decide +kernel
theorem dL_acts_639 : decode cL_acts 639 = .ok (.if_icmp .eq 56, 3) := by decide +kernel
theorem dL_acts_642 : decode cL_acts 642 = .ok (.iload 9, 2) := by decide +kernel
theorem dL_acts_644 : decode cL_acts 644 = .ok (.ifCond .ne 22, 3) := by decide +kernel
theorem dL_acts_647 : decode cL_acts 647 = .ok (.iload 10, 2) := by decide +kernel
theorem dL_acts_649 : decode cL_acts 649 = .ok (.sipush 299, 3) := by decide +kernel
theorem dL_acts_652 : decode cL_acts 652 = .ok (.if_icmp .eq 43, 3) := by decide +kernel
theorem dL_acts_655 : decode cL_acts 655 = .ok (.iload 10, 2) := by decide +kernel
theorem dL_acts_657 : decode cL_acts 657 = .ok (.sipush 701, 3) := by decide +kernel
theorem dL_acts_660 : decode cL_acts 660 = .ok (.if_icmp .ne 39, 3) := by decide +kernel
theorem dL_acts_663 : decode cL_acts 663 = .ok (.goto 32, 3) := by decide +kernel
theorem dL_acts_666 : decode cL_acts 666 = .ok (.iload 9, 2) := by decide +kernel
theorem dL_acts_668 : decode cL_acts 668 = .ok (.iconst 1, 1) := by decide +kernel
theorem dL_acts_669 : decode cL_acts 669 = .ok (.if_icmp .ne 19, 3) := by decide +kernel
theorem dL_acts_672 : decode cL_acts 672 = .ok (.iload 10, 2) := by decide +kernel
theorem dL_acts_674 : decode cL_acts 674 = .ok (.ifCond .eq 21, 3) := by decide +kernel
theorem dL_acts_677 : decode cL_acts 677 = .ok (.iload 10, 2) := by decide +kernel
theorem dL_acts_679 : decode cL_acts 679 = .ok (.sipush 301, 3) := by decide +kernel
theorem dL_acts_682 : decode cL_acts 682 = .ok (.if_icmp .ne 17, 3) := by decide +kernel
theorem dL_acts_685 : decode cL_acts 685 = .ok (.goto 10, 3) := by decide +kernel
theorem dL_acts_688 : decode cL_acts 688 = .ok (.iload 10, 2) := by decide +kernel
theorem dL_acts_690 : decode cL_acts 690 = .ok (.bipush 100, 2) := by decide +kernel
theorem dL_acts_692 : decode cL_acts 692 = .ok (.if_icmp .ne 7, 3) := by decide +kernel
theorem dL_acts_695 : decode cL_acts 695 = .ok (.iconst 1, 1) := by decide +kernel
theorem dL_acts_696 : decode cL_acts 696 = .ok (.goto 4, 3) := by decide +kernel
theorem dL_acts_699 : decode cL_acts 699 = .ok (.iconst 0, 1) := by decide +kernel
theorem dL_acts_700 : decode cL_acts 700 = .ok (.istore 11, 2) := by decide +kernel
theorem dL_acts_702 : decode cL_acts 702 = .ok (.iload 11, 2) := by decide +kernel
theorem dL_acts_704 : decode cL_acts 704 = .ok (.ifCond .eq 7, 3) := by decide +kernel
theorem dL_acts_707 : decode cL_acts 707 = .ok (.iconst 0, 1) := by decide +kernel
theorem dL_acts_708 : decode cL_acts 708 = .ok (.goto 12, 3) := by decide +kernel
theorem dL_acts_711 : decode cL_acts 711 = .ok (.aload_n 0, 1) := by decide +kernel
theorem dL_acts_712 : decode cL_acts 712 = .ok (.bipush 20, 2) := by decide +kernel
theorem dL_acts_714 : decode cL_acts 714 = .ok (.iload 9, 2) := by decide +kernel
theorem dL_acts_716 : decode cL_acts 716 = .ok (.iadd, 1) := by decide +kernel
theorem dL_acts_717 : decode cL_acts 717 = .ok (.invokevirtual 13, 3) := by decide +kernel
theorem dL_acts_720 : decode cL_acts 720 = .ok (.istore 12, 2) := by decide +kernel
theorem dL_acts_722 : decode cL_acts 722 = .ok (.aload_n 0, 1) := by decide +kernel
theorem dL_acts_723 : decode cL_acts 723 = .ok (.iload 9, 2) := by decide +kernel
theorem dL_acts_725 : decode cL_acts 725 = .ok (.iload 10, 2) := by decide +kernel
theorem dL_acts_727 : decode cL_acts 727 = .ok (.invokevirtual 108, 3) := by decide +kernel
theorem dL_acts_730 : decode cL_acts 730 = .ok (.iload 11, 2) := by decide +kernel
theorem dL_acts_732 : decode cL_acts 732 = .ok (.ifCond .eq 8, 3) := by decide +kernel
theorem dL_acts_735 : decode cL_acts 735 = .ok (.ldc 58, 2) := by decide +kernel
theorem dL_acts_737 : decode cL_acts 737 = .ok (.goto 5, 3) := by decide +kernel
theorem dL_acts_740 : decode cL_acts 740 = .ok (.iload 12, 2) := by decide +kernel
theorem dL_acts_742 : decode cL_acts 742 = .ok (.if_icmp .ne 26, 3) := by decide +kernel
theorem dL_acts_745 : decode cL_acts 745 = .ok (.iload 11, 2) := by decide +kernel
theorem dL_acts_747 : decode cL_acts 747 = .ok (.ifCond .ne 17, 3) := by decide +kernel
theorem dL_acts_750 : decode cL_acts 750 = .ok (.aload_n 0, 1) := by decide +kernel
theorem dL_acts_751 : decode cL_acts 751 = .ok (.bipush 20, 2) := by decide +kernel
theorem dL_acts_753 : decode cL_acts 753 = .ok (.iload 9, 2) := by decide +kernel
theorem dL_acts_755 : decode cL_acts 755 = .ok (.iadd, 1) := by decide +kernel
theorem dL_acts_756 : decode cL_acts 756 = .ok (.invokevirtual 13, 3) := by decide +kernel
theorem dL_acts_759 : decode cL_acts 759 = .ok (.iload 10, 2) := by decide +kernel
theorem dL_acts_761 : decode cL_acts 761 = .ok (.if_icmp .ne 7, 3) := by decide +kernel
theorem dL_acts_764 : decode cL_acts 764 = .ok (.iconst 1, 1) := by decide +kernel
theorem dL_acts_765 : decode cL_acts 765 = .ok (.goto 4, 3) := by decide +kernel
theorem dL_acts_768 : decode cL_acts 768 = .ok (.iconst 0, 1) := by decide +kernel
theorem dL_acts_769 : decode cL_acts 769 = .ok (.ireturn, 1) := by decide +kernel
theorem dL_acts_770 : decode cL_acts 770 = .ok (.aload_n 0, 1) := by decide +kernel
theorem dL_acts_771 : decode cL_acts 771 = .ok (.iload_n 2, 1) := by decide +kernel
theorem dL_acts_772 : decode cL_acts 772 = .ok (.invokestatic 111, 3) := by decide +kernel
theorem dL_acts_775 : decode cL_acts 775 = .ok (.ireturn, 1) := by decide +kernel
theorem dL_law_0 : decode cL_law 0 = .ok (.new 14, 3) := by decide +kernel
theorem dL_law_3 : decode cL_law 3 = .ok (.dup, 1) := by decide +kernel
theorem dL_law_4 : decode cL_law 4 = .ok (.invokespecial 114, 3) := by decide +kernel
theorem dL_law_7 : decode cL_law 7 = .ok (.astore_n 1, 1) := by decide +kernel
theorem dL_law_8 : decode cL_law 8 = .ok (.aload_n 1, 1) := by decide +kernel
theorem dL_law_9 : decode cL_law 9 = .ok (.invokestatic 115, 3) := by decide +kernel
theorem dL_law_12 : decode cL_law 12 = .ok (.ifCond .eq 24, 3) := by decide +kernel
theorem dL_law_15 : decode cL_law 15 = .ok (.aload_n 1, 1) := by decide +kernel
theorem dL_law_16 : decode cL_law 16 = .ok (.iconst 0, 1) := by decide +kernel
theorem dL_law_17 : decode cL_law 17 = .ok (.invokestatic 119, 3) := by decide +kernel
theorem dL_law_20 : decode cL_law 20 = .ok (.ifCond .eq 16, 3) := by decide +kernel
theorem dL_law_23 : decode cL_law 23 = .ok (.aload_n 1, 1) := by decide +kernel
theorem dL_law_24 : decode cL_law 24 = .ok (.invokevirtual 122, 3) := by decide +kernel
theorem dL_law_27 : decode cL_law 27 = .ok (.ldc 78, 2) := by decide +kernel
theorem dL_law_29 : decode cL_law 29 = .ok (.if_icmp .ne 7, 3) := by decide +kernel
theorem dL_law_32 : decode cL_law 32 = .ok (.iconst 1, 1) := by decide +kernel
theorem dL_law_33 : decode cL_law 33 = .ok (.goto 4, 3) := by decide +kernel
theorem dL_law_36 : decode cL_law 36 = .ok (.iconst 0, 1) := by decide +kernel
theorem dL_law_37 : decode cL_law 37 = .ok (.istore_n 2, 1) := by decide +kernel
theorem dL_law_38 : decode cL_law 38 = .ok (.iconst 0, 1) := by decide +kernel
theorem dL_law_39 : decode cL_law 39 = .ok (.istore_n 3, 1) := by decide +kernel
theorem dL_law_40 : decode cL_law 40 = .ok (.iload_n 3, 1) := by decide +kernel
theorem dL_law_41 : decode cL_law 41 = .ok (.bipush 46, 2) := by decide +kernel
theorem dL_law_43 : decode cL_law 43 = .ok (.if_icmp .ge 242, 3) := by decide +kernel
theorem dL_law_46 : decode cL_law 46 = .ok (.iload_n 2, 1) := by decide +kernel
theorem dL_law_47 : decode cL_law 47 = .ok (.ifCond .eq 238, 3) := by decide +kernel
theorem dL_law_50 : decode cL_law 50 = .ok (.aload_n 0, 1) := by decide +kernel
theorem dL_law_51 : decode cL_law 51 = .ok (.iconst 2, 1) := by decide +kernel
theorem dL_law_52 : decode cL_law 52 = .ok (.iload_n 3, 1) := by decide +kernel
theorem dL_law_53 : decode cL_law 53 = .ok (.imul, 1) := by decide +kernel
theorem dL_law_54 : decode cL_law 54 = .ok (.invokestatic 125, 3) := by decide +kernel
theorem dL_law_57 : decode cL_law 57 = .ok (.istore 4, 2) := by decide +kernel
theorem dL_law_59 : decode cL_law 59 = .ok (.aload_n 0, 1) := by decide +kernel
theorem dL_law_60 : decode cL_law 60 = .ok (.iconst 2, 1) := by decide +kernel
theorem dL_law_61 : decode cL_law 61 = .ok (.iload_n 3, 1) := by decide +kernel
theorem dL_law_62 : decode cL_law 62 = .ok (.imul, 1) := by decide +kernel
theorem dL_law_63 : decode cL_law 63 = .ok (.iconst 1, 1) := by decide +kernel
theorem dL_law_64 : decode cL_law 64 = .ok (.iadd, 1) := by decide +kernel
theorem dL_law_65 : decode cL_law 65 = .ok (.invokestatic 125, 3) := by decide +kernel
theorem dL_law_68 : decode cL_law 68 = .ok (.istore 5, 2) := by decide +kernel
theorem dL_law_70 : decode cL_law 70 = .ok (.aload_n 1, 1) := by decide +kernel
theorem dL_law_71 : decode cL_law 71 = .ok (.invokestatic 129, 3) := by decide +kernel
theorem dL_law_74 : decode cL_law 74 = .ok (.lstore 6, 2) := by decide +kernel
theorem dL_law_76 : decode cL_law 76 = .ok (.aload_n 1, 1) := by decide +kernel
theorem dL_law_77 : decode cL_law 77 = .ok (.bipush 15, 2) := by decide +kernel
theorem dL_law_79 : decode cL_law 79 = .ok (.invokevirtual 13, 3) := by decide +kernel
theorem dL_law_82 : decode cL_law 82 = .ok (.istore 8, 2) := by decide +kernel
theorem dL_law_84 : decode cL_law 84 = .ok (.aload_n 1, 1) := by decide +kernel
theorem dL_law_85 : decode cL_law 85 = .ok (.iload 4, 2) := by decide +kernel
theorem dL_law_87 : decode cL_law 87 = .ok (.iload 5, 2) := by decide +kernel
theorem dL_law_89 : decode cL_law 89 = .ok (.invokestatic 133, 3) := by decide +kernel
theorem dL_law_92 : decode cL_law 92 = .ok (.ifCond .eq 37, 3) := by decide +kernel
theorem dL_law_95 : decode cL_law 95 = .ok (.iload_n 3, 1) := by decide +kernel
theorem dL_law_96 : decode cL_law 96 = .ok (.iconst 3, 1) := by decide +kernel
theorem dL_law_97 : decode cL_law 97 = .ok (.irem, 1) := by decide +kernel
theorem dL_law_98 : decode cL_law 98 = .ok (.ifCond .gt 10, 3) := by decide +kernel
theorem dL_law_101 : decode cL_law 101 = .ok (.aload_n 1, 1) := by decide +kernel
theorem dL_law_102 : decode cL_law 102 = .ok (.invokestatic 115, 3) := by decide +kernel
theorem dL_law_105 : decode cL_law 105 = .ok (.ifCond .eq 24, 3) := by decide +kernel
theorem dL_law_108 : decode cL_law 108 = .ok (.iload_n 3, 1) := by decide +kernel
theorem dL_law_109 : decode cL_law 109 = .ok (.bipush 7, 2) := by decide +kernel
theorem dL_law_111 : decode cL_law 111 = .ok (.irem, 1) := by decide +kernel
theorem dL_law_112 : decode cL_law 112 = .ok (.iconst 3, 1) := by decide +kernel
theorem dL_law_113 : decode cL_law 113 = .ok (.if_icmp .ne 12, 3) := by decide +kernel
theorem dL_law_116 : decode cL_law 116 = .ok (.aload_n 1, 1) := by decide +kernel
theorem dL_law_117 : decode cL_law 117 = .ok (.iload 5, 2) := by decide +kernel
theorem dL_law_119 : decode cL_law 119 = .ok (.invokestatic 119, 3) := by decide +kernel
theorem dL_law_122 : decode cL_law 122 = .ok (.ifCond .eq 7, 3) := by decide +kernel
theorem dL_law_125 : decode cL_law 125 = .ok (.iconst 1, 1) := by decide +kernel
theorem dL_law_126 : decode cL_law 126 = .ok (.goto 4, 3) := by decide +kernel
theorem dL_law_129 : decode cL_law 129 = .ok (.iconst 0, 1) := by decide +kernel
theorem dL_law_130 : decode cL_law 130 = .ok (.istore_n 2, 1) := by decide +kernel
theorem dL_law_131 : decode cL_law 131 = .ok (.aload_n 1, 1) := by decide +kernel
theorem dL_law_132 : decode cL_law 132 = .ok (.bipush 15, 2) := by decide +kernel
theorem dL_law_134 : decode cL_law 134 = .ok (.invokevirtual 13, 3) := by decide +kernel
theorem dL_law_137 : decode cL_law 137 = .ok (.istore 9, 2) := by decide +kernel
theorem dL_law_139 : decode cL_law 139 = .ok (.iload_n 2, 1) := by decide +kernel
theorem dL_law_140 : decode cL_law 140 = .ok (.ifCond .eq 39, 3) := by decide +kernel
theorem dL_law_143 : decode cL_law 143 = .ok (.iload 9, 2) := by decide +kernel
theorem dL_law_145 : decode cL_law 145 = .ok (.iload 8, 2) := by decide +kernel
theorem dL_law_147 : decode cL_law 147 = .ok (.if_icmp .ne 19, 3) := by decide +kernel
theorem dL_law_150 : decode cL_law 150 = .ok (.iload 8, 2) := by decide +kernel
theorem dL_law_152 : decode cL_law 152 = .ok (.iconst 4, 1) := by decide +kernel
theorem dL_law_153 : decode cL_law 153 = .ok (.if_icmp .eq 22, 3) := by decide +kernel
theorem dL_law_156 : decode cL_law 156 = .ok (.aload_n 1, 1) := by decide +kernel
theorem dL_law_157 : decode cL_law 157 = .ok (.invokestatic 129, 3) := by decide +kernel
theorem dL_law_160 : decode cL_law 160 = .ok (.lload 6, 2) := by decide +kernel
theorem dL_law_162 : decode cL_law 162 = .ok (.lcmp, 1) := by decide +kernel
theorem dL_law_163 : decode cL_law 163 = .ok (.ifCond .eq 12, 3) := by decide +kernel
theorem dL_law_166 : decode cL_law 166 = .ok (.iload 9, 2) := by decide +kernel
theorem dL_law_168 : decode cL_law 168 = .ok (.iload 8, 2) := by decide +kernel
theorem dL_law_170 : decode cL_law 170 = .ok (.iconst 1, 1) := by decide +kernel
theorem dL_law_171 : decode cL_law 171 = .ok (.iadd, 1) := by decide +kernel
theorem dL_law_172 : decode cL_law 172 = .ok (.if_icmp .ne 7, 3) := by decide +kernel
theorem dL_law_175 : decode cL_law 175 = .ok (.iconst 1, 1) := by decide +kernel
theorem dL_law_176 : decode cL_law 176 = .ok (.goto 4, 3) := by decide +kernel
theorem dL_law_179 : decode cL_law 179 = .ok (.iconst 0, 1) := by decide +kernel
theorem dL_law_180 : decode cL_law 180 = .ok (.istore_n 2, 1) := by decide +kernel
theorem dL_law_181 : decode cL_law 181 = .ok (.iload_n 2, 1) := by decide +kernel
theorem dL_law_182 : decode cL_law 182 = .ok (.ifCond .eq 49, 3) := by decide +kernel
theorem dL_law_185 : decode cL_law 185 = .ok (.iload 9, 2) := by decide +kernel
theorem dL_law_187 : decode cL_law 187 = .ok (.iload 8, 2) := by decide +kernel
theorem dL_law_189 : decode cL_law 189 = .ok (.iconst 1, 1) := by decide +kernel
theorem dL_law_190 : decode cL_law 190 = .ok (.iadd, 1) := by decide +kernel
theorem dL_law_191 : decode cL_law 191 = .ok (.if_icmp .ne 40, 3) := by decide +kernel
theorem dL_law_194 : decode cL_law 194 = .ok (.iload 5, 2) := by decide +kernel
theorem dL_law_196 : decode cL_law 196 = .ok (.bipush 8, 2) := by decide +kernel
theorem dL_law_198 : decode cL_law 198 = .ok (.ishr, 1) := by decide +kernel
theorem dL_law_199 : decode cL_law 199 = .ok (.iconst 3, 1) := by decide +kernel
theorem dL_law_200 : decode cL_law 200 = .ok (.invokestatic 46, 3) := by decide +kernel
theorem dL_law_203 : decode cL_law 203 = .ok (.ifCond .ne 28, 3) := by decide +kernel
theorem dL_law_206 : decode cL_law 206 = .ok (.aload_n 1, 1) := by decide +kernel
theorem dL_law_207 : decode cL_law 207 = .ok (.invokevirtual 122, 3) := by decide +kernel
theorem dL_law_210 : decode cL_law 210 = .ok (.iload 8, 2) := by decide +kernel
theorem dL_law_212 : decode cL_law 212 = .ok (.if_icmp .ne 17, 3) := by decide +kernel
theorem dL_law_215 : decode cL_law 215 = .ok (.aload_n 1, 1) := by decide +kernel
theorem dL_law_216 : decode cL_law 216 = .ok (.invokestatic 129, 3) := by decide +kernel
theorem dL_law_219 : decode cL_law 219 = .ok (.lload 6, 2) := by decide +kernel
theorem dL_law_221 : decode cL_law 221 = .ok (.lcmp, 1) := by decide +kernel
theorem dL_law_222 : decode cL_law 222 = .ok (.ifCond .ne 7, 3) := by decide +kernel
theorem dL_law_225 : decode cL_law 225 = .ok (.iconst 1, 1) := by decide +kernel
theorem dL_law_226 : decode cL_law 226 = .ok (.goto 4, 3) := by decide +kernel
theorem dL_law_229 : decode cL_law 229 = .ok (.iconst 0, 1) := by decide +kernel
theorem dL_law_230 : decode cL_law 230 = .ok (.istore_n 2, 1) := by decide +kernel
theorem dL_law_231 : decode cL_law 231 = .ok (.iload_n 2, 1) := by decide +kernel
theorem dL_law_232 : decode cL_law 232 = .ok (.ifCond .eq 47, 3) := by decide +kernel
theorem dL_law_235 : decode cL_law 235 = .ok (.iload_n 3, 1) := by decide +kernel
theorem dL_law_236 : decode cL_law 236 = .ok (.bipush 9, 2) := by decide +kernel
theorem dL_law_238 : decode cL_law 238 = .ok (.irem, 1) := by decide +kernel
theorem dL_law_239 : decode cL_law 239 = .ok (.bipush 8, 2) := by decide +kernel
theorem dL_law_241 : decode cL_law 241 = .ok (.if_icmp .ne 38, 3) := by decide +kernel
theorem dL_law_244 : decode cL_law 244 = .ok (.aload_n 1, 1) := by decide +kernel
theorem dL_law_245 : decode cL_law 245 = .ok (.bipush 15, 2) := by decide +kernel
theorem dL_law_247 : decode cL_law 247 = .ok (.invokevirtual 13, 3) := by decide +kernel
theorem dL_law_250 : decode cL_law 250 = .ok (.istore 10, 2) := by decide +kernel
theorem dL_law_252 : decode cL_law 252 = .ok (.aload_n 1, 1) := by decide +kernel
theorem dL_law_253 : decode cL_law 253 = .ok (.invokevirtual 122, 3) := by decide +kernel
theorem dL_law_256 : decode cL_law 256 = .ok (.iload 10, 2) := by decide +kernel
theorem dL_law_258 : decode cL_law 258 = .ok (.ifCond .ne 8, 3) := by decide +kernel
theorem dL_law_261 : decode cL_law 261 = .ok (.ldc 78, 2) := by decide +kernel
theorem dL_law_263 : decode cL_law 263 = .ok (.goto 7, 3) := by decide +kernel
theorem dL_law_266 : decode cL_law 266 = .ok (.iload 10, 2) := by decide +kernel
theorem dL_law_268 : decode cL_law 268 = .ok (.iconst 1, 1) := by decide +kernel
theorem dL_law_269 : decode cL_law 269 = .ok (.isub, 1) := by decide +kernel
theorem dL_law_270 : decode cL_law 270 = .ok (.if_icmp .ne 7, 3) := by decide +kernel
theorem dL_law_273 : decode cL_law 273 = .ok (.iconst 1, 1) := by decide +kernel
theorem dL_law_274 : decode cL_law 274 = .ok (.goto 4, 3) := by decide +kernel
theorem dL_law_277 : decode cL_law 277 = .ok (.iconst 0, 1) := by decide +kernel
theorem dL_law_278 : decode cL_law 278 = .ok (.istore_n 2, 1) := by decide +kernel
theorem dL_law_279 : decode cL_law 279 = .ok (.iinc 3 1, 3) := by decide +kernel
theorem dL_law_282 : decode cL_law 282 = .ok (.goto (-242), 3) := by decide +kernel
theorem dL_law_285 : decode cL_law 285 = .ok (.iload_n 2, 1) := by decide +kernel
theorem dL_law_286 : decode cL_law 286 = .ok (.ifCond .eq 14, 3) := by decide +kernel
theorem dL_law_289 : decode cL_law 289 = .ok (.aload_n 1, 1) := by decide +kernel
theorem dL_law_290 : decode cL_law 290 = .ok (.invokestatic 115, 3) := by decide +kernel
theorem dL_law_293 : decode cL_law 293 = .ok (.ifCond .eq 7, 3) := by decide +kernel
theorem dL_law_296 : decode cL_law 296 = .ok (.iconst 1, 1) := by decide +kernel
theorem dL_law_297 : decode cL_law 297 = .ok (.goto 4, 3) := by decide +kernel
theorem dL_law_300 : decode cL_law 300 = .ok (.iconst 0, 1) := by decide +kernel
theorem dL_law_301 : decode cL_law 301 = .ok (.ireturn, 1) := by decide +kernel
