theorem dX6_add_29 : decode cX6_add 29 = .ok (.iconst 1, 1) := by decide +kernel
theorem dX6_add_30 : decode cX6_add 30 = .ok (.iadd, 1) := by decide +kernel
theorem dX6_add_31 : decode cX6_add 31 = .ok (.putfield 28, 3) := by decide +kernel
theorem dX6_add_34 : decode cX6_add 34 = .ok (.return_, 1) := by decide +kernel
theorem dX6_find_0 : decode cX6_find 0 = .ok (.iconst 0, 1) := by decide +kernel
theorem dX6_find_1 : decode cX6_find 1 = .ok (.istore_n 2, 1) := by decide +kernel
theorem dX6_find_2 : decode cX6_find 2 = .ok (.iconst (-1), 1) := by decide +kernel
theorem dX6_find_3 : decode cX6_find 3 = .ok (.istore_n 3, 1) := by decide +kernel
theorem dX6_find_4 : decode cX6_find 4 = .ok (.iconst 0, 1) := by decide +kernel
theorem dX6_find_5 : decode cX6_find 5 = .ok (.istore 4, 2) := by decide +kernel
theorem dX6_find_7 : decode cX6_find 7 = .ok (.iload 4, 2) := by decide +kernel
theorem dX6_find_9 : decode cX6_find 9 = .ok (.aload_n 0, 1) := by decide +kernel
theorem dX6_find_10 : decode cX6_find 10 = .ok (.getfield 28, 3) := by decide +kernel
theorem dX6_find_13 : decode cX6_find 13 = .ok (.if_icmp .ge 56, 3) := by decide +kernel
theorem dX6_find_16 : decode cX6_find 16 = .ok (.aload_n 0, 1) := by decide +kernel
theorem dX6_find_17 : decode cX6_find 17 = .ok (.getfield 21, 3) := by decide +kernel
theorem dX6_find_20 : decode cX6_find 20 = .ok (.iload 4, 2) := by decide +kernel
theorem dX6_find_22 : decode cX6_find 22 = .ok (.aaload, 1) := by decide +kernel
theorem dX6_find_23 : decode cX6_find 23 = .ok (.getfield 41, 3) := by decide +kernel
theorem dX6_find_26 : decode cX6_find 26 = .ok (.iload_n 3, 1) := by decide +kernel
theorem dX6_find_27 : decode cX6_find 27 = .ok (.if_icmp .le 36, 3) := by decide +kernel
theorem dX6_find_30 : decode cX6_find 30 = .ok (.aload_n 0, 1) := by decide +kernel
theorem dX6_find_31 : decode cX6_find 31 = .ok (.getfield 21, 3) := by decide +kernel
theorem dX6_find_34 : decode cX6_find 34 = .ok (.iload 4, 2) := by decide +kernel
theorem dX6_find_36 : decode cX6_find 36 = .ok (.aaload, 1) := by decide +kernel
theorem dX6_find_37 : decode cX6_find 37 = .ok (.iload_n 1, 1) := by decide +kernel
theorem dX6_find_38 : decode cX6_find 38 = .ok (.invokevirtual 44, 3) := by decide +kernel
theorem dX6_find_41 : decode cX6_find 41 = .ok (.ifCond .eq 22, 3) := by decide +kernel
theorem dX6_find_44 : decode cX6_find 44 = .ok (.aload_n 0, 1) := by decide +kernel
theorem dX6_find_45 : decode cX6_find 45 = .ok (.getfield 25, 3) := by decide +kernel
theorem dX6_find_48 : decode cX6_find 48 = .ok (.iload 4, 2) := by decide +kernel
theorem dX6_find_50 : decode cX6_find 50 = .ok (.iaload, 1) := by decide +kernel
theorem dX6_find_51 : decode cX6_find 51 = .ok (.istore_n 2, 1) := by decide +kernel
theorem dX6_find_52 : decode cX6_find 52 = .ok (.aload_n 0, 1) := by decide +kernel
theorem dX6_find_53 : decode cX6_find 53 = .ok (.getfield 21, 3) := by decide +kernel
theorem dX6_find_56 : decode cX6_find 56 = .ok (.iload 4, 2) := by decide +kernel
theorem dX6_find_58 : decode cX6_find 58 = .ok (.aaload, 1) := by decide +kernel
theorem dX6_find_59 : decode cX6_find 59 = .ok (.getfield 41, 3) := by decide +kernel
theorem dX6_find_62 : decode cX6_find 62 = .ok (.istore_n 3, 1) := by decide +kernel
theorem dX6_find_63 : decode cX6_find 63 = .ok (.iinc 4 1, 3) := by decide +kernel
theorem dX6_find_66 : decode cX6_find 66 = .ok (.goto (-59), 3) := by decide +kernel
theorem dX6_find_69 : decode cX6_find 69 = .ok (.iload_n 2, 1) := by decide +kernel
theorem dX6_find_70 : decode cX6_find 70 = .ok (.ireturn, 1) := by decide +kernel
theorem dX7_init_0 : decode cX7_init 0 = .ok (.aload_n 0, 1) := by decide +kernel
theorem dX7_init_1 : decode cX7_init 1 = .ok (.invokespecial 3, 3) := by decide +kernel
theorem dX7_init_4 : decode cX7_init 4 = .ok (.aload_n 0, 1) := by decide +kernel
theorem dX7_init_5 : decode cX7_init 5 = .ok (.new 9, 3) := by decide +kernel
theorem dX7_init_8 : decode cX7_init 8 = .ok (.dup, 1) := by decide +kernel
theorem dX7_init_9 : decode cX7_init 9 = .ok (.invokespecial 11, 3) := by decide +kernel
theorem dX7_init_12 : decode cX7_init 12 = .ok (.putfield 12, 3) := by decide +kernel
theorem dX7_init_15 : decode cX7_init 15 = .ok (.aload_n 0, 1) := by decide +kernel
theorem dX7_init_16 : decode cX7_init 16 = .ok (.new 16, 3) := by decide +kernel
theorem dX7_init_19 : decode cX7_init 19 = .ok (.dup, 1) := by decide +kernel
theorem dX7_init_20 : decode cX7_init 20 = .ok (.invokespecial 18, 3) := by decide +kernel
theorem dX7_init_23 : decode cX7_init 23 = .ok (.putfield 19, 3) := by decide +kernel
theorem dX7_init_26 : decode cX7_init 26 = .ok (.aload_n 0, 1) := by decide +kernel
theorem dX7_init_27 : decode cX7_init 27 = .ok (.iconst 3, 1) := by decide +kernel
theorem dX7_init_28 : decode cX7_init 28 = .ok (.anewarray 23, 3) := by decide +kernel
theorem dX7_init_31 : decode cX7_init 31 = .ok (.putfield 25, 3) := by decide +kernel
theorem dX7_init_34 : decode cX7_init 34 = .ok (.aload_n 0, 1) := by decide +kernel
theorem dX7_init_35 : decode cX7_init 35 = .ok (.iconst 0, 1) := by decide +kernel
theorem dX7_init_36 : decode cX7_init 36 = .ok (.putfield 29, 3) := by decide +kernel
theorem dX7_init_39 : decode cX7_init 39 = .ok (.aload_n 0, 1) := by decide +kernel
theorem dX7_init_40 : decode cX7_init 40 = .ok (.bipush 100, 2) := by decide +kernel
theorem dX7_init_42 : decode cX7_init 42 = .ok (.putfield 33, 3) := by decide +kernel
theorem dX7_init_45 : decode cX7_init 45 = .ok (.aload_n 0, 1) := by decide +kernel
theorem dX7_init_46 : decode cX7_init 46 = .ok (.bipush 20, 2) := by decide +kernel
theorem dX7_init_48 : decode cX7_init 48 = .ok (.putfield 36, 3) := by decide +kernel
theorem dX7_init_51 : decode cX7_init 51 = .ok (.aload_n 0, 1) := by decide +kernel
theorem dX7_init_52 : decode cX7_init 52 = .ok (.iconst 0, 1) := by decide +kernel
theorem dX7_init_53 : decode cX7_init 53 = .ok (.putfield 39, 3) := by decide +kernel
theorem dX7_init_56 : decode cX7_init 56 = .ok (.iconst 0, 1) := by decide +kernel
theorem dX7_init_57 : decode cX7_init 57 = .ok (.istore_n 1, 1) := by decide +kernel
theorem dX7_init_58 : decode cX7_init 58 = .ok (.iload_n 1, 1) := by decide +kernel
theorem dX7_init_59 : decode cX7_init 59 = .ok (.iconst 3, 1) := by decide +kernel
theorem dX7_init_60 : decode cX7_init 60 = .ok (.if_icmp .ge 22, 3) := by decide +kernel
theorem dX7_init_63 : decode cX7_init 63 = .ok (.aload_n 0, 1) := by decide +kernel
theorem dX7_init_64 : decode cX7_init 64 = .ok (.getfield 25, 3) := by decide +kernel
theorem dX7_init_67 : decode cX7_init 67 = .ok (.iload_n 1, 1) := by decide +kernel
theorem dX7_init_68 : decode cX7_init 68 = .ok (.new 23, 3) := by decide +kernel
theorem dX7_init_71 : decode cX7_init 71 = .ok (.dup, 1) := by decide +kernel
theorem dX7_init_72 : decode cX7_init 72 = .ok (.invokespecial 42, 3) := by decide +kernel
theorem dX7_init_75 : decode cX7_init 75 = .ok (.aastore, 1) := by decide +kernel
theorem dX7_init_76 : decode cX7_init 76 = .ok (.iinc 1 1, 3) := by decide +kernel
theorem dX7_init_79 : decode cX7_init 79 = .ok (.goto (-21), 3) := by decide +kernel
theorem dX7_init_82 : decode cX7_init 82 = .ok (.return_, 1) := by decide +kernel
theorem dX7_register_0 : decode cX7_register 0 = .ok (.iload_n 1, 1) := by decide +kernel
theorem dX7_register_1 : decode cX7_register 1 = .ok (.iload_n 2, 1) := by decide +kernel
theorem dX7_register_2 : decode cX7_register 2 = .ok (.invokestatic 43, 3) := by decide +kernel
theorem dX7_register_5 : decode cX7_register 5 = .ok (.aload_n 0, 1) := by decide +kernel
theorem dX7_register_6 : decode cX7_register 6 = .ok (.getfield 12, 3) := by decide +kernel
theorem dX7_register_9 : decode cX7_register 9 = .ok (.getfield 47, 3) := by decide +kernel
theorem dX7_register_12 : decode cX7_register 12 = .ok (.bipush 24, 2) := by decide +kernel
theorem dX7_register_14 : decode cX7_register 14 = .ok (.if_icmp .ge 15, 3) := by decide +kernel
theorem dX7_register_17 : decode cX7_register 17 = .ok (.aload_n 0, 1) := by decide +kernel
theorem dX7_register_18 : decode cX7_register 18 = .ok (.getfield 12, 3) := by decide +kernel
theorem dX7_register_21 : decode cX7_register 21 = .ok (.iload_n 1, 1) := by decide +kernel
theorem dX7_register_22 : decode cX7_register 22 = .ok (.iload_n 2, 1) := by decide +kernel
theorem dX7_register_23 : decode cX7_register 23 = .ok (.invokevirtual 50, 3) := by decide +kernel
theorem dX7_register_26 : decode cX7_register 26 = .ok (.ifCond .eq 13, 3) := by decide +kernel
theorem dX7_register_29 : decode cX7_register 29 = .ok (.new 54, 3) := by decide +kernel
theorem dX7_register_32 : decode cX7_register 32 = .ok (.dup, 1) := by decide +kernel
theorem dX7_register_33 : decode cX7_register 33 = .ok (.ldc 56, 2) := by decide +kernel
theorem dX7_register_35 : decode cX7_register 35 = .ok (.invokespecial 58, 3) := by decide +kernel
theorem dX7_register_38 : decode cX7_register 38 = .ok (.athrow, 1) := by decide +kernel
theorem dX7_register_39 : decode cX7_register 39 = .ok (.aload_n 0, 1) := by decide +kernel
theorem dX7_register_40 : decode cX7_register 40 = .ok (.getfield 12, 3) := by decide +kernel
theorem dX7_register_43 : decode cX7_register 43 = .ok (.iload_n 1, 1) := by decide +kernel
theorem dX7_register_44 : decode cX7_register 44 = .ok (.iload_n 2, 1) := by decide +kernel
theorem dX7_register_45 : decode cX7_register 45 = .ok (.invokevirtual 61, 3) := by decide +kernel
theorem dX7_register_48 : decode cX7_register 48 = .ok (.istore_n 3, 1) := by decide +kernel
theorem dX7_register_49 : decode cX7_register 49 = .ok (.aload_n 0, 1) := by decide +kernel
theorem dX7_register_50 : decode cX7_register 50 = .ok (.aload_n 0, 1) := by decide +kernel
theorem dX7_register_51 : decode cX7_register 51 = .ok (.getfield 12, 3) := by decide +kernel
theorem dX7_register_54 : decode cX7_register 54 = .ok (.getfield 65, 3) := by decide +kernel
theorem dX7_register_57 : decode cX7_register 57 = .ok (.iload_n 3, 1) := by decide +kernel
theorem dX7_register_58 : decode cX7_register 58 = .ok (.aaload, 1) := by decide +kernel
theorem dX7_register_59 : decode cX7_register 59 = .ok (.getfield 69, 3) := by decide +kernel
theorem dX7_register_62 : decode cX7_register 62 = .ok (.invokevirtual 75, 3) := by decide +kernel
theorem dX7_register_65 : decode cX7_register 65 = .ok (.iload_n 3, 1) := by decide +kernel
theorem dX7_register_66 : decode cX7_register 66 = .ok (.ireturn, 1) := by decide +kernel
theorem dX7_withdraw_0 : decode cX7_withdraw 0 = .ok (.aload_n 0, 1) := by decide +kernel
theorem dX7_withdraw_1 : decode cX7_withdraw 1 = .ok (.iload_n 1, 1) := by decide +kernel
theorem dX7_withdraw_2 : decode cX7_withdraw 2 = .ok (.invokevirtual 79, 3) := by decide +kernel
theorem dX7_withdraw_5 : decode cX7_withdraw 5 = .ok (.astore_n 2, 1) := by decide +kernel
theorem dX7_withdraw_6 : decode cX7_withdraw 6 = .ok (.aload_n 2, 1) := by decide +kernel
theorem dX7_withdraw_7 : decode cX7_withdraw 7 = .ok (.invokestatic 83, 3) := by decide +kernel
theorem dX7_withdraw_10 : decode cX7_withdraw 10 = .ok (.aload_n 2, 1) := by decide +kernel
theorem dX7_withdraw_11 : decode cX7_withdraw 11 = .ok (.iconst 1, 1) := by decide +kernel
theorem dX7_withdraw_12 : decode cX7_withdraw 12 = .ok (.putfield 87, 3) := by decide +kernel
theorem dX7_withdraw_15 : decode cX7_withdraw 15 = .ok (.aload_n 0, 1) := by decide +kernel
theorem dX7_withdraw_16 : decode cX7_withdraw 16 = .ok (.aload_n 2, 1) := by decide +kernel
theorem dX7_withdraw_17 : decode cX7_withdraw 17 = .ok (.getfield 69, 3) := by decide +kernel
theorem dX7_withdraw_20 : decode cX7_withdraw 20 = .ok (.invokevirtual 75, 3) := by decide +kernel
theorem dX7_withdraw_23 : decode cX7_withdraw 23 = .ok (.aload_n 0, 1) := by decide +kernel
theorem dX7_withdraw_24 : decode cX7_withdraw 24 = .ok (.getfield 12, 3) := by decide +kernel
theorem dX7_withdraw_27 : decode cX7_withdraw 27 = .ok (.invokevirtual 91, 3) := by decide +kernel
theorem dX7_withdraw_30 : decode cX7_withdraw 30 = .ok (.ireturn, 1) := by decide +kernel
theorem dX7_addLocator_0 : decode cX7_addLocator 0 = .ok (.aload_n 0, 1) := by decide +kernel
theorem dX7_addLocator_1 : decode cX7_addLocator 1 = .ok (.iload_n 1, 1) := by decide +kernel
theorem dX7_addLocator_2 : decode cX7_addLocator 2 = .ok (.invokevirtual 79, 3) := by decide +kernel
theorem dX7_addLocator_5 : decode cX7_addLocator 5 = .ok (.astore 5, 2) := by decide +kernel
theorem dX7_addLocator_7 : decode cX7_addLocator 7 = .ok (.iload_n 2, 1) := by decide +kernel
theorem dX7_addLocator_8 : decode cX7_addLocator 8 = .ok (.invokestatic 95, 3) := by decide +kernel
theorem dX7_addLocator_11 : decode cX7_addLocator 11 = .ok (.iload_n 3, 1) := by decide +kernel
theorem dX7_addLocator_12 : decode cX7_addLocator 12 = .ok (.iconst 0, 1) := by decide +kernel
theorem dX7_addLocator_13 : decode cX7_addLocator 13 = .ok (.iconst 3, 1) := by decide +kernel
theorem dX7_addLocator_14 : decode cX7_addLocator 14 = .ok (.invokestatic 99, 3) := by decide +kernel
theorem dX7_addLocator_17 : decode cX7_addLocator 17 = .ok (.iload 4, 2) := by decide +kernel
theorem dX7_addLocator_19 : decode cX7_addLocator 19 = .ok (.iconst 1, 1) := by decide +kernel
theorem dX7_addLocator_20 : decode cX7_addLocator 20 = .ok (.bipush 10, 2) := by decide +kernel
theorem dX7_addLocator_22 : decode cX7_addLocator 22 = .ok (.invokestatic 99, 3) := by decide +kernel
theorem dX7_addLocator_25 : decode cX7_addLocator 25 = .ok (.aload 5, 2) := by decide +kernel
theorem dX7_addLocator_27 : decode cX7_addLocator 27 = .ok (.invokestatic 83, 3) := by decide +kernel
theorem dX7_addLocator_30 : decode cX7_addLocator 30 = .ok (.aload 5, 2) := by decide +kernel
theorem dX7_addLocator_32 : decode cX7_addLocator 32 = .ok (.getfield 103, 3) := by decide +kernel
theorem dX7_addLocator_35 : decode cX7_addLocator 35 = .ok (.astore 6, 2) := by decide +kernel
theorem dX7_addLocator_37 : decode cX7_addLocator 37 = .ok (.aload 6, 2) := by decide +kernel
theorem dX7_addLocator_39 : decode cX7_addLocator 39 = .ok (.getfield 107, 3) := by decide +kernel
theorem dX7_addLocator_42 : decode cX7_addLocator 42 = .ok (.iconst 4, 1) := by decide +kernel
theorem dX7_addLocator_43 : decode cX7_addLocator 43 = .ok (.if_icmp .ge 13, 3) := by decide +kernel
theorem dX7_addLocator_46 : decode cX7_addLocator 46 = .ok (.aload 6, 2) := by decide +kernel
theorem dX7_addLocator_48 : decode cX7_addLocator 48 = .ok (.iload_n 2, 1) := by decide +kernel
theorem dX7_addLocator_49 : decode cX7_addLocator 49 = .ok (.invokevirtual 110, 3) := by decide +kernel
theorem dX7_addLocator_52 : decode cX7_addLocator 52 = .ok (.iconst (-1), 1) := by decide +kernel
theorem dX7_addLocator_53 : decode cX7_addLocator 53 = .ok (.if_icmp .eq 13, 3) := by decide +kernel
theorem dX7_addLocator_56 : decode cX7_addLocator 56 = .ok (.new 54, 3) := by decide +kernel
theorem dX7_addLocator_59 : decode cX7_addLocator 59 = .ok (.dup, 1) := by decide +kernel
theorem dX7_addLocator_60 : decode cX7_addLocator 60 = .ok (.ldc 114, 2) := by decide +kernel
theorem dX7_addLocator_62 : decode cX7_addLocator 62 = .ok (.invokespecial 58, 3) := by decide +kernel
theorem dX7_addLocator_65 : decode cX7_addLocator 65 = .ok (.athrow, 1) := by decide +kernel
theorem dX7_addLocator_66 : decode cX7_addLocator 66 = .ok (.aload 6, 2) := by decide +kernel
theorem dX7_addLocator_68 : decode cX7_addLocator 68 = .ok (.iload_n 2, 1) := by decide +kernel
theorem dX7_addLocator_69 : decode cX7_addLocator 69 = .ok (.iload_n 3, 1) := by decide +kernel
theorem dX7_addLocator_70 : decode cX7_addLocator 70 = .ok (.iload 4, 2) := by decide +kernel
theorem dX7_addLocator_72 : decode cX7_addLocator 72 = .ok (.invokevirtual 116, 3) := by decide +kernel
theorem dX7_addLocator_75 : decode cX7_addLocator 75 = .ok (.aload_n 0, 1) := by decide +kernel
theorem dX7_addLocator_76 : decode cX7_addLocator 76 = .ok (.aload 5, 2) := by decide +kernel
theorem dX7_addLocator_78 : decode cX7_addLocator 78 = .ok (.invokevirtual 118, 3) := by decide +kernel
theorem dX7_addLocator_81 : decode cX7_addLocator 81 = .ok (.ireturn, 1) := by decide +kernel
theorem dX7_move_0 : decode cX7_move 0 = .ok (.aload_n 0, 1) := by decide +kernel
theorem dX7_move_1 : decode cX7_move 1 = .ok (.iload_n 1, 1) := by decide +kernel
theorem dX7_move_2 : decode cX7_move 2 = .ok (.invokevirtual 79, 3) := by decide +kernel
theorem dX7_move_5 : decode cX7_move 5 = .ok (.astore 4, 2) := by decide +kernel
theorem dX7_move_7 : decode cX7_move 7 = .ok (.iload_n 2, 1) := by decide +kernel
theorem dX7_move_8 : decode cX7_move 8 = .ok (.invokestatic 95, 3) := by decide +kernel
theorem dX7_move_11 : decode cX7_move 11 = .ok (.iload_n 3, 1) := by decide +kernel
theorem dX7_move_12 : decode cX7_move 12 = .ok (.invokestatic 95, 3) := by decide +kernel
theorem dX7_move_15 : decode cX7_move 15 = .ok (.aload 4, 2) := by decide +kernel
theorem dX7_move_17 : decode cX7_move 17 = .ok (.iload_n 2, 1) := by decide +kernel
theorem dX7_move_18 : decode cX7_move 18 = .ok (.invokestatic 122, 3) := by decide +kernel
theorem dX7_move_21 : decode cX7_move 21 = .ok (.istore 5, 2) := by decide +kernel
theorem dX7_move_23 : decode cX7_move 23 = .ok (.aload 4, 2) := by decide +kernel
theorem dX7_move_25 : decode cX7_move 25 = .ok (.getfield 103, 3) := by decide +kernel
theorem dX7_move_28 : decode cX7_move 28 = .ok (.iload_n 3, 1) := by decide +kernel
theorem dX7_move_29 : decode cX7_move 29 = .ok (.invokevirtual 110, 3) := by decide +kernel
theorem dX7_move_32 : decode cX7_move 32 = .ok (.iconst (-1), 1) := by decide +kernel
theorem dX7_move_33 : decode cX7_move 33 = .ok (.if_icmp .eq 13, 3) := by decide +kernel
theorem dX7_move_36 : decode cX7_move 36 = .ok (.new 54, 3) := by decide +kernel
theorem dX7_move_39 : decode cX7_move 39 = .ok (.dup, 1) := by decide +kernel
theorem dX7_move_40 : decode cX7_move 40 = .ok (.ldc 126, 2) := by decide +kernel
theorem dX7_move_42 : decode cX7_move 42 = .ok (.invokespecial 58, 3) := by decide +kernel
theorem dX7_move_45 : decode cX7_move 45 = .ok (.athrow, 1) := by decide +kernel
theorem dX7_move_46 : decode cX7_move 46 = .ok (.aload 4, 2) := by decide +kernel
theorem dX7_move_48 : decode cX7_move 48 = .ok (.getfield 103, 3) := by decide +kernel
theorem dX7_move_51 : decode cX7_move 51 = .ok (.getfield 128, 3) := by decide +kernel
theorem dX7_move_54 : decode cX7_move 54 = .ok (.iload 5, 2) := by decide +kernel
theorem dX7_move_56 : decode cX7_move 56 = .ok (.iload_n 3, 1) := by decide +kernel
theorem dX7_move_57 : decode cX7_move 57 = .ok (.iastore, 1) := by decide +kernel
theorem dX7_move_58 : decode cX7_move 58 = .ok (.aload_n 0, 1) := by decide +kernel
theorem dX7_move_59 : decode cX7_move 59 = .ok (.aload 4, 2) := by decide +kernel
theorem dX7_move_61 : decode cX7_move 61 = .ok (.invokevirtual 118, 3) := by decide +kernel
theorem dX7_move_64 : decode cX7_move 64 = .ok (.ireturn, 1) := by decide +kernel
theorem dX7_removeLocator_0 : decode cX7_removeLocator 0 = .ok (.aload_n 0, 1) := by decide +kernel
theorem dX7_removeLocator_1 : decode cX7_removeLocator 1 = .ok (.iload_n 1, 1) := by decide +kernel
theorem dX7_removeLocator_2 : decode cX7_removeLocator 2 = .ok (.invokevirtual 79, 3) := by decide +kernel
theorem dX7_removeLocator_5 : decode cX7_removeLocator 5 = .ok (.astore_n 3, 1) := by decide +kernel
theorem dX7_removeLocator_6 : decode cX7_removeLocator 6 = .ok (.iload_n 2, 1) := by decide +kernel
theorem dX7_removeLocator_7 : decode cX7_removeLocator 7 = .ok (.invokestatic 95, 3) := by decide +kernel
theorem dX7_removeLocator_10 : decode cX7_removeLocator 10 = .ok (.aload_n 3, 1) := by decide +kernel
theorem dX7_removeLocator_11 : decode cX7_removeLocator 11 = .ok (.iload_n 2, 1) := by decide +kernel
theorem dX7_removeLocator_12 : decode cX7_removeLocator 12 = .ok (.invokestatic 122, 3) := by decide +kernel
theorem dX7_removeLocator_15 : decode cX7_removeLocator 15 = .ok (.istore 4, 2) := by decide +kernel
theorem dX7_removeLocator_17 : decode cX7_removeLocator 17 = .ok (.aload_n 3, 1) := by decide +kernel
theorem dX7_removeLocator_18 : decode cX7_removeLocator 18 = .ok (.getfield 103, 3) := by decide +kernel
theorem dX7_removeLocator_21 : decode cX7_removeLocator 21 = .ok (.iload 4, 2) := by decide +kernel
theorem dX7_removeLocator_23 : decode cX7_removeLocator 23 = .ok (.invokevirtual 132, 3) := by decide +kernel
theorem dX7_removeLocator_26 : decode cX7_removeLocator 26 = .ok (.aload_n 0, 1) := by decide +kernel
theorem dX7_removeLocator_27 : decode cX7_removeLocator 27 = .ok (.aload_n 3, 1) := by decide +kernel
theorem dX7_removeLocator_28 : decode cX7_removeLocator 28 = .ok (.invokevirtual 118, 3) := by decide +kernel
theorem dX7_removeLocator_31 : decode cX7_removeLocator 31 = .ok (.ireturn, 1) := by decide +kernel
theorem dX7_mappingOf_0 : decode cX7_mappingOf 0 = .ok (.iload_n 1, 1) := by decide +kernel
theorem dX7_mappingOf_1 : decode cX7_mappingOf 1 = .ok (.invokestatic 135, 3) := by decide +kernel
theorem dX7_mappingOf_4 : decode cX7_mappingOf 4 = .ok (.aload_n 0, 1) := by decide +kernel
theorem dX7_mappingOf_5 : decode cX7_mappingOf 5 = .ok (.getfield 12, 3) := by decide +kernel
theorem dX7_mappingOf_8 : decode cX7_mappingOf 8 = .ok (.iload_n 1, 1) := by decide +kernel
theorem dX7_mappingOf_9 : decode cX7_mappingOf 9 = .ok (.invokevirtual 138, 3) := by decide +kernel
theorem dX7_mappingOf_12 : decode cX7_mappingOf 12 = .ok (.ireturn, 1) := by decide +kernel
theorem dX7_answerLength_0 : decode cX7_answerLength 0 = .ok (.iload_n 1, 1) := by decide +kernel
theorem dX7_answerLength_1 : decode cX7_answerLength 1 = .ok (.invokestatic 135, 3) := by decide +kernel
theorem dX7_answerLength_4 : decode cX7_answerLength 4 = .ok (.aload_n 0, 1) := by decide +kernel
theorem dX7_answerLength_5 : decode cX7_answerLength 5 = .ok (.getfield 12, 3) := by decide +kernel
theorem dX7_answerLength_8 : decode cX7_answerLength 8 = .ok (.iload_n 1, 1) := by decide +kernel
theorem dX7_answerLength_9 : decode cX7_answerLength 9 = .ok (.invokevirtual 138, 3) := by decide +kernel
theorem dX7_answerLength_12 : decode cX7_answerLength 12 = .ok (.istore_n 2, 1) := by decide +kernel
theorem dX7_answerLength_13 : decode cX7_answerLength 13 = .ok (.aload_n 0, 1) := by decide +kernel
theorem dX7_answerLength_14 : decode cX7_answerLength 14 = .ok (.getfield 12, 3) := by decide +kernel
theorem dX7_answerLength_17 : decode cX7_answerLength 17 = .ok (.iload_n 1, 1) := by decide +kernel
theorem dX7_answerLength_18 : decode cX7_answerLength 18 = .ok (.iload_n 2, 1) := by decide +kernel
theorem dX7_answerLength_19 : decode cX7_answerLength 19 = .ok (.invokevirtual 141, 3) := by decide +kernel
theorem dX7_answerLength_22 : decode cX7_answerLength 22 = .ok (.istore_n 3, 1) := by decide +kernel
theorem dX7_answerLength_23 : decode cX7_answerLength 23 = .ok (.iload_n 2, 1) := by decide +kernel
theorem dX7_answerLength_24 : decode cX7_answerLength 24 = .ok (.iconst (-1), 1) := by decide +kernel
theorem dX7_answerLength_25 : decode cX7_answerLength 25 = .ok (.if_icmp .ne 10, 3) := by decide +kernel
theorem dX7_answerLength_28 : decode cX7_answerLength 28 = .ok (.iload_n 3, 1) := by decide +kernel
theorem dX7_answerLength_29 : decode cX7_answerLength 29 = .ok (.bipush 17, 2) := by decide +kernel
theorem dX7_answerLength_31 : decode cX7_answerLength 31 = .ok (.iadd, 1) := by decide +kernel
theorem dX7_answerLength_32 : decode cX7_answerLength 32 = .ok (.goto 4, 3) := by decide +kernel
theorem dX7_answerLength_35 : decode cX7_answerLength 35 = .ok (.iload_n 3, 1) := by decide +kernel
theorem dX7_answerLength_36 : decode cX7_answerLength 36 = .ok (.ireturn, 1) := by decide +kernel
theorem dX7_version_0 : decode cX7_version 0 = .ok (.aload_n 0, 1) := by decide +kernel
theorem dX7_version_1 : decode cX7_version 1 = .ok (.iload_n 1, 1) := by decide +kernel
theorem dX7_version_2 : decode cX7_version 2 = .ok (.invokevirtual 79, 3) := by decide +kernel
theorem dX7_version_5 : decode cX7_version 5 = .ok (.astore_n 2, 1) := by decide +kernel
theorem dX7_version_6 : decode cX7_version 6 = .ok (.aload_n 2, 1) := by decide +kernel
theorem dX7_version_7 : decode cX7_version 7 = .ok (.getfield 87, 3) := by decide +kernel
theorem dX7_version_10 : decode cX7_version 10 = .ok (.ifCond .eq 7, 3) := by decide +kernel
theorem dX7_version_13 : decode cX7_version 13 = .ok (.iconst (-1), 1) := by decide +kernel
theorem dX7_version_14 : decode cX7_version 14 = .ok (.goto 7, 3) := by decide +kernel
theorem dX7_version_17 : decode cX7_version 17 = .ok (.aload_n 2, 1) := by decide +kernel
theorem dX7_version_18 : decode cX7_version 18 = .ok (.getfield 144, 3) := by decide +kernel
theorem dX7_version_21 : decode cX7_version 21 = .ok (.ireturn, 1) := by decide +kernel
theorem dX7_delegate_0 : decode cX7_delegate 0 = .ok (.iload_n 3, 1) := by decide +kernel
theorem dX7_delegate_1 : decode cX7_delegate 1 = .ok (.iconst 4, 1) := by decide +kernel
theorem dX7_delegate_2 : decode cX7_delegate 2 = .ok (.invokestatic 147, 3) := by decide +kernel
theorem dX7_delegate_5 : decode cX7_delegate 5 = .ok (.iload_n 1, 1) := by decide +kernel
theorem dX7_delegate_6 : decode cX7_delegate 6 = .ok (.iload_n 2, 1) := by decide +kernel
theorem dX7_delegate_7 : decode cX7_delegate 7 = .ok (.invokestatic 43, 3) := by decide +kernel
theorem dX7_delegate_10 : decode cX7_delegate 10 = .ok (.aload_n 0, 1) := by decide +kernel
theorem dX7_delegate_11 : decode cX7_delegate 11 = .ok (.getfield 19, 3) := by decide +kernel
theorem dX7_delegate_14 : decode cX7_delegate 14 = .ok (.iload_n 1, 1) := by decide +kernel
theorem dX7_delegate_15 : decode cX7_delegate 15 = .ok (.iload_n 2, 1) := by decide +kernel
theorem dX7_delegate_16 : decode cX7_delegate 16 = .ok (.invokevirtual 150, 3) := by decide +kernel
theorem dX7_delegate_19 : decode cX7_delegate 19 = .ok (.istore 4, 2) := by decide +kernel
theorem dX7_delegate_21 : decode cX7_delegate 21 = .ok (.iload 4, 2) := by decide +kernel
theorem dX7_delegate_23 : decode cX7_delegate 23 = .ok (.iconst (-1), 1) := by decide +kernel
theorem dX7_delegate_24 : decode cX7_delegate 24 = .ok (.if_icmp .ne 25, 3) := by decide +kernel
theorem dX7_delegate_27 : decode cX7_delegate 27 = .ok (.aload_n 0, 1) := by decide +kernel
theorem dX7_delegate_28 : decode cX7_delegate 28 = .ok (.getfield 19, 3) := by decide +kernel
theorem dX7_delegate_31 : decode cX7_delegate 31 = .ok (.getfield 152, 3) := by decide +kernel
theorem dX7_delegate_34 : decode cX7_delegate 34 = .ok (.bipush 12, 2) := by decide +kernel
theorem dX7_delegate_36 : decode cX7_delegate 36 = .ok (.if_icmp .lt 13, 3) := by decide +kernel
theorem dX7_delegate_39 : decode cX7_delegate 39 = .ok (.new 54, 3) := by decide +kernel
theorem dX7_delegate_42 : decode cX7_delegate 42 = .ok (.dup, 1) := by decide +kernel
theorem dX7_delegate_43 : decode cX7_delegate 43 = .ok (.ldc 153, 2) := by decide +kernel
theorem dX7_delegate_45 : decode cX7_delegate 45 = .ok (.invokespecial 58, 3) := by decide +kernel
theorem dX7_delegate_48 : decode cX7_delegate 48 = .ok (.athrow, 1) := by decide +kernel
theorem dX7_delegate_49 : decode cX7_delegate 49 = .ok (.iload 4, 2) := by decide +kernel
theorem dX7_delegate_51 : decode cX7_delegate 51 = .ok (.iconst (-1), 1) := by decide +kernel
theorem dX7_delegate_52 : decode cX7_delegate 52 = .ok (.if_icmp .ne 16, 3) := by decide +kernel
theorem dX7_delegate_55 : decode cX7_delegate 55 = .ok (.aload_n 0, 1) := by decide +kernel
theorem dX7_delegate_56 : decode cX7_delegate 56 = .ok (.getfield 19, 3) := by decide +kernel
theorem dX7_delegate_59 : decode cX7_delegate 59 = .ok (.iload_n 1, 1) := by decide +kernel
theorem dX7_delegate_60 : decode cX7_delegate 60 = .ok (.iload_n 2, 1) := by decide +kernel
theorem dX7_delegate_61 : decode cX7_delegate 61 = .ok (.iload_n 3, 1) := by decide +kernel
theorem dX7_delegate_62 : decode cX7_delegate 62 = .ok (.invokevirtual 155, 3) := by decide +kernel
theorem dX7_delegate_65 : decode cX7_delegate 65 = .ok (.goto 14, 3) := by decide +kernel
theorem dX7_delegate_68 : decode cX7_delegate 68 = .ok (.aload_n 0, 1) := by decide +kernel
theorem dX7_delegate_69 : decode cX7_delegate 69 = .ok (.getfield 19, 3) := by decide +kernel
theorem dX7_delegate_72 : decode cX7_delegate 72 = .ok (.getfield 156, 3) := by decide +kernel
theorem dX7_delegate_75 : decode cX7_delegate 75 = .ok (.iload 4, 2) := by decide +kernel
theorem dX7_delegate_77 : decode cX7_delegate 77 = .ok (.iload_n 3, 1) := by decide +kernel
theorem dX7_delegate_78 : decode cX7_delegate 78 = .ok (.iastore, 1) := by decide +kernel
theorem dX7_delegate_79 : decode cX7_delegate 79 = .ok (.aload_n 0, 1) := by decide +kernel
theorem dX7_delegate_80 : decode cX7_delegate 80 = .ok (.getfield 19, 3) := by decide +kernel
theorem dX7_delegate_83 : decode cX7_delegate 83 = .ok (.getfield 152, 3) := by decide +kernel
theorem dX7_delegate_86 : decode cX7_delegate 86 = .ok (.ireturn, 1) := by decide +kernel
theorem dX7_setUp_0 : decode cX7_setUp 0 = .ok (.iload_n 1, 1) := by decide +kernel
theorem dX7_setUp_1 : decode cX7_setUp 1 = .ok (.iconst 4, 1) := by decide +kernel
theorem dX7_setUp_2 : decode cX7_setUp 2 = .ok (.invokestatic 147, 3) := by decide +kernel
theorem dX7_setUp_5 : decode cX7_setUp 5 = .ok (.aload_n 0, 1) := by decide +kernel
theorem dX7_setUp_6 : decode cX7_setUp 6 = .ok (.getfield 19, 3) := by decide +kernel
theorem dX7_setUp_9 : decode cX7_setUp 9 = .ok (.getfield 159, 3) := by decide +kernel
theorem dX7_setUp_12 : decode cX7_setUp 12 = .ok (.iload_n 1, 1) := by decide +kernel
theorem dX7_setUp_13 : decode cX7_setUp 13 = .ok (.baload, 1) := by decide +kernel
theorem dX7_setUp_14 : decode cX7_setUp 14 = .ok (.ifCond .ne 7, 3) := by decide +kernel
theorem dX7_setUp_17 : decode cX7_setUp 17 = .ok (.iconst 1, 1) := by decide +kernel
theorem dX7_setUp_18 : decode cX7_setUp 18 = .ok (.goto 4, 3) := by decide +kernel
theorem dX7_setUp_21 : decode cX7_setUp 21 = .ok (.iconst 0, 1) := by decide +kernel
theorem dX7_setUp_22 : decode cX7_setUp 22 = .ok (.istore_n 3, 1) := by decide +kernel
theorem dX7_setUp_23 : decode cX7_setUp 23 = .ok (.aload_n 0, 1) := by decide +kernel
theorem dX7_setUp_24 : decode cX7_setUp 24 = .ok (.getfield 19, 3) := by decide +kernel
theorem dX7_setUp_27 : decode cX7_setUp 27 = .ok (.getfield 159, 3) := by decide +kernel
theorem dX7_setUp_30 : decode cX7_setUp 30 = .ok (.iload_n 1, 1) := by decide +kernel
theorem dX7_setUp_31 : decode cX7_setUp 31 = .ok (.iload_n 2, 1) := by decide +kernel
theorem dX7_setUp_32 : decode cX7_setUp 32 = .ok (.ifCond .ne 7, 3) := by decide +kernel
theorem dX7_setUp_35 : decode cX7_setUp 35 = .ok (.iconst 1, 1) := by decide +kernel
theorem dX7_setUp_36 : decode cX7_setUp 36 = .ok (.goto 4, 3) := by decide +kernel
theorem dX7_setUp_39 : decode cX7_setUp 39 = .ok (.iconst 0, 1) := by decide +kernel
theorem dX7_setUp_40 : decode cX7_setUp 40 = .ok (.bastore, 1) := by decide +kernel
theorem dX7_setUp_41 : decode cX7_setUp 41 = .ok (.iload_n 3, 1) := by decide +kernel
theorem dX7_setUp_42 : decode cX7_setUp 42 = .ok (.ireturn, 1) := by decide +kernel
theorem dX7_serverOf_0 : decode cX7_serverOf 0 = .ok (.iload_n 1, 1) := by decide +kernel
theorem dX7_serverOf_1 : decode cX7_serverOf 1 = .ok (.invokestatic 135, 3) := by decide +kernel
theorem dX7_serverOf_4 : decode cX7_serverOf 4 = .ok (.aload_n 0, 1) := by decide +kernel
theorem dX7_serverOf_5 : decode cX7_serverOf 5 = .ok (.getfield 19, 3) := by decide +kernel
theorem dX7_serverOf_8 : decode cX7_serverOf 8 = .ok (.iload_n 1, 1) := by decide +kernel
theorem dX7_serverOf_9 : decode cX7_serverOf 9 = .ok (.invokevirtual 163, 3) := by decide +kernel
theorem dX7_serverOf_12 : decode cX7_serverOf 12 = .ok (.ireturn, 1) := by decide +kernel
theorem dX7_answers_0 : decode cX7_answers 0 = .ok (.iload_n 1, 1) := by decide +kernel
theorem dX7_answers_1 : decode cX7_answers 1 = .ok (.iconst 4, 1) := by decide +kernel
theorem dX7_answers_2 : decode cX7_answers 2 = .ok (.invokestatic 147, 3) := by decide +kernel
theorem dX7_answers_5 : decode cX7_answers 5 = .ok (.aload_n 0, 1) := by decide +kernel
theorem dX7_answers_6 : decode cX7_answers 6 = .ok (.getfield 19, 3) := by decide +kernel
theorem dX7_answers_9 : decode cX7_answers 9 = .ok (.getfield 164, 3) := by decide +kernel
theorem dX7_answers_12 : decode cX7_answers 12 = .ok (.iload_n 1, 1) := by decide +kernel
theorem dX7_answers_13 : decode cX7_answers 13 = .ok (.iaload, 1) := by decide +kernel
theorem dX7_answers_14 : decode cX7_answers 14 = .ok (.ireturn, 1) := by decide +kernel
theorem dX7_send_0 : decode cX7_send 0 = .ok (.aload_n 0, 1) := by decide +kernel
theorem dX7_send_1 : decode cX7_send 1 = .ok (.iload_n 1, 1) := by decide +kernel
theorem dX7_send_2 : decode cX7_send 2 = .ok (.invokevirtual 167, 3) := by decide +kernel
theorem dX7_send_5 : decode cX7_send 5 = .ok (.astore_n 3, 1) := by decide +kernel
theorem dX7_send_6 : decode cX7_send 6 = .ok (.iload_n 2, 1) := by decide +kernel
theorem dX7_send_7 : decode cX7_send 7 = .ok (.invokestatic 135, 3) := by decide +kernel
theorem dX7_send_10 : decode cX7_send 10 = .ok (.aload_n 3, 1) := by decide +kernel
theorem dX7_send_11 : decode cX7_send 11 = .ok (.iload_n 2, 1) := by decide +kernel
theorem dX7_send_12 : decode cX7_send 12 = .ok (.aload_n 0, 1) := by decide +kernel
theorem dX7_send_13 : decode cX7_send 13 = .ok (.getfield 29, 3) := by decide +kernel
theorem dX7_send_16 : decode cX7_send 16 = .ok (.invokevirtual 171, 3) := by decide +kernel
theorem dX7_send_19 : decode cX7_send 19 = .ok (.istore 4, 2) := by decide +kernel
theorem dX7_send_21 : decode cX7_send 21 = .ok (.iload 4, 2) := by decide +kernel
theorem dX7_send_23 : decode cX7_send 23 = .ok (.iconst (-1), 1) := by decide +kernel
theorem dX7_send_24 : decode cX7_send 24 = .ok (.if_icmp .ne 51, 3) := by decide +kernel
theorem dX7_send_27 : decode cX7_send 27 = .ok (.aload_n 0, 1) := by decide +kernel
theorem dX7_send_28 : decode cX7_send 28 = .ok (.getfield 19, 3) := by decide +kernel
theorem dX7_send_31 : decode cX7_send 31 = .ok (.iload_n 2, 1) := by decide +kernel
theorem dX7_send_32 : decode cX7_send 32 = .ok (.invokevirtual 163, 3) := by decide +kernel
theorem dX7_send_35 : decode cX7_send 35 = .ok (.istore 5, 2) := by decide +kernel
theorem dX7_send_37 : decode cX7_send 37 = .ok (.aload_n 0, 1) := by decide +kernel
theorem dX7_send_38 : decode cX7_send 38 = .ok (.getfield 19, 3) := by decide +kernel
theorem dX7_send_41 : decode cX7_send 41 = .ok (.getfield 159, 3) := by decide +kernel
theorem dX7_send_44 : decode cX7_send 44 = .ok (.iload 5, 2) := by decide +kernel
theorem dX7_send_46 : decode cX7_send 46 = .ok (.baload, 1) := by decide +kernel
theorem dX7_send_47 : decode cX7_send 47 = .ok (.ifCond .eq 6, 3) := by decide +kernel
theorem dX7_send_50 : decode cX7_send 50 = .ok (.bipush (-2), 2) := by decide +kernel
theorem dX7_send_52 : decode cX7_send 52 = .ok (.ireturn, 1) := by decide +kernel
theorem dX7_send_53 : decode cX7_send 53 = .ok (.aload_n 0, 1) := by decide +kernel
theorem dX7_send_54 : decode cX7_send 54 = .ok (.getfield 19, 3) := by decide +kernel
theorem dX7_send_57 : decode cX7_send 57 = .ok (.getfield 164, 3) := by decide +kernel
theorem dX7_send_60 : decode cX7_send 60 = .ok (.iload 5, 2) := by decide +kernel
theorem dX7_send_62 : decode cX7_send 62 = .ok (.dup2, 1) := by decide +kernel
theorem dX7_send_63 : decode cX7_send 63 = .ok (.iaload, 1) := by decide +kernel
theorem dX7_send_64 : decode cX7_send 64 = .ok (.iconst 1, 1) := by decide +kernel
theorem dX7_send_65 : decode cX7_send 65 = .ok (.iadd, 1) := by decide +kernel
theorem dX7_send_66 : decode cX7_send 66 = .ok (.iastore, 1) := by decide +kernel
theorem dX7_send_67 : decode cX7_send 67 = .ok (.aload_n 0, 1) := by decide +kernel
theorem dX7_send_68 : decode cX7_send 68 = .ok (.aload_n 3, 1) := by decide +kernel
theorem dX7_send_69 : decode cX7_send 69 = .ok (.iload_n 2, 1) := by decide +kernel
theorem dX7_send_70 : decode cX7_send 70 = .ok (.invokevirtual 173, 3) := by decide +kernel
theorem dX7_send_73 : decode cX7_send 73 = .ok (.istore 4, 2) := by decide +kernel
theorem dX7_send_75 : decode cX7_send 75 = .ok (.aload_n 3, 1) := by decide +kernel
theorem dX7_send_76 : decode cX7_send 76 = .ok (.iload 4, 2) := by decide +kernel
theorem dX7_send_78 : decode cX7_send 78 = .ok (.invokevirtual 177, 3) := by decide +kernel
theorem dX7_send_81 : decode cX7_send 81 = .ok (.astore 5, 2) := by decide +kernel
theorem dX7_send_83 : decode cX7_send 83 = .ok (.aload 5, 2) := by decide +kernel
theorem dX7_send_85 : decode cX7_send 85 = .ok (.aload_n 3, 1) := by decide +kernel
theorem dX7_send_86 : decode cX7_send 86 = .ok (.getfield 181, 3) := by decide +kernel
theorem dX7_send_89 : decode cX7_send 89 = .ok (.invokevirtual 184, 3) := by decide +kernel
theorem dX7_send_92 : decode cX7_send 92 = .ok (.ireturn, 1) := by decide +kernel
theorem dX7_probe_0 : decode cX7_probe 0 = .ok (.aload_n 0, 1) := by decide +kernel
theorem dX7_probe_1 : decode cX7_probe 1 = .ok (.iload_n 1, 1) := by decide +kernel
theorem dX7_probe_2 : decode cX7_probe 2 = .ok (.invokevirtual 167, 3) := by decide +kernel
theorem dX7_probe_5 : decode cX7_probe 5 = .ok (.astore 4, 2) := by decide +kernel
theorem dX7_probe_7 : decode cX7_probe 7 = .ok (.iload_n 2, 1) := by decide +kernel
theorem dX7_probe_8 : decode cX7_probe 8 = .ok (.invokestatic 95, 3) := by decide +kernel
theorem dX7_probe_11 : decode cX7_probe 11 = .ok (.aload 4, 2) := by decide +kernel
theorem dX7_probe_13 : decode cX7_probe 13 = .ok (.getfield 181, 3) := by decide +kernel
theorem dX7_probe_16 : decode cX7_probe 16 = .ok (.iload_n 2, 1) := by decide +kernel
theorem dX7_probe_17 : decode cX7_probe 17 = .ok (.iload_n 3, 1) := by decide +kernel
theorem dX7_probe_18 : decode cX7_probe 18 = .ok (.ifCond .ne 7, 3) := by decide +kernel
theorem dX7_probe_21 : decode cX7_probe 21 = .ok (.iconst 1, 1) := by decide +kernel
theorem dX7_probe_22 : decode cX7_probe 22 = .ok (.goto 4, 3) := by decide +kernel
theorem dX7_probe_25 : decode cX7_probe 25 = .ok (.iconst 0, 1) := by decide +kernel
theorem dX7_probe_26 : decode cX7_probe 26 = .ok (.bastore, 1) := by decide +kernel
theorem dX7_probe_27 : decode cX7_probe 27 = .ok (.aload 4, 2) := by decide +kernel
theorem dX7_probe_29 : decode cX7_probe 29 = .ok (.invokevirtual 190, 3) := by decide +kernel
theorem dX7_probe_32 : decode cX7_probe 32 = .ok (.ireturn, 1) := by decide +kernel
theorem dX7_setLifetimes_0 : decode cX7_setLifetimes 0 = .ok (.iload_n 1, 1) := by decide +kernel
theorem dX7_setLifetimes_1 : decode cX7_setLifetimes 1 = .ok (.iconst 1, 1) := by decide +kernel
theorem dX7_setLifetimes_2 : decode cX7_setLifetimes 2 = .ok (.sipush 1000, 3) := by decide +kernel
theorem dX7_setLifetimes_5 : decode cX7_setLifetimes 5 = .ok (.invokestatic 99, 3) := by decide +kernel
theorem dX7_setLifetimes_8 : decode cX7_setLifetimes 8 = .ok (.iload_n 2, 1) := by decide +kernel
theorem dX7_setLifetimes_9 : decode cX7_setLifetimes 9 = .ok (.iconst 1, 1) := by decide +kernel
theorem dX7_setLifetimes_10 : decode cX7_setLifetimes 10 = .ok (.sipush 1000, 3) := by decide +kernel
theorem dX7_setLifetimes_13 : decode cX7_setLifetimes 13 = .ok (.invokestatic 99, 3) := by decide +kernel
theorem dX7_setLifetimes_16 : decode cX7_setLifetimes 16 = .ok (.aload_n 0, 1) := by decide +kernel
theorem dX7_setLifetimes_17 : decode cX7_setLifetimes 17 = .ok (.getfield 33, 3) := by decide +kernel
theorem dX7_setLifetimes_20 : decode cX7_setLifetimes 20 = .ok (.istore_n 3, 1) := by decide +kernel
theorem dX7_setLifetimes_21 : decode cX7_setLifetimes 21 = .ok (.aload_n 0, 1) := by decide +kernel
theorem dX7_setLifetimes_22 : decode cX7_setLifetimes 22 = .ok (.iload_n 1, 1) := by decide +kernel
theorem dX7_setLifetimes_23 : decode cX7_setLifetimes 23 = .ok (.putfield 33, 3) := by decide +kernel
theorem dX7_setLifetimes_26 : decode cX7_setLifetimes 26 = .ok (.aload_n 0, 1) := by decide +kernel
theorem dX7_setLifetimes_27 : decode cX7_setLifetimes 27 = .ok (.iload_n 2, 1) := by decide +kernel
theorem dX7_setLifetimes_28 : decode cX7_setLifetimes 28 = .ok (.putfield 36, 3) := by decide +kernel
theorem dX7_setLifetimes_31 : decode cX7_setLifetimes 31 = .ok (.iload_n 3, 1) := by decide +kernel
theorem dX7_setLifetimes_32 : decode cX7_setLifetimes 32 = .ok (.ireturn, 1) := by decide +kernel
theorem dX7_pass_0 : decode cX7_pass 0 = .ok (.iload_n 1, 1) := by decide +kernel
theorem dX7_pass_1 : decode cX7_pass 1 = .ok (.iconst 1, 1) := by decide +kernel
theorem dX7_pass_2 : decode cX7_pass 2 = .ok (.sipush 1000, 3) := by decide +kernel
theorem dX7_pass_5 : decode cX7_pass 5 = .ok (.invokestatic 99, 3) := by decide +kernel
theorem dX7_pass_8 : decode cX7_pass 8 = .ok (.aload_n 0, 1) := by decide +kernel
theorem dX7_pass_9 : decode cX7_pass 9 = .ok (.dup, 1) := by decide +kernel
theorem dX7_pass_10 : decode cX7_pass 10 = .ok (.getfield 29, 3) := by decide +kernel
theorem dX7_pass_13 : decode cX7_pass 13 = .ok (.iload_n 1, 1) := by decide +kernel
theorem dX7_pass_14 : decode cX7_pass 14 = .ok (.iadd, 1) := by decide +kernel
theorem dX7_pass_15 : decode cX7_pass 15 = .ok (.putfield 29, 3) := by decide +kernel
theorem dX7_pass_18 : decode cX7_pass 18 = .ok (.aload_n 0, 1) := by decide +kernel
theorem dX7_pass_19 : decode cX7_pass 19 = .ok (.getfield 29, 3) := by decide +kernel
theorem dX7_pass_22 : decode cX7_pass 22 = .ok (.ireturn, 1) := by decide +kernel
theorem dX7_entries_0 : decode cX7_entries 0 = .ok (.aload_n 0, 1) := by decide +kernel
theorem dX7_entries_1 : decode cX7_entries 1 = .ok (.iload_n 1, 1) := by decide +kernel
theorem dX7_entries_2 : decode cX7_entries 2 = .ok (.invokevirtual 167, 3) := by decide +kernel
theorem dX7_entries_5 : decode cX7_entries 5 = .ok (.getfield 193, 3) := by decide +kernel
theorem dX7_entries_8 : decode cX7_entries 8 = .ok (.ireturn, 1) := by decide +kernel
theorem dX7_prefixOf_0 : decode cX7_prefixOf 0 = .ok (.aload_n 0, 1) := by decide +kernel
theorem dX7_prefixOf_1 : decode cX7_prefixOf 1 = .ok (.iload_n 1, 1) := by decide +kernel
theorem dX7_prefixOf_2 : decode cX7_prefixOf 2 = .ok (.iload_n 2, 1) := by decide +kernel
theorem dX7_prefixOf_3 : decode cX7_prefixOf 3 = .ok (.invokevirtual 194, 3) := by decide +kernel
theorem dX7_prefixOf_6 : decode cX7_prefixOf 6 = .ok (.getfield 198, 3) := by decide +kernel
theorem dX7_prefixOf_9 : decode cX7_prefixOf 9 = .ok (.astore_n 3, 1) := by decide +kernel
theorem dX7_prefixOf_10 : decode cX7_prefixOf 10 = .ok (.bipush 32, 2) := by decide +kernel
theorem dX7_prefixOf_12 : decode cX7_prefixOf 12 = .ok (.aload_n 3, 1) := by decide +kernel
theorem dX7_prefixOf_13 : decode cX7_prefixOf 13 = .ok (.getfield 199, 3) := by decide +kernel
theorem dX7_prefixOf_16 : decode cX7_prefixOf 16 = .ok (.imul, 1) := by decide +kernel
theorem dX7_prefixOf_17 : decode cX7_prefixOf 17 = .ok (.aload_n 3, 1) := by decide +kernel
theorem dX7_prefixOf_18 : decode cX7_prefixOf 18 = .ok (.getfield 204, 3) := by decide +kernel
theorem dX7_prefixOf_21 : decode cX7_prefixOf 21 = .ok (.iadd, 1) := by decide +kernel
theorem dX7_prefixOf_22 : decode cX7_prefixOf 22 = .ok (.ireturn, 1) := by decide +kernel
theorem dX7_mappingAt_0 : decode cX7_mappingAt 0 = .ok (.aload_n 0, 1) := by decide +kernel
theorem dX7_mappingAt_1 : decode cX7_mappingAt 1 = .ok (.iload_n 1, 1) := by decide +kernel
theorem dX7_mappingAt_2 : decode cX7_mappingAt 2 = .ok (.iload_n 2, 1) := by decide +kernel
theorem dX7_mappingAt_3 : decode cX7_mappingAt 3 = .ok (.invokevirtual 194, 3) := by decide +kernel
theorem dX7_mappingAt_6 : decode cX7_mappingAt 6 = .ok (.astore_n 3, 1) := by decide +kernel
theorem dX7_mappingAt_7 : decode cX7_mappingAt 7 = .ok (.aload_n 3, 1) := by decide +kernel
theorem dX7_mappingAt_8 : decode cX7_mappingAt 8 = .ok (.getfield 207, 3) := by decide +kernel
theorem dX7_mappingAt_11 : decode cX7_mappingAt 11 = .ok (.iconst (-1), 1) := by decide +kernel
theorem dX7_mappingAt_12 : decode cX7_mappingAt 12 = .ok (.if_icmp .ne 7, 3) := by decide +kernel
theorem dX7_mappingAt_15 : decode cX7_mappingAt 15 = .ok (.iconst (-1), 1) := by decide +kernel
theorem dX7_mappingAt_16 : decode cX7_mappingAt 16 = .ok (.goto 16, 3) := by decide +kernel
theorem dX7_mappingAt_19 : decode cX7_mappingAt 19 = .ok (.sipush 1000, 3) := by decide +kernel
theorem dX7_mappingAt_22 : decode cX7_mappingAt 22 = .ok (.aload_n 3, 1) := by decide +kernel
theorem dX7_mappingAt_23 : decode cX7_mappingAt 23 = .ok (.getfield 210, 3) := by decide +kernel
theorem dX7_mappingAt_26 : decode cX7_mappingAt 26 = .ok (.imul, 1) := by decide +kernel
theorem dX7_mappingAt_27 : decode cX7_mappingAt 27 = .ok (.aload_n 3, 1) := by decide +kernel
theorem dX7_mappingAt_28 : decode cX7_mappingAt 28 = .ok (.getfield 207, 3) := by decide +kernel
theorem dX7_mappingAt_31 : decode cX7_mappingAt 31 = .ok (.iadd, 1) := by decide +kernel
theorem dX7_mappingAt_32 : decode cX7_mappingAt 32 = .ok (.ireturn, 1) := by decide +kernel
theorem dX7_lasts_0 : decode cX7_lasts 0 = .ok (.aload_n 0, 1) := by decide +kernel
theorem dX7_lasts_1 : decode cX7_lasts 1 = .ok (.iload_n 1, 1) := by decide +kernel
theorem dX7_lasts_2 : decode cX7_lasts 2 = .ok (.iload_n 2, 1) := by decide +kernel
theorem dX7_lasts_3 : decode cX7_lasts 3 = .ok (.invokevirtual 194, 3) := by decide +kernel
theorem dX7_lasts_6 : decode cX7_lasts 6 = .ok (.astore_n 3, 1) := by decide +kernel
theorem dX7_lasts_7 : decode cX7_lasts 7 = .ok (.aload_n 3, 1) := by decide +kernel
theorem dX7_lasts_8 : decode cX7_lasts 8 = .ok (.getfield 211, 3) := by decide +kernel
theorem dX7_lasts_11 : decode cX7_lasts 11 = .ok (.ifCond .eq 5, 3) := by decide +kernel
theorem dX7_lasts_14 : decode cX7_lasts 14 = .ok (.iconst (-1), 1) := by decide +kernel
theorem dX7_lasts_15 : decode cX7_lasts 15 = .ok (.ireturn, 1) := by decide +kernel
theorem dX7_lasts_16 : decode cX7_lasts 16 = .ok (.aload_n 3, 1) := by decide +kernel
theorem dX7_lasts_17 : decode cX7_lasts 17 = .ok (.aload_n 0, 1) := by decide +kernel
theorem dX7_lasts_18 : decode cX7_lasts 18 = .ok (.getfield 29, 3) := by decide +kernel
theorem dX7_lasts_21 : decode cX7_lasts 21 = .ok (.invokevirtual 214, 3) := by decide +kernel
theorem dX7_lasts_24 : decode cX7_lasts 24 = .ok (.ifCond .eq 7, 3) := by decide +kernel
theorem dX7_lasts_27 : decode cX7_lasts 27 = .ok (.iconst 0, 1) := by decide +kernel
theorem dX7_lasts_28 : decode cX7_lasts 28 = .ok (.goto 12, 3) := by decide +kernel
theorem dX7_lasts_31 : decode cX7_lasts 31 = .ok (.aload_n 3, 1) := by decide +kernel
theorem dX7_lasts_32 : decode cX7_lasts 32 = .ok (.getfield 218, 3) := by decide +kernel
theorem dX7_lasts_35 : decode cX7_lasts 35 = .ok (.aload_n 0, 1) := by decide +kernel
theorem dX7_lasts_36 : decode cX7_lasts 36 = .ok (.getfield 29, 3) := by decide +kernel
theorem dX7_lasts_39 : decode cX7_lasts 39 = .ok (.isub, 1) := by decide +kernel
theorem dX7_lasts_40 : decode cX7_lasts 40 = .ok (.ireturn, 1) := by decide +kernel
theorem dX7_packetsTo_0 : decode cX7_packetsTo 0 = .ok (.aload_n 0, 1) := by decide +kernel
theorem dX7_packetsTo_1 : decode cX7_packetsTo 1 = .ok (.iload_n 1, 1) := by decide +kernel
theorem dX7_packetsTo_2 : decode cX7_packetsTo 2 = .ok (.iload_n 2, 1) := by decide +kernel
theorem dX7_packetsTo_3 : decode cX7_packetsTo 3 = .ok (.invokevirtual 194, 3) := by decide +kernel
theorem dX7_packetsTo_6 : decode cX7_packetsTo 6 = .ok (.astore 4, 2) := by decide +kernel
theorem dX7_packetsTo_8 : decode cX7_packetsTo 8 = .ok (.iload_n 3, 1) := by decide +kernel
theorem dX7_packetsTo_9 : decode cX7_packetsTo 9 = .ok (.invokestatic 95, 3) := by decide +kernel
theorem dX7_packetsTo_12 : decode cX7_packetsTo 12 = .ok (.aload 4, 2) := by decide +kernel
theorem dX7_packetsTo_14 : decode cX7_packetsTo 14 = .ok (.getfield 221, 3) := by decide +kernel
theorem dX7_packetsTo_17 : decode cX7_packetsTo 17 = .ok (.iload_n 3, 1) := by decide +kernel
theorem dX7_packetsTo_18 : decode cX7_packetsTo 18 = .ok (.invokevirtual 110, 3) := by decide +kernel
theorem dX7_packetsTo_21 : decode cX7_packetsTo 21 = .ok (.istore 5, 2) := by decide +kernel
theorem dX7_packetsTo_23 : decode cX7_packetsTo 23 = .ok (.iload 5, 2) := by decide +kernel
theorem dX7_packetsTo_25 : decode cX7_packetsTo 25 = .ok (.iconst (-1), 1) := by decide +kernel
theorem dX7_packetsTo_26 : decode cX7_packetsTo 26 = .ok (.if_icmp .ne 7, 3) := by decide +kernel
theorem dX7_packetsTo_29 : decode cX7_packetsTo 29 = .ok (.iconst 0, 1) := by decide +kernel
theorem dX7_packetsTo_30 : decode cX7_packetsTo 30 = .ok (.goto 11, 3) := by decide +kernel
theorem dX7_packetsTo_33 : decode cX7_packetsTo 33 = .ok (.aload 4, 2) := by decide +kernel
theorem dX7_packetsTo_35 : decode cX7_packetsTo 35 = .ok (.getfield 222, 3) := by decide +kernel
theorem dX7_packetsTo_38 : decode cX7_packetsTo 38 = .ok (.iload 5, 2) := by decide +kernel
theorem dX7_packetsTo_40 : decode cX7_packetsTo 40 = .ok (.iaload, 1) := by decide +kernel
theorem dX7_packetsTo_41 : decode cX7_packetsTo 41 = .ok (.ireturn, 1) := by decide +kernel
theorem dX7_solicitations_0 : decode cX7_solicitations 0 = .ok (.aload_n 0, 1) := by decide +kernel
theorem dX7_solicitations_1 : decode cX7_solicitations 1 = .ok (.getfield 39, 3) := by decide +kernel
theorem dX7_solicitations_4 : decode cX7_solicitations 4 = .ok (.ireturn, 1) := by decide +kernel
theorem dX7_tellChange_0 : decode cX7_tellChange 0 = .ok (.aload_n 1, 1) := by decide +kernel
theorem dX7_tellChange_1 : decode cX7_tellChange 1 = .ok (.dup, 1) := by decide +kernel
theorem dX7_tellChange_2 : decode cX7_tellChange 2 = .ok (.getfield 144, 3) := by decide +kernel
theorem dX7_tellChange_5 : decode cX7_tellChange 5 = .ok (.iconst 1, 1) := by decide +kernel
theorem dX7_tellChange_6 : decode cX7_tellChange 6 = .ok (.iadd, 1) := by decide +kernel
theorem dX7_tellChange_7 : decode cX7_tellChange 7 = .ok (.putfield 144, 3) := by decide +kernel
theorem dX7_tellChange_10 : decode cX7_tellChange 10 = .ok (.aload_n 0, 1) := by decide +kernel
theorem dX7_tellChange_11 : decode cX7_tellChange 11 = .ok (.aload_n 1, 1) := by decide +kernel
theorem dX7_tellChange_12 : decode cX7_tellChange 12 = .ok (.getfield 69, 3) := by decide +kernel
theorem dX7_tellChange_15 : decode cX7_tellChange 15 = .ok (.invokevirtual 75, 3) := by decide +kernel
theorem dX7_tellChange_18 : decode cX7_tellChange 18 = .ok (.aload_n 1, 1) := by decide +kernel
theorem dX7_tellChange_19 : decode cX7_tellChange 19 = .ok (.getfield 144, 3) := by decide +kernel
theorem dX7_tellChange_22 : decode cX7_tellChange 22 = .ok (.ireturn, 1) := by decide +kernel
theorem dX7_solicit_0 : decode cX7_solicit 0 = .ok (.iconst 0, 1) := by decide +kernel
theorem dX7_solicit_1 : decode cX7_solicit 1 = .ok (.istore_n 2, 1) := by decide +kernel
theorem dX7_solicit_2 : decode cX7_solicit 2 = .ok (.iload_n 2, 1) := by decide +kernel
theorem dX7_solicit_3 : decode cX7_solicit 3 = .ok (.iconst 3, 1) := by decide +kernel
theorem dX7_solicit_4 : decode cX7_solicit 4 = .ok (.if_icmp .ge 28, 3) := by decide +kernel
theorem dX7_solicit_7 : decode cX7_solicit 7 = .ok (.aload_n 0, 1) := by decide +kernel
theorem dX7_solicit_8 : decode cX7_solicit 8 = .ok (.dup, 1) := by decide +kernel
theorem dX7_solicit_9 : decode cX7_solicit 9 = .ok (.getfield 39, 3) := by decide +kernel
theorem dX7_solicit_12 : decode cX7_solicit 12 = .ok (.aload_n 0, 1) := by decide +kernel
theorem dX7_solicit_13 : decode cX7_solicit 13 = .ok (.getfield 25, 3) := by decide +kernel
theorem dX7_solicit_16 : decode cX7_solicit 16 = .ok (.iload_n 2, 1) := by decide +kernel
theorem dX7_solicit_17 : decode cX7_solicit 17 = .ok (.aaload, 1) := by decide +kernel
theorem dX7_solicit_18 : decode cX7_solicit 18 = .ok (.aload_n 1, 1) := by decide +kernel
theorem dX7_solicit_19 : decode cX7_solicit 19 = .ok (.invokevirtual 225, 3) := by decide +kernel
theorem dX7_solicit_22 : decode cX7_solicit 22 = .ok (.iadd, 1) := by decide +kernel
theorem dX7_solicit_23 : decode cX7_solicit 23 = .ok (.putfield 39, 3) := by decide +kernel
theorem dX7_solicit_26 : decode cX7_solicit 26 = .ok (.iinc 2 1, 3) := by decide +kernel
theorem dX7_solicit_29 : decode cX7_solicit 29 = .ok (.goto (-27), 3) := by decide +kernel
theorem dX7_solicit_32 : decode cX7_solicit 32 = .ok (.return_, 1) := by decide +kernel
theorem dX7_keepAnswer_0 : decode cX7_keepAnswer 0 = .ok (.aload_n 0, 1) := by decide +kernel
theorem dX7_keepAnswer_1 : decode cX7_keepAnswer 1 = .ok (.getfield 12, 3) := by decide +kernel
theorem dX7_keepAnswer_4 : decode cX7_keepAnswer 4 = .ok (.iload_n 2, 1) := by decide +kernel
theorem dX7_keepAnswer_5 : decode cX7_keepAnswer 5 = .ok (.invokevirtual 138, 3) := by decide +kernel
theorem dX7_keepAnswer_8 : decode cX7_keepAnswer 8 = .ok (.istore_n 3, 1) := by decide +kernel
theorem dX7_keepAnswer_9 : decode cX7_keepAnswer 9 = .ok (.aload_n 0, 1) := by decide +kernel
theorem dX7_keepAnswer_10 : decode cX7_keepAnswer 10 = .ok (.getfield 12, 3) := by decide +kernel
theorem dX7_keepAnswer_13 : decode cX7_keepAnswer 13 = .ok (.iload_n 2, 1) := by decide +kernel
theorem dX7_keepAnswer_14 : decode cX7_keepAnswer 14 = .ok (.iload_n 3, 1) := by decide +kernel
theorem dX7_keepAnswer_15 : decode cX7_keepAnswer 15 = .ok (.invokevirtual 141, 3) := by decide +kernel
theorem dX7_keepAnswer_18 : decode cX7_keepAnswer 18 = .ok (.istore 4, 2) := by decide +kernel
theorem dX7_keepAnswer_20 : decode cX7_keepAnswer 20 = .ok (.iload_n 2, 1) := by decide +kernel
theorem dX7_keepAnswer_21 : decode cX7_keepAnswer 21 = .ok (.iload 4, 2) := by decide +kernel
theorem dX7_keepAnswer_23 : decode cX7_keepAnswer 23 = .ok (.invokestatic 229, 3) := by decide +kernel
theorem dX7_keepAnswer_26 : decode cX7_keepAnswer 26 = .ok (.istore 5, 2) := by decide +kernel
theorem dX7_keepAnswer_28 : decode cX7_keepAnswer 28 = .ok (.aload_n 1, 1) := by decide +kernel
theorem dX7_keepAnswer_29 : decode cX7_keepAnswer 29 = .ok (.iload 5, 2) := by decide +kernel
theorem dX7_keepAnswer_31 : decode cX7_keepAnswer 31 = .ok (.iload 4, 2) := by decide +kernel
theorem dX7_keepAnswer_33 : decode cX7_keepAnswer 33 = .ok (.invokevirtual 232, 3) := by decide +kernel
theorem dX7_keepAnswer_36 : decode cX7_keepAnswer 36 = .ok (.istore 6, 2) := by decide +kernel
theorem dX7_keepAnswer_38 : decode cX7_keepAnswer 38 = .ok (.aload_n 1, 1) := by decide +kernel
theorem dX7_keepAnswer_39 : decode cX7_keepAnswer 39 = .ok (.getfield 235, 3) := by decide +kernel
theorem dX7_keepAnswer_42 : decode cX7_keepAnswer 42 = .ok (.iload 6, 2) := by decide +kernel
theorem dX7_keepAnswer_44 : decode cX7_keepAnswer 44 = .ok (.aaload, 1) := by decide +kernel
theorem dX7_keepAnswer_45 : decode cX7_keepAnswer 45 = .ok (.astore 7, 2) := by decide +kernel
theorem dX7_keepAnswer_47 : decode cX7_keepAnswer 47 = .ok (.aload 7, 2) := by decide +kernel
theorem dX7_keepAnswer_49 : decode cX7_keepAnswer 49 = .ok (.getfield 198, 3) := by decide +kernel
theorem dX7_keepAnswer_52 : decode cX7_keepAnswer 52 = .ok (.iload 5, 2) := by decide +kernel
theorem dX7_keepAnswer_54 : decode cX7_keepAnswer 54 = .ok (.iload 4, 2) := by decide +kernel
theorem dX7_keepAnswer_56 : decode cX7_keepAnswer 56 = .ok (.invokevirtual 239, 3) := by decide +kernel
theorem dX7_keepAnswer_59 : decode cX7_keepAnswer 59 = .ok (.iload_n 3, 1) := by decide +kernel
theorem dX7_keepAnswer_60 : decode cX7_keepAnswer 60 = .ok (.iconst (-1), 1) := by decide +kernel
theorem dX7_keepAnswer_61 : decode cX7_keepAnswer 61 = .ok (.if_icmp .ne 20, 3) := by decide +kernel
theorem dX7_keepAnswer_64 : decode cX7_keepAnswer 64 = .ok (.aload 7, 2) := by decide +kernel
theorem dX7_keepAnswer_66 : decode cX7_keepAnswer 66 = .ok (.aload_n 0, 1) := by decide +kernel
theorem dX7_keepAnswer_67 : decode cX7_keepAnswer 67 = .ok (.getfield 29, 3) := by decide +kernel
theorem dX7_keepAnswer_70 : decode cX7_keepAnswer 70 = .ok (.aload_n 0, 1) := by decide +kernel
theorem dX7_keepAnswer_71 : decode cX7_keepAnswer 71 = .ok (.getfield 36, 3) := by decide +kernel
theorem dX7_keepAnswer_74 : decode cX7_keepAnswer 74 = .ok (.iadd, 1) := by decide +kernel
theorem dX7_keepAnswer_75 : decode cX7_keepAnswer 75 = .ok (.invokevirtual 242, 3) := by decide +kernel
theorem dX7_keepAnswer_78 : decode cX7_keepAnswer 78 = .ok (.goto 27, 3) := by decide +kernel
theorem dX7_keepAnswer_81 : decode cX7_keepAnswer 81 = .ok (.aload 7, 2) := by decide +kernel
theorem dX7_keepAnswer_83 : decode cX7_keepAnswer 83 = .ok (.iload_n 3, 1) := by decide +kernel
theorem dX7_keepAnswer_84 : decode cX7_keepAnswer 84 = .ok (.aload_n 0, 1) := by decide +kernel
theorem dX7_keepAnswer_85 : decode cX7_keepAnswer 85 = .ok (.getfield 12, 3) := by decide +kernel
theorem dX7_keepAnswer_88 : decode cX7_keepAnswer 88 = .ok (.getfield 65, 3) := by decide +kernel
theorem dX7_keepAnswer_91 : decode cX7_keepAnswer 91 = .ok (.iload_n 3, 1) := by decide +kernel
theorem dX7_keepAnswer_92 : decode cX7_keepAnswer 92 = .ok (.aaload, 1) := by decide +kernel
theorem dX7_keepAnswer_93 : decode cX7_keepAnswer 93 = .ok (.aload_n 0, 1) := by decide +kernel
theorem dX7_keepAnswer_94 : decode cX7_keepAnswer 94 = .ok (.getfield 29, 3) := by decide +kernel
theorem dX7_keepAnswer_97 : decode cX7_keepAnswer 97 = .ok (.aload_n 0, 1) := by decide +kernel
theorem dX7_keepAnswer_98 : decode cX7_keepAnswer 98 = .ok (.getfield 33, 3) := by decide +kernel
theorem dX7_keepAnswer_101 : decode cX7_keepAnswer 101 = .ok (.iadd, 1) := by decide +kernel
theorem dX7_keepAnswer_102 : decode cX7_keepAnswer 102 = .ok (.invokevirtual 245, 3) := by decide +kernel
theorem dX7_keepAnswer_105 : decode cX7_keepAnswer 105 = .ok (.iload 6, 2) := by decide +kernel
theorem dX7_keepAnswer_107 : decode cX7_keepAnswer 107 = .ok (.ireturn, 1) := by decide +kernel
theorem dX7_firstBits_0 : decode cX7_firstBits 0 = .ok (.iload_n 0, 1) := by decide +kernel
theorem dX7_firstBits_1 : decode cX7_firstBits 1 = .ok (.iconst 1, 1) := by decide +kernel
theorem dX7_firstBits_2 : decode cX7_firstBits 2 = .ok (.bipush 16, 2) := by decide +kernel
theorem dX7_firstBits_4 : decode cX7_firstBits 4 = .ok (.iload_n 1, 1) := by decide +kernel
theorem dX7_firstBits_5 : decode cX7_firstBits 5 = .ok (.isub, 1) := by decide +kernel
theorem dX7_firstBits_6 : decode cX7_firstBits 6 = .ok (.ishl, 1) := by decide +kernel
theorem dX7_firstBits_7 : decode cX7_firstBits 7 = .ok (.ineg, 1) := by decide +kernel
theorem dX7_firstBits_8 : decode cX7_firstBits 8 = .ok (.iand, 1) := by decide +kernel
theorem dX7_firstBits_9 : decode cX7_firstBits 9 = .ok (.ireturn, 1) := by decide +kernel
theorem dX7_requireIndex_0 : decode cX7_requireIndex 0 = .ok (.iload_n 0, 1) := by decide +kernel
theorem dX7_requireIndex_1 : decode cX7_requireIndex 1 = .ok (.ifCond .lt 8, 3) := by decide +kernel
theorem dX7_requireIndex_4 : decode cX7_requireIndex 4 = .ok (.iload_n 0, 1) := by decide +kernel
theorem dX7_requireIndex_5 : decode cX7_requireIndex 5 = .ok (.iload_n 1, 1) := by decide +kernel
theorem dX7_requireIndex_6 : decode cX7_requireIndex 6 = .ok (.if_icmp .lt 13, 3) := by decide +kernel
theorem dX7_requireIndex_9 : decode cX7_requireIndex 9 = .ok (.new 249, 3) := by decide +kernel
theorem dX7_requireIndex_12 : decode cX7_requireIndex 12 = .ok (.dup, 1) := by decide +kernel
theorem dX7_requireIndex_13 : decode cX7_requireIndex 13 = .ok (.ldc 251, 2) := by decide +kernel
theorem dX7_requireIndex_15 : decode cX7_requireIndex 15 = .ok (.invokespecial 253, 3) := by decide +kernel
theorem dX7_requireIndex_18 : decode cX7_requireIndex 18 = .ok (.athrow, 1) := by decide +kernel
theorem dX7_requireIndex_19 : decode cX7_requireIndex 19 = .ok (.return_, 1) := by decide +kernel
theorem dX7_requireWithin_0 : decode cX7_requireWithin 0 = .ok (.iload_n 0, 1) := by decide +kernel
theorem dX7_requireWithin_1 : decode cX7_requireWithin 1 = .ok (.iload_n 1, 1) := by decide +kernel
theorem dX7_requireWithin_2 : decode cX7_requireWithin 2 = .ok (.if_icmp .lt 8, 3) := by decide +kernel
theorem dX7_requireWithin_5 : decode cX7_requireWithin 5 = .ok (.iload_n 0, 1) := by decide +kernel
theorem dX7_requireWithin_6 : decode cX7_requireWithin 6 = .ok (.iload_n 2, 1) := by decide +kernel
theorem dX7_requireWithin_7 : decode cX7_requireWithin 7 = .ok (.if_icmp .le 14, 3) := by decide +kernel
theorem dX7_requireWithin_10 : decode cX7_requireWithin 10 = .ok (.new 254, 3) := by decide +kernel
theorem dX7_requireWithin_13 : decode cX7_requireWithin 13 = .ok (.dup, 1) := by decide +kernel
theorem dX7_requireWithin_14 : decode cX7_requireWithin 14 = .ok (.ldc_w 256, 3) := by decide +kernel
theorem dX7_requireWithin_17 : decode cX7_requireWithin 17 = .ok (.invokespecial 258, 3) := by decide +kernel
theorem dX7_requireWithin_20 : decode cX7_requireWithin 20 = .ok (.athrow, 1) := by decide +kernel
theorem dX7_requireWithin_21 : decode cX7_requireWithin 21 = .ok (.return_, 1) := by decide +kernel
theorem dX7_requireIdentifier_0 : decode cX7_requireIdentifier 0 = .ok (.iload_n 0, 1) := by decide +kernel
theorem dX7_requireIdentifier_1 : decode cX7_requireIdentifier 1 = .ok (.iconst 0, 1) := by decide +kernel
theorem dX7_requireIdentifier_2 : decode cX7_requireIdentifier 2 = .ok (.ldc_w 259, 3) := by decide +kernel
theorem dX7_requireIdentifier_5 : decode cX7_requireIdentifier 5 = .ok (.invokestatic 99, 3) := by decide +kernel
theorem dX7_requireIdentifier_8 : decode cX7_requireIdentifier 8 = .ok (.return_, 1) := by decide +kernel
theorem dX7_requireAddress_0 : decode cX7_requireAddress 0 = .ok (.iload_n 0, 1) := by decide +kernel
theorem dX7_requireAddress_1 : decode cX7_requireAddress 1 = .ok (.iconst 0, 1) := by decide +kernel
theorem dX7_requireAddress_2 : decode cX7_requireAddress 2 = .ok (.bipush 31, 2) := by decide +kernel
theorem dX7_requireAddress_4 : decode cX7_requireAddress 4 = .ok (.invokestatic 99, 3) := by decide +kernel
theorem dX7_requireAddress_7 : decode cX7_requireAddress 7 = .ok (.return_, 1) := by decide +kernel
theorem dX7_requirePrefix_0 : decode cX7_requirePrefix 0 = .ok (.iload_n 0, 1) := by decide +kernel
theorem dX7_requirePrefix_1 : decode cX7_requirePrefix 1 = .ok (.invokestatic 135, 3) := by decide +kernel
theorem dX7_requirePrefix_4 : decode cX7_requirePrefix 4 = .ok (.iload_n 1, 1) := by decide +kernel
theorem dX7_requirePrefix_5 : decode cX7_requirePrefix 5 = .ok (.iconst 0, 1) := by decide +kernel
theorem dX7_requirePrefix_6 : decode cX7_requirePrefix 6 = .ok (.bipush 16, 2) := by decide +kernel
theorem dX7_requirePrefix_8 : decode cX7_requirePrefix 8 = .ok (.invokestatic 99, 3) := by decide +kernel
theorem dX7_requirePrefix_11 : decode cX7_requirePrefix 11 = .ok (.iload_n 0, 1) := by decide +kernel
theorem dX7_requirePrefix_12 : decode cX7_requirePrefix 12 = .ok (.iload_n 1, 1) := by decide +kernel
theorem dX7_requirePrefix_13 : decode cX7_requirePrefix 13 = .ok (.invokestatic 229, 3) := by decide +kernel
theorem dX7_requirePrefix_16 : decode cX7_requirePrefix 16 = .ok (.iload_n 0, 1) := by decide +kernel
theorem dX7_requirePrefix_17 : decode cX7_requirePrefix 17 = .ok (.if_icmp .eq 14, 3) := by decide +kernel
theorem dX7_requirePrefix_20 : decode cX7_requirePrefix 20 = .ok (.new 254, 3) := by decide +kernel
theorem dX7_requirePrefix_23 : decode cX7_requirePrefix 23 = .ok (.dup, 1) := by decide +kernel
theorem dX7_requirePrefix_24 : decode cX7_requirePrefix 24 = .ok (.ldc_w 260, 3) := by decide +kernel
theorem dX7_requirePrefix_27 : decode cX7_requirePrefix 27 = .ok (.invokespecial 258, 3) := by decide +kernel
theorem dX7_requirePrefix_30 : decode cX7_requirePrefix 30 = .ok (.athrow, 1) := by decide +kernel
theorem dX7_requirePrefix_31 : decode cX7_requirePrefix 31 = .ok (.return_, 1) := by decide +kernel
theorem dX7_requireMapping_0 : decode cX7_requireMapping 0 = .ok (.iload_n 1, 1) := by decide +kernel
theorem dX7_requireMapping_1 : decode cX7_requireMapping 1 = .ok (.aload_n 0, 1) := by decide +kernel
theorem dX7_requireMapping_2 : decode cX7_requireMapping 2 = .ok (.getfield 12, 3) := by decide +kernel
theorem dX7_requireMapping_5 : decode cX7_requireMapping 5 = .ok (.getfield 47, 3) := by decide +kernel
theorem dX7_requireMapping_8 : decode cX7_requireMapping 8 = .ok (.invokestatic 147, 3) := by decide +kernel
theorem dX7_requireMapping_11 : decode cX7_requireMapping 11 = .ok (.aload_n 0, 1) := by decide +kernel
theorem dX7_requireMapping_12 : decode cX7_requireMapping 12 = .ok (.getfield 12, 3) := by decide +kernel
theorem dX7_requireMapping_15 : decode cX7_requireMapping 15 = .ok (.getfield 65, 3) := by decide +kernel
theorem dX7_requireMapping_18 : decode cX7_requireMapping 18 = .ok (.iload_n 1, 1) := by decide +kernel
theorem dX7_requireMapping_19 : decode cX7_requireMapping 19 = .ok (.aaload, 1) := by decide +kernel
theorem dX7_requireMapping_20 : decode cX7_requireMapping 20 = .ok (.areturn, 1) := by decide +kernel
theorem dX7_requireRegistered_0 : decode cX7_requireRegistered 0 = .ok (.aload_n 0, 1) := by decide +kernel
theorem dX7_requireRegistered_1 : decode cX7_requireRegistered 1 = .ok (.getfield 87, 3) := by decide +kernel
theorem dX7_requireRegistered_4 : decode cX7_requireRegistered 4 = .ok (.ifCond .eq 14, 3) := by decide +kernel
theorem dX7_requireRegistered_7 : decode cX7_requireRegistered 7 = .ok (.new 54, 3) := by decide +kernel
theorem dX7_requireRegistered_10 : decode cX7_requireRegistered 10 = .ok (.dup, 1) := by decide +kernel
theorem dX7_requireRegistered_11 : decode cX7_requireRegistered 11 = .ok (.ldc_w 262, 3) := by decide +kernel
theorem dX7_requireRegistered_14 : decode cX7_requireRegistered 14 = .ok (.invokespecial 58, 3) := by decide +kernel
theorem dX7_requireRegistered_17 : decode cX7_requireRegistered 17 = .ok (.athrow, 1) := by decide +kernel
theorem dX7_requireRegistered_18 : decode cX7_requireRegistered 18 = .ok (.return_, 1) := by decide +kernel
theorem dX7_requireLocator_0 : decode cX7_requireLocator 0 = .ok (.aload_n 0, 1) := by decide +kernel
theorem dX7_requireLocator_1 : decode cX7_requireLocator 1 = .ok (.invokestatic 83, 3) := by decide +kernel
theorem dX7_requireLocator_4 : decode cX7_requireLocator 4 = .ok (.aload_n 0, 1) := by decide +kernel
theorem dX7_requireLocator_5 : decode cX7_requireLocator 5 = .ok (.getfield 103, 3) := by decide +kernel
theorem dX7_requireLocator_8 : decode cX7_requireLocator 8 = .ok (.iload_n 1, 1) := by decide +kernel
theorem dX7_requireLocator_9 : decode cX7_requireLocator 9 = .ok (.invokevirtual 110, 3) := by decide +kernel
theorem dX7_requireLocator_12 : decode cX7_requireLocator 12 = .ok (.istore_n 2, 1) := by decide +kernel
theorem dX7_requireLocator_13 : decode cX7_requireLocator 13 = .ok (.iload_n 2, 1) := by decide +kernel
theorem dX7_requireLocator_14 : decode cX7_requireLocator 14 = .ok (.iconst (-1), 1) := by decide +kernel
theorem dX7_requireLocator_15 : decode cX7_requireLocator 15 = .ok (.if_icmp .ne 14, 3) := by decide +kernel
theorem dX7_requireLocator_18 : decode cX7_requireLocator 18 = .ok (.new 54, 3) := by decide +kernel
theorem dX7_requireLocator_21 : decode cX7_requireLocator 21 = .ok (.dup, 1) := by decide +kernel
theorem dX7_requireLocator_22 : decode cX7_requireLocator 22 = .ok (.ldc_w 264, 3) := by decide +kernel
theorem dX7_requireLocator_25 : decode cX7_requireLocator 25 = .ok (.invokespecial 58, 3) := by decide +kernel
theorem dX7_requireLocator_28 : decode cX7_requireLocator 28 = .ok (.athrow, 1) := by decide +kernel
theorem dX7_requireLocator_29 : decode cX7_requireLocator 29 = .ok (.iload_n 2, 1) := by decide +kernel
theorem dX7_requireLocator_30 : decode cX7_requireLocator 30 = .ok (.ireturn, 1) := by decide +kernel
theorem dX7_requireRouter_0 : decode cX7_requireRouter 0 = .ok (.iload_n 1, 1) := by decide +kernel
theorem dX7_requireRouter_1 : decode cX7_requireRouter 1 = .ok (.iconst 3, 1) := by decide +kernel
theorem dX7_requireRouter_2 : decode cX7_requireRouter 2 = .ok (.invokestatic 147, 3) := by decide +kernel
theorem dX7_requireRouter_5 : decode cX7_requireRouter 5 = .ok (.aload_n 0, 1) := by decide +kernel
theorem dX7_requireRouter_6 : decode cX7_requireRouter 6 = .ok (.getfield 25, 3) := by decide +kernel
theorem dX7_requireRouter_9 : decode cX7_requireRouter 9 = .ok (.iload_n 1, 1) := by decide +kernel
theorem dX7_requireRouter_10 : decode cX7_requireRouter 10 = .ok (.aaload, 1) := by decide +kernel
theorem dX7_requireRouter_11 : decode cX7_requireRouter 11 = .ok (.areturn, 1) := by decide +kernel
theorem dX7_requireEntry_0 : decode cX7_requireEntry 0 = .ok (.aload_n 0, 1) := by decide +kernel
theorem dX7_requireEntry_1 : decode cX7_requireEntry 1 = .ok (.iload_n 1, 1) := by decide +kernel
theorem dX7_requireEntry_2 : decode cX7_requireEntry 2 = .ok (.invokevirtual 167, 3) := by decide +kernel
theorem dX7_requireEntry_5 : decode cX7_requireEntry 5 = .ok (.astore_n 3, 1) := by decide +kernel
theorem dX7_requireEntry_6 : decode cX7_requireEntry 6 = .ok (.iload_n 2, 1) := by decide +kernel
theorem dX7_requireEntry_7 : decode cX7_requireEntry 7 = .ok (.aload_n 3, 1) := by decide +kernel
theorem dX7_requireEntry_8 : decode cX7_requireEntry 8 = .ok (.getfield 193, 3) := by decide +kernel
theorem dX7_requireEntry_11 : decode cX7_requireEntry 11 = .ok (.invokestatic 147, 3) := by decide +kernel
theorem dX7_requireEntry_14 : decode cX7_requireEntry 14 = .ok (.aload_n 3, 1) := by decide +kernel
theorem dX7_requireEntry_15 : decode cX7_requireEntry 15 = .ok (.getfield 235, 3) := by decide +kernel
theorem dX7_requireEntry_18 : decode cX7_requireEntry 18 = .ok (.iload_n 2, 1) := by decide +kernel
theorem dX7_requireEntry_19 : decode cX7_requireEntry 19 = .ok (.aaload, 1) := by decide +kernel
theorem dX7_requireEntry_20 : decode cX7_requireEntry 20 = .ok (.areturn, 1) := by decide +kernel
theorem dL_cell_0 : decode cL_cell 0 = .ok (.iload_n 1, 1) := by decide +kernel
theorem dL_cell_1 : decode cL_cell 1 = .ok (.aload_n 0, 1) := by decide +kernel
theorem dL_cell_2 : decode cL_cell 2 = .ok (.arraylength, 1) := by decide +kernel
theorem dL_cell_3 : decode cL_cell 3 = .ok (.if_icmp .ge 9, 3) := by decide +kernel
theorem dL_cell_6 : decode cL_cell 6 = .ok (.aload_n 0, 1) := by decide +kernel
theorem dL_cell_7 : decode cL_cell 7 = .ok (.iload_n 1, 1) := by decide +kernel
theorem dL_cell_8 : decode cL_cell 8 = .ok (.iaload, 1) := by decide +kernel
theorem dL_cell_9 : decode cL_cell 9 = .ok (.goto 9, 3) := by decide +kernel
theorem dL_cell_12 : decode cL_cell 12 = .ok (.ldc 7, 2) := by decide +kernel
theorem dL_cell_14 : decode cL_cell 14 = .ok (.iload_n 1, 1) := by decide +kernel
theorem dL_cell_15 : decode cL_cell 15 = .ok (.iconst 5, 1) := by decide +kernel
theorem dL_cell_16 : decode cL_cell 16 = .ok (.iadd, 1) := by decide +kernel
theorem dL_cell_17 : decode cL_cell 17 = .ok (.imul, 1) := by decide +kernel
theorem dL_cell_18 : decode cL_cell 18 = .ok (.ireturn, 1) := by decide +kernel
theorem dL_low_0 : decode cL_low 0 = .ok (.iload_n 0, 1) := by decide +kernel
theorem dL_low_1 : decode cL_low 1 = .ok (.iconst 1, 1) := by decide +kernel
theorem dL_low_2 : decode cL_low 2 = .ok (.iushr, 1) := by decide +kernel
theorem dL_low_3 : decode cL_low 3 = .ok (.iload_n 1, 1) := by decide +kernel
theorem dL_low_4 : decode cL_low 4 = .ok (.irem, 1) := by decide +kernel
theorem dL_low_5 : decode cL_low 5 = .ok (.ireturn, 1) := by decide +kernel
theorem dL_register_0 : decode cL_register 0 = .ok (.aload_n 0, 1) := by decide +kernel
theorem dL_register_1 : decode cL_register 1 = .ok (.iload_n 1, 1) := by decide +kernel
theorem dL_register_2 : decode cL_register 2 = .ok (.iload_n 2, 1) := by decide +kernel
theorem dL_register_3 : decode cL_register 3 = .ok (.invokevirtual 8, 3) := by decide +kernel
theorem dL_register_6 : decode cL_register 6 = .ok (.istore_n 3, 1) := by decide +kernel
theorem dL_register_7 : decode cL_register 7 = .ok (.goto 13, 3) := by decide +kernel
theorem dL_register_10 : decode cL_register 10 = .ok (.astore 4, 2) := by decide +kernel
theorem dL_register_12 : decode cL_register 12 = .ok (.bipush (-72), 2) := by decide +kernel
theorem dL_register_14 : decode cL_register 14 = .ok (.ireturn, 1) := by decide +kernel
theorem dL_register_15 : decode cL_register 15 = .ok (.astore 4, 2) := by decide +kernel
theorem dL_register_17 : decode cL_register 17 = .ok (.bipush (-73), 2) := by decide +kernel
theorem dL_register_19 : decode cL_register 19 = .ok (.ireturn, 1) := by decide +kernel
theorem dL_register_20 : decode cL_register 20 = .ok (.iload_n 3, 1) := by decide +kernel
theorem dL_register_21 : decode cL_register 21 = .ok (.ireturn, 1) := by decide +kernel
theorem dL_withdraw_0 : decode cL_withdraw 0 = .ok (.aload_n 0, 1) := by decide +kernel
theorem dL_withdraw_1 : decode cL_withdraw 1 = .ok (.iload_n 1, 1) := by decide +kernel
theorem dL_withdraw_2 : decode cL_withdraw 2 = .ok (.invokevirtual 18, 3) := by decide +kernel
theorem dL_withdraw_5 : decode cL_withdraw 5 = .ok (.istore_n 2, 1) := by decide +kernel
theorem dL_withdraw_6 : decode cL_withdraw 6 = .ok (.goto 11, 3) := by decide +kernel
theorem dL_withdraw_9 : decode cL_withdraw 9 = .ok (.astore_n 3, 1) := by decide +kernel
theorem dL_withdraw_10 : decode cL_withdraw 10 = .ok (.bipush (-71), 2) := by decide +kernel
theorem dL_withdraw_12 : decode cL_withdraw 12 = .ok (.ireturn, 1) := by decide +kernel
theorem dL_withdraw_13 : decode cL_withdraw 13 = .ok (.astore_n 3, 1) := by decide +kernel
theorem dL_withdraw_14 : decode cL_withdraw 14 = .ok (.bipush (-73), 2) := by decide +kernel
theorem dL_withdraw_16 : decode cL_withdraw 16 = .ok (.ireturn, 1) := by decide +kernel
theorem dL_withdraw_17 : decode cL_withdraw 17 = .ok (.iload_n 2, 1) := by decide +kernel
theorem dL_withdraw_18 : decode cL_withdraw 18 = .ok (.ireturn, 1) := by decide +kernel
theorem dL_addLocator_0 : decode cL_addLocator 0 = .ok (.aload_n 0, 1) := by decide +kernel
theorem dL_addLocator_1 : decode cL_addLocator 1 = .ok (.iload_n 1, 1) := by decide +kernel
theorem dL_addLocator_2 : decode cL_addLocator 2 = .ok (.iload_n 2, 1) := by decide +kernel
theorem dL_addLocator_3 : decode cL_addLocator 3 = .ok (.iload_n 3, 1) := by decide +kernel
theorem dL_addLocator_4 : decode cL_addLocator 4 = .ok (.iload 4, 2) := by decide +kernel
theorem dL_addLocator_6 : decode cL_addLocator 6 = .ok (.invokevirtual 24, 3) := by decide +kernel
theorem dL_addLocator_9 : decode cL_addLocator 9 = .ok (.istore 5, 2) := by decide +kernel
theorem dL_addLocator_11 : decode cL_addLocator 11 = .ok (.goto 18, 3) := by decide +kernel
theorem dL_addLocator_14 : decode cL_addLocator 14 = .ok (.astore 6, 2) := by decide +kernel
theorem dL_addLocator_16 : decode cL_addLocator 16 = .ok (.bipush (-71), 2) := by decide +kernel
theorem dL_addLocator_18 : decode cL_addLocator 18 = .ok (.ireturn, 1) := by decide +kernel
theorem dL_addLocator_19 : decode cL_addLocator 19 = .ok (.astore 6, 2) := by decide +kernel
theorem dL_addLocator_21 : decode cL_addLocator 21 = .ok (.bipush (-72), 2) := by decide +kernel
theorem dL_addLocator_23 : decode cL_addLocator 23 = .ok (.ireturn, 1) := by decide +kernel
theorem dL_addLocator_24 : decode cL_addLocator 24 = .ok (.astore 6, 2) := by decide +kernel
theorem dL_addLocator_26 : decode cL_addLocator 26 = .ok (.bipush (-73), 2) := by decide +kernel
theorem dL_addLocator_28 : decode cL_addLocator 28 = .ok (.ireturn, 1) := by decide +kernel
theorem dL_addLocator_29 : decode cL_addLocator 29 = .ok (.iload 5, 2) := by decide +kernel
theorem dL_addLocator_31 : decode cL_addLocator 31 = .ok (.ireturn, 1) := by decide +kernel
theorem dL_move_0 : decode cL_move 0 = .ok (.aload_n 0, 1) := by decide +kernel
theorem dL_move_1 : decode cL_move 1 = .ok (.iload_n 1, 1) := by decide +kernel
theorem dL_move_2 : decode cL_move 2 = .ok (.iload_n 2, 1) := by decide +kernel
theorem dL_move_3 : decode cL_move 3 = .ok (.iload_n 3, 1) := by decide +kernel
theorem dL_move_4 : decode cL_move 4 = .ok (.invokevirtual 28, 3) := by decide +kernel
theorem dL_move_7 : decode cL_move 7 = .ok (.istore 4, 2) := by decide +kernel
theorem dL_move_9 : decode cL_move 9 = .ok (.goto 18, 3) := by decide +kernel
theorem dL_move_12 : decode cL_move 12 = .ok (.astore 5, 2) := by decide +kernel
theorem dL_move_14 : decode cL_move 14 = .ok (.bipush (-71), 2) := by decide +kernel
theorem dL_move_16 : decode cL_move 16 = .ok (.ireturn, 1) := by decide +kernel
theorem dL_move_17 : decode cL_move 17 = .ok (.astore 5, 2) := by decide +kernel
theorem dL_move_19 : decode cL_move 19 = .ok (.bipush (-72), 2) := by decide +kernel
theorem dL_move_21 : decode cL_move 21 = .ok (.ireturn, 1) := by decide +kernel
theorem dL_move_22 : decode cL_move 22 = .ok (.astore 5, 2) := by decide +kernel
theorem dL_move_24 : decode cL_move 24 = .ok (.bipush (-73), 2) := by decide +kernel
theorem dL_move_26 : decode cL_move 26 = .ok (.ireturn, 1) := by decide +kernel
theorem dL_move_27 : decode cL_move 27 = .ok (.iload 4, 2) := by decide +kernel
theorem dL_move_29 : decode cL_move 29 = .ok (.ireturn, 1) := by decide +kernel
theorem dL_removeLocator_0 : decode cL_removeLocator 0 = .ok (.aload_n 0, 1) := by decide +kernel
theorem dL_removeLocator_1 : decode cL_removeLocator 1 = .ok (.iload_n 1, 1) := by decide +kernel
theorem dL_removeLocator_2 : decode cL_removeLocator 2 = .ok (.iload_n 2, 1) := by decide +kernel
theorem dL_removeLocator_3 : decode cL_removeLocator 3 = .ok (.invokevirtual 32, 3) := by decide +kernel
theorem dL_removeLocator_6 : decode cL_removeLocator 6 = .ok (.istore_n 3, 1) := by decide +kernel
theorem dL_removeLocator_7 : decode cL_removeLocator 7 = .ok (.goto 18, 3) := by decide +kernel
theorem dL_removeLocator_10 : decode cL_removeLocator 10 = .ok (.astore 4, 2) := by decide +kernel
theorem dL_removeLocator_12 : decode cL_removeLocator 12 = .ok (.bipush (-71), 2) := by decide +kernel
theorem dL_removeLocator_14 : decode cL_removeLocator 14 = .ok (.ireturn, 1) := by decide +kernel
theorem dL_removeLocator_15 : decode cL_removeLocator 15 = .ok (.astore 4, 2) := by decide +kernel
theorem dL_removeLocator_17 : decode cL_removeLocator 17 = .ok (.bipush (-72), 2) := by decide +kernel
theorem dL_removeLocator_19 : decode cL_removeLocator 19 = .ok (.ireturn, 1) := by decide +kernel
theorem dL_removeLocator_20 : decode cL_removeLocator 20 = .ok (.astore 4, 2) := by decide +kernel
theorem dL_removeLocator_22 : decode cL_removeLocator 22 = .ok (.bipush (-73), 2) := by decide +kernel
theorem dL_removeLocator_24 : decode cL_removeLocator 24 = .ok (.ireturn, 1) := by decide +kernel
theorem dL_removeLocator_25 : decode cL_removeLocator 25 = .ok (.iload_n 3, 1) := by decide +kernel
theorem dL_removeLocator_26 : decode cL_removeLocator 26 = .ok (.ireturn, 1) := by decide +kernel
theorem dL_mappingOf_0 : decode cL_mappingOf 0 = .ok (.aload_n 0, 1) := by decide +kernel
theorem dL_mappingOf_1 : decode cL_mappingOf 1 = .ok (.iload_n 1, 1) := by decide +kernel
theorem dL_mappingOf_2 : decode cL_mappingOf 2 = .ok (.invokevirtual 35, 3) := by decide +kernel
theorem dL_mappingOf_5 : decode cL_mappingOf 5 = .ok (.istore_n 2, 1) := by decide +kernel
theorem dL_mappingOf_6 : decode cL_mappingOf 6 = .ok (.goto 7, 3) := by decide +kernel
theorem dL_mappingOf_9 : decode cL_mappingOf 9 = .ok (.astore_n 3, 1) := by decide +kernel
theorem dL_mappingOf_10 : decode cL_mappingOf 10 = .ok (.bipush (-72), 2) := by decide +kernel
theorem dL_mappingOf_12 : decode cL_mappingOf 12 = .ok (.ireturn, 1) := by decide +kernel
theorem dL_mappingOf_13 : decode cL_mappingOf 13 = .ok (.iload_n 2, 1) := by decide +kernel
theorem dL_mappingOf_14 : decode cL_mappingOf 14 = .ok (.ireturn, 1) := by decide +kernel
theorem dL_answerLength_0 : decode cL_answerLength 0 = .ok (.aload_n 0, 1) := by decide +kernel
theorem dL_answerLength_1 : decode cL_answerLength 1 = .ok (.iload_n 1, 1) := by decide +kernel
theorem dL_answerLength_2 : decode cL_answerLength 2 = .ok (.invokevirtual 38, 3) := by decide +kernel
theorem dL_answerLength_5 : decode cL_answerLength 5 = .ok (.istore_n 2, 1) := by decide +kernel
theorem dL_answerLength_6 : decode cL_answerLength 6 = .ok (.goto 7, 3) := by decide +kernel
theorem dL_answerLength_9 : decode cL_answerLength 9 = .ok (.astore_n 3, 1) := by decide +kernel
theorem dL_answerLength_10 : decode cL_answerLength 10 = .ok (.bipush (-72), 2) := by decide +kernel
theorem dL_answerLength_12 : decode cL_answerLength 12 = .ok (.ireturn, 1) := by decide +kernel
theorem dL_answerLength_13 : decode cL_answerLength 13 = .ok (.iload_n 2, 1) := by decide +kernel
theorem dL_answerLength_14 : decode cL_answerLength 14 = .ok (.ireturn, 1) := by decide +kernel
theorem dL_version_0 : decode cL_version 0 = .ok (.aload_n 0, 1) := by decide +kernel
theorem dL_version_1 : decode cL_version 1 = .ok (.iload_n 1, 1) := by decide +kernel
theorem dL_version_2 : decode cL_version 2 = .ok (.invokevirtual 41, 3) := by decide +kernel
theorem dL_version_5 : decode cL_version 5 = .ok (.istore_n 2, 1) := by decide +kernel
theorem dL_version_6 : decode cL_version 6 = .ok (.goto 7, 3) := by decide +kernel
theorem dL_version_9 : decode cL_version 9 = .ok (.astore_n 3, 1) := by decide +kernel
theorem dL_version_10 : decode cL_version 10 = .ok (.bipush (-71), 2) := by decide +kernel
theorem dL_version_12 : decode cL_version 12 = .ok (.ireturn, 1) := by decide +kernel
theorem dL_version_13 : decode cL_version 13 = .ok (.iload_n 2, 1) := by decide +kernel
theorem dL_version_14 : decode cL_version 14 = .ok (.ireturn, 1) := by decide +kernel
theorem dL_delegate_0 : decode cL_delegate 0 = .ok (.aload_n 0, 1) := by decide +kernel
theorem dL_delegate_1 : decode cL_delegate 1 = .ok (.iload_n 1, 1) := by decide +kernel
theorem dL_delegate_2 : decode cL_delegate 2 = .ok (.iload_n 2, 1) := by decide +kernel
theorem dL_delegate_3 : decode cL_delegate 3 = .ok (.iload_n 3, 1) := by decide +kernel
theorem dL_delegate_4 : decode cL_delegate 4 = .ok (.invokevirtual 44, 3) := by decide +kernel
theorem dL_delegate_7 : decode cL_delegate 7 = .ok (.istore 4, 2) := by decide +kernel
theorem dL_delegate_9 : decode cL_delegate 9 = .ok (.goto 18, 3) := by decide +kernel
theorem dL_delegate_12 : decode cL_delegate 12 = .ok (.astore 5, 2) := by decide +kernel
theorem dL_delegate_14 : decode cL_delegate 14 = .ok (.bipush (-71), 2) := by decide +kernel
theorem dL_delegate_16 : decode cL_delegate 16 = .ok (.ireturn, 1) := by decide +kernel
theorem dL_delegate_17 : decode cL_delegate 17 = .ok (.astore 5, 2) := by decide +kernel
theorem dL_delegate_19 : decode cL_delegate 19 = .ok (.bipush (-72), 2) := by decide +kernel
theorem dL_delegate_21 : decode cL_delegate 21 = .ok (.ireturn, 1) := by decide +kernel
theorem dL_delegate_22 : decode cL_delegate 22 = .ok (.astore 5, 2) := by decide +kernel
theorem dL_delegate_24 : decode cL_delegate 24 = .ok (.bipush (-73), 2) := by decide +kernel
theorem dL_delegate_26 : decode cL_delegate 26 = .ok (.ireturn, 1) := by decide +kernel
theorem dL_delegate_27 : decode cL_delegate 27 = .ok (.iload 4, 2) := by decide +kernel
theorem dL_delegate_29 : decode cL_delegate 29 = .ok (.ireturn, 1) := by decide +kernel
theorem dL_setUp_0 : decode cL_setUp 0 = .ok (.aload_n 0, 1) := by decide +kernel
