theorem dX0_init_0 : decode cX0_init 0 = .ok (.aload_n 0, 1) := by decide +kernel
theorem dX0_init_1 : decode cX0_init 1 = .ok (.invokespecial 3, 3) := by decide +kernel
theorem dX0_init_4 : decode cX0_init 4 = .ok (.aload_n 0, 1) := by decide +kernel
theorem dX0_init_5 : decode cX0_init 5 = .ok (.new 9, 3) := by decide +kernel
theorem dX0_init_8 : decode cX0_init 8 = .ok (.dup, 1) := by decide +kernel
theorem dX0_init_9 : decode cX0_init 9 = .ok (.invokespecial 11, 3) := by decide +kernel
theorem dX0_init_12 : decode cX0_init 12 = .ok (.putfield 12, 3) := by decide +kernel
theorem dX0_init_15 : decode cX0_init 15 = .ok (.aload_n 0, 1) := by decide +kernel
theorem dX0_init_16 : decode cX0_init 16 = .ok (.new 18, 3) := by decide +kernel
theorem dX0_init_19 : decode cX0_init 19 = .ok (.dup, 1) := by decide +kernel
theorem dX0_init_20 : decode cX0_init 20 = .ok (.invokespecial 20, 3) := by decide +kernel
theorem dX0_init_23 : decode cX0_init 23 = .ok (.putfield 21, 3) := by decide +kernel
theorem dX0_init_26 : decode cX0_init 26 = .ok (.aload_n 0, 1) := by decide +kernel
theorem dX0_init_27 : decode cX0_init 27 = .ok (.iconst 4, 1) := by decide +kernel
theorem dX0_init_28 : decode cX0_init 28 = .ok (.newarray .int, 2) := by decide +kernel
theorem dX0_init_30 : decode cX0_init 30 = .ok (.putfield 25, 3) := by decide +kernel
theorem dX0_init_33 : decode cX0_init 33 = .ok (.aload_n 0, 1) := by decide +kernel
theorem dX0_init_34 : decode cX0_init 34 = .ok (.iconst (-1), 1) := by decide +kernel
theorem dX0_init_35 : decode cX0_init 35 = .ok (.putfield 29, 3) := by decide +kernel
theorem dX0_init_38 : decode cX0_init 38 = .ok (.aload_n 0, 1) := by decide +kernel
theorem dX0_init_39 : decode cX0_init 39 = .ok (.iconst 0, 1) := by decide +kernel
theorem dX0_init_40 : decode cX0_init 40 = .ok (.putfield 33, 3) := by decide +kernel
theorem dX0_init_43 : decode cX0_init 43 = .ok (.aload_n 0, 1) := by decide +kernel
theorem dX0_init_44 : decode cX0_init 44 = .ok (.iconst 0, 1) := by decide +kernel
theorem dX0_init_45 : decode cX0_init 45 = .ok (.putfield 36, 3) := by decide +kernel
theorem dX0_init_48 : decode cX0_init 48 = .ok (.aload_n 0, 1) := by decide +kernel
theorem dX0_init_49 : decode cX0_init 49 = .ok (.iconst 0, 1) := by decide +kernel
theorem dX0_init_50 : decode cX0_init 50 = .ok (.putfield 39, 3) := by decide +kernel
theorem dX0_init_53 : decode cX0_init 53 = .ok (.return_, 1) := by decide +kernel
theorem dX0_keepNegative_0 : decode cX0_keepNegative 0 = .ok (.aload_n 0, 1) := by decide +kernel
theorem dX0_keepNegative_1 : decode cX0_keepNegative 1 = .ok (.iconst (-1), 1) := by decide +kernel
theorem dX0_keepNegative_2 : decode cX0_keepNegative 2 = .ok (.putfield 29, 3) := by decide +kernel
theorem dX0_keepNegative_5 : decode cX0_keepNegative 5 = .ok (.aload_n 0, 1) := by decide +kernel
theorem dX0_keepNegative_6 : decode cX0_keepNegative 6 = .ok (.getfield 21, 3) := by decide +kernel
theorem dX0_keepNegative_9 : decode cX0_keepNegative 9 = .ok (.invokevirtual 43, 3) := by decide +kernel
theorem dX0_keepNegative_12 : decode cX0_keepNegative 12 = .ok (.aload_n 0, 1) := by decide +kernel
theorem dX0_keepNegative_13 : decode cX0_keepNegative 13 = .ok (.iload_n 1, 1) := by decide +kernel
theorem dX0_keepNegative_14 : decode cX0_keepNegative 14 = .ok (.putfield 36, 3) := by decide +kernel
theorem dX0_keepNegative_17 : decode cX0_keepNegative 17 = .ok (.aload_n 0, 1) := by decide +kernel
theorem dX0_keepNegative_18 : decode cX0_keepNegative 18 = .ok (.iconst 0, 1) := by decide +kernel
theorem dX0_keepNegative_19 : decode cX0_keepNegative 19 = .ok (.putfield 39, 3) := by decide +kernel
theorem dX0_keepNegative_22 : decode cX0_keepNegative 22 = .ok (.return_, 1) := by decide +kernel
theorem dX0_keepPositive_0 : decode cX0_keepPositive 0 = .ok (.aload_n 0, 1) := by decide +kernel
theorem dX0_keepPositive_1 : decode cX0_keepPositive 1 = .ok (.iload_n 1, 1) := by decide +kernel
theorem dX0_keepPositive_2 : decode cX0_keepPositive 2 = .ok (.putfield 29, 3) := by decide +kernel
theorem dX0_keepPositive_5 : decode cX0_keepPositive 5 = .ok (.aload_n 0, 1) := by decide +kernel
theorem dX0_keepPositive_6 : decode cX0_keepPositive 6 = .ok (.aload_n 2, 1) := by decide +kernel
theorem dX0_keepPositive_7 : decode cX0_keepPositive 7 = .ok (.getfield 46, 3) := by decide +kernel
theorem dX0_keepPositive_10 : decode cX0_keepPositive 10 = .ok (.putfield 33, 3) := by decide +kernel
theorem dX0_keepPositive_13 : decode cX0_keepPositive 13 = .ok (.aload_n 0, 1) := by decide +kernel
theorem dX0_keepPositive_14 : decode cX0_keepPositive 14 = .ok (.getfield 21, 3) := by decide +kernel
theorem dX0_keepPositive_17 : decode cX0_keepPositive 17 = .ok (.aload_n 2, 1) := by decide +kernel
theorem dX0_keepPositive_18 : decode cX0_keepPositive 18 = .ok (.getfield 49, 3) := by decide +kernel
theorem dX0_keepPositive_21 : decode cX0_keepPositive 21 = .ok (.invokevirtual 50, 3) := by decide +kernel
theorem dX0_keepPositive_24 : decode cX0_keepPositive 24 = .ok (.iconst 0, 1) := by decide +kernel
theorem dX0_keepPositive_25 : decode cX0_keepPositive 25 = .ok (.istore 4, 2) := by decide +kernel
theorem dX0_keepPositive_27 : decode cX0_keepPositive 27 = .ok (.iload 4, 2) := by decide +kernel
theorem dX0_keepPositive_29 : decode cX0_keepPositive 29 = .ok (.iconst 4, 1) := by decide +kernel
theorem dX0_keepPositive_30 : decode cX0_keepPositive 30 = .ok (.if_icmp .ge 17, 3) := by decide +kernel
theorem dX0_keepPositive_33 : decode cX0_keepPositive 33 = .ok (.aload_n 0, 1) := by decide +kernel
theorem dX0_keepPositive_34 : decode cX0_keepPositive 34 = .ok (.getfield 25, 3) := by decide +kernel
theorem dX0_keepPositive_37 : decode cX0_keepPositive 37 = .ok (.iload 4, 2) := by decide +kernel
theorem dX0_keepPositive_39 : decode cX0_keepPositive 39 = .ok (.iconst 0, 1) := by decide +kernel
theorem dX0_keepPositive_40 : decode cX0_keepPositive 40 = .ok (.iastore, 1) := by decide +kernel
theorem dX0_keepPositive_41 : decode cX0_keepPositive 41 = .ok (.iinc 4 1, 3) := by decide +kernel
theorem dX0_keepPositive_44 : decode cX0_keepPositive 44 = .ok (.goto (-17), 3) := by decide +kernel
theorem dX0_keepPositive_47 : decode cX0_keepPositive 47 = .ok (.aload_n 0, 1) := by decide +kernel
theorem dX0_keepPositive_48 : decode cX0_keepPositive 48 = .ok (.iload_n 3, 1) := by decide +kernel
theorem dX0_keepPositive_49 : decode cX0_keepPositive 49 = .ok (.putfield 36, 3) := by decide +kernel
theorem dX0_keepPositive_52 : decode cX0_keepPositive 52 = .ok (.aload_n 0, 1) := by decide +kernel
theorem dX0_keepPositive_53 : decode cX0_keepPositive 53 = .ok (.iconst 0, 1) := by decide +kernel
theorem dX0_keepPositive_54 : decode cX0_keepPositive 54 = .ok (.putfield 39, 3) := by decide +kernel
theorem dX0_keepPositive_57 : decode cX0_keepPositive 57 = .ok (.return_, 1) := by decide +kernel
theorem dX0_hasEnded_0 : decode cX0_hasEnded 0 = .ok (.iload_n 1, 1) := by decide +kernel
theorem dX0_hasEnded_1 : decode cX0_hasEnded 1 = .ok (.aload_n 0, 1) := by decide +kernel
theorem dX0_hasEnded_2 : decode cX0_hasEnded 2 = .ok (.getfield 36, 3) := by decide +kernel
theorem dX0_hasEnded_5 : decode cX0_hasEnded 5 = .ok (.if_icmp .lt 7, 3) := by decide +kernel
theorem dX0_hasEnded_8 : decode cX0_hasEnded 8 = .ok (.iconst 1, 1) := by decide +kernel
theorem dX0_hasEnded_9 : decode cX0_hasEnded 9 = .ok (.goto 4, 3) := by decide +kernel
theorem dX0_hasEnded_12 : decode cX0_hasEnded 12 = .ok (.iconst 0, 1) := by decide +kernel
theorem dX0_hasEnded_13 : decode cX0_hasEnded 13 = .ok (.ireturn, 1) := by decide +kernel
theorem dX0_sendPacket_0 : decode cX0_sendPacket 0 = .ok (.aload_n 0, 1) := by decide +kernel
theorem dX0_sendPacket_1 : decode cX0_sendPacket 1 = .ok (.getfield 29, 3) := by decide +kernel
theorem dX0_sendPacket_4 : decode cX0_sendPacket 4 = .ok (.iconst (-1), 1) := by decide +kernel
theorem dX0_sendPacket_5 : decode cX0_sendPacket 5 = .ok (.if_icmp .ne 5, 3) := by decide +kernel
theorem dX0_sendPacket_8 : decode cX0_sendPacket 8 = .ok (.iconst (-1), 1) := by decide +kernel
theorem dX0_sendPacket_9 : decode cX0_sendPacket 9 = .ok (.ireturn, 1) := by decide +kernel
theorem dX0_sendPacket_10 : decode cX0_sendPacket 10 = .ok (.aload_n 0, 1) := by decide +kernel
theorem dX0_sendPacket_11 : decode cX0_sendPacket 11 = .ok (.aload_n 1, 1) := by decide +kernel
theorem dX0_sendPacket_12 : decode cX0_sendPacket 12 = .ok (.aload_n 0, 1) := by decide +kernel
theorem dX0_sendPacket_13 : decode cX0_sendPacket 13 = .ok (.aload_n 1, 1) := by decide +kernel
theorem dX0_sendPacket_14 : decode cX0_sendPacket 14 = .ok (.invokevirtual 54, 3) := by decide +kernel
theorem dX0_sendPacket_17 : decode cX0_sendPacket 17 = .ok (.invokevirtual 58, 3) := by decide +kernel
theorem dX0_sendPacket_20 : decode cX0_sendPacket 20 = .ok (.istore_n 2, 1) := by decide +kernel
theorem dX0_sendPacket_21 : decode cX0_sendPacket 21 = .ok (.iload_n 2, 1) := by decide +kernel
theorem dX0_sendPacket_22 : decode cX0_sendPacket 22 = .ok (.iconst (-1), 1) := by decide +kernel
theorem dX0_sendPacket_23 : decode cX0_sendPacket 23 = .ok (.if_icmp .ne 6, 3) := by decide +kernel
theorem dX0_sendPacket_26 : decode cX0_sendPacket 26 = .ok (.bipush (-3), 2) := by decide +kernel
theorem dX0_sendPacket_28 : decode cX0_sendPacket 28 = .ok (.ireturn, 1) := by decide +kernel
theorem dX0_sendPacket_29 : decode cX0_sendPacket 29 = .ok (.aload_n 0, 1) := by decide +kernel
theorem dX0_sendPacket_30 : decode cX0_sendPacket 30 = .ok (.getfield 25, 3) := by decide +kernel
theorem dX0_sendPacket_33 : decode cX0_sendPacket 33 = .ok (.iload_n 2, 1) := by decide +kernel
theorem dX0_sendPacket_34 : decode cX0_sendPacket 34 = .ok (.dup2, 1) := by decide +kernel
theorem dX0_sendPacket_35 : decode cX0_sendPacket 35 = .ok (.iaload, 1) := by decide +kernel
theorem dX0_sendPacket_36 : decode cX0_sendPacket 36 = .ok (.iconst 1, 1) := by decide +kernel
theorem dX0_sendPacket_37 : decode cX0_sendPacket 37 = .ok (.iadd, 1) := by decide +kernel
theorem dX0_sendPacket_38 : decode cX0_sendPacket 38 = .ok (.iastore, 1) := by decide +kernel
theorem dX0_sendPacket_39 : decode cX0_sendPacket 39 = .ok (.aload_n 0, 1) := by decide +kernel
theorem dX0_sendPacket_40 : decode cX0_sendPacket 40 = .ok (.getfield 21, 3) := by decide +kernel
theorem dX0_sendPacket_43 : decode cX0_sendPacket 43 = .ok (.getfield 62, 3) := by decide +kernel
theorem dX0_sendPacket_46 : decode cX0_sendPacket 46 = .ok (.iload_n 2, 1) := by decide +kernel
theorem dX0_sendPacket_47 : decode cX0_sendPacket 47 = .ok (.iaload, 1) := by decide +kernel
theorem dX0_sendPacket_48 : decode cX0_sendPacket 48 = .ok (.ireturn, 1) := by decide +kernel
theorem dX0_bestPriority_0 : decode cX0_bestPriority 0 = .ok (.iconst 4, 1) := by decide +kernel
theorem dX0_bestPriority_1 : decode cX0_bestPriority 1 = .ok (.istore_n 2, 1) := by decide +kernel
theorem dX0_bestPriority_2 : decode cX0_bestPriority 2 = .ok (.iconst 0, 1) := by decide +kernel
theorem dX0_bestPriority_3 : decode cX0_bestPriority 3 = .ok (.istore_n 3, 1) := by decide +kernel
theorem dX0_bestPriority_4 : decode cX0_bestPriority 4 = .ok (.iload_n 3, 1) := by decide +kernel
theorem dX0_bestPriority_5 : decode cX0_bestPriority 5 = .ok (.aload_n 0, 1) := by decide +kernel
theorem dX0_bestPriority_6 : decode cX0_bestPriority 6 = .ok (.getfield 21, 3) := by decide +kernel
theorem dX0_bestPriority_9 : decode cX0_bestPriority 9 = .ok (.getfield 65, 3) := by decide +kernel
theorem dX0_bestPriority_12 : decode cX0_bestPriority 12 = .ok (.if_icmp .ge 37, 3) := by decide +kernel
theorem dX0_bestPriority_15 : decode cX0_bestPriority 15 = .ok (.aload_n 1, 1) := by decide +kernel
theorem dX0_bestPriority_16 : decode cX0_bestPriority 16 = .ok (.aload_n 0, 1) := by decide +kernel
theorem dX0_bestPriority_17 : decode cX0_bestPriority 17 = .ok (.getfield 21, 3) := by decide +kernel
theorem dX0_bestPriority_20 : decode cX0_bestPriority 20 = .ok (.getfield 62, 3) := by decide +kernel
theorem dX0_bestPriority_23 : decode cX0_bestPriority 23 = .ok (.iload_n 3, 1) := by decide +kernel
theorem dX0_bestPriority_24 : decode cX0_bestPriority 24 = .ok (.iaload, 1) := by decide +kernel
theorem dX0_bestPriority_25 : decode cX0_bestPriority 25 = .ok (.baload, 1) := by decide +kernel
theorem dX0_bestPriority_26 : decode cX0_bestPriority 26 = .ok (.ifCond .ne 17, 3) := by decide +kernel
theorem dX0_bestPriority_29 : decode cX0_bestPriority 29 = .ok (.iload_n 2, 1) := by decide +kernel
theorem dX0_bestPriority_30 : decode cX0_bestPriority 30 = .ok (.aload_n 0, 1) := by decide +kernel
theorem dX0_bestPriority_31 : decode cX0_bestPriority 31 = .ok (.getfield 21, 3) := by decide +kernel
theorem dX0_bestPriority_34 : decode cX0_bestPriority 34 = .ok (.getfield 68, 3) := by decide +kernel
theorem dX0_bestPriority_37 : decode cX0_bestPriority 37 = .ok (.iload_n 3, 1) := by decide +kernel
theorem dX0_bestPriority_38 : decode cX0_bestPriority 38 = .ok (.iaload, 1) := by decide +kernel
theorem dX0_bestPriority_39 : decode cX0_bestPriority 39 = .ok (.invokestatic 71, 3) := by decide +kernel
theorem dX0_bestPriority_42 : decode cX0_bestPriority 42 = .ok (.istore_n 2, 1) := by decide +kernel
theorem dX0_bestPriority_43 : decode cX0_bestPriority 43 = .ok (.iinc 3 1, 3) := by decide +kernel
theorem dX0_bestPriority_46 : decode cX0_bestPriority 46 = .ok (.goto (-42), 3) := by decide +kernel
theorem dX0_bestPriority_49 : decode cX0_bestPriority 49 = .ok (.iload_n 2, 1) := by decide +kernel
theorem dX0_bestPriority_50 : decode cX0_bestPriority 50 = .ok (.ireturn, 1) := by decide +kernel
theorem dX0_choose_0 : decode cX0_choose 0 = .ok (.iconst 0, 1) := by decide +kernel
theorem dX0_choose_1 : decode cX0_choose 1 = .ok (.istore_n 3, 1) := by decide +kernel
theorem dX0_choose_2 : decode cX0_choose 2 = .ok (.iconst 0, 1) := by decide +kernel
theorem dX0_choose_3 : decode cX0_choose 3 = .ok (.istore 4, 2) := by decide +kernel
theorem dX0_choose_5 : decode cX0_choose 5 = .ok (.iconst 0, 1) := by decide +kernel
theorem dX0_choose_6 : decode cX0_choose 6 = .ok (.istore 5, 2) := by decide +kernel
theorem dX0_choose_8 : decode cX0_choose 8 = .ok (.iload 5, 2) := by decide +kernel
theorem dX0_choose_10 : decode cX0_choose 10 = .ok (.aload_n 0, 1) := by decide +kernel
theorem dX0_choose_11 : decode cX0_choose 11 = .ok (.getfield 21, 3) := by decide +kernel
theorem dX0_choose_14 : decode cX0_choose 14 = .ok (.getfield 65, 3) := by decide +kernel
theorem dX0_choose_17 : decode cX0_choose 17 = .ok (.if_icmp .ge 45, 3) := by decide +kernel
theorem dX0_choose_20 : decode cX0_choose 20 = .ok (.aload_n 0, 1) := by decide +kernel
theorem dX0_choose_21 : decode cX0_choose 21 = .ok (.iload 5, 2) := by decide +kernel
theorem dX0_choose_23 : decode cX0_choose 23 = .ok (.aload_n 1, 1) := by decide +kernel
theorem dX0_choose_24 : decode cX0_choose 24 = .ok (.iload_n 2, 1) := by decide +kernel
theorem dX0_choose_25 : decode cX0_choose 25 = .ok (.invokevirtual 77, 3) := by decide +kernel
theorem dX0_choose_28 : decode cX0_choose 28 = .ok (.ifCond .eq 28, 3) := by decide +kernel
theorem dX0_choose_31 : decode cX0_choose 31 = .ok (.iload_n 3, 1) := by decide +kernel
theorem dX0_choose_32 : decode cX0_choose 32 = .ok (.aload_n 0, 1) := by decide +kernel
theorem dX0_choose_33 : decode cX0_choose 33 = .ok (.getfield 25, 3) := by decide +kernel
theorem dX0_choose_36 : decode cX0_choose 36 = .ok (.iload 5, 2) := by decide +kernel
theorem dX0_choose_38 : decode cX0_choose 38 = .ok (.iaload, 1) := by decide +kernel
theorem dX0_choose_39 : decode cX0_choose 39 = .ok (.iadd, 1) := by decide +kernel
theorem dX0_choose_40 : decode cX0_choose 40 = .ok (.istore_n 3, 1) := by decide +kernel
theorem dX0_choose_41 : decode cX0_choose 41 = .ok (.iload 4, 2) := by decide +kernel
theorem dX0_choose_43 : decode cX0_choose 43 = .ok (.aload_n 0, 1) := by decide +kernel
theorem dX0_choose_44 : decode cX0_choose 44 = .ok (.getfield 21, 3) := by decide +kernel
theorem dX0_choose_47 : decode cX0_choose 47 = .ok (.getfield 81, 3) := by decide +kernel
theorem dX0_choose_50 : decode cX0_choose 50 = .ok (.iload 5, 2) := by decide +kernel
theorem dX0_choose_52 : decode cX0_choose 52 = .ok (.iaload, 1) := by decide +kernel
theorem dX0_choose_53 : decode cX0_choose 53 = .ok (.iadd, 1) := by decide +kernel
theorem dX0_choose_54 : decode cX0_choose 54 = .ok (.istore 4, 2) := by decide +kernel
theorem dX0_choose_56 : decode cX0_choose 56 = .ok (.iinc 5 1, 3) := by decide +kernel
theorem dX0_choose_59 : decode cX0_choose 59 = .ok (.goto (-51), 3) := by decide +kernel
theorem dX0_choose_62 : decode cX0_choose 62 = .ok (.iconst (-1), 1) := by decide +kernel
theorem dX0_choose_63 : decode cX0_choose 63 = .ok (.istore 5, 2) := by decide +kernel
theorem dX0_choose_65 : decode cX0_choose 65 = .ok (.iconst 0, 1) := by decide +kernel
theorem dX0_choose_66 : decode cX0_choose 66 = .ok (.istore 6, 2) := by decide +kernel
theorem dX0_choose_68 : decode cX0_choose 68 = .ok (.iconst 0, 1) := by decide +kernel
theorem dX0_choose_69 : decode cX0_choose 69 = .ok (.istore 7, 2) := by decide +kernel
theorem dX0_choose_71 : decode cX0_choose 71 = .ok (.iload 7, 2) := by decide +kernel
theorem dX0_choose_73 : decode cX0_choose 73 = .ok (.aload_n 0, 1) := by decide +kernel
theorem dX0_choose_74 : decode cX0_choose 74 = .ok (.getfield 21, 3) := by decide +kernel
theorem dX0_choose_77 : decode cX0_choose 77 = .ok (.getfield 65, 3) := by decide +kernel
theorem dX0_choose_80 : decode cX0_choose 80 = .ok (.if_icmp .ge 68, 3) := by decide +kernel
theorem dX0_choose_83 : decode cX0_choose 83 = .ok (.aload_n 0, 1) := by decide +kernel
theorem dX0_choose_84 : decode cX0_choose 84 = .ok (.getfield 21, 3) := by decide +kernel
theorem dX0_choose_87 : decode cX0_choose 87 = .ok (.getfield 81, 3) := by decide +kernel
theorem dX0_choose_90 : decode cX0_choose 90 = .ok (.iload 7, 2) := by decide +kernel
theorem dX0_choose_92 : decode cX0_choose 92 = .ok (.iaload, 1) := by decide +kernel
theorem dX0_choose_93 : decode cX0_choose 93 = .ok (.iload_n 3, 1) := by decide +kernel
theorem dX0_choose_94 : decode cX0_choose 94 = .ok (.iconst 1, 1) := by decide +kernel
theorem dX0_choose_95 : decode cX0_choose 95 = .ok (.iadd, 1) := by decide +kernel
theorem dX0_choose_96 : decode cX0_choose 96 = .ok (.imul, 1) := by decide +kernel
theorem dX0_choose_97 : decode cX0_choose 97 = .ok (.iload 4, 2) := by decide +kernel
theorem dX0_choose_99 : decode cX0_choose 99 = .ok (.aload_n 0, 1) := by decide +kernel
theorem dX0_choose_100 : decode cX0_choose 100 = .ok (.getfield 25, 3) := by decide +kernel
theorem dX0_choose_103 : decode cX0_choose 103 = .ok (.iload 7, 2) := by decide +kernel
theorem dX0_choose_105 : decode cX0_choose 105 = .ok (.iaload, 1) := by decide +kernel
theorem dX0_choose_106 : decode cX0_choose 106 = .ok (.imul, 1) := by decide +kernel
theorem dX0_choose_107 : decode cX0_choose 107 = .ok (.isub, 1) := by decide +kernel
theorem dX0_choose_108 : decode cX0_choose 108 = .ok (.istore 8, 2) := by decide +kernel
theorem dX0_choose_110 : decode cX0_choose 110 = .ok (.aload_n 0, 1) := by decide +kernel
theorem dX0_choose_111 : decode cX0_choose 111 = .ok (.iload 7, 2) := by decide +kernel
theorem dX0_choose_113 : decode cX0_choose 113 = .ok (.aload_n 1, 1) := by decide +kernel
theorem dX0_choose_114 : decode cX0_choose 114 = .ok (.iload_n 2, 1) := by decide +kernel
theorem dX0_choose_115 : decode cX0_choose 115 = .ok (.invokevirtual 77, 3) := by decide +kernel
theorem dX0_choose_118 : decode cX0_choose 118 = .ok (.ifCond .eq 24, 3) := by decide +kernel
theorem dX0_choose_121 : decode cX0_choose 121 = .ok (.iload 5, 2) := by decide +kernel
theorem dX0_choose_123 : decode cX0_choose 123 = .ok (.iconst (-1), 1) := by decide +kernel
theorem dX0_choose_124 : decode cX0_choose 124 = .ok (.if_icmp .eq 10, 3) := by decide +kernel
theorem dX0_choose_127 : decode cX0_choose 127 = .ok (.iload 8, 2) := by decide +kernel
theorem dX0_choose_129 : decode cX0_choose 129 = .ok (.iload 6, 2) := by decide +kernel
theorem dX0_choose_131 : decode cX0_choose 131 = .ok (.if_icmp .le 11, 3) := by decide +kernel
theorem dX0_choose_134 : decode cX0_choose 134 = .ok (.iload 7, 2) := by decide +kernel
theorem dX0_choose_136 : decode cX0_choose 136 = .ok (.istore 5, 2) := by decide +kernel
theorem dX0_choose_138 : decode cX0_choose 138 = .ok (.iload 8, 2) := by decide +kernel
theorem dX0_choose_140 : decode cX0_choose 140 = .ok (.istore 6, 2) := by decide +kernel
theorem dX0_choose_142 : decode cX0_choose 142 = .ok (.iinc 7 1, 3) := by decide +kernel
theorem dX0_choose_145 : decode cX0_choose 145 = .ok (.goto (-74), 3) := by decide +kernel
theorem dX0_choose_148 : decode cX0_choose 148 = .ok (.iload 5, 2) := by decide +kernel
theorem dX0_choose_150 : decode cX0_choose 150 = .ok (.ireturn, 1) := by decide +kernel
theorem dX0_isLookedAt_0 : decode cX0_isLookedAt 0 = .ok (.aload_n 0, 1) := by decide +kernel
theorem dX0_isLookedAt_1 : decode cX0_isLookedAt 1 = .ok (.getfield 21, 3) := by decide +kernel
theorem dX0_isLookedAt_4 : decode cX0_isLookedAt 4 = .ok (.getfield 68, 3) := by decide +kernel
theorem dX0_isLookedAt_7 : decode cX0_isLookedAt 7 = .ok (.iload_n 1, 1) := by decide +kernel
theorem dX0_isLookedAt_8 : decode cX0_isLookedAt 8 = .ok (.iaload, 1) := by decide +kernel
theorem dX0_isLookedAt_9 : decode cX0_isLookedAt 9 = .ok (.iload_n 3, 1) := by decide +kernel
theorem dX0_isLookedAt_10 : decode cX0_isLookedAt 10 = .ok (.if_icmp .ne 21, 3) := by decide +kernel
theorem dX0_isLookedAt_13 : decode cX0_isLookedAt 13 = .ok (.aload_n 2, 1) := by decide +kernel
theorem dX0_isLookedAt_14 : decode cX0_isLookedAt 14 = .ok (.aload_n 0, 1) := by decide +kernel
theorem dX0_isLookedAt_15 : decode cX0_isLookedAt 15 = .ok (.getfield 21, 3) := by decide +kernel
theorem dX0_isLookedAt_18 : decode cX0_isLookedAt 18 = .ok (.getfield 62, 3) := by decide +kernel
theorem dX0_isLookedAt_21 : decode cX0_isLookedAt 21 = .ok (.iload_n 1, 1) := by decide +kernel
theorem dX0_isLookedAt_22 : decode cX0_isLookedAt 22 = .ok (.iaload, 1) := by decide +kernel
theorem dX0_isLookedAt_23 : decode cX0_isLookedAt 23 = .ok (.baload, 1) := by decide +kernel
theorem dX0_isLookedAt_24 : decode cX0_isLookedAt 24 = .ok (.ifCond .ne 7, 3) := by decide +kernel
theorem dX0_isLookedAt_27 : decode cX0_isLookedAt 27 = .ok (.iconst 1, 1) := by decide +kernel
theorem dX0_isLookedAt_28 : decode cX0_isLookedAt 28 = .ok (.goto 4, 3) := by decide +kernel
theorem dX0_isLookedAt_31 : decode cX0_isLookedAt 31 = .ok (.iconst 0, 1) := by decide +kernel
theorem dX0_isLookedAt_32 : decode cX0_isLookedAt 32 = .ok (.ireturn, 1) := by decide +kernel
theorem dX1_init_0 : decode cX1_init 0 = .ok (.aload_n 0, 1) := by decide +kernel
theorem dX1_init_1 : decode cX1_init 1 = .ok (.invokespecial 3, 3) := by decide +kernel
theorem dX1_init_4 : decode cX1_init 4 = .ok (.aload_n 0, 1) := by decide +kernel
theorem dX1_init_5 : decode cX1_init 5 = .ok (.iconst 4, 1) := by decide +kernel
theorem dX1_init_6 : decode cX1_init 6 = .ok (.newarray .int, 2) := by decide +kernel
theorem dX1_init_8 : decode cX1_init 8 = .ok (.putfield 9, 3) := by decide +kernel
theorem dX1_init_11 : decode cX1_init 11 = .ok (.aload_n 0, 1) := by decide +kernel
theorem dX1_init_12 : decode cX1_init 12 = .ok (.iconst 4, 1) := by decide +kernel
theorem dX1_init_13 : decode cX1_init 13 = .ok (.newarray .int, 2) := by decide +kernel
theorem dX1_init_15 : decode cX1_init 15 = .ok (.putfield 15, 3) := by decide +kernel
theorem dX1_init_18 : decode cX1_init 18 = .ok (.aload_n 0, 1) := by decide +kernel
theorem dX1_init_19 : decode cX1_init 19 = .ok (.iconst 4, 1) := by decide +kernel
theorem dX1_init_20 : decode cX1_init 20 = .ok (.newarray .int, 2) := by decide +kernel
theorem dX1_init_22 : decode cX1_init 22 = .ok (.putfield 18, 3) := by decide +kernel
theorem dX1_init_25 : decode cX1_init 25 = .ok (.aload_n 0, 1) := by decide +kernel
theorem dX1_init_26 : decode cX1_init 26 = .ok (.iconst 0, 1) := by decide +kernel
theorem dX1_init_27 : decode cX1_init 27 = .ok (.putfield 21, 3) := by decide +kernel
theorem dX1_init_30 : decode cX1_init 30 = .ok (.return_, 1) := by decide +kernel
theorem dX1_placeOf_0 : decode cX1_placeOf 0 = .ok (.iconst 0, 1) := by decide +kernel
theorem dX1_placeOf_1 : decode cX1_placeOf 1 = .ok (.istore_n 2, 1) := by decide +kernel
theorem dX1_placeOf_2 : decode cX1_placeOf 2 = .ok (.iload_n 2, 1) := by decide +kernel
theorem dX1_placeOf_3 : decode cX1_placeOf 3 = .ok (.aload_n 0, 1) := by decide +kernel
theorem dX1_placeOf_4 : decode cX1_placeOf 4 = .ok (.getfield 21, 3) := by decide +kernel
theorem dX1_placeOf_7 : decode cX1_placeOf 7 = .ok (.if_icmp .ge 21, 3) := by decide +kernel
theorem dX1_placeOf_10 : decode cX1_placeOf 10 = .ok (.aload_n 0, 1) := by decide +kernel
theorem dX1_placeOf_11 : decode cX1_placeOf 11 = .ok (.getfield 9, 3) := by decide +kernel
theorem dX1_placeOf_14 : decode cX1_placeOf 14 = .ok (.iload_n 2, 1) := by decide +kernel
theorem dX1_placeOf_15 : decode cX1_placeOf 15 = .ok (.iaload, 1) := by decide +kernel
theorem dX1_placeOf_16 : decode cX1_placeOf 16 = .ok (.iload_n 1, 1) := by decide +kernel
theorem dX1_placeOf_17 : decode cX1_placeOf 17 = .ok (.if_icmp .ne 5, 3) := by decide +kernel
theorem dX1_placeOf_20 : decode cX1_placeOf 20 = .ok (.iload_n 2, 1) := by decide +kernel
theorem dX1_placeOf_21 : decode cX1_placeOf 21 = .ok (.ireturn, 1) := by decide +kernel
theorem dX1_placeOf_22 : decode cX1_placeOf 22 = .ok (.iinc 2 1, 3) := by decide +kernel
theorem dX1_placeOf_25 : decode cX1_placeOf 25 = .ok (.goto (-23), 3) := by decide +kernel
theorem dX1_placeOf_28 : decode cX1_placeOf 28 = .ok (.iconst (-1), 1) := by decide +kernel
theorem dX1_placeOf_29 : decode cX1_placeOf 29 = .ok (.ireturn, 1) := by decide +kernel
theorem dX1_add_0 : decode cX1_add 0 = .ok (.aload_n 0, 1) := by decide +kernel
theorem dX1_add_1 : decode cX1_add 1 = .ok (.getfield 9, 3) := by decide +kernel
theorem dX1_add_4 : decode cX1_add 4 = .ok (.aload_n 0, 1) := by decide +kernel
theorem dX1_add_5 : decode cX1_add 5 = .ok (.getfield 21, 3) := by decide +kernel
theorem dX1_add_8 : decode cX1_add 8 = .ok (.iload_n 1, 1) := by decide +kernel
theorem dX1_add_9 : decode cX1_add 9 = .ok (.iastore, 1) := by decide +kernel
theorem dX1_add_10 : decode cX1_add 10 = .ok (.aload_n 0, 1) := by decide +kernel
theorem dX1_add_11 : decode cX1_add 11 = .ok (.getfield 15, 3) := by decide +kernel
theorem dX1_add_14 : decode cX1_add 14 = .ok (.aload_n 0, 1) := by decide +kernel
theorem dX1_add_15 : decode cX1_add 15 = .ok (.getfield 21, 3) := by decide +kernel
theorem dX1_add_18 : decode cX1_add 18 = .ok (.iload_n 2, 1) := by decide +kernel
theorem dX1_add_19 : decode cX1_add 19 = .ok (.iastore, 1) := by decide +kernel
theorem dX1_add_20 : decode cX1_add 20 = .ok (.aload_n 0, 1) := by decide +kernel
theorem dX1_add_21 : decode cX1_add 21 = .ok (.getfield 18, 3) := by decide +kernel
theorem dX1_add_24 : decode cX1_add 24 = .ok (.aload_n 0, 1) := by decide +kernel
theorem dX1_add_25 : decode cX1_add 25 = .ok (.getfield 21, 3) := by decide +kernel
theorem dX1_add_28 : decode cX1_add 28 = .ok (.iload_n 3, 1) := by decide +kernel
theorem dX1_add_29 : decode cX1_add 29 = .ok (.iastore, 1) := by decide +kernel
theorem dX1_add_30 : decode cX1_add 30 = .ok (.aload_n 0, 1) := by decide +kernel
theorem dX1_add_31 : decode cX1_add 31 = .ok (.dup, 1) := by decide +kernel
theorem dX1_add_32 : decode cX1_add 32 = .ok (.getfield 21, 3) := by decide +kernel
theorem dX1_add_35 : decode cX1_add 35 = .ok (.iconst 1, 1) := by decide +kernel
theorem dX1_add_36 : decode cX1_add 36 = .ok (.iadd, 1) := by decide +kernel
theorem dX1_add_37 : decode cX1_add 37 = .ok (.putfield 21, 3) := by decide +kernel
theorem dX1_add_40 : decode cX1_add 40 = .ok (.return_, 1) := by decide +kernel
theorem dX1_removeAt_0 : decode cX1_removeAt 0 = .ok (.aload_n 0, 1) := by decide +kernel
theorem dX1_removeAt_1 : decode cX1_removeAt 1 = .ok (.dup, 1) := by decide +kernel
theorem dX1_removeAt_2 : decode cX1_removeAt 2 = .ok (.getfield 21, 3) := by decide +kernel
theorem dX1_removeAt_5 : decode cX1_removeAt 5 = .ok (.iconst 1, 1) := by decide +kernel
theorem dX1_removeAt_6 : decode cX1_removeAt 6 = .ok (.isub, 1) := by decide +kernel
theorem dX1_removeAt_7 : decode cX1_removeAt 7 = .ok (.putfield 21, 3) := by decide +kernel
theorem dX1_removeAt_10 : decode cX1_removeAt 10 = .ok (.iload_n 1, 1) := by decide +kernel
theorem dX1_removeAt_11 : decode cX1_removeAt 11 = .ok (.istore_n 2, 1) := by decide +kernel
theorem dX1_removeAt_12 : decode cX1_removeAt 12 = .ok (.iload_n 2, 1) := by decide +kernel
theorem dX1_removeAt_13 : decode cX1_removeAt 13 = .ok (.aload_n 0, 1) := by decide +kernel
theorem dX1_removeAt_14 : decode cX1_removeAt 14 = .ok (.getfield 21, 3) := by decide +kernel
theorem dX1_removeAt_17 : decode cX1_removeAt 17 = .ok (.if_icmp .ge 51, 3) := by decide +kernel
theorem dX1_removeAt_20 : decode cX1_removeAt 20 = .ok (.aload_n 0, 1) := by decide +kernel
theorem dX1_removeAt_21 : decode cX1_removeAt 21 = .ok (.getfield 9, 3) := by decide +kernel
theorem dX1_removeAt_24 : decode cX1_removeAt 24 = .ok (.iload_n 2, 1) := by decide +kernel
theorem dX1_removeAt_25 : decode cX1_removeAt 25 = .ok (.aload_n 0, 1) := by decide +kernel
theorem dX1_removeAt_26 : decode cX1_removeAt 26 = .ok (.getfield 9, 3) := by decide +kernel
theorem dX1_removeAt_29 : decode cX1_removeAt 29 = .ok (.iload_n 2, 1) := by decide +kernel
theorem dX1_removeAt_30 : decode cX1_removeAt 30 = .ok (.iconst 1, 1) := by decide +kernel
theorem dX1_removeAt_31 : decode cX1_removeAt 31 = .ok (.iadd, 1) := by decide +kernel
theorem dX1_removeAt_32 : decode cX1_removeAt 32 = .ok (.iaload, 1) := by decide +kernel
theorem dX1_removeAt_33 : decode cX1_removeAt 33 = .ok (.iastore, 1) := by decide +kernel
theorem dX1_removeAt_34 : decode cX1_removeAt 34 = .ok (.aload_n 0, 1) := by decide +kernel
theorem dX1_removeAt_35 : decode cX1_removeAt 35 = .ok (.getfield 15, 3) := by decide +kernel
theorem dX1_removeAt_38 : decode cX1_removeAt 38 = .ok (.iload_n 2, 1) := by decide +kernel
theorem dX1_removeAt_39 : decode cX1_removeAt 39 = .ok (.aload_n 0, 1) := by decide +kernel
theorem dX1_removeAt_40 : decode cX1_removeAt 40 = .ok (.getfield 15, 3) := by decide +kernel
theorem dX1_removeAt_43 : decode cX1_removeAt 43 = .ok (.iload_n 2, 1) := by decide +kernel
theorem dX1_removeAt_44 : decode cX1_removeAt 44 = .ok (.iconst 1, 1) := by decide +kernel
theorem dX1_removeAt_45 : decode cX1_removeAt 45 = .ok (.iadd, 1) := by decide +kernel
theorem dX1_removeAt_46 : decode cX1_removeAt 46 = .ok (.iaload, 1) := by decide +kernel
theorem dX1_removeAt_47 : decode cX1_removeAt 47 = .ok (.iastore, 1) := by decide +kernel
theorem dX1_removeAt_48 : decode cX1_removeAt 48 = .ok (.aload_n 0, 1) := by decide +kernel
theorem dX1_removeAt_49 : decode cX1_removeAt 49 = .ok (.getfield 18, 3) := by decide +kernel
theorem dX1_removeAt_52 : decode cX1_removeAt 52 = .ok (.iload_n 2, 1) := by decide +kernel
theorem dX1_removeAt_53 : decode cX1_removeAt 53 = .ok (.aload_n 0, 1) := by decide +kernel
theorem dX1_removeAt_54 : decode cX1_removeAt 54 = .ok (.getfield 18, 3) := by decide +kernel
theorem dX1_removeAt_57 : decode cX1_removeAt 57 = .ok (.iload_n 2, 1) := by decide +kernel
theorem dX1_removeAt_58 : decode cX1_removeAt 58 = .ok (.iconst 1, 1) := by decide +kernel
theorem dX1_removeAt_59 : decode cX1_removeAt 59 = .ok (.iadd, 1) := by decide +kernel
theorem dX1_removeAt_60 : decode cX1_removeAt 60 = .ok (.iaload, 1) := by decide +kernel
theorem dX1_removeAt_61 : decode cX1_removeAt 61 = .ok (.iastore, 1) := by decide +kernel
theorem dX1_removeAt_62 : decode cX1_removeAt 62 = .ok (.iinc 2 1, 3) := by decide +kernel
theorem dX1_removeAt_65 : decode cX1_removeAt 65 = .ok (.goto (-53), 3) := by decide +kernel
theorem dX1_removeAt_68 : decode cX1_removeAt 68 = .ok (.return_, 1) := by decide +kernel
theorem dX1_clear_0 : decode cX1_clear 0 = .ok (.aload_n 0, 1) := by decide +kernel
theorem dX1_clear_1 : decode cX1_clear 1 = .ok (.iconst 0, 1) := by decide +kernel
theorem dX1_clear_2 : decode cX1_clear 2 = .ok (.putfield 21, 3) := by decide +kernel
theorem dX1_clear_5 : decode cX1_clear 5 = .ok (.return_, 1) := by decide +kernel
theorem dX1_copy_0 : decode cX1_copy 0 = .ok (.aload_n 0, 1) := by decide +kernel
theorem dX1_copy_1 : decode cX1_copy 1 = .ok (.invokevirtual 25, 3) := by decide +kernel
theorem dX1_copy_4 : decode cX1_copy 4 = .ok (.iconst 0, 1) := by decide +kernel
theorem dX1_copy_5 : decode cX1_copy 5 = .ok (.istore_n 2, 1) := by decide +kernel
theorem dX1_copy_6 : decode cX1_copy 6 = .ok (.iload_n 2, 1) := by decide +kernel
theorem dX1_copy_7 : decode cX1_copy 7 = .ok (.aload_n 1, 1) := by decide +kernel
theorem dX1_copy_8 : decode cX1_copy 8 = .ok (.getfield 21, 3) := by decide +kernel
theorem dX1_copy_11 : decode cX1_copy 11 = .ok (.if_icmp .ge 31, 3) := by decide +kernel
theorem dX1_copy_14 : decode cX1_copy 14 = .ok (.aload_n 0, 1) := by decide +kernel
theorem dX1_copy_15 : decode cX1_copy 15 = .ok (.aload_n 1, 1) := by decide +kernel
theorem dX1_copy_16 : decode cX1_copy 16 = .ok (.getfield 9, 3) := by decide +kernel
theorem dX1_copy_19 : decode cX1_copy 19 = .ok (.iload_n 2, 1) := by decide +kernel
theorem dX1_copy_20 : decode cX1_copy 20 = .ok (.iaload, 1) := by decide +kernel
theorem dX1_copy_21 : decode cX1_copy 21 = .ok (.aload_n 1, 1) := by decide +kernel
theorem dX1_copy_22 : decode cX1_copy 22 = .ok (.getfield 15, 3) := by decide +kernel
theorem dX1_copy_25 : decode cX1_copy 25 = .ok (.iload_n 2, 1) := by decide +kernel
theorem dX1_copy_26 : decode cX1_copy 26 = .ok (.iaload, 1) := by decide +kernel
theorem dX1_copy_27 : decode cX1_copy 27 = .ok (.aload_n 1, 1) := by decide +kernel
theorem dX1_copy_28 : decode cX1_copy 28 = .ok (.getfield 18, 3) := by decide +kernel
theorem dX1_copy_31 : decode cX1_copy 31 = .ok (.iload_n 2, 1) := by decide +kernel
theorem dX1_copy_32 : decode cX1_copy 32 = .ok (.iaload, 1) := by decide +kernel
theorem dX1_copy_33 : decode cX1_copy 33 = .ok (.invokevirtual 28, 3) := by decide +kernel
theorem dX1_copy_36 : decode cX1_copy 36 = .ok (.iinc 2 1, 3) := by decide +kernel
theorem dX1_copy_39 : decode cX1_copy 39 = .ok (.goto (-33), 3) := by decide +kernel
theorem dX1_copy_42 : decode cX1_copy 42 = .ok (.return_, 1) := by decide +kernel
theorem dX2_init_0 : decode cX2_init 0 = .ok (.aload_n 0, 1) := by decide +kernel
theorem dX2_init_1 : decode cX2_init 1 = .ok (.invokespecial 1, 3) := by decide +kernel
theorem dX2_init_4 : decode cX2_init 4 = .ok (.aload_n 0, 1) := by decide +kernel
theorem dX2_init_5 : decode cX2_init 5 = .ok (.new 7, 3) := by decide +kernel
theorem dX2_init_8 : decode cX2_init 8 = .ok (.dup, 1) := by decide +kernel
theorem dX2_init_9 : decode cX2_init 9 = .ok (.invokespecial 9, 3) := by decide +kernel
theorem dX2_init_12 : decode cX2_init 12 = .ok (.putfield 10, 3) := by decide +kernel
theorem dX2_init_15 : decode cX2_init 15 = .ok (.aload_n 0, 1) := by decide +kernel
theorem dX2_init_16 : decode cX2_init 16 = .ok (.new 16, 3) := by decide +kernel
theorem dX2_init_19 : decode cX2_init 19 = .ok (.dup, 1) := by decide +kernel
theorem dX2_init_20 : decode cX2_init 20 = .ok (.invokespecial 18, 3) := by decide +kernel
theorem dX2_init_23 : decode cX2_init 23 = .ok (.putfield 19, 3) := by decide +kernel
theorem dX2_init_26 : decode cX2_init 26 = .ok (.aload_n 0, 1) := by decide +kernel
theorem dX2_init_27 : decode cX2_init 27 = .ok (.iconst 1, 1) := by decide +kernel
theorem dX2_init_28 : decode cX2_init 28 = .ok (.putfield 23, 3) := by decide +kernel
theorem dX2_init_31 : decode cX2_init 31 = .ok (.aload_n 0, 1) := by decide +kernel
theorem dX2_init_32 : decode cX2_init 32 = .ok (.iconst 0, 1) := by decide +kernel
theorem dX2_init_33 : decode cX2_init 33 = .ok (.putfield 27, 3) := by decide +kernel
theorem dX2_init_36 : decode cX2_init 36 = .ok (.return_, 1) := by decide +kernel
theorem dX3_init_0 : decode cX3_init 0 = .ok (.aload_n 0, 1) := by decide +kernel
theorem dX3_init_1 : decode cX3_init 1 = .ok (.invokespecial 3, 3) := by decide +kernel
theorem dX3_init_4 : decode cX3_init 4 = .ok (.aload_n 0, 1) := by decide +kernel
theorem dX3_init_5 : decode cX3_init 5 = .ok (.iconst 0, 1) := by decide +kernel
theorem dX3_init_6 : decode cX3_init 6 = .ok (.putfield 9, 3) := by decide +kernel
theorem dX3_init_9 : decode cX3_init 9 = .ok (.aload_n 0, 1) := by decide +kernel
theorem dX3_init_10 : decode cX3_init 10 = .ok (.iconst 0, 1) := by decide +kernel
theorem dX3_init_11 : decode cX3_init 11 = .ok (.putfield 15, 3) := by decide +kernel
theorem dX3_init_14 : decode cX3_init 14 = .ok (.return_, 1) := by decide +kernel
theorem dX3_set_0 : decode cX3_set 0 = .ok (.aload_n 0, 1) := by decide +kernel
theorem dX3_set_1 : decode cX3_set 1 = .ok (.iload_n 1, 1) := by decide +kernel
theorem dX3_set_2 : decode cX3_set 2 = .ok (.putfield 9, 3) := by decide +kernel
theorem dX3_set_5 : decode cX3_set 5 = .ok (.aload_n 0, 1) := by decide +kernel
theorem dX3_set_6 : decode cX3_set 6 = .ok (.iload_n 2, 1) := by decide +kernel
theorem dX3_set_7 : decode cX3_set 7 = .ok (.putfield 15, 3) := by decide +kernel
theorem dX3_set_10 : decode cX3_set 10 = .ok (.return_, 1) := by decide +kernel
theorem dX3_is_0 : decode cX3_is 0 = .ok (.aload_n 0, 1) := by decide +kernel
theorem dX3_is_1 : decode cX3_is 1 = .ok (.getfield 9, 3) := by decide +kernel
theorem dX3_is_4 : decode cX3_is 4 = .ok (.iload_n 1, 1) := by decide +kernel
theorem dX3_is_5 : decode cX3_is 5 = .ok (.if_icmp .ne 15, 3) := by decide +kernel
theorem dX3_is_8 : decode cX3_is 8 = .ok (.aload_n 0, 1) := by decide +kernel
theorem dX3_is_9 : decode cX3_is 9 = .ok (.getfield 15, 3) := by decide +kernel
theorem dX3_is_12 : decode cX3_is 12 = .ok (.iload_n 2, 1) := by decide +kernel
theorem dX3_is_13 : decode cX3_is 13 = .ok (.if_icmp .ne 7, 3) := by decide +kernel
theorem dX3_is_16 : decode cX3_is 16 = .ok (.iconst 1, 1) := by decide +kernel
theorem dX3_is_17 : decode cX3_is 17 = .ok (.goto 4, 3) := by decide +kernel
theorem dX3_is_20 : decode cX3_is 20 = .ok (.iconst 0, 1) := by decide +kernel
theorem dX3_is_21 : decode cX3_is 21 = .ok (.ireturn, 1) := by decide +kernel
theorem dX3_meets_0 : decode cX3_meets 0 = .ok (.aload_n 0, 1) := by decide +kernel
theorem dX3_meets_1 : decode cX3_meets 1 = .ok (.getfield 15, 3) := by decide +kernel
theorem dX3_meets_4 : decode cX3_meets 4 = .ok (.iload_n 2, 1) := by decide +kernel
theorem dX3_meets_5 : decode cX3_meets 5 = .ok (.invokestatic 18, 3) := by decide +kernel
theorem dX3_meets_8 : decode cX3_meets 8 = .ok (.istore_n 3, 1) := by decide +kernel
theorem dX3_meets_9 : decode cX3_meets 9 = .ok (.aload_n 0, 1) := by decide +kernel
theorem dX3_meets_10 : decode cX3_meets 10 = .ok (.getfield 9, 3) := by decide +kernel
theorem dX3_meets_13 : decode cX3_meets 13 = .ok (.iload_n 1, 1) := by decide +kernel
theorem dX3_meets_14 : decode cX3_meets 14 = .ok (.ixor, 1) := by decide +kernel
theorem dX3_meets_15 : decode cX3_meets 15 = .ok (.bipush 16, 2) := by decide +kernel
theorem dX3_meets_17 : decode cX3_meets 17 = .ok (.iload_n 3, 1) := by decide +kernel
theorem dX3_meets_18 : decode cX3_meets 18 = .ok (.isub, 1) := by decide +kernel
theorem dX3_meets_19 : decode cX3_meets 19 = .ok (.iushr, 1) := by decide +kernel
theorem dX3_meets_20 : decode cX3_meets 20 = .ok (.ifCond .ne 7, 3) := by decide +kernel
theorem dX3_meets_23 : decode cX3_meets 23 = .ok (.iconst 1, 1) := by decide +kernel
theorem dX3_meets_24 : decode cX3_meets 24 = .ok (.goto 4, 3) := by decide +kernel
theorem dX3_meets_27 : decode cX3_meets 27 = .ok (.iconst 0, 1) := by decide +kernel
theorem dX3_meets_28 : decode cX3_meets 28 = .ok (.ireturn, 1) := by decide +kernel
theorem dX3_covers_0 : decode cX3_covers 0 = .ok (.aload_n 0, 1) := by decide +kernel
theorem dX3_covers_1 : decode cX3_covers 1 = .ok (.iload_n 1, 1) := by decide +kernel
theorem dX3_covers_2 : decode cX3_covers 2 = .ok (.bipush 16, 2) := by decide +kernel
theorem dX3_covers_4 : decode cX3_covers 4 = .ok (.invokevirtual 24, 3) := by decide +kernel
theorem dX3_covers_7 : decode cX3_covers 7 = .ok (.ireturn, 1) := by decide +kernel
theorem dX4_init_0 : decode cX4_init 0 = .ok (.aload_n 0, 1) := by decide +kernel
theorem dX4_init_1 : decode cX4_init 1 = .ok (.invokespecial 3, 3) := by decide +kernel
theorem dX4_init_4 : decode cX4_init 4 = .ok (.aload_n 0, 1) := by decide +kernel
theorem dX4_init_5 : decode cX4_init 5 = .ok (.bipush 24, 2) := by decide +kernel
theorem dX4_init_7 : decode cX4_init 7 = .ok (.anewarray 9, 3) := by decide +kernel
theorem dX4_init_10 : decode cX4_init 10 = .ok (.putfield 11, 3) := by decide +kernel
theorem dX4_init_13 : decode cX4_init 13 = .ok (.aload_n 0, 1) := by decide +kernel
theorem dX4_init_14 : decode cX4_init 14 = .ok (.iconst 0, 1) := by decide +kernel
theorem dX4_init_15 : decode cX4_init 15 = .ok (.putfield 17, 3) := by decide +kernel
theorem dX4_init_18 : decode cX4_init 18 = .ok (.iconst 0, 1) := by decide +kernel
theorem dX4_init_19 : decode cX4_init 19 = .ok (.istore_n 1, 1) := by decide +kernel
theorem dX4_init_20 : decode cX4_init 20 = .ok (.iload_n 1, 1) := by decide +kernel
theorem dX4_init_21 : decode cX4_init 21 = .ok (.bipush 24, 2) := by decide +kernel
theorem dX4_init_23 : decode cX4_init 23 = .ok (.if_icmp .ge 22, 3) := by decide +kernel
theorem dX4_init_26 : decode cX4_init 26 = .ok (.aload_n 0, 1) := by decide +kernel
theorem dX4_init_27 : decode cX4_init 27 = .ok (.getfield 11, 3) := by decide +kernel
theorem dX4_init_30 : decode cX4_init 30 = .ok (.iload_n 1, 1) := by decide +kernel
theorem dX4_init_31 : decode cX4_init 31 = .ok (.new 9, 3) := by decide +kernel
theorem dX4_init_34 : decode cX4_init 34 = .ok (.dup, 1) := by decide +kernel
theorem dX4_init_35 : decode cX4_init 35 = .ok (.invokespecial 21, 3) := by decide +kernel
theorem dX4_init_38 : decode cX4_init 38 = .ok (.aastore, 1) := by decide +kernel
theorem dX4_init_39 : decode cX4_init 39 = .ok (.iinc 1 1, 3) := by decide +kernel
theorem dX4_init_42 : decode cX4_init 42 = .ok (.goto (-22), 3) := by decide +kernel
theorem dX4_init_45 : decode cX4_init 45 = .ok (.return_, 1) := by decide +kernel
theorem dX4_add_0 : decode cX4_add 0 = .ok (.aload_n 0, 1) := by decide +kernel
theorem dX4_add_1 : decode cX4_add 1 = .ok (.getfield 17, 3) := by decide +kernel
theorem dX4_add_4 : decode cX4_add 4 = .ok (.istore_n 3, 1) := by decide +kernel
theorem dX4_add_5 : decode cX4_add 5 = .ok (.aload_n 0, 1) := by decide +kernel
theorem dX4_add_6 : decode cX4_add 6 = .ok (.getfield 11, 3) := by decide +kernel
theorem dX4_add_9 : decode cX4_add 9 = .ok (.iload_n 3, 1) := by decide +kernel
theorem dX4_add_10 : decode cX4_add 10 = .ok (.aaload, 1) := by decide +kernel
theorem dX4_add_11 : decode cX4_add 11 = .ok (.getfield 22, 3) := by decide +kernel
theorem dX4_add_14 : decode cX4_add 14 = .ok (.iload_n 1, 1) := by decide +kernel
theorem dX4_add_15 : decode cX4_add 15 = .ok (.iload_n 2, 1) := by decide +kernel
theorem dX4_add_16 : decode cX4_add 16 = .ok (.invokevirtual 26, 3) := by decide +kernel
theorem dX4_add_19 : decode cX4_add 19 = .ok (.aload_n 0, 1) := by decide +kernel
theorem dX4_add_20 : decode cX4_add 20 = .ok (.dup, 1) := by decide +kernel
theorem dX4_add_21 : decode cX4_add 21 = .ok (.getfield 17, 3) := by decide +kernel
theorem dX4_add_24 : decode cX4_add 24 = .ok (.iconst 1, 1) := by decide +kernel
theorem dX4_add_25 : decode cX4_add 25 = .ok (.iadd, 1) := by decide +kernel
theorem dX4_add_26 : decode cX4_add 26 = .ok (.putfield 17, 3) := by decide +kernel
theorem dX4_add_29 : decode cX4_add 29 = .ok (.iload_n 3, 1) := by decide +kernel
theorem dX4_add_30 : decode cX4_add 30 = .ok (.ireturn, 1) := by decide +kernel
theorem dX4_has_0 : decode cX4_has 0 = .ok (.iconst 0, 1) := by decide +kernel
theorem dX4_has_1 : decode cX4_has 1 = .ok (.istore_n 3, 1) := by decide +kernel
theorem dX4_has_2 : decode cX4_has 2 = .ok (.iload_n 3, 1) := by decide +kernel
theorem dX4_has_3 : decode cX4_has 3 = .ok (.aload_n 0, 1) := by decide +kernel
theorem dX4_has_4 : decode cX4_has 4 = .ok (.getfield 17, 3) := by decide +kernel
theorem dX4_has_7 : decode cX4_has 7 = .ok (.if_icmp .ge 40, 3) := by decide +kernel
theorem dX4_has_10 : decode cX4_has 10 = .ok (.aload_n 0, 1) := by decide +kernel
theorem dX4_has_11 : decode cX4_has 11 = .ok (.getfield 11, 3) := by decide +kernel
theorem dX4_has_14 : decode cX4_has 14 = .ok (.iload_n 3, 1) := by decide +kernel
theorem dX4_has_15 : decode cX4_has 15 = .ok (.aaload, 1) := by decide +kernel
theorem dX4_has_16 : decode cX4_has 16 = .ok (.getfield 32, 3) := by decide +kernel
theorem dX4_has_19 : decode cX4_has 19 = .ok (.ifCond .ne 22, 3) := by decide +kernel
theorem dX4_has_22 : decode cX4_has 22 = .ok (.aload_n 0, 1) := by decide +kernel
theorem dX4_has_23 : decode cX4_has 23 = .ok (.getfield 11, 3) := by decide +kernel
theorem dX4_has_26 : decode cX4_has 26 = .ok (.iload_n 3, 1) := by decide +kernel
theorem dX4_has_27 : decode cX4_has 27 = .ok (.aaload, 1) := by decide +kernel
theorem dX4_has_28 : decode cX4_has 28 = .ok (.getfield 22, 3) := by decide +kernel
theorem dX4_has_31 : decode cX4_has 31 = .ok (.iload_n 1, 1) := by decide +kernel
theorem dX4_has_32 : decode cX4_has 32 = .ok (.iload_n 2, 1) := by decide +kernel
theorem dX4_has_33 : decode cX4_has 33 = .ok (.invokevirtual 36, 3) := by decide +kernel
theorem dX4_has_36 : decode cX4_has 36 = .ok (.ifCond .eq 5, 3) := by decide +kernel
theorem dX4_has_39 : decode cX4_has 39 = .ok (.iconst 1, 1) := by decide +kernel
theorem dX4_has_40 : decode cX4_has 40 = .ok (.ireturn, 1) := by decide +kernel
theorem dX4_has_41 : decode cX4_has 41 = .ok (.iinc 3 1, 3) := by decide +kernel
theorem dX4_has_44 : decode cX4_has 44 = .ok (.goto (-42), 3) := by decide +kernel
theorem dX4_has_47 : decode cX4_has 47 = .ok (.iconst 0, 1) := by decide +kernel
theorem dX4_has_48 : decode cX4_has 48 = .ok (.ireturn, 1) := by decide +kernel
theorem dX4_countRegistered_0 : decode cX4_countRegistered 0 = .ok (.iconst 0, 1) := by decide +kernel
theorem dX4_countRegistered_1 : decode cX4_countRegistered 1 = .ok (.istore_n 1, 1) := by decide +kernel
theorem dX4_countRegistered_2 : decode cX4_countRegistered 2 = .ok (.iconst 0, 1) := by decide +kernel
theorem dX4_countRegistered_3 : decode cX4_countRegistered 3 = .ok (.istore_n 2, 1) := by decide +kernel
theorem dX4_countRegistered_4 : decode cX4_countRegistered 4 = .ok (.iload_n 2, 1) := by decide +kernel
theorem dX4_countRegistered_5 : decode cX4_countRegistered 5 = .ok (.aload_n 0, 1) := by decide +kernel
theorem dX4_countRegistered_6 : decode cX4_countRegistered 6 = .ok (.getfield 17, 3) := by decide +kernel
theorem dX4_countRegistered_9 : decode cX4_countRegistered 9 = .ok (.if_icmp .ge 24, 3) := by decide +kernel
theorem dX4_countRegistered_12 : decode cX4_countRegistered 12 = .ok (.aload_n 0, 1) := by decide +kernel
theorem dX4_countRegistered_13 : decode cX4_countRegistered 13 = .ok (.getfield 11, 3) := by decide +kernel
theorem dX4_countRegistered_16 : decode cX4_countRegistered 16 = .ok (.iload_n 2, 1) := by decide +kernel
theorem dX4_countRegistered_17 : decode cX4_countRegistered 17 = .ok (.aaload, 1) := by decide +kernel
theorem dX4_countRegistered_18 : decode cX4_countRegistered 18 = .ok (.getfield 32, 3) := by decide +kernel
theorem dX4_countRegistered_21 : decode cX4_countRegistered 21 = .ok (.ifCond .ne 6, 3) := by decide +kernel
theorem dX4_countRegistered_24 : decode cX4_countRegistered 24 = .ok (.iinc 1 1, 3) := by decide +kernel
theorem dX4_countRegistered_27 : decode cX4_countRegistered 27 = .ok (.iinc 2 1, 3) := by decide +kernel
theorem dX4_countRegistered_30 : decode cX4_countRegistered 30 = .ok (.goto (-26), 3) := by decide +kernel
theorem dX4_countRegistered_33 : decode cX4_countRegistered 33 = .ok (.iload_n 1, 1) := by decide +kernel
theorem dX4_countRegistered_34 : decode cX4_countRegistered 34 = .ok (.ireturn, 1) := by decide +kernel
theorem dX4_find_0 : decode cX4_find 0 = .ok (.iconst (-1), 1) := by decide +kernel
theorem dX4_find_1 : decode cX4_find 1 = .ok (.istore_n 2, 1) := by decide +kernel
theorem dX4_find_2 : decode cX4_find 2 = .ok (.iconst (-1), 1) := by decide +kernel
theorem dX4_find_3 : decode cX4_find 3 = .ok (.istore_n 3, 1) := by decide +kernel
theorem dX4_find_4 : decode cX4_find 4 = .ok (.iconst 0, 1) := by decide +kernel
theorem dX4_find_5 : decode cX4_find 5 = .ok (.istore 4, 2) := by decide +kernel
theorem dX4_find_7 : decode cX4_find 7 = .ok (.iload 4, 2) := by decide +kernel
theorem dX4_find_9 : decode cX4_find 9 = .ok (.aload_n 0, 1) := by decide +kernel
theorem dX4_find_10 : decode cX4_find 10 = .ok (.getfield 17, 3) := by decide +kernel
theorem dX4_find_13 : decode cX4_find 13 = .ok (.if_icmp .ge 62, 3) := by decide +kernel
theorem dX4_find_16 : decode cX4_find 16 = .ok (.aload_n 0, 1) := by decide +kernel
theorem dX4_find_17 : decode cX4_find 17 = .ok (.getfield 11, 3) := by decide +kernel
theorem dX4_find_20 : decode cX4_find 20 = .ok (.iload 4, 2) := by decide +kernel
theorem dX4_find_22 : decode cX4_find 22 = .ok (.aaload, 1) := by decide +kernel
theorem dX4_find_23 : decode cX4_find 23 = .ok (.astore 5, 2) := by decide +kernel
theorem dX4_find_25 : decode cX4_find 25 = .ok (.aload 5, 2) := by decide +kernel
theorem dX4_find_27 : decode cX4_find 27 = .ok (.getfield 32, 3) := by decide +kernel
theorem dX4_find_30 : decode cX4_find 30 = .ok (.ifCond .ne 39, 3) := by decide +kernel
theorem dX4_find_33 : decode cX4_find 33 = .ok (.aload 5, 2) := by decide +kernel
theorem dX4_find_35 : decode cX4_find 35 = .ok (.getfield 22, 3) := by decide +kernel
theorem dX4_find_38 : decode cX4_find 38 = .ok (.getfield 40, 3) := by decide +kernel
theorem dX4_find_41 : decode cX4_find 41 = .ok (.iload_n 3, 1) := by decide +kernel
theorem dX4_find_42 : decode cX4_find 42 = .ok (.if_icmp .le 27, 3) := by decide +kernel
theorem dX4_find_45 : decode cX4_find 45 = .ok (.aload 5, 2) := by decide +kernel
theorem dX4_find_47 : decode cX4_find 47 = .ok (.getfield 22, 3) := by decide +kernel
theorem dX4_find_50 : decode cX4_find 50 = .ok (.iload_n 1, 1) := by decide +kernel
theorem dX4_find_51 : decode cX4_find 51 = .ok (.invokevirtual 43, 3) := by decide +kernel
theorem dX4_find_54 : decode cX4_find 54 = .ok (.ifCond .eq 15, 3) := by decide +kernel
theorem dX4_find_57 : decode cX4_find 57 = .ok (.iload 4, 2) := by decide +kernel
theorem dX4_find_59 : decode cX4_find 59 = .ok (.istore_n 2, 1) := by decide +kernel
theorem dX4_find_60 : decode cX4_find 60 = .ok (.aload 5, 2) := by decide +kernel
theorem dX4_find_62 : decode cX4_find 62 = .ok (.getfield 22, 3) := by decide +kernel
theorem dX4_find_65 : decode cX4_find 65 = .ok (.getfield 40, 3) := by decide +kernel
theorem dX4_find_68 : decode cX4_find 68 = .ok (.istore_n 3, 1) := by decide +kernel
theorem dX4_find_69 : decode cX4_find 69 = .ok (.iinc 4 1, 3) := by decide +kernel
theorem dX4_find_72 : decode cX4_find 72 = .ok (.goto (-65), 3) := by decide +kernel
theorem dX4_find_75 : decode cX4_find 75 = .ok (.iload_n 2, 1) := by decide +kernel
theorem dX4_find_76 : decode cX4_find 76 = .ok (.ireturn, 1) := by decide +kernel
theorem dX4_narrow_0 : decode cX4_narrow 0 = .ok (.iload_n 2, 1) := by decide +kernel
theorem dX4_narrow_1 : decode cX4_narrow 1 = .ok (.iconst (-1), 1) := by decide +kernel
theorem dX4_narrow_2 : decode cX4_narrow 2 = .ok (.if_icmp .ne 7, 3) := by decide +kernel
theorem dX4_narrow_5 : decode cX4_narrow 5 = .ok (.iconst (-1), 1) := by decide +kernel
theorem dX4_narrow_6 : decode cX4_narrow 6 = .ok (.goto 15, 3) := by decide +kernel
theorem dX4_narrow_9 : decode cX4_narrow 9 = .ok (.aload_n 0, 1) := by decide +kernel
theorem dX4_narrow_10 : decode cX4_narrow 10 = .ok (.getfield 11, 3) := by decide +kernel
theorem dX4_narrow_13 : decode cX4_narrow 13 = .ok (.iload_n 2, 1) := by decide +kernel
theorem dX4_narrow_14 : decode cX4_narrow 14 = .ok (.aaload, 1) := by decide +kernel
theorem dX4_narrow_15 : decode cX4_narrow 15 = .ok (.getfield 22, 3) := by decide +kernel
theorem dX4_narrow_18 : decode cX4_narrow 18 = .ok (.getfield 40, 3) := by decide +kernel
theorem dX4_narrow_21 : decode cX4_narrow 21 = .ok (.istore_n 3, 1) := by decide +kernel
theorem dX4_narrow_22 : decode cX4_narrow 22 = .ok (.iload_n 3, 1) := by decide +kernel
theorem dX4_narrow_23 : decode cX4_narrow 23 = .ok (.iconst 0, 1) := by decide +kernel
theorem dX4_narrow_24 : decode cX4_narrow 24 = .ok (.invokestatic 47, 3) := by decide +kernel
theorem dX4_narrow_27 : decode cX4_narrow 27 = .ok (.istore 4, 2) := by decide +kernel
theorem dX4_narrow_29 : decode cX4_narrow 29 = .ok (.iload 4, 2) := by decide +kernel
theorem dX4_narrow_31 : decode cX4_narrow 31 = .ok (.bipush 16, 2) := by decide +kernel
theorem dX4_narrow_33 : decode cX4_narrow 33 = .ok (.if_icmp .ge 23, 3) := by decide +kernel
theorem dX4_narrow_36 : decode cX4_narrow 36 = .ok (.aload_n 0, 1) := by decide +kernel
theorem dX4_narrow_37 : decode cX4_narrow 37 = .ok (.iload_n 1, 1) := by decide +kernel
theorem dX4_narrow_38 : decode cX4_narrow 38 = .ok (.iload 4, 2) := by decide +kernel
theorem dX4_narrow_40 : decode cX4_narrow 40 = .ok (.iload_n 3, 1) := by decide +kernel
theorem dX4_narrow_41 : decode cX4_narrow 41 = .ok (.invokevirtual 53, 3) := by decide +kernel
theorem dX4_narrow_44 : decode cX4_narrow 44 = .ok (.ifCond .ne 6, 3) := by decide +kernel
theorem dX4_narrow_47 : decode cX4_narrow 47 = .ok (.iload 4, 2) := by decide +kernel
theorem dX4_narrow_49 : decode cX4_narrow 49 = .ok (.ireturn, 1) := by decide +kernel
theorem dX4_narrow_50 : decode cX4_narrow 50 = .ok (.iinc 4 1, 3) := by decide +kernel
theorem dX4_narrow_53 : decode cX4_narrow 53 = .ok (.goto (-24), 3) := by decide +kernel
theorem dX4_narrow_56 : decode cX4_narrow 56 = .ok (.bipush 16, 2) := by decide +kernel
theorem dX4_narrow_58 : decode cX4_narrow 58 = .ok (.ireturn, 1) := by decide +kernel
theorem dX4_hidesLonger_0 : decode cX4_hidesLonger 0 = .ok (.iconst 0, 1) := by decide +kernel
theorem dX4_hidesLonger_1 : decode cX4_hidesLonger 1 = .ok (.istore 4, 2) := by decide +kernel
theorem dX4_hidesLonger_3 : decode cX4_hidesLonger 3 = .ok (.iload 4, 2) := by decide +kernel
theorem dX4_hidesLonger_5 : decode cX4_hidesLonger 5 = .ok (.aload_n 0, 1) := by decide +kernel
theorem dX4_hidesLonger_6 : decode cX4_hidesLonger 6 = .ok (.getfield 17, 3) := by decide +kernel
theorem dX4_hidesLonger_9 : decode cX4_hidesLonger 9 = .ok (.if_icmp .ge 53, 3) := by decide +kernel
theorem dX4_hidesLonger_12 : decode cX4_hidesLonger 12 = .ok (.aload_n 0, 1) := by decide +kernel
theorem dX4_hidesLonger_13 : decode cX4_hidesLonger 13 = .ok (.getfield 11, 3) := by decide +kernel
theorem dX4_hidesLonger_16 : decode cX4_hidesLonger 16 = .ok (.iload 4, 2) := by decide +kernel
theorem dX4_hidesLonger_18 : decode cX4_hidesLonger 18 = .ok (.aaload, 1) := by decide +kernel
theorem dX4_hidesLonger_19 : decode cX4_hidesLonger 19 = .ok (.astore 5, 2) := by decide +kernel
theorem dX4_hidesLonger_21 : decode cX4_hidesLonger 21 = .ok (.aload 5, 2) := by decide +kernel
theorem dX4_hidesLonger_23 : decode cX4_hidesLonger 23 = .ok (.getfield 32, 3) := by decide +kernel
theorem dX4_hidesLonger_26 : decode cX4_hidesLonger 26 = .ok (.ifCond .ne 30, 3) := by decide +kernel
theorem dX4_hidesLonger_29 : decode cX4_hidesLonger 29 = .ok (.aload 5, 2) := by decide +kernel
theorem dX4_hidesLonger_31 : decode cX4_hidesLonger 31 = .ok (.getfield 22, 3) := by decide +kernel
theorem dX4_hidesLonger_34 : decode cX4_hidesLonger 34 = .ok (.getfield 40, 3) := by decide +kernel
theorem dX4_hidesLonger_37 : decode cX4_hidesLonger 37 = .ok (.iload_n 3, 1) := by decide +kernel
theorem dX4_hidesLonger_38 : decode cX4_hidesLonger 38 = .ok (.if_icmp .le 18, 3) := by decide +kernel
theorem dX4_hidesLonger_41 : decode cX4_hidesLonger 41 = .ok (.aload 5, 2) := by decide +kernel
theorem dX4_hidesLonger_43 : decode cX4_hidesLonger 43 = .ok (.getfield 22, 3) := by decide +kernel
theorem dX4_hidesLonger_46 : decode cX4_hidesLonger 46 = .ok (.iload_n 1, 1) := by decide +kernel
theorem dX4_hidesLonger_47 : decode cX4_hidesLonger 47 = .ok (.iload_n 2, 1) := by decide +kernel
theorem dX4_hidesLonger_48 : decode cX4_hidesLonger 48 = .ok (.invokevirtual 57, 3) := by decide +kernel
theorem dX4_hidesLonger_51 : decode cX4_hidesLonger 51 = .ok (.ifCond .eq 5, 3) := by decide +kernel
theorem dX4_hidesLonger_54 : decode cX4_hidesLonger 54 = .ok (.iconst 1, 1) := by decide +kernel
theorem dX4_hidesLonger_55 : decode cX4_hidesLonger 55 = .ok (.ireturn, 1) := by decide +kernel
theorem dX4_hidesLonger_56 : decode cX4_hidesLonger 56 = .ok (.iinc 4 1, 3) := by decide +kernel
theorem dX4_hidesLonger_59 : decode cX4_hidesLonger 59 = .ok (.goto (-56), 3) := by decide +kernel
theorem dX4_hidesLonger_62 : decode cX4_hidesLonger 62 = .ok (.iconst 0, 1) := by decide +kernel
theorem dX4_hidesLonger_63 : decode cX4_hidesLonger 63 = .ok (.ireturn, 1) := by decide +kernel
theorem dX5_init_0 : decode cX5_init 0 = .ok (.aload_n 0, 1) := by decide +kernel
theorem dX5_init_1 : decode cX5_init 1 = .ok (.invokespecial 3, 3) := by decide +kernel
theorem dX5_init_4 : decode cX5_init 4 = .ok (.aload_n 0, 1) := by decide +kernel
theorem dX5_init_5 : decode cX5_init 5 = .ok (.bipush 8, 2) := by decide +kernel
theorem dX5_init_7 : decode cX5_init 7 = .ok (.anewarray 9, 3) := by decide +kernel
theorem dX5_init_10 : decode cX5_init 10 = .ok (.putfield 11, 3) := by decide +kernel
theorem dX5_init_13 : decode cX5_init 13 = .ok (.aload_n 0, 1) := by decide +kernel
theorem dX5_init_14 : decode cX5_init 14 = .ok (.bipush 32, 2) := by decide +kernel
theorem dX5_init_16 : decode cX5_init 16 = .ok (.newarray .boolean, 2) := by decide +kernel
theorem dX5_init_18 : decode cX5_init 18 = .ok (.putfield 17, 3) := by decide +kernel
theorem dX5_init_21 : decode cX5_init 21 = .ok (.aload_n 0, 1) := by decide +kernel
theorem dX5_init_22 : decode cX5_init 22 = .ok (.iconst 0, 1) := by decide +kernel
theorem dX5_init_23 : decode cX5_init 23 = .ok (.putfield 21, 3) := by decide +kernel
theorem dX5_init_26 : decode cX5_init 26 = .ok (.iconst 0, 1) := by decide +kernel
theorem dX5_init_27 : decode cX5_init 27 = .ok (.istore_n 1, 1) := by decide +kernel
theorem dX5_init_28 : decode cX5_init 28 = .ok (.iload_n 1, 1) := by decide +kernel
theorem dX5_init_29 : decode cX5_init 29 = .ok (.bipush 8, 2) := by decide +kernel
theorem dX5_init_31 : decode cX5_init 31 = .ok (.if_icmp .ge 22, 3) := by decide +kernel
theorem dX5_init_34 : decode cX5_init 34 = .ok (.aload_n 0, 1) := by decide +kernel
theorem dX5_init_35 : decode cX5_init 35 = .ok (.getfield 11, 3) := by decide +kernel
theorem dX5_init_38 : decode cX5_init 38 = .ok (.iload_n 1, 1) := by decide +kernel
theorem dX5_init_39 : decode cX5_init 39 = .ok (.new 9, 3) := by decide +kernel
theorem dX5_init_42 : decode cX5_init 42 = .ok (.dup, 1) := by decide +kernel
theorem dX5_init_43 : decode cX5_init 43 = .ok (.invokespecial 25, 3) := by decide +kernel
theorem dX5_init_46 : decode cX5_init 46 = .ok (.aastore, 1) := by decide +kernel
theorem dX5_init_47 : decode cX5_init 47 = .ok (.iinc 1 1, 3) := by decide +kernel
theorem dX5_init_50 : decode cX5_init 50 = .ok (.goto (-22), 3) := by decide +kernel
theorem dX5_init_53 : decode cX5_init 53 = .ok (.return_, 1) := by decide +kernel
theorem dX5_find_0 : decode cX5_find 0 = .ok (.iconst 0, 1) := by decide +kernel
theorem dX5_find_1 : decode cX5_find 1 = .ok (.istore_n 3, 1) := by decide +kernel
theorem dX5_find_2 : decode cX5_find 2 = .ok (.iload_n 3, 1) := by decide +kernel
theorem dX5_find_3 : decode cX5_find 3 = .ok (.aload_n 0, 1) := by decide +kernel
theorem dX5_find_4 : decode cX5_find 4 = .ok (.getfield 21, 3) := by decide +kernel
theorem dX5_find_7 : decode cX5_find 7 = .ok (.if_icmp .ge 48, 3) := by decide +kernel
theorem dX5_find_10 : decode cX5_find 10 = .ok (.aload_n 0, 1) := by decide +kernel
theorem dX5_find_11 : decode cX5_find 11 = .ok (.getfield 11, 3) := by decide +kernel
theorem dX5_find_14 : decode cX5_find 14 = .ok (.iload_n 3, 1) := by decide +kernel
theorem dX5_find_15 : decode cX5_find 15 = .ok (.aaload, 1) := by decide +kernel
theorem dX5_find_16 : decode cX5_find 16 = .ok (.astore 4, 2) := by decide +kernel
theorem dX5_find_18 : decode cX5_find 18 = .ok (.aload 4, 2) := by decide +kernel
theorem dX5_find_20 : decode cX5_find 20 = .ok (.getfield 26, 3) := by decide +kernel
theorem dX5_find_23 : decode cX5_find 23 = .ok (.ifCond .ne 26, 3) := by decide +kernel
theorem dX5_find_26 : decode cX5_find 26 = .ok (.aload 4, 2) := by decide +kernel
theorem dX5_find_28 : decode cX5_find 28 = .ok (.iload_n 2, 1) := by decide +kernel
theorem dX5_find_29 : decode cX5_find 29 = .ok (.invokevirtual 30, 3) := by decide +kernel
theorem dX5_find_32 : decode cX5_find 32 = .ok (.ifCond .ne 17, 3) := by decide +kernel
theorem dX5_find_35 : decode cX5_find 35 = .ok (.aload 4, 2) := by decide +kernel
theorem dX5_find_37 : decode cX5_find 37 = .ok (.getfield 34, 3) := by decide +kernel
theorem dX5_find_40 : decode cX5_find 40 = .ok (.iload_n 1, 1) := by decide +kernel
theorem dX5_find_41 : decode cX5_find 41 = .ok (.invokevirtual 38, 3) := by decide +kernel
theorem dX5_find_44 : decode cX5_find 44 = .ok (.ifCond .eq 5, 3) := by decide +kernel
theorem dX5_find_47 : decode cX5_find 47 = .ok (.iload_n 3, 1) := by decide +kernel
theorem dX5_find_48 : decode cX5_find 48 = .ok (.ireturn, 1) := by decide +kernel
theorem dX5_find_49 : decode cX5_find 49 = .ok (.iinc 3 1, 3) := by decide +kernel
theorem dX5_find_52 : decode cX5_find 52 = .ok (.goto (-50), 3) := by decide +kernel
theorem dX5_find_55 : decode cX5_find 55 = .ok (.iconst (-1), 1) := by decide +kernel
theorem dX5_find_56 : decode cX5_find 56 = .ok (.ireturn, 1) := by decide +kernel
theorem dX5_solicitMeeting_0 : decode cX5_solicitMeeting 0 = .ok (.iconst 0, 1) := by decide +kernel
theorem dX5_solicitMeeting_1 : decode cX5_solicitMeeting 1 = .ok (.istore_n 2, 1) := by decide +kernel
theorem dX5_solicitMeeting_2 : decode cX5_solicitMeeting 2 = .ok (.iconst 0, 1) := by decide +kernel
theorem dX5_solicitMeeting_3 : decode cX5_solicitMeeting 3 = .ok (.istore_n 3, 1) := by decide +kernel
theorem dX5_solicitMeeting_4 : decode cX5_solicitMeeting 4 = .ok (.iload_n 3, 1) := by decide +kernel
theorem dX5_solicitMeeting_5 : decode cX5_solicitMeeting 5 = .ok (.aload_n 0, 1) := by decide +kernel
theorem dX5_solicitMeeting_6 : decode cX5_solicitMeeting 6 = .ok (.getfield 21, 3) := by decide +kernel
theorem dX5_solicitMeeting_9 : decode cX5_solicitMeeting 9 = .ok (.if_icmp .ge 53, 3) := by decide +kernel
theorem dX5_solicitMeeting_12 : decode cX5_solicitMeeting 12 = .ok (.aload_n 0, 1) := by decide +kernel
theorem dX5_solicitMeeting_13 : decode cX5_solicitMeeting 13 = .ok (.getfield 11, 3) := by decide +kernel
theorem dX5_solicitMeeting_16 : decode cX5_solicitMeeting 16 = .ok (.iload_n 3, 1) := by decide +kernel
theorem dX5_solicitMeeting_17 : decode cX5_solicitMeeting 17 = .ok (.aaload, 1) := by decide +kernel
theorem dX5_solicitMeeting_18 : decode cX5_solicitMeeting 18 = .ok (.astore 4, 2) := by decide +kernel
theorem dX5_solicitMeeting_20 : decode cX5_solicitMeeting 20 = .ok (.aload 4, 2) := by decide +kernel
theorem dX5_solicitMeeting_22 : decode cX5_solicitMeeting 22 = .ok (.getfield 26, 3) := by decide +kernel
theorem dX5_solicitMeeting_25 : decode cX5_solicitMeeting 25 = .ok (.ifCond .ne 31, 3) := by decide +kernel
theorem dX5_solicitMeeting_28 : decode cX5_solicitMeeting 28 = .ok (.aload 4, 2) := by decide +kernel
theorem dX5_solicitMeeting_30 : decode cX5_solicitMeeting 30 = .ok (.getfield 34, 3) := by decide +kernel
theorem dX5_solicitMeeting_33 : decode cX5_solicitMeeting 33 = .ok (.aload_n 1, 1) := by decide +kernel
theorem dX5_solicitMeeting_34 : decode cX5_solicitMeeting 34 = .ok (.getfield 43, 3) := by decide +kernel
theorem dX5_solicitMeeting_37 : decode cX5_solicitMeeting 37 = .ok (.aload_n 1, 1) := by decide +kernel
theorem dX5_solicitMeeting_38 : decode cX5_solicitMeeting 38 = .ok (.getfield 46, 3) := by decide +kernel
theorem dX5_solicitMeeting_41 : decode cX5_solicitMeeting 41 = .ok (.invokevirtual 49, 3) := by decide +kernel
theorem dX5_solicitMeeting_44 : decode cX5_solicitMeeting 44 = .ok (.ifCond .eq 12, 3) := by decide +kernel
theorem dX5_solicitMeeting_47 : decode cX5_solicitMeeting 47 = .ok (.aload 4, 2) := by decide +kernel
theorem dX5_solicitMeeting_49 : decode cX5_solicitMeeting 49 = .ok (.iconst 1, 1) := by decide +kernel
theorem dX5_solicitMeeting_50 : decode cX5_solicitMeeting 50 = .ok (.putfield 26, 3) := by decide +kernel
theorem dX5_solicitMeeting_53 : decode cX5_solicitMeeting 53 = .ok (.iinc 2 1, 3) := by decide +kernel
theorem dX5_solicitMeeting_56 : decode cX5_solicitMeeting 56 = .ok (.iinc 3 1, 3) := by decide +kernel
theorem dX5_solicitMeeting_59 : decode cX5_solicitMeeting 59 = .ok (.goto (-55), 3) := by decide +kernel
theorem dX5_solicitMeeting_62 : decode cX5_solicitMeeting 62 = .ok (.iload_n 2, 1) := by decide +kernel
theorem dX5_solicitMeeting_63 : decode cX5_solicitMeeting 63 = .ok (.ireturn, 1) := by decide +kernel
theorem dX5_makeRoom_0 : decode cX5_makeRoom 0 = .ok (.aload_n 0, 1) := by decide +kernel
theorem dX5_makeRoom_1 : decode cX5_makeRoom 1 = .ok (.getfield 21, 3) := by decide +kernel
theorem dX5_makeRoom_4 : decode cX5_makeRoom 4 = .ok (.iconst 1, 1) := by decide +kernel
theorem dX5_makeRoom_5 : decode cX5_makeRoom 5 = .ok (.isub, 1) := by decide +kernel
theorem dX5_makeRoom_6 : decode cX5_makeRoom 6 = .ok (.istore_n 3, 1) := by decide +kernel
theorem dX5_makeRoom_7 : decode cX5_makeRoom 7 = .ok (.iload_n 3, 1) := by decide +kernel
theorem dX5_makeRoom_8 : decode cX5_makeRoom 8 = .ok (.ifCond .lt 31, 3) := by decide +kernel
theorem dX5_makeRoom_11 : decode cX5_makeRoom 11 = .ok (.aload_n 0, 1) := by decide +kernel
theorem dX5_makeRoom_12 : decode cX5_makeRoom 12 = .ok (.getfield 11, 3) := by decide +kernel
theorem dX5_makeRoom_15 : decode cX5_makeRoom 15 = .ok (.iload_n 3, 1) := by decide +kernel
theorem dX5_makeRoom_16 : decode cX5_makeRoom 16 = .ok (.aaload, 1) := by decide +kernel
theorem dX5_makeRoom_17 : decode cX5_makeRoom 17 = .ok (.getfield 34, 3) := by decide +kernel
theorem dX5_makeRoom_20 : decode cX5_makeRoom 20 = .ok (.iload_n 1, 1) := by decide +kernel
theorem dX5_makeRoom_21 : decode cX5_makeRoom 21 = .ok (.iload_n 2, 1) := by decide +kernel
theorem dX5_makeRoom_22 : decode cX5_makeRoom 22 = .ok (.invokevirtual 49, 3) := by decide +kernel
theorem dX5_makeRoom_25 : decode cX5_makeRoom 25 = .ok (.ifCond .eq 8, 3) := by decide +kernel
theorem dX5_makeRoom_28 : decode cX5_makeRoom 28 = .ok (.aload_n 0, 1) := by decide +kernel
theorem dX5_makeRoom_29 : decode cX5_makeRoom 29 = .ok (.iload_n 3, 1) := by decide +kernel
theorem dX5_makeRoom_30 : decode cX5_makeRoom 30 = .ok (.invokevirtual 53, 3) := by decide +kernel
theorem dX5_makeRoom_33 : decode cX5_makeRoom 33 = .ok (.iinc 3 (-1), 3) := by decide +kernel
theorem dX5_makeRoom_36 : decode cX5_makeRoom 36 = .ok (.goto (-29), 3) := by decide +kernel
theorem dX5_makeRoom_39 : decode cX5_makeRoom 39 = .ok (.aload_n 0, 1) := by decide +kernel
theorem dX5_makeRoom_40 : decode cX5_makeRoom 40 = .ok (.getfield 21, 3) := by decide +kernel
theorem dX5_makeRoom_43 : decode cX5_makeRoom 43 = .ok (.bipush 8, 2) := by decide +kernel
theorem dX5_makeRoom_45 : decode cX5_makeRoom 45 = .ok (.if_icmp .lt 8, 3) := by decide +kernel
theorem dX5_makeRoom_48 : decode cX5_makeRoom 48 = .ok (.aload_n 0, 1) := by decide +kernel
theorem dX5_makeRoom_49 : decode cX5_makeRoom 49 = .ok (.iconst 0, 1) := by decide +kernel
theorem dX5_makeRoom_50 : decode cX5_makeRoom 50 = .ok (.invokevirtual 53, 3) := by decide +kernel
theorem dX5_makeRoom_53 : decode cX5_makeRoom 53 = .ok (.aload_n 0, 1) := by decide +kernel
theorem dX5_makeRoom_54 : decode cX5_makeRoom 54 = .ok (.dup, 1) := by decide +kernel
theorem dX5_makeRoom_55 : decode cX5_makeRoom 55 = .ok (.getfield 21, 3) := by decide +kernel
theorem dX5_makeRoom_58 : decode cX5_makeRoom 58 = .ok (.iconst 1, 1) := by decide +kernel
theorem dX5_makeRoom_59 : decode cX5_makeRoom 59 = .ok (.iadd, 1) := by decide +kernel
theorem dX5_makeRoom_60 : decode cX5_makeRoom 60 = .ok (.putfield 21, 3) := by decide +kernel
theorem dX5_makeRoom_63 : decode cX5_makeRoom 63 = .ok (.aload_n 0, 1) := by decide +kernel
theorem dX5_makeRoom_64 : decode cX5_makeRoom 64 = .ok (.getfield 21, 3) := by decide +kernel
theorem dX5_makeRoom_67 : decode cX5_makeRoom 67 = .ok (.iconst 1, 1) := by decide +kernel
theorem dX5_makeRoom_68 : decode cX5_makeRoom 68 = .ok (.isub, 1) := by decide +kernel
theorem dX5_makeRoom_69 : decode cX5_makeRoom 69 = .ok (.ireturn, 1) := by decide +kernel
theorem dX5_takeOut_0 : decode cX5_takeOut 0 = .ok (.aload_n 0, 1) := by decide +kernel
theorem dX5_takeOut_1 : decode cX5_takeOut 1 = .ok (.iload_n 1, 1) := by decide +kernel
theorem dX5_takeOut_2 : decode cX5_takeOut 2 = .ok (.invokevirtual 57, 3) := by decide +kernel
theorem dX5_takeOut_5 : decode cX5_takeOut 5 = .ok (.pop, 1) := by decide +kernel
theorem dX5_takeOut_6 : decode cX5_takeOut 6 = .ok (.aload_n 0, 1) := by decide +kernel
theorem dX5_takeOut_7 : decode cX5_takeOut 7 = .ok (.dup, 1) := by decide +kernel
theorem dX5_takeOut_8 : decode cX5_takeOut 8 = .ok (.getfield 21, 3) := by decide +kernel
theorem dX5_takeOut_11 : decode cX5_takeOut 11 = .ok (.iconst 1, 1) := by decide +kernel
theorem dX5_takeOut_12 : decode cX5_takeOut 12 = .ok (.isub, 1) := by decide +kernel
theorem dX5_takeOut_13 : decode cX5_takeOut 13 = .ok (.putfield 21, 3) := by decide +kernel
theorem dX5_takeOut_16 : decode cX5_takeOut 16 = .ok (.return_, 1) := by decide +kernel
theorem dX5_moveToEnd_0 : decode cX5_moveToEnd 0 = .ok (.aload_n 0, 1) := by decide +kernel
theorem dX5_moveToEnd_1 : decode cX5_moveToEnd 1 = .ok (.getfield 11, 3) := by decide +kernel
theorem dX5_moveToEnd_4 : decode cX5_moveToEnd 4 = .ok (.iload_n 1, 1) := by decide +kernel
theorem dX5_moveToEnd_5 : decode cX5_moveToEnd 5 = .ok (.aaload, 1) := by decide +kernel
theorem dX5_moveToEnd_6 : decode cX5_moveToEnd 6 = .ok (.astore_n 2, 1) := by decide +kernel
theorem dX5_moveToEnd_7 : decode cX5_moveToEnd 7 = .ok (.iload_n 1, 1) := by decide +kernel
theorem dX5_moveToEnd_8 : decode cX5_moveToEnd 8 = .ok (.istore_n 3, 1) := by decide +kernel
theorem dX5_moveToEnd_9 : decode cX5_moveToEnd 9 = .ok (.iload_n 3, 1) := by decide +kernel
theorem dX5_moveToEnd_10 : decode cX5_moveToEnd 10 = .ok (.aload_n 0, 1) := by decide +kernel
theorem dX5_moveToEnd_11 : decode cX5_moveToEnd 11 = .ok (.getfield 21, 3) := by decide +kernel
theorem dX5_moveToEnd_14 : decode cX5_moveToEnd 14 = .ok (.iconst 1, 1) := by decide +kernel
theorem dX5_moveToEnd_15 : decode cX5_moveToEnd 15 = .ok (.isub, 1) := by decide +kernel
theorem dX5_moveToEnd_16 : decode cX5_moveToEnd 16 = .ok (.if_icmp .ge 32, 3) := by decide +kernel
theorem dX5_moveToEnd_19 : decode cX5_moveToEnd 19 = .ok (.aload_n 0, 1) := by decide +kernel
theorem dX5_moveToEnd_20 : decode cX5_moveToEnd 20 = .ok (.getfield 11, 3) := by decide +kernel
theorem dX5_moveToEnd_23 : decode cX5_moveToEnd 23 = .ok (.iload_n 3, 1) := by decide +kernel
theorem dX5_moveToEnd_24 : decode cX5_moveToEnd 24 = .ok (.aload_n 0, 1) := by decide +kernel
theorem dX5_moveToEnd_25 : decode cX5_moveToEnd 25 = .ok (.getfield 11, 3) := by decide +kernel
theorem dX5_moveToEnd_28 : decode cX5_moveToEnd 28 = .ok (.iload_n 3, 1) := by decide +kernel
theorem dX5_moveToEnd_29 : decode cX5_moveToEnd 29 = .ok (.iconst 1, 1) := by decide +kernel
theorem dX5_moveToEnd_30 : decode cX5_moveToEnd 30 = .ok (.iadd, 1) := by decide +kernel
theorem dX5_moveToEnd_31 : decode cX5_moveToEnd 31 = .ok (.aaload, 1) := by decide +kernel
theorem dX5_moveToEnd_32 : decode cX5_moveToEnd 32 = .ok (.aastore, 1) := by decide +kernel
theorem dX5_moveToEnd_33 : decode cX5_moveToEnd 33 = .ok (.aload_n 0, 1) := by decide +kernel
theorem dX5_moveToEnd_34 : decode cX5_moveToEnd 34 = .ok (.getfield 11, 3) := by decide +kernel
theorem dX5_moveToEnd_37 : decode cX5_moveToEnd 37 = .ok (.iload_n 3, 1) := by decide +kernel
theorem dX5_moveToEnd_38 : decode cX5_moveToEnd 38 = .ok (.iconst 1, 1) := by decide +kernel
theorem dX5_moveToEnd_39 : decode cX5_moveToEnd 39 = .ok (.iadd, 1) := by decide +kernel
theorem dX5_moveToEnd_40 : decode cX5_moveToEnd 40 = .ok (.aload_n 2, 1) := by decide +kernel
theorem dX5_moveToEnd_41 : decode cX5_moveToEnd 41 = .ok (.aastore, 1) := by decide +kernel
theorem dX5_moveToEnd_42 : decode cX5_moveToEnd 42 = .ok (.iinc 3 1, 3) := by decide +kernel
theorem dX5_moveToEnd_45 : decode cX5_moveToEnd 45 = .ok (.goto (-36), 3) := by decide +kernel
theorem dX5_moveToEnd_48 : decode cX5_moveToEnd 48 = .ok (.aload_n 2, 1) := by decide +kernel
theorem dX5_moveToEnd_49 : decode cX5_moveToEnd 49 = .ok (.areturn, 1) := by decide +kernel
theorem dX5_countUnreachable_0 : decode cX5_countUnreachable 0 = .ok (.iconst 0, 1) := by decide +kernel
theorem dX5_countUnreachable_1 : decode cX5_countUnreachable 1 = .ok (.istore_n 1, 1) := by decide +kernel
theorem dX5_countUnreachable_2 : decode cX5_countUnreachable 2 = .ok (.iconst 0, 1) := by decide +kernel
theorem dX5_countUnreachable_3 : decode cX5_countUnreachable 3 = .ok (.istore_n 2, 1) := by decide +kernel
theorem dX5_countUnreachable_4 : decode cX5_countUnreachable 4 = .ok (.iload_n 2, 1) := by decide +kernel
theorem dX5_countUnreachable_5 : decode cX5_countUnreachable 5 = .ok (.bipush 32, 2) := by decide +kernel
theorem dX5_countUnreachable_7 : decode cX5_countUnreachable 7 = .ok (.if_icmp .ge 21, 3) := by decide +kernel
theorem dX5_countUnreachable_10 : decode cX5_countUnreachable 10 = .ok (.aload_n 0, 1) := by decide +kernel
theorem dX5_countUnreachable_11 : decode cX5_countUnreachable 11 = .ok (.getfield 17, 3) := by decide +kernel
theorem dX5_countUnreachable_14 : decode cX5_countUnreachable 14 = .ok (.iload_n 2, 1) := by decide +kernel
theorem dX5_countUnreachable_15 : decode cX5_countUnreachable 15 = .ok (.baload, 1) := by decide +kernel
theorem dX5_countUnreachable_16 : decode cX5_countUnreachable 16 = .ok (.ifCond .eq 6, 3) := by decide +kernel
theorem dX5_countUnreachable_19 : decode cX5_countUnreachable 19 = .ok (.iinc 1 1, 3) := by decide +kernel
theorem dX5_countUnreachable_22 : decode cX5_countUnreachable 22 = .ok (.iinc 2 1, 3) := by decide +kernel
theorem dX5_countUnreachable_25 : decode cX5_countUnreachable 25 = .ok (.goto (-21), 3) := by decide +kernel
theorem dX5_countUnreachable_28 : decode cX5_countUnreachable 28 = .ok (.iload_n 1, 1) := by decide +kernel
theorem dX5_countUnreachable_29 : decode cX5_countUnreachable 29 = .ok (.ireturn, 1) := by decide +kernel
theorem dX6_init_0 : decode cX6_init 0 = .ok (.aload_n 0, 1) := by decide +kernel
theorem dX6_init_1 : decode cX6_init 1 = .ok (.invokespecial 3, 3) := by decide +kernel
theorem dX6_init_4 : decode cX6_init 4 = .ok (.aload_n 0, 1) := by decide +kernel
theorem dX6_init_5 : decode cX6_init 5 = .ok (.iconst 4, 1) := by decide +kernel
theorem dX6_init_6 : decode cX6_init 6 = .ok (.newarray .boolean, 2) := by decide +kernel
theorem dX6_init_8 : decode cX6_init 8 = .ok (.putfield 9, 3) := by decide +kernel
theorem dX6_init_11 : decode cX6_init 11 = .ok (.aload_n 0, 1) := by decide +kernel
theorem dX6_init_12 : decode cX6_init 12 = .ok (.iconst 4, 1) := by decide +kernel
theorem dX6_init_13 : decode cX6_init 13 = .ok (.newarray .int, 2) := by decide +kernel
theorem dX6_init_15 : decode cX6_init 15 = .ok (.putfield 15, 3) := by decide +kernel
theorem dX6_init_18 : decode cX6_init 18 = .ok (.aload_n 0, 1) := by decide +kernel
theorem dX6_init_19 : decode cX6_init 19 = .ok (.bipush 12, 2) := by decide +kernel
theorem dX6_init_21 : decode cX6_init 21 = .ok (.anewarray 19, 3) := by decide +kernel
theorem dX6_init_24 : decode cX6_init 24 = .ok (.putfield 21, 3) := by decide +kernel
theorem dX6_init_27 : decode cX6_init 27 = .ok (.aload_n 0, 1) := by decide +kernel
theorem dX6_init_28 : decode cX6_init 28 = .ok (.bipush 12, 2) := by decide +kernel
theorem dX6_init_30 : decode cX6_init 30 = .ok (.newarray .int, 2) := by decide +kernel
theorem dX6_init_32 : decode cX6_init 32 = .ok (.putfield 25, 3) := by decide +kernel
theorem dX6_init_35 : decode cX6_init 35 = .ok (.aload_n 0, 1) := by decide +kernel
theorem dX6_init_36 : decode cX6_init 36 = .ok (.iconst 0, 1) := by decide +kernel
theorem dX6_init_37 : decode cX6_init 37 = .ok (.putfield 28, 3) := by decide +kernel
theorem dX6_init_40 : decode cX6_init 40 = .ok (.iconst 0, 1) := by decide +kernel
theorem dX6_init_41 : decode cX6_init 41 = .ok (.istore_n 1, 1) := by decide +kernel
theorem dX6_init_42 : decode cX6_init 42 = .ok (.iload_n 1, 1) := by decide +kernel
theorem dX6_init_43 : decode cX6_init 43 = .ok (.bipush 12, 2) := by decide +kernel
theorem dX6_init_45 : decode cX6_init 45 = .ok (.if_icmp .ge 22, 3) := by decide +kernel
theorem dX6_init_48 : decode cX6_init 48 = .ok (.aload_n 0, 1) := by decide +kernel
theorem dX6_init_49 : decode cX6_init 49 = .ok (.getfield 21, 3) := by decide +kernel
theorem dX6_init_52 : decode cX6_init 52 = .ok (.iload_n 1, 1) := by decide +kernel
theorem dX6_init_53 : decode cX6_init 53 = .ok (.new 19, 3) := by decide +kernel
theorem dX6_init_56 : decode cX6_init 56 = .ok (.dup, 1) := by decide +kernel
theorem dX6_init_57 : decode cX6_init 57 = .ok (.invokespecial 32, 3) := by decide +kernel
theorem dX6_init_60 : decode cX6_init 60 = .ok (.aastore, 1) := by decide +kernel
theorem dX6_init_61 : decode cX6_init 61 = .ok (.iinc 1 1, 3) := by decide +kernel
theorem dX6_init_64 : decode cX6_init 64 = .ok (.goto (-22), 3) := by decide +kernel
theorem dX6_init_67 : decode cX6_init 67 = .ok (.return_, 1) := by decide +kernel
theorem dX6_placeOf_0 : decode cX6_placeOf 0 = .ok (.iconst 0, 1) := by decide +kernel
theorem dX6_placeOf_1 : decode cX6_placeOf 1 = .ok (.istore_n 3, 1) := by decide +kernel
theorem dX6_placeOf_2 : decode cX6_placeOf 2 = .ok (.iload_n 3, 1) := by decide +kernel
theorem dX6_placeOf_3 : decode cX6_placeOf 3 = .ok (.aload_n 0, 1) := by decide +kernel
theorem dX6_placeOf_4 : decode cX6_placeOf 4 = .ok (.getfield 28, 3) := by decide +kernel
theorem dX6_placeOf_7 : decode cX6_placeOf 7 = .ok (.if_icmp .ge 25, 3) := by decide +kernel
theorem dX6_placeOf_10 : decode cX6_placeOf 10 = .ok (.aload_n 0, 1) := by decide +kernel
theorem dX6_placeOf_11 : decode cX6_placeOf 11 = .ok (.getfield 21, 3) := by decide +kernel
theorem dX6_placeOf_14 : decode cX6_placeOf 14 = .ok (.iload_n 3, 1) := by decide +kernel
theorem dX6_placeOf_15 : decode cX6_placeOf 15 = .ok (.aaload, 1) := by decide +kernel
theorem dX6_placeOf_16 : decode cX6_placeOf 16 = .ok (.iload_n 1, 1) := by decide +kernel
theorem dX6_placeOf_17 : decode cX6_placeOf 17 = .ok (.iload_n 2, 1) := by decide +kernel
theorem dX6_placeOf_18 : decode cX6_placeOf 18 = .ok (.invokevirtual 33, 3) := by decide +kernel
theorem dX6_placeOf_21 : decode cX6_placeOf 21 = .ok (.ifCond .eq 5, 3) := by decide +kernel
theorem dX6_placeOf_24 : decode cX6_placeOf 24 = .ok (.iload_n 3, 1) := by decide +kernel
theorem dX6_placeOf_25 : decode cX6_placeOf 25 = .ok (.ireturn, 1) := by decide +kernel
theorem dX6_placeOf_26 : decode cX6_placeOf 26 = .ok (.iinc 3 1, 3) := by decide +kernel
theorem dX6_placeOf_29 : decode cX6_placeOf 29 = .ok (.goto (-27), 3) := by decide +kernel
theorem dX6_placeOf_32 : decode cX6_placeOf 32 = .ok (.iconst (-1), 1) := by decide +kernel
theorem dX6_placeOf_33 : decode cX6_placeOf 33 = .ok (.ireturn, 1) := by decide +kernel
theorem dX6_add_0 : decode cX6_add 0 = .ok (.aload_n 0, 1) := by decide +kernel
theorem dX6_add_1 : decode cX6_add 1 = .ok (.getfield 21, 3) := by decide +kernel
theorem dX6_add_4 : decode cX6_add 4 = .ok (.aload_n 0, 1) := by decide +kernel
theorem dX6_add_5 : decode cX6_add 5 = .ok (.getfield 28, 3) := by decide +kernel
theorem dX6_add_8 : decode cX6_add 8 = .ok (.aaload, 1) := by decide +kernel
theorem dX6_add_9 : decode cX6_add 9 = .ok (.iload_n 1, 1) := by decide +kernel
theorem dX6_add_10 : decode cX6_add 10 = .ok (.iload_n 2, 1) := by decide +kernel
theorem dX6_add_11 : decode cX6_add 11 = .ok (.invokevirtual 37, 3) := by decide +kernel
theorem dX6_add_14 : decode cX6_add 14 = .ok (.aload_n 0, 1) := by decide +kernel
theorem dX6_add_15 : decode cX6_add 15 = .ok (.getfield 25, 3) := by decide +kernel
theorem dX6_add_18 : decode cX6_add 18 = .ok (.aload_n 0, 1) := by decide +kernel
theorem dX6_add_19 : decode cX6_add 19 = .ok (.getfield 28, 3) := by decide +kernel
theorem dX6_add_22 : decode cX6_add 22 = .ok (.iload_n 3, 1) := by decide +kernel
theorem dX6_add_23 : decode cX6_add 23 = .ok (.iastore, 1) := by decide +kernel
theorem dX6_add_24 : decode cX6_add 24 = .ok (.aload_n 0, 1) := by decide +kernel
theorem dX6_add_25 : decode cX6_add 25 = .ok (.dup, 1) := by decide +kernel
theorem dX6_add_26 : decode cX6_add 26 = .ok (.getfield 28, 3) := by decide +kernel
