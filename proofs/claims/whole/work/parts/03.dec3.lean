theorem dX8_setUp_25 : decode cX8_setUp 25 = .ok (.aload_n 0, 1) := by decide +kernel
theorem dX8_setUp_26 : decode cX8_setUp 26 = .ok (.getfield 51, 3) := by decide +kernel
theorem dX8_setUp_29 : decode cX8_setUp 29 = .ok (.iload_n 1, 1) := by decide +kernel
theorem dX8_setUp_30 : decode cX8_setUp 30 = .ok (.baload, 1) := by decide +kernel
theorem dX8_setUp_31 : decode cX8_setUp 31 = .ok (.ifCond .ne 7, 3) := by decide +kernel
theorem dX8_setUp_34 : decode cX8_setUp 34 = .ok (.iconst 1, 1) := by decide +kernel
theorem dX8_setUp_35 : decode cX8_setUp 35 = .ok (.goto 4, 3) := by decide +kernel
theorem dX8_setUp_38 : decode cX8_setUp 38 = .ok (.iconst 0, 1) := by decide +kernel
theorem dX8_setUp_39 : decode cX8_setUp 39 = .ok (.istore_n 3, 1) := by decide +kernel
theorem dX8_setUp_40 : decode cX8_setUp 40 = .ok (.aload_n 0, 1) := by decide +kernel
theorem dX8_setUp_41 : decode cX8_setUp 41 = .ok (.getfield 51, 3) := by decide +kernel
theorem dX8_setUp_44 : decode cX8_setUp 44 = .ok (.iload_n 1, 1) := by decide +kernel
theorem dX8_setUp_45 : decode cX8_setUp 45 = .ok (.iload_n 2, 1) := by decide +kernel
theorem dX8_setUp_46 : decode cX8_setUp 46 = .ok (.ifCond .ne 7, 3) := by decide +kernel
theorem dX8_setUp_49 : decode cX8_setUp 49 = .ok (.iconst 1, 1) := by decide +kernel
theorem dX8_setUp_50 : decode cX8_setUp 50 = .ok (.goto 4, 3) := by decide +kernel
theorem dX8_setUp_53 : decode cX8_setUp 53 = .ok (.iconst 0, 1) := by decide +kernel
theorem dX8_setUp_54 : decode cX8_setUp 54 = .ok (.bastore, 1) := by decide +kernel
theorem dX8_setUp_55 : decode cX8_setUp 55 = .ok (.iload_n 3, 1) := by decide +kernel
theorem dX8_setUp_56 : decode cX8_setUp 56 = .ok (.ireturn, 1) := by decide +kernel
theorem dX8_serverFor_0 : decode cX8_serverFor 0 = .ok (.iconst (-1), 1) := by decide +kernel
theorem dX8_serverFor_1 : decode cX8_serverFor 1 = .ok (.istore_n 2, 1) := by decide +kernel
theorem dX8_serverFor_2 : decode cX8_serverFor 2 = .ok (.iconst 0, 1) := by decide +kernel
theorem dX8_serverFor_3 : decode cX8_serverFor 3 = .ok (.istore_n 3, 1) := by decide +kernel
theorem dX8_serverFor_4 : decode cX8_serverFor 4 = .ok (.iload_n 3, 1) := by decide +kernel
theorem dX8_serverFor_5 : decode cX8_serverFor 5 = .ok (.aload_n 0, 1) := by decide +kernel
theorem dX8_serverFor_6 : decode cX8_serverFor 6 = .ok (.getfield 161, 3) := by decide +kernel
theorem dX8_serverFor_9 : decode cX8_serverFor 9 = .ok (.if_icmp .ge 58, 3) := by decide +kernel
theorem dX8_serverFor_12 : decode cX8_serverFor 12 = .ok (.aload_n 0, 1) := by decide +kernel
theorem dX8_serverFor_13 : decode cX8_serverFor 13 = .ok (.getfield 42, 3) := by decide +kernel
theorem dX8_serverFor_16 : decode cX8_serverFor 16 = .ok (.iload_n 3, 1) := by decide +kernel
theorem dX8_serverFor_17 : decode cX8_serverFor 17 = .ok (.iaload, 1) := by decide +kernel
theorem dX8_serverFor_18 : decode cX8_serverFor 18 = .ok (.aload_n 0, 1) := by decide +kernel
theorem dX8_serverFor_19 : decode cX8_serverFor 19 = .ok (.getfield 45, 3) := by decide +kernel
theorem dX8_serverFor_22 : decode cX8_serverFor 22 = .ok (.iload_n 3, 1) := by decide +kernel
theorem dX8_serverFor_23 : decode cX8_serverFor 23 = .ok (.iaload, 1) := by decide +kernel
theorem dX8_serverFor_24 : decode cX8_serverFor 24 = .ok (.iload_n 1, 1) := by decide +kernel
theorem dX8_serverFor_25 : decode cX8_serverFor 25 = .ok (.invokestatic 146, 3) := by decide +kernel
theorem dX8_serverFor_28 : decode cX8_serverFor 28 = .ok (.istore 4, 2) := by decide +kernel
theorem dX8_serverFor_30 : decode cX8_serverFor 30 = .ok (.iload 4, 2) := by decide +kernel
theorem dX8_serverFor_32 : decode cX8_serverFor 32 = .ok (.ifCond .eq 27, 3) := by decide +kernel
theorem dX8_serverFor_35 : decode cX8_serverFor 35 = .ok (.iload_n 2, 1) := by decide +kernel
theorem dX8_serverFor_36 : decode cX8_serverFor 36 = .ok (.iconst (-1), 1) := by decide +kernel
theorem dX8_serverFor_37 : decode cX8_serverFor 37 = .ok (.if_icmp .eq 18, 3) := by decide +kernel
theorem dX8_serverFor_40 : decode cX8_serverFor 40 = .ok (.aload_n 0, 1) := by decide +kernel
theorem dX8_serverFor_41 : decode cX8_serverFor 41 = .ok (.getfield 45, 3) := by decide +kernel
theorem dX8_serverFor_44 : decode cX8_serverFor 44 = .ok (.iload_n 3, 1) := by decide +kernel
theorem dX8_serverFor_45 : decode cX8_serverFor 45 = .ok (.iaload, 1) := by decide +kernel
theorem dX8_serverFor_46 : decode cX8_serverFor 46 = .ok (.aload_n 0, 1) := by decide +kernel
theorem dX8_serverFor_47 : decode cX8_serverFor 47 = .ok (.getfield 45, 3) := by decide +kernel
theorem dX8_serverFor_50 : decode cX8_serverFor 50 = .ok (.iload_n 2, 1) := by decide +kernel
theorem dX8_serverFor_51 : decode cX8_serverFor 51 = .ok (.iaload, 1) := by decide +kernel
theorem dX8_serverFor_52 : decode cX8_serverFor 52 = .ok (.if_icmp .le 7, 3) := by decide +kernel
theorem dX8_serverFor_55 : decode cX8_serverFor 55 = .ok (.iload_n 3, 1) := by decide +kernel
theorem dX8_serverFor_56 : decode cX8_serverFor 56 = .ok (.goto 4, 3) := by decide +kernel
theorem dX8_serverFor_59 : decode cX8_serverFor 59 = .ok (.iload_n 2, 1) := by decide +kernel
theorem dX8_serverFor_60 : decode cX8_serverFor 60 = .ok (.istore_n 2, 1) := by decide +kernel
theorem dX8_serverFor_61 : decode cX8_serverFor 61 = .ok (.iinc 3 1, 3) := by decide +kernel
theorem dX8_serverFor_64 : decode cX8_serverFor 64 = .ok (.goto (-60), 3) := by decide +kernel
theorem dX8_serverFor_67 : decode cX8_serverFor 67 = .ok (.iload_n 2, 1) := by decide +kernel
theorem dX8_serverFor_68 : decode cX8_serverFor 68 = .ok (.iconst (-1), 1) := by decide +kernel
theorem dX8_serverFor_69 : decode cX8_serverFor 69 = .ok (.if_icmp .ne 7, 3) := by decide +kernel
theorem dX8_serverFor_72 : decode cX8_serverFor 72 = .ok (.iconst 0, 1) := by decide +kernel
theorem dX8_serverFor_73 : decode cX8_serverFor 73 = .ok (.goto 9, 3) := by decide +kernel
theorem dX8_serverFor_76 : decode cX8_serverFor 76 = .ok (.aload_n 0, 1) := by decide +kernel
theorem dX8_serverFor_77 : decode cX8_serverFor 77 = .ok (.getfield 48, 3) := by decide +kernel
theorem dX8_serverFor_80 : decode cX8_serverFor 80 = .ok (.iload_n 2, 1) := by decide +kernel
theorem dX8_serverFor_81 : decode cX8_serverFor 81 = .ok (.iaload, 1) := by decide +kernel
theorem dX8_serverFor_82 : decode cX8_serverFor 82 = .ok (.ireturn, 1) := by decide +kernel
theorem dX8_serverOf_0 : decode cX8_serverOf 0 = .ok (.aload_n 0, 1) := by decide +kernel
theorem dX8_serverOf_1 : decode cX8_serverOf 1 = .ok (.iload_n 1, 1) := by decide +kernel
theorem dX8_serverOf_2 : decode cX8_serverOf 2 = .ok (.invokestatic 107, 3) := by decide +kernel
theorem dX8_serverOf_5 : decode cX8_serverOf 5 = .ok (.ifCond .eq 7, 3) := by decide +kernel
theorem dX8_serverOf_8 : decode cX8_serverOf 8 = .ok (.iconst 0, 1) := by decide +kernel
theorem dX8_serverOf_9 : decode cX8_serverOf 9 = .ok (.goto 4, 3) := by decide +kernel
theorem dX8_serverOf_12 : decode cX8_serverOf 12 = .ok (.iconst 1, 1) := by decide +kernel
theorem dX8_serverOf_13 : decode cX8_serverOf 13 = .ok (.putfield 99, 3) := by decide +kernel
theorem dX8_serverOf_16 : decode cX8_serverOf 16 = .ok (.aload_n 0, 1) := by decide +kernel
theorem dX8_serverOf_17 : decode cX8_serverOf 17 = .ok (.getfield 99, 3) := by decide +kernel
theorem dX8_serverOf_20 : decode cX8_serverOf 20 = .ok (.ifCond .le 7, 3) := by decide +kernel
theorem dX8_serverOf_23 : decode cX8_serverOf 23 = .ok (.iconst 0, 1) := by decide +kernel
theorem dX8_serverOf_24 : decode cX8_serverOf 24 = .ok (.goto 8, 3) := by decide +kernel
theorem dX8_serverOf_27 : decode cX8_serverOf 27 = .ok (.aload_n 0, 1) := by decide +kernel
theorem dX8_serverOf_28 : decode cX8_serverOf 28 = .ok (.iload_n 1, 1) := by decide +kernel
theorem dX8_serverOf_29 : decode cX8_serverOf 29 = .ok (.invokevirtual 164, 3) := by decide +kernel
theorem dX8_serverOf_32 : decode cX8_serverOf 32 = .ok (.ireturn, 1) := by decide +kernel
theorem dX8_answers_0 : decode cX8_answers 0 = .ok (.aload_n 0, 1) := by decide +kernel
theorem dX8_answers_1 : decode cX8_answers 1 = .ok (.iload_n 1, 1) := by decide +kernel
theorem dX8_answers_2 : decode cX8_answers 2 = .ok (.invokestatic 158, 3) := by decide +kernel
theorem dX8_answers_5 : decode cX8_answers 5 = .ok (.ifCond .eq 7, 3) := by decide +kernel
theorem dX8_answers_8 : decode cX8_answers 8 = .ok (.iconst 0, 1) := by decide +kernel
theorem dX8_answers_9 : decode cX8_answers 9 = .ok (.goto 4, 3) := by decide +kernel
theorem dX8_answers_12 : decode cX8_answers 12 = .ok (.iconst 1, 1) := by decide +kernel
theorem dX8_answers_13 : decode cX8_answers 13 = .ok (.putfield 99, 3) := by decide +kernel
theorem dX8_answers_16 : decode cX8_answers 16 = .ok (.aload_n 0, 1) := by decide +kernel
theorem dX8_answers_17 : decode cX8_answers 17 = .ok (.getfield 99, 3) := by decide +kernel
theorem dX8_answers_20 : decode cX8_answers 20 = .ok (.ifCond .le 7, 3) := by decide +kernel
theorem dX8_answers_23 : decode cX8_answers 23 = .ok (.iconst 0, 1) := by decide +kernel
theorem dX8_answers_24 : decode cX8_answers 24 = .ok (.goto 9, 3) := by decide +kernel
theorem dX8_answers_27 : decode cX8_answers 27 = .ok (.aload_n 0, 1) := by decide +kernel
theorem dX8_answers_28 : decode cX8_answers 28 = .ok (.getfield 54, 3) := by decide +kernel
theorem dX8_answers_31 : decode cX8_answers 31 = .ok (.iload_n 1, 1) := by decide +kernel
theorem dX8_answers_32 : decode cX8_answers 32 = .ok (.iaload, 1) := by decide +kernel
theorem dX8_answers_33 : decode cX8_answers 33 = .ok (.ireturn, 1) := by decide +kernel
theorem dX8_manyBefore_0 : decode cX8_manyBefore 0 = .ok (.iconst 0, 1) := by decide +kernel
theorem dX8_manyBefore_1 : decode cX8_manyBefore 1 = .ok (.istore_n 3, 1) := by decide +kernel
theorem dX8_manyBefore_2 : decode cX8_manyBefore 2 = .ok (.bipush 8, 2) := by decide +kernel
theorem dX8_manyBefore_4 : decode cX8_manyBefore 4 = .ok (.iload_n 1, 1) := by decide +kernel
theorem dX8_manyBefore_5 : decode cX8_manyBefore 5 = .ok (.imul, 1) := by decide +kernel
theorem dX8_manyBefore_6 : decode cX8_manyBefore 6 = .ok (.istore 4, 2) := by decide +kernel
theorem dX8_manyBefore_8 : decode cX8_manyBefore 8 = .ok (.iload 4, 2) := by decide +kernel
theorem dX8_manyBefore_10 : decode cX8_manyBefore 10 = .ok (.bipush 8, 2) := by decide +kernel
theorem dX8_manyBefore_12 : decode cX8_manyBefore 12 = .ok (.iload_n 1, 1) := by decide +kernel
theorem dX8_manyBefore_13 : decode cX8_manyBefore 13 = .ok (.imul, 1) := by decide +kernel
theorem dX8_manyBefore_14 : decode cX8_manyBefore 14 = .ok (.bipush 8, 2) := by decide +kernel
theorem dX8_manyBefore_16 : decode cX8_manyBefore 16 = .ok (.iadd, 1) := by decide +kernel
theorem dX8_manyBefore_17 : decode cX8_manyBefore 17 = .ok (.if_icmp .ge 38, 3) := by decide +kernel
theorem dX8_manyBefore_20 : decode cX8_manyBefore 20 = .ok (.iload_n 3, 1) := by decide +kernel
theorem dX8_manyBefore_21 : decode cX8_manyBefore 21 = .ok (.aload_n 0, 1) := by decide +kernel
theorem dX8_manyBefore_22 : decode cX8_manyBefore 22 = .ok (.getfield 57, 3) := by decide +kernel
theorem dX8_manyBefore_25 : decode cX8_manyBefore 25 = .ok (.iload 4, 2) := by decide +kernel
theorem dX8_manyBefore_27 : decode cX8_manyBefore 27 = .ok (.baload, 1) := by decide +kernel
theorem dX8_manyBefore_28 : decode cX8_manyBefore 28 = .ok (.ifCond .eq 18, 3) := by decide +kernel
theorem dX8_manyBefore_31 : decode cX8_manyBefore 31 = .ok (.aload_n 0, 1) := by decide +kernel
theorem dX8_manyBefore_32 : decode cX8_manyBefore 32 = .ok (.getfield 60, 3) := by decide +kernel
theorem dX8_manyBefore_35 : decode cX8_manyBefore 35 = .ok (.iload 4, 2) := by decide +kernel
theorem dX8_manyBefore_37 : decode cX8_manyBefore 37 = .ok (.iaload, 1) := by decide +kernel
theorem dX8_manyBefore_38 : decode cX8_manyBefore 38 = .ok (.iload_n 2, 1) := by decide +kernel
theorem dX8_manyBefore_39 : decode cX8_manyBefore 39 = .ok (.if_icmp .ge 7, 3) := by decide +kernel
theorem dX8_manyBefore_42 : decode cX8_manyBefore 42 = .ok (.iconst 1, 1) := by decide +kernel
theorem dX8_manyBefore_43 : decode cX8_manyBefore 43 = .ok (.goto 4, 3) := by decide +kernel
theorem dX8_manyBefore_46 : decode cX8_manyBefore 46 = .ok (.iconst 0, 1) := by decide +kernel
theorem dX8_manyBefore_47 : decode cX8_manyBefore 47 = .ok (.iadd, 1) := by decide +kernel
theorem dX8_manyBefore_48 : decode cX8_manyBefore 48 = .ok (.istore_n 3, 1) := by decide +kernel
theorem dX8_manyBefore_49 : decode cX8_manyBefore 49 = .ok (.iinc 4 1, 3) := by decide +kernel
theorem dX8_manyBefore_52 : decode cX8_manyBefore 52 = .ok (.goto (-44), 3) := by decide +kernel
theorem dX8_manyBefore_55 : decode cX8_manyBefore 55 = .ok (.iload_n 3, 1) := by decide +kernel
theorem dX8_manyBefore_56 : decode cX8_manyBefore 56 = .ok (.ireturn, 1) := by decide +kernel
theorem dX8_manyOf_0 : decode cX8_manyOf 0 = .ok (.aload_n 0, 1) := by decide +kernel
theorem dX8_manyOf_1 : decode cX8_manyOf 1 = .ok (.iload_n 1, 1) := by decide +kernel
theorem dX8_manyOf_2 : decode cX8_manyOf 2 = .ok (.aload_n 0, 1) := by decide +kernel
theorem dX8_manyOf_3 : decode cX8_manyOf 3 = .ok (.getfield 167, 3) := by decide +kernel
theorem dX8_manyOf_6 : decode cX8_manyOf 6 = .ok (.iconst 1, 1) := by decide +kernel
theorem dX8_manyOf_7 : decode cX8_manyOf 7 = .ok (.iadd, 1) := by decide +kernel
theorem dX8_manyOf_8 : decode cX8_manyOf 8 = .ok (.invokevirtual 170, 3) := by decide +kernel
theorem dX8_manyOf_11 : decode cX8_manyOf 11 = .ok (.ireturn, 1) := by decide +kernel
theorem dX8_placeOfEntry_0 : decode cX8_placeOfEntry 0 = .ok (.iconst (-1), 1) := by decide +kernel
theorem dX8_placeOfEntry_1 : decode cX8_placeOfEntry 1 = .ok (.istore_n 3, 1) := by decide +kernel
theorem dX8_placeOfEntry_2 : decode cX8_placeOfEntry 2 = .ok (.bipush 8, 2) := by decide +kernel
theorem dX8_placeOfEntry_4 : decode cX8_placeOfEntry 4 = .ok (.iload_n 1, 1) := by decide +kernel
theorem dX8_placeOfEntry_5 : decode cX8_placeOfEntry 5 = .ok (.imul, 1) := by decide +kernel
theorem dX8_placeOfEntry_6 : decode cX8_placeOfEntry 6 = .ok (.istore 4, 2) := by decide +kernel
theorem dX8_placeOfEntry_8 : decode cX8_placeOfEntry 8 = .ok (.iload 4, 2) := by decide +kernel
theorem dX8_placeOfEntry_10 : decode cX8_placeOfEntry 10 = .ok (.bipush 8, 2) := by decide +kernel
theorem dX8_placeOfEntry_12 : decode cX8_placeOfEntry 12 = .ok (.iload_n 1, 1) := by decide +kernel
theorem dX8_placeOfEntry_13 : decode cX8_placeOfEntry 13 = .ok (.imul, 1) := by decide +kernel
theorem dX8_placeOfEntry_14 : decode cX8_placeOfEntry 14 = .ok (.bipush 8, 2) := by decide +kernel
theorem dX8_placeOfEntry_16 : decode cX8_placeOfEntry 16 = .ok (.iadd, 1) := by decide +kernel
theorem dX8_placeOfEntry_17 : decode cX8_placeOfEntry 17 = .ok (.if_icmp .ge 42, 3) := by decide +kernel
theorem dX8_placeOfEntry_20 : decode cX8_placeOfEntry 20 = .ok (.aload_n 0, 1) := by decide +kernel
theorem dX8_placeOfEntry_21 : decode cX8_placeOfEntry 21 = .ok (.getfield 57, 3) := by decide +kernel
theorem dX8_placeOfEntry_24 : decode cX8_placeOfEntry 24 = .ok (.iload 4, 2) := by decide +kernel
theorem dX8_placeOfEntry_26 : decode cX8_placeOfEntry 26 = .ok (.baload, 1) := by decide +kernel
theorem dX8_placeOfEntry_27 : decode cX8_placeOfEntry 27 = .ok (.ifCond .eq 24, 3) := by decide +kernel
theorem dX8_placeOfEntry_30 : decode cX8_placeOfEntry 30 = .ok (.aload_n 0, 1) := by decide +kernel
theorem dX8_placeOfEntry_31 : decode cX8_placeOfEntry 31 = .ok (.iload_n 1, 1) := by decide +kernel
theorem dX8_placeOfEntry_32 : decode cX8_placeOfEntry 32 = .ok (.aload_n 0, 1) := by decide +kernel
theorem dX8_placeOfEntry_33 : decode cX8_placeOfEntry 33 = .ok (.getfield 60, 3) := by decide +kernel
theorem dX8_placeOfEntry_36 : decode cX8_placeOfEntry 36 = .ok (.iload 4, 2) := by decide +kernel
theorem dX8_placeOfEntry_38 : decode cX8_placeOfEntry 38 = .ok (.iaload, 1) := by decide +kernel
theorem dX8_placeOfEntry_39 : decode cX8_placeOfEntry 39 = .ok (.invokevirtual 170, 3) := by decide +kernel
theorem dX8_placeOfEntry_42 : decode cX8_placeOfEntry 42 = .ok (.iload_n 2, 1) := by decide +kernel
theorem dX8_placeOfEntry_43 : decode cX8_placeOfEntry 43 = .ok (.if_icmp .ne 8, 3) := by decide +kernel
theorem dX8_placeOfEntry_46 : decode cX8_placeOfEntry 46 = .ok (.iload 4, 2) := by decide +kernel
theorem dX8_placeOfEntry_48 : decode cX8_placeOfEntry 48 = .ok (.goto 4, 3) := by decide +kernel
theorem dX8_placeOfEntry_51 : decode cX8_placeOfEntry 51 = .ok (.iload_n 3, 1) := by decide +kernel
theorem dX8_placeOfEntry_52 : decode cX8_placeOfEntry 52 = .ok (.istore_n 3, 1) := by decide +kernel
theorem dX8_placeOfEntry_53 : decode cX8_placeOfEntry 53 = .ok (.iinc 4 1, 3) := by decide +kernel
theorem dX8_placeOfEntry_56 : decode cX8_placeOfEntry 56 = .ok (.goto (-48), 3) := by decide +kernel
theorem dX8_placeOfEntry_59 : decode cX8_placeOfEntry 59 = .ok (.iload_n 3, 1) := by decide +kernel
theorem dX8_placeOfEntry_60 : decode cX8_placeOfEntry 60 = .ok (.ireturn, 1) := by decide +kernel
theorem dX8_entryFor_0 : decode cX8_entryFor 0 = .ok (.iconst (-1), 1) := by decide +kernel
theorem dX8_entryFor_1 : decode cX8_entryFor 1 = .ok (.istore_n 3, 1) := by decide +kernel
theorem dX8_entryFor_2 : decode cX8_entryFor 2 = .ok (.bipush 8, 2) := by decide +kernel
theorem dX8_entryFor_4 : decode cX8_entryFor 4 = .ok (.iload_n 1, 1) := by decide +kernel
theorem dX8_entryFor_5 : decode cX8_entryFor 5 = .ok (.imul, 1) := by decide +kernel
theorem dX8_entryFor_6 : decode cX8_entryFor 6 = .ok (.istore 4, 2) := by decide +kernel
theorem dX8_entryFor_8 : decode cX8_entryFor 8 = .ok (.iload 4, 2) := by decide +kernel
theorem dX8_entryFor_10 : decode cX8_entryFor 10 = .ok (.bipush 8, 2) := by decide +kernel
theorem dX8_entryFor_12 : decode cX8_entryFor 12 = .ok (.iload_n 1, 1) := by decide +kernel
theorem dX8_entryFor_13 : decode cX8_entryFor 13 = .ok (.imul, 1) := by decide +kernel
theorem dX8_entryFor_14 : decode cX8_entryFor 14 = .ok (.bipush 8, 2) := by decide +kernel
theorem dX8_entryFor_16 : decode cX8_entryFor 16 = .ok (.iadd, 1) := by decide +kernel
theorem dX8_entryFor_17 : decode cX8_entryFor 17 = .ok (.if_icmp .ge 104, 3) := by decide +kernel
theorem dX8_entryFor_20 : decode cX8_entryFor 20 = .ok (.aload_n 0, 1) := by decide +kernel
theorem dX8_entryFor_21 : decode cX8_entryFor 21 = .ok (.getfield 57, 3) := by decide +kernel
theorem dX8_entryFor_24 : decode cX8_entryFor 24 = .ok (.iload 4, 2) := by decide +kernel
theorem dX8_entryFor_26 : decode cX8_entryFor 26 = .ok (.baload, 1) := by decide +kernel
theorem dX8_entryFor_27 : decode cX8_entryFor 27 = .ok (.ifCond .eq 52, 3) := by decide +kernel
theorem dX8_entryFor_30 : decode cX8_entryFor 30 = .ok (.aload_n 0, 1) := by decide +kernel
theorem dX8_entryFor_31 : decode cX8_entryFor 31 = .ok (.getfield 78, 3) := by decide +kernel
theorem dX8_entryFor_34 : decode cX8_entryFor 34 = .ok (.iload 4, 2) := by decide +kernel
theorem dX8_entryFor_36 : decode cX8_entryFor 36 = .ok (.baload, 1) := by decide +kernel
theorem dX8_entryFor_37 : decode cX8_entryFor 37 = .ok (.ifCond .ne 42, 3) := by decide +kernel
theorem dX8_entryFor_40 : decode cX8_entryFor 40 = .ok (.aload_n 0, 1) := by decide +kernel
theorem dX8_entryFor_41 : decode cX8_entryFor 41 = .ok (.getfield 75, 3) := by decide +kernel
theorem dX8_entryFor_44 : decode cX8_entryFor 44 = .ok (.iload 4, 2) := by decide +kernel
theorem dX8_entryFor_46 : decode cX8_entryFor 46 = .ok (.iaload, 1) := by decide +kernel
theorem dX8_entryFor_47 : decode cX8_entryFor 47 = .ok (.aload_n 0, 1) := by decide +kernel
theorem dX8_entryFor_48 : decode cX8_entryFor 48 = .ok (.getfield 173, 3) := by decide +kernel
theorem dX8_entryFor_51 : decode cX8_entryFor 51 = .ok (.if_icmp .le 28, 3) := by decide +kernel
theorem dX8_entryFor_54 : decode cX8_entryFor 54 = .ok (.aload_n 0, 1) := by decide +kernel
theorem dX8_entryFor_55 : decode cX8_entryFor 55 = .ok (.getfield 63, 3) := by decide +kernel
theorem dX8_entryFor_58 : decode cX8_entryFor 58 = .ok (.iload 4, 2) := by decide +kernel
theorem dX8_entryFor_60 : decode cX8_entryFor 60 = .ok (.iaload, 1) := by decide +kernel
theorem dX8_entryFor_61 : decode cX8_entryFor 61 = .ok (.aload_n 0, 1) := by decide +kernel
theorem dX8_entryFor_62 : decode cX8_entryFor 62 = .ok (.getfield 66, 3) := by decide +kernel
theorem dX8_entryFor_65 : decode cX8_entryFor 65 = .ok (.iload 4, 2) := by decide +kernel
theorem dX8_entryFor_67 : decode cX8_entryFor 67 = .ok (.iaload, 1) := by decide +kernel
theorem dX8_entryFor_68 : decode cX8_entryFor 68 = .ok (.iload_n 2, 1) := by decide +kernel
theorem dX8_entryFor_69 : decode cX8_entryFor 69 = .ok (.invokestatic 146, 3) := by decide +kernel
theorem dX8_entryFor_72 : decode cX8_entryFor 72 = .ok (.ifCond .eq 7, 3) := by decide +kernel
theorem dX8_entryFor_75 : decode cX8_entryFor 75 = .ok (.iconst 1, 1) := by decide +kernel
theorem dX8_entryFor_76 : decode cX8_entryFor 76 = .ok (.goto 4, 3) := by decide +kernel
theorem dX8_entryFor_79 : decode cX8_entryFor 79 = .ok (.iconst 0, 1) := by decide +kernel
theorem dX8_entryFor_80 : decode cX8_entryFor 80 = .ok (.istore 5, 2) := by decide +kernel
theorem dX8_entryFor_82 : decode cX8_entryFor 82 = .ok (.iload 5, 2) := by decide +kernel
theorem dX8_entryFor_84 : decode cX8_entryFor 84 = .ok (.ifCond .eq 29, 3) := by decide +kernel
theorem dX8_entryFor_87 : decode cX8_entryFor 87 = .ok (.iload_n 3, 1) := by decide +kernel
theorem dX8_entryFor_88 : decode cX8_entryFor 88 = .ok (.iconst (-1), 1) := by decide +kernel
theorem dX8_entryFor_89 : decode cX8_entryFor 89 = .ok (.if_icmp .eq 19, 3) := by decide +kernel
theorem dX8_entryFor_92 : decode cX8_entryFor 92 = .ok (.aload_n 0, 1) := by decide +kernel
theorem dX8_entryFor_93 : decode cX8_entryFor 93 = .ok (.getfield 66, 3) := by decide +kernel
theorem dX8_entryFor_96 : decode cX8_entryFor 96 = .ok (.iload 4, 2) := by decide +kernel
theorem dX8_entryFor_98 : decode cX8_entryFor 98 = .ok (.iaload, 1) := by decide +kernel
theorem dX8_entryFor_99 : decode cX8_entryFor 99 = .ok (.aload_n 0, 1) := by decide +kernel
theorem dX8_entryFor_100 : decode cX8_entryFor 100 = .ok (.getfield 66, 3) := by decide +kernel
theorem dX8_entryFor_103 : decode cX8_entryFor 103 = .ok (.iload_n 3, 1) := by decide +kernel
theorem dX8_entryFor_104 : decode cX8_entryFor 104 = .ok (.iaload, 1) := by decide +kernel
theorem dX8_entryFor_105 : decode cX8_entryFor 105 = .ok (.if_icmp .le 8, 3) := by decide +kernel
theorem dX8_entryFor_108 : decode cX8_entryFor 108 = .ok (.iload 4, 2) := by decide +kernel
theorem dX8_entryFor_110 : decode cX8_entryFor 110 = .ok (.goto 4, 3) := by decide +kernel
theorem dX8_entryFor_113 : decode cX8_entryFor 113 = .ok (.iload_n 3, 1) := by decide +kernel
theorem dX8_entryFor_114 : decode cX8_entryFor 114 = .ok (.istore_n 3, 1) := by decide +kernel
theorem dX8_entryFor_115 : decode cX8_entryFor 115 = .ok (.iinc 4 1, 3) := by decide +kernel
theorem dX8_entryFor_118 : decode cX8_entryFor 118 = .ok (.goto (-110), 3) := by decide +kernel
theorem dX8_entryFor_121 : decode cX8_entryFor 121 = .ok (.iload_n 3, 1) := by decide +kernel
theorem dX8_entryFor_122 : decode cX8_entryFor 122 = .ok (.ireturn, 1) := by decide +kernel
theorem dX8_frees_0 : decode cX8_frees 0 = .ok (.aload_n 0, 1) := by decide +kernel
theorem dX8_frees_1 : decode cX8_frees 1 = .ok (.iload_n 1, 1) := by decide +kernel
theorem dX8_frees_2 : decode cX8_frees 2 = .ok (.invokevirtual 176, 3) := by decide +kernel
theorem dX8_frees_5 : decode cX8_frees 5 = .ok (.bipush 8, 2) := by decide +kernel
theorem dX8_frees_7 : decode cX8_frees 7 = .ok (.if_icmp .ne 15, 3) := by decide +kernel
theorem dX8_frees_10 : decode cX8_frees 10 = .ok (.aload_n 0, 1) := by decide +kernel
theorem dX8_frees_11 : decode cX8_frees 11 = .ok (.getfield 57, 3) := by decide +kernel
theorem dX8_frees_14 : decode cX8_frees 14 = .ok (.aload_n 0, 1) := by decide +kernel
theorem dX8_frees_15 : decode cX8_frees 15 = .ok (.iload_n 1, 1) := by decide +kernel
theorem dX8_frees_16 : decode cX8_frees 16 = .ok (.iconst 0, 1) := by decide +kernel
theorem dX8_frees_17 : decode cX8_frees 17 = .ok (.invokevirtual 179, 3) := by decide +kernel
theorem dX8_frees_20 : decode cX8_frees 20 = .ok (.iconst 0, 1) := by decide +kernel
theorem dX8_frees_21 : decode cX8_frees 21 = .ok (.bastore, 1) := by decide +kernel
theorem dX8_frees_22 : decode cX8_frees 22 = .ok (.bipush 8, 2) := by decide +kernel
theorem dX8_frees_24 : decode cX8_frees 24 = .ok (.iload_n 1, 1) := by decide +kernel
theorem dX8_frees_25 : decode cX8_frees 25 = .ok (.imul, 1) := by decide +kernel
theorem dX8_frees_26 : decode cX8_frees 26 = .ok (.istore_n 2, 1) := by decide +kernel
theorem dX8_frees_27 : decode cX8_frees 27 = .ok (.aload_n 0, 1) := by decide +kernel
theorem dX8_frees_28 : decode cX8_frees 28 = .ok (.getfield 57, 3) := by decide +kernel
theorem dX8_frees_31 : decode cX8_frees 31 = .ok (.iload_n 2, 1) := by decide +kernel
theorem dX8_frees_32 : decode cX8_frees 32 = .ok (.baload, 1) := by decide +kernel
theorem dX8_frees_33 : decode cX8_frees 33 = .ok (.ifCond .eq 9, 3) := by decide +kernel
theorem dX8_frees_36 : decode cX8_frees 36 = .ok (.iinc 2 1, 3) := by decide +kernel
theorem dX8_frees_39 : decode cX8_frees 39 = .ok (.goto (-12), 3) := by decide +kernel
theorem dX8_frees_42 : decode cX8_frees 42 = .ok (.iload_n 2, 1) := by decide +kernel
theorem dX8_frees_43 : decode cX8_frees 43 = .ok (.ireturn, 1) := by decide +kernel
theorem dX8_gets_0 : decode cX8_gets 0 = .ok (.aload_n 0, 1) := by decide +kernel
theorem dX8_gets_1 : decode cX8_gets 1 = .ok (.iload_n 2, 1) := by decide +kernel
theorem dX8_gets_2 : decode cX8_gets 2 = .ok (.invokevirtual 149, 3) := by decide +kernel
theorem dX8_gets_5 : decode cX8_gets 5 = .ok (.istore_n 3, 1) := by decide +kernel
theorem dX8_gets_6 : decode cX8_gets 6 = .ok (.aload_n 0, 1) := by decide +kernel
theorem dX8_gets_7 : decode cX8_gets 7 = .ok (.iload_n 2, 1) := by decide +kernel
theorem dX8_gets_8 : decode cX8_gets 8 = .ok (.iload_n 3, 1) := by decide +kernel
theorem dX8_gets_9 : decode cX8_gets 9 = .ok (.invokevirtual 155, 3) := by decide +kernel
theorem dX8_gets_12 : decode cX8_gets 12 = .ok (.istore 4, 2) := by decide +kernel
theorem dX8_gets_14 : decode cX8_gets 14 = .ok (.iload_n 2, 1) := by decide +kernel
theorem dX8_gets_15 : decode cX8_gets 15 = .ok (.iload 4, 2) := by decide +kernel
theorem dX8_gets_17 : decode cX8_gets 17 = .ok (.invokestatic 111, 3) := by decide +kernel
theorem dX8_gets_20 : decode cX8_gets 20 = .ok (.bipush 16, 2) := by decide +kernel
theorem dX8_gets_22 : decode cX8_gets 22 = .ok (.iload 4, 2) := by decide +kernel
theorem dX8_gets_24 : decode cX8_gets 24 = .ok (.isub, 1) := by decide +kernel
theorem dX8_gets_25 : decode cX8_gets 25 = .ok (.ishl, 1) := by decide +kernel
theorem dX8_gets_26 : decode cX8_gets 26 = .ok (.istore 5, 2) := by decide +kernel
theorem dX8_gets_28 : decode cX8_gets 28 = .ok (.bipush 8, 2) := by decide +kernel
theorem dX8_gets_30 : decode cX8_gets 30 = .ok (.iload_n 1, 1) := by decide +kernel
theorem dX8_gets_31 : decode cX8_gets 31 = .ok (.imul, 1) := by decide +kernel
theorem dX8_gets_32 : decode cX8_gets 32 = .ok (.istore 6, 2) := by decide +kernel
theorem dX8_gets_34 : decode cX8_gets 34 = .ok (.iload 6, 2) := by decide +kernel
theorem dX8_gets_36 : decode cX8_gets 36 = .ok (.bipush 8, 2) := by decide +kernel
theorem dX8_gets_38 : decode cX8_gets 38 = .ok (.iload_n 1, 1) := by decide +kernel
theorem dX8_gets_39 : decode cX8_gets 39 = .ok (.imul, 1) := by decide +kernel
theorem dX8_gets_40 : decode cX8_gets 40 = .ok (.bipush 8, 2) := by decide +kernel
theorem dX8_gets_42 : decode cX8_gets 42 = .ok (.iadd, 1) := by decide +kernel
theorem dX8_gets_43 : decode cX8_gets 43 = .ok (.if_icmp .ge 55, 3) := by decide +kernel
theorem dX8_gets_46 : decode cX8_gets 46 = .ok (.aload_n 0, 1) := by decide +kernel
theorem dX8_gets_47 : decode cX8_gets 47 = .ok (.getfield 57, 3) := by decide +kernel
theorem dX8_gets_50 : decode cX8_gets 50 = .ok (.iload 6, 2) := by decide +kernel
theorem dX8_gets_52 : decode cX8_gets 52 = .ok (.aload_n 0, 1) := by decide +kernel
theorem dX8_gets_53 : decode cX8_gets 53 = .ok (.getfield 57, 3) := by decide +kernel
theorem dX8_gets_56 : decode cX8_gets 56 = .ok (.iload 6, 2) := by decide +kernel
theorem dX8_gets_58 : decode cX8_gets 58 = .ok (.baload, 1) := by decide +kernel
theorem dX8_gets_59 : decode cX8_gets 59 = .ok (.ifCond .eq 31, 3) := by decide +kernel
theorem dX8_gets_62 : decode cX8_gets 62 = .ok (.aload_n 0, 1) := by decide +kernel
theorem dX8_gets_63 : decode cX8_gets 63 = .ok (.getfield 63, 3) := by decide +kernel
theorem dX8_gets_66 : decode cX8_gets 66 = .ok (.iload 6, 2) := by decide +kernel
theorem dX8_gets_68 : decode cX8_gets 68 = .ok (.iaload, 1) := by decide +kernel
theorem dX8_gets_69 : decode cX8_gets 69 = .ok (.aload_n 0, 1) := by decide +kernel
theorem dX8_gets_70 : decode cX8_gets 70 = .ok (.getfield 66, 3) := by decide +kernel
theorem dX8_gets_73 : decode cX8_gets 73 = .ok (.iload 6, 2) := by decide +kernel
theorem dX8_gets_75 : decode cX8_gets 75 = .ok (.iaload, 1) := by decide +kernel
theorem dX8_gets_76 : decode cX8_gets 76 = .ok (.iload 5, 2) := by decide +kernel
theorem dX8_gets_78 : decode cX8_gets 78 = .ok (.iload 4, 2) := by decide +kernel
theorem dX8_gets_80 : decode cX8_gets 80 = .ok (.invokestatic 118, 3) := by decide +kernel
theorem dX8_gets_83 : decode cX8_gets 83 = .ok (.ifCond .ne 7, 3) := by decide +kernel
theorem dX8_gets_86 : decode cX8_gets 86 = .ok (.iconst 1, 1) := by decide +kernel
theorem dX8_gets_87 : decode cX8_gets 87 = .ok (.goto 4, 3) := by decide +kernel
theorem dX8_gets_90 : decode cX8_gets 90 = .ok (.iconst 0, 1) := by decide +kernel
theorem dX8_gets_91 : decode cX8_gets 91 = .ok (.bastore, 1) := by decide +kernel
theorem dX8_gets_92 : decode cX8_gets 92 = .ok (.iinc 6 1, 3) := by decide +kernel
theorem dX8_gets_95 : decode cX8_gets 95 = .ok (.goto (-61), 3) := by decide +kernel
theorem dX8_gets_98 : decode cX8_gets 98 = .ok (.aload_n 0, 1) := by decide +kernel
theorem dX8_gets_99 : decode cX8_gets 99 = .ok (.iload_n 1, 1) := by decide +kernel
theorem dX8_gets_100 : decode cX8_gets 100 = .ok (.invokevirtual 182, 3) := by decide +kernel
theorem dX8_gets_103 : decode cX8_gets 103 = .ok (.istore 6, 2) := by decide +kernel
theorem dX8_gets_105 : decode cX8_gets 105 = .ok (.aload_n 0, 1) := by decide +kernel
theorem dX8_gets_106 : decode cX8_gets 106 = .ok (.getfield 57, 3) := by decide +kernel
theorem dX8_gets_109 : decode cX8_gets 109 = .ok (.iload 6, 2) := by decide +kernel
theorem dX8_gets_111 : decode cX8_gets 111 = .ok (.iconst 1, 1) := by decide +kernel
theorem dX8_gets_112 : decode cX8_gets 112 = .ok (.bastore, 1) := by decide +kernel
theorem dX8_gets_113 : decode cX8_gets 113 = .ok (.aload_n 0, 1) := by decide +kernel
theorem dX8_gets_114 : decode cX8_gets 114 = .ok (.getfield 63, 3) := by decide +kernel
theorem dX8_gets_117 : decode cX8_gets 117 = .ok (.iload 6, 2) := by decide +kernel
theorem dX8_gets_119 : decode cX8_gets 119 = .ok (.iload 5, 2) := by decide +kernel
theorem dX8_gets_121 : decode cX8_gets 121 = .ok (.iastore, 1) := by decide +kernel
theorem dX8_gets_122 : decode cX8_gets 122 = .ok (.aload_n 0, 1) := by decide +kernel
theorem dX8_gets_123 : decode cX8_gets 123 = .ok (.getfield 66, 3) := by decide +kernel
theorem dX8_gets_126 : decode cX8_gets 126 = .ok (.iload 6, 2) := by decide +kernel
theorem dX8_gets_128 : decode cX8_gets 128 = .ok (.iload 4, 2) := by decide +kernel
theorem dX8_gets_130 : decode cX8_gets 130 = .ok (.iastore, 1) := by decide +kernel
theorem dX8_gets_131 : decode cX8_gets 131 = .ok (.aload_n 0, 1) := by decide +kernel
theorem dX8_gets_132 : decode cX8_gets 132 = .ok (.getfield 69, 3) := by decide +kernel
theorem dX8_gets_135 : decode cX8_gets 135 = .ok (.iload 6, 2) := by decide +kernel
theorem dX8_gets_137 : decode cX8_gets 137 = .ok (.iload_n 3, 1) := by decide +kernel
theorem dX8_gets_138 : decode cX8_gets 138 = .ok (.iastore, 1) := by decide +kernel
theorem dX8_gets_139 : decode cX8_gets 139 = .ok (.aload_n 0, 1) := by decide +kernel
theorem dX8_gets_140 : decode cX8_gets 140 = .ok (.getfield 72, 3) := by decide +kernel
theorem dX8_gets_143 : decode cX8_gets 143 = .ok (.iload 6, 2) := by decide +kernel
theorem dX8_gets_145 : decode cX8_gets 145 = .ok (.iload_n 3, 1) := by decide +kernel
theorem dX8_gets_146 : decode cX8_gets 146 = .ok (.iconst (-1), 1) := by decide +kernel
theorem dX8_gets_147 : decode cX8_gets 147 = .ok (.if_icmp .ne 7, 3) := by decide +kernel
theorem dX8_gets_150 : decode cX8_gets 150 = .ok (.iconst 0, 1) := by decide +kernel
theorem dX8_gets_151 : decode cX8_gets 151 = .ok (.goto 9, 3) := by decide +kernel
theorem dX8_gets_154 : decode cX8_gets 154 = .ok (.aload_n 0, 1) := by decide +kernel
theorem dX8_gets_155 : decode cX8_gets 155 = .ok (.getfield 27, 3) := by decide +kernel
theorem dX8_gets_158 : decode cX8_gets 158 = .ok (.iload_n 3, 1) := by decide +kernel
theorem dX8_gets_159 : decode cX8_gets 159 = .ok (.iaload, 1) := by decide +kernel
theorem dX8_gets_160 : decode cX8_gets 160 = .ok (.iastore, 1) := by decide +kernel
theorem dX8_gets_161 : decode cX8_gets 161 = .ok (.aload_n 0, 1) := by decide +kernel
theorem dX8_gets_162 : decode cX8_gets 162 = .ok (.getfield 75, 3) := by decide +kernel
theorem dX8_gets_165 : decode cX8_gets 165 = .ok (.iload 6, 2) := by decide +kernel
theorem dX8_gets_167 : decode cX8_gets 167 = .ok (.aload_n 0, 1) := by decide +kernel
theorem dX8_gets_168 : decode cX8_gets 168 = .ok (.getfield 173, 3) := by decide +kernel
theorem dX8_gets_171 : decode cX8_gets 171 = .ok (.iload_n 3, 1) := by decide +kernel
theorem dX8_gets_172 : decode cX8_gets 172 = .ok (.iconst (-1), 1) := by decide +kernel
theorem dX8_gets_173 : decode cX8_gets 173 = .ok (.if_icmp .ne 10, 3) := by decide +kernel
theorem dX8_gets_176 : decode cX8_gets 176 = .ok (.aload_n 0, 1) := by decide +kernel
theorem dX8_gets_177 : decode cX8_gets 177 = .ok (.getfield 13, 3) := by decide +kernel
theorem dX8_gets_180 : decode cX8_gets 180 = .ok (.goto 7, 3) := by decide +kernel
theorem dX8_gets_183 : decode cX8_gets 183 = .ok (.aload_n 0, 1) := by decide +kernel
theorem dX8_gets_184 : decode cX8_gets 184 = .ok (.getfield 7, 3) := by decide +kernel
theorem dX8_gets_187 : decode cX8_gets 187 = .ok (.iadd, 1) := by decide +kernel
theorem dX8_gets_188 : decode cX8_gets 188 = .ok (.iastore, 1) := by decide +kernel
theorem dX8_gets_189 : decode cX8_gets 189 = .ok (.aload_n 0, 1) := by decide +kernel
theorem dX8_gets_190 : decode cX8_gets 190 = .ok (.getfield 78, 3) := by decide +kernel
theorem dX8_gets_193 : decode cX8_gets 193 = .ok (.iload 6, 2) := by decide +kernel
theorem dX8_gets_195 : decode cX8_gets 195 = .ok (.iconst 0, 1) := by decide +kernel
theorem dX8_gets_196 : decode cX8_gets 196 = .ok (.bastore, 1) := by decide +kernel
theorem dX8_gets_197 : decode cX8_gets 197 = .ok (.aload_n 0, 1) := by decide +kernel
theorem dX8_gets_198 : decode cX8_gets 198 = .ok (.getfield 81, 3) := by decide +kernel
theorem dX8_gets_201 : decode cX8_gets 201 = .ok (.iload 6, 2) := by decide +kernel
theorem dX8_gets_203 : decode cX8_gets 203 = .ok (.iload_n 3, 1) := by decide +kernel
theorem dX8_gets_204 : decode cX8_gets 204 = .ok (.iconst (-1), 1) := by decide +kernel
theorem dX8_gets_205 : decode cX8_gets 205 = .ok (.if_icmp .ne 7, 3) := by decide +kernel
theorem dX8_gets_208 : decode cX8_gets 208 = .ok (.iconst 0, 1) := by decide +kernel
theorem dX8_gets_209 : decode cX8_gets 209 = .ok (.goto 9, 3) := by decide +kernel
theorem dX8_gets_212 : decode cX8_gets 212 = .ok (.aload_n 0, 1) := by decide +kernel
theorem dX8_gets_213 : decode cX8_gets 213 = .ok (.getfield 30, 3) := by decide +kernel
theorem dX8_gets_216 : decode cX8_gets 216 = .ok (.iload_n 3, 1) := by decide +kernel
theorem dX8_gets_217 : decode cX8_gets 217 = .ok (.iaload, 1) := by decide +kernel
theorem dX8_gets_218 : decode cX8_gets 218 = .ok (.iastore, 1) := by decide +kernel
theorem dX8_gets_219 : decode cX8_gets 219 = .ok (.iconst 0, 1) := by decide +kernel
theorem dX8_gets_220 : decode cX8_gets 220 = .ok (.istore 7, 2) := by decide +kernel
theorem dX8_gets_222 : decode cX8_gets 222 = .ok (.iload 7, 2) := by decide +kernel
theorem dX8_gets_224 : decode cX8_gets 224 = .ok (.aload_n 0, 1) := by decide +kernel
theorem dX8_gets_225 : decode cX8_gets 225 = .ok (.getfield 81, 3) := by decide +kernel
theorem dX8_gets_228 : decode cX8_gets 228 = .ok (.iload 6, 2) := by decide +kernel
theorem dX8_gets_230 : decode cX8_gets 230 = .ok (.iaload, 1) := by decide +kernel
theorem dX8_gets_231 : decode cX8_gets 231 = .ok (.if_icmp .ge 91, 3) := by decide +kernel
theorem dX8_gets_234 : decode cX8_gets 234 = .ok (.aload_n 0, 1) := by decide +kernel
theorem dX8_gets_235 : decode cX8_gets 235 = .ok (.getfield 84, 3) := by decide +kernel
theorem dX8_gets_238 : decode cX8_gets 238 = .ok (.iconst 4, 1) := by decide +kernel
theorem dX8_gets_239 : decode cX8_gets 239 = .ok (.iload 6, 2) := by decide +kernel
theorem dX8_gets_241 : decode cX8_gets 241 = .ok (.imul, 1) := by decide +kernel
theorem dX8_gets_242 : decode cX8_gets 242 = .ok (.iload 7, 2) := by decide +kernel
theorem dX8_gets_244 : decode cX8_gets 244 = .ok (.iadd, 1) := by decide +kernel
theorem dX8_gets_245 : decode cX8_gets 245 = .ok (.aload_n 0, 1) := by decide +kernel
theorem dX8_gets_246 : decode cX8_gets 246 = .ok (.getfield 33, 3) := by decide +kernel
theorem dX8_gets_249 : decode cX8_gets 249 = .ok (.iconst 4, 1) := by decide +kernel
theorem dX8_gets_250 : decode cX8_gets 250 = .ok (.iload_n 3, 1) := by decide +kernel
theorem dX8_gets_251 : decode cX8_gets 251 = .ok (.imul, 1) := by decide +kernel
theorem dX8_gets_252 : decode cX8_gets 252 = .ok (.iload 7, 2) := by decide +kernel
theorem dX8_gets_254 : decode cX8_gets 254 = .ok (.iadd, 1) := by decide +kernel
theorem dX8_gets_255 : decode cX8_gets 255 = .ok (.iaload, 1) := by decide +kernel
theorem dX8_gets_256 : decode cX8_gets 256 = .ok (.iastore, 1) := by decide +kernel
theorem dX8_gets_257 : decode cX8_gets 257 = .ok (.aload_n 0, 1) := by decide +kernel
theorem dX8_gets_258 : decode cX8_gets 258 = .ok (.getfield 87, 3) := by decide +kernel
theorem dX8_gets_261 : decode cX8_gets 261 = .ok (.iconst 4, 1) := by decide +kernel
theorem dX8_gets_262 : decode cX8_gets 262 = .ok (.iload 6, 2) := by decide +kernel
theorem dX8_gets_264 : decode cX8_gets 264 = .ok (.imul, 1) := by decide +kernel
theorem dX8_gets_265 : decode cX8_gets 265 = .ok (.iload 7, 2) := by decide +kernel
theorem dX8_gets_267 : decode cX8_gets 267 = .ok (.iadd, 1) := by decide +kernel
theorem dX8_gets_268 : decode cX8_gets 268 = .ok (.aload_n 0, 1) := by decide +kernel
theorem dX8_gets_269 : decode cX8_gets 269 = .ok (.getfield 36, 3) := by decide +kernel
theorem dX8_gets_272 : decode cX8_gets 272 = .ok (.iconst 4, 1) := by decide +kernel
theorem dX8_gets_273 : decode cX8_gets 273 = .ok (.iload_n 3, 1) := by decide +kernel
theorem dX8_gets_274 : decode cX8_gets 274 = .ok (.imul, 1) := by decide +kernel
theorem dX8_gets_275 : decode cX8_gets 275 = .ok (.iload 7, 2) := by decide +kernel
theorem dX8_gets_277 : decode cX8_gets 277 = .ok (.iadd, 1) := by decide +kernel
theorem dX8_gets_278 : decode cX8_gets 278 = .ok (.iaload, 1) := by decide +kernel
theorem dX8_gets_279 : decode cX8_gets 279 = .ok (.iastore, 1) := by decide +kernel
theorem dX8_gets_280 : decode cX8_gets 280 = .ok (.aload_n 0, 1) := by decide +kernel
theorem dX8_gets_281 : decode cX8_gets 281 = .ok (.getfield 90, 3) := by decide +kernel
theorem dX8_gets_284 : decode cX8_gets 284 = .ok (.iconst 4, 1) := by decide +kernel
theorem dX8_gets_285 : decode cX8_gets 285 = .ok (.iload 6, 2) := by decide +kernel
theorem dX8_gets_287 : decode cX8_gets 287 = .ok (.imul, 1) := by decide +kernel
theorem dX8_gets_288 : decode cX8_gets 288 = .ok (.iload 7, 2) := by decide +kernel
theorem dX8_gets_290 : decode cX8_gets 290 = .ok (.iadd, 1) := by decide +kernel
theorem dX8_gets_291 : decode cX8_gets 291 = .ok (.aload_n 0, 1) := by decide +kernel
theorem dX8_gets_292 : decode cX8_gets 292 = .ok (.getfield 39, 3) := by decide +kernel
theorem dX8_gets_295 : decode cX8_gets 295 = .ok (.iconst 4, 1) := by decide +kernel
theorem dX8_gets_296 : decode cX8_gets 296 = .ok (.iload_n 3, 1) := by decide +kernel
theorem dX8_gets_297 : decode cX8_gets 297 = .ok (.imul, 1) := by decide +kernel
theorem dX8_gets_298 : decode cX8_gets 298 = .ok (.iload 7, 2) := by decide +kernel
theorem dX8_gets_300 : decode cX8_gets 300 = .ok (.iadd, 1) := by decide +kernel
theorem dX8_gets_301 : decode cX8_gets 301 = .ok (.iaload, 1) := by decide +kernel
theorem dX8_gets_302 : decode cX8_gets 302 = .ok (.iastore, 1) := by decide +kernel
theorem dX8_gets_303 : decode cX8_gets 303 = .ok (.aload_n 0, 1) := by decide +kernel
theorem dX8_gets_304 : decode cX8_gets 304 = .ok (.getfield 93, 3) := by decide +kernel
theorem dX8_gets_307 : decode cX8_gets 307 = .ok (.iconst 4, 1) := by decide +kernel
theorem dX8_gets_308 : decode cX8_gets 308 = .ok (.iload 6, 2) := by decide +kernel
theorem dX8_gets_310 : decode cX8_gets 310 = .ok (.imul, 1) := by decide +kernel
theorem dX8_gets_311 : decode cX8_gets 311 = .ok (.iload 7, 2) := by decide +kernel
theorem dX8_gets_313 : decode cX8_gets 313 = .ok (.iadd, 1) := by decide +kernel
theorem dX8_gets_314 : decode cX8_gets 314 = .ok (.iconst 0, 1) := by decide +kernel
theorem dX8_gets_315 : decode cX8_gets 315 = .ok (.iastore, 1) := by decide +kernel
theorem dX8_gets_316 : decode cX8_gets 316 = .ok (.iinc 7 1, 3) := by decide +kernel
theorem dX8_gets_319 : decode cX8_gets 319 = .ok (.goto (-97), 3) := by decide +kernel
theorem dX8_gets_322 : decode cX8_gets 322 = .ok (.iload 6, 2) := by decide +kernel
theorem dX8_gets_324 : decode cX8_gets 324 = .ok (.ireturn, 1) := by decide +kernel
theorem dX8_bestOf_0 : decode cX8_bestOf 0 = .ok (.iconst 4, 1) := by decide +kernel
theorem dX8_bestOf_1 : decode cX8_bestOf 1 = .ok (.istore_n 3, 1) := by decide +kernel
theorem dX8_bestOf_2 : decode cX8_bestOf 2 = .ok (.iconst 4, 1) := by decide +kernel
theorem dX8_bestOf_3 : decode cX8_bestOf 3 = .ok (.iload_n 2, 1) := by decide +kernel
theorem dX8_bestOf_4 : decode cX8_bestOf 4 = .ok (.imul, 1) := by decide +kernel
theorem dX8_bestOf_5 : decode cX8_bestOf 5 = .ok (.istore 4, 2) := by decide +kernel
theorem dX8_bestOf_7 : decode cX8_bestOf 7 = .ok (.iload 4, 2) := by decide +kernel
theorem dX8_bestOf_9 : decode cX8_bestOf 9 = .ok (.iconst 4, 1) := by decide +kernel
theorem dX8_bestOf_10 : decode cX8_bestOf 10 = .ok (.iload_n 2, 1) := by decide +kernel
theorem dX8_bestOf_11 : decode cX8_bestOf 11 = .ok (.imul, 1) := by decide +kernel
theorem dX8_bestOf_12 : decode cX8_bestOf 12 = .ok (.aload_n 0, 1) := by decide +kernel
theorem dX8_bestOf_13 : decode cX8_bestOf 13 = .ok (.getfield 81, 3) := by decide +kernel
theorem dX8_bestOf_16 : decode cX8_bestOf 16 = .ok (.iload_n 2, 1) := by decide +kernel
theorem dX8_bestOf_17 : decode cX8_bestOf 17 = .ok (.iaload, 1) := by decide +kernel
theorem dX8_bestOf_18 : decode cX8_bestOf 18 = .ok (.iadd, 1) := by decide +kernel
theorem dX8_bestOf_19 : decode cX8_bestOf 19 = .ok (.if_icmp .ge 52, 3) := by decide +kernel
theorem dX8_bestOf_22 : decode cX8_bestOf 22 = .ok (.aload_n 0, 1) := by decide +kernel
theorem dX8_bestOf_23 : decode cX8_bestOf 23 = .ok (.getfield 96, 3) := by decide +kernel
theorem dX8_bestOf_26 : decode cX8_bestOf 26 = .ok (.bipush 32, 2) := by decide +kernel
theorem dX8_bestOf_28 : decode cX8_bestOf 28 = .ok (.iload_n 1, 1) := by decide +kernel
theorem dX8_bestOf_29 : decode cX8_bestOf 29 = .ok (.imul, 1) := by decide +kernel
theorem dX8_bestOf_30 : decode cX8_bestOf 30 = .ok (.aload_n 0, 1) := by decide +kernel
theorem dX8_bestOf_31 : decode cX8_bestOf 31 = .ok (.getfield 84, 3) := by decide +kernel
theorem dX8_bestOf_34 : decode cX8_bestOf 34 = .ok (.iload 4, 2) := by decide +kernel
theorem dX8_bestOf_36 : decode cX8_bestOf 36 = .ok (.iaload, 1) := by decide +kernel
theorem dX8_bestOf_37 : decode cX8_bestOf 37 = .ok (.iadd, 1) := by decide +kernel
theorem dX8_bestOf_38 : decode cX8_bestOf 38 = .ok (.baload, 1) := by decide +kernel
theorem dX8_bestOf_39 : decode cX8_bestOf 39 = .ok (.ifCond .ne 24, 3) := by decide +kernel
theorem dX8_bestOf_42 : decode cX8_bestOf 42 = .ok (.aload_n 0, 1) := by decide +kernel
theorem dX8_bestOf_43 : decode cX8_bestOf 43 = .ok (.getfield 87, 3) := by decide +kernel
theorem dX8_bestOf_46 : decode cX8_bestOf 46 = .ok (.iload 4, 2) := by decide +kernel
theorem dX8_bestOf_48 : decode cX8_bestOf 48 = .ok (.iaload, 1) := by decide +kernel
theorem dX8_bestOf_49 : decode cX8_bestOf 49 = .ok (.iload_n 3, 1) := by decide +kernel
theorem dX8_bestOf_50 : decode cX8_bestOf 50 = .ok (.if_icmp .ge 13, 3) := by decide +kernel
theorem dX8_bestOf_53 : decode cX8_bestOf 53 = .ok (.aload_n 0, 1) := by decide +kernel
theorem dX8_bestOf_54 : decode cX8_bestOf 54 = .ok (.getfield 87, 3) := by decide +kernel
theorem dX8_bestOf_57 : decode cX8_bestOf 57 = .ok (.iload 4, 2) := by decide +kernel
theorem dX8_bestOf_59 : decode cX8_bestOf 59 = .ok (.iaload, 1) := by decide +kernel
theorem dX8_bestOf_60 : decode cX8_bestOf 60 = .ok (.goto 4, 3) := by decide +kernel
theorem dX8_bestOf_63 : decode cX8_bestOf 63 = .ok (.iload_n 3, 1) := by decide +kernel
theorem dX8_bestOf_64 : decode cX8_bestOf 64 = .ok (.istore_n 3, 1) := by decide +kernel
theorem dX8_bestOf_65 : decode cX8_bestOf 65 = .ok (.iinc 4 1, 3) := by decide +kernel
theorem dX8_bestOf_68 : decode cX8_bestOf 68 = .ok (.goto (-61), 3) := by decide +kernel
theorem dX8_bestOf_71 : decode cX8_bestOf 71 = .ok (.iload_n 3, 1) := by decide +kernel
theorem dX8_bestOf_72 : decode cX8_bestOf 72 = .ok (.ireturn, 1) := by decide +kernel
theorem dX8_goesTo_0 : decode cX8_goesTo 0 = .ok (.aload_n 0, 1) := by decide +kernel
theorem dX8_goesTo_1 : decode cX8_goesTo 1 = .ok (.iload_n 1, 1) := by decide +kernel
theorem dX8_goesTo_2 : decode cX8_goesTo 2 = .ok (.iload_n 2, 1) := by decide +kernel
theorem dX8_goesTo_3 : decode cX8_goesTo 3 = .ok (.invokevirtual 185, 3) := by decide +kernel
theorem dX8_goesTo_6 : decode cX8_goesTo 6 = .ok (.istore_n 3, 1) := by decide +kernel
theorem dX8_goesTo_7 : decode cX8_goesTo 7 = .ok (.iconst 0, 1) := by decide +kernel
theorem dX8_goesTo_8 : decode cX8_goesTo 8 = .ok (.istore 4, 2) := by decide +kernel
theorem dX8_goesTo_10 : decode cX8_goesTo 10 = .ok (.iconst 0, 1) := by decide +kernel
theorem dX8_goesTo_11 : decode cX8_goesTo 11 = .ok (.istore 5, 2) := by decide +kernel
theorem dX8_goesTo_13 : decode cX8_goesTo 13 = .ok (.iconst 4, 1) := by decide +kernel
theorem dX8_goesTo_14 : decode cX8_goesTo 14 = .ok (.iload_n 2, 1) := by decide +kernel
theorem dX8_goesTo_15 : decode cX8_goesTo 15 = .ok (.imul, 1) := by decide +kernel
theorem dX8_goesTo_16 : decode cX8_goesTo 16 = .ok (.istore 6, 2) := by decide +kernel
theorem dX8_goesTo_18 : decode cX8_goesTo 18 = .ok (.iload 6, 2) := by decide +kernel
theorem dX8_goesTo_20 : decode cX8_goesTo 20 = .ok (.iconst 4, 1) := by decide +kernel
theorem dX8_goesTo_21 : decode cX8_goesTo 21 = .ok (.iload_n 2, 1) := by decide +kernel
theorem dX8_goesTo_22 : decode cX8_goesTo 22 = .ok (.imul, 1) := by decide +kernel
theorem dX8_goesTo_23 : decode cX8_goesTo 23 = .ok (.aload_n 0, 1) := by decide +kernel
theorem dX8_goesTo_24 : decode cX8_goesTo 24 = .ok (.getfield 81, 3) := by decide +kernel
theorem dX8_goesTo_27 : decode cX8_goesTo 27 = .ok (.iload_n 2, 1) := by decide +kernel
theorem dX8_goesTo_28 : decode cX8_goesTo 28 = .ok (.iaload, 1) := by decide +kernel
theorem dX8_goesTo_29 : decode cX8_goesTo 29 = .ok (.iadd, 1) := by decide +kernel
theorem dX8_goesTo_30 : decode cX8_goesTo 30 = .ok (.if_icmp .ge 89, 3) := by decide +kernel
theorem dX8_goesTo_33 : decode cX8_goesTo 33 = .ok (.aload_n 0, 1) := by decide +kernel
theorem dX8_goesTo_34 : decode cX8_goesTo 34 = .ok (.getfield 96, 3) := by decide +kernel
theorem dX8_goesTo_37 : decode cX8_goesTo 37 = .ok (.bipush 32, 2) := by decide +kernel
theorem dX8_goesTo_39 : decode cX8_goesTo 39 = .ok (.iload_n 1, 1) := by decide +kernel
theorem dX8_goesTo_40 : decode cX8_goesTo 40 = .ok (.imul, 1) := by decide +kernel
theorem dX8_goesTo_41 : decode cX8_goesTo 41 = .ok (.aload_n 0, 1) := by decide +kernel
theorem dX8_goesTo_42 : decode cX8_goesTo 42 = .ok (.getfield 84, 3) := by decide +kernel
theorem dX8_goesTo_45 : decode cX8_goesTo 45 = .ok (.iload 6, 2) := by decide +kernel
theorem dX8_goesTo_47 : decode cX8_goesTo 47 = .ok (.iaload, 1) := by decide +kernel
theorem dX8_goesTo_48 : decode cX8_goesTo 48 = .ok (.iadd, 1) := by decide +kernel
theorem dX8_goesTo_49 : decode cX8_goesTo 49 = .ok (.baload, 1) := by decide +kernel
theorem dX8_goesTo_50 : decode cX8_goesTo 50 = .ok (.ifCond .ne 18, 3) := by decide +kernel
theorem dX8_goesTo_53 : decode cX8_goesTo 53 = .ok (.aload_n 0, 1) := by decide +kernel
theorem dX8_goesTo_54 : decode cX8_goesTo 54 = .ok (.getfield 87, 3) := by decide +kernel
theorem dX8_goesTo_57 : decode cX8_goesTo 57 = .ok (.iload 6, 2) := by decide +kernel
theorem dX8_goesTo_59 : decode cX8_goesTo 59 = .ok (.iaload, 1) := by decide +kernel
theorem dX8_goesTo_60 : decode cX8_goesTo 60 = .ok (.iload_n 3, 1) := by decide +kernel
theorem dX8_goesTo_61 : decode cX8_goesTo 61 = .ok (.if_icmp .ne 7, 3) := by decide +kernel
theorem dX8_goesTo_64 : decode cX8_goesTo 64 = .ok (.iconst 1, 1) := by decide +kernel
theorem dX8_goesTo_65 : decode cX8_goesTo 65 = .ok (.goto 4, 3) := by decide +kernel
theorem dX8_goesTo_68 : decode cX8_goesTo 68 = .ok (.iconst 0, 1) := by decide +kernel
theorem dX8_goesTo_69 : decode cX8_goesTo 69 = .ok (.istore 7, 2) := by decide +kernel
theorem dX8_goesTo_71 : decode cX8_goesTo 71 = .ok (.iload 4, 2) := by decide +kernel
theorem dX8_goesTo_73 : decode cX8_goesTo 73 = .ok (.iload 7, 2) := by decide +kernel
theorem dX8_goesTo_75 : decode cX8_goesTo 75 = .ok (.ifCond .eq 13, 3) := by decide +kernel
theorem dX8_goesTo_78 : decode cX8_goesTo 78 = .ok (.aload_n 0, 1) := by decide +kernel
theorem dX8_goesTo_79 : decode cX8_goesTo 79 = .ok (.getfield 93, 3) := by decide +kernel
theorem dX8_goesTo_82 : decode cX8_goesTo 82 = .ok (.iload 6, 2) := by decide +kernel
theorem dX8_goesTo_84 : decode cX8_goesTo 84 = .ok (.iaload, 1) := by decide +kernel
theorem dX8_goesTo_85 : decode cX8_goesTo 85 = .ok (.goto 4, 3) := by decide +kernel
theorem dX8_goesTo_88 : decode cX8_goesTo 88 = .ok (.iconst 0, 1) := by decide +kernel
theorem dX8_goesTo_89 : decode cX8_goesTo 89 = .ok (.iadd, 1) := by decide +kernel
theorem dX8_goesTo_90 : decode cX8_goesTo 90 = .ok (.istore 4, 2) := by decide +kernel
theorem dX8_goesTo_92 : decode cX8_goesTo 92 = .ok (.iload 5, 2) := by decide +kernel
theorem dX8_goesTo_94 : decode cX8_goesTo 94 = .ok (.iload 7, 2) := by decide +kernel
theorem dX8_goesTo_96 : decode cX8_goesTo 96 = .ok (.ifCond .eq 13, 3) := by decide +kernel
theorem dX8_goesTo_99 : decode cX8_goesTo 99 = .ok (.aload_n 0, 1) := by decide +kernel
theorem dX8_goesTo_100 : decode cX8_goesTo 100 = .ok (.getfield 90, 3) := by decide +kernel
theorem dX8_goesTo_103 : decode cX8_goesTo 103 = .ok (.iload 6, 2) := by decide +kernel
theorem dX8_goesTo_105 : decode cX8_goesTo 105 = .ok (.iaload, 1) := by decide +kernel
theorem dX8_goesTo_106 : decode cX8_goesTo 106 = .ok (.goto 4, 3) := by decide +kernel
theorem dX8_goesTo_109 : decode cX8_goesTo 109 = .ok (.iconst 0, 1) := by decide +kernel
theorem dX8_goesTo_110 : decode cX8_goesTo 110 = .ok (.iadd, 1) := by decide +kernel
theorem dX8_goesTo_111 : decode cX8_goesTo 111 = .ok (.istore 5, 2) := by decide +kernel
theorem dX8_goesTo_113 : decode cX8_goesTo 113 = .ok (.iinc 6 1, 3) := by decide +kernel
theorem dX8_goesTo_116 : decode cX8_goesTo 116 = .ok (.goto (-98), 3) := by decide +kernel
theorem dX8_goesTo_119 : decode cX8_goesTo 119 = .ok (.iconst (-1), 1) := by decide +kernel
theorem dX8_goesTo_120 : decode cX8_goesTo 120 = .ok (.istore 6, 2) := by decide +kernel
theorem dX8_goesTo_122 : decode cX8_goesTo 122 = .ok (.iconst 0, 1) := by decide +kernel
theorem dX8_goesTo_123 : decode cX8_goesTo 123 = .ok (.istore 7, 2) := by decide +kernel
theorem dX8_goesTo_125 : decode cX8_goesTo 125 = .ok (.iconst 4, 1) := by decide +kernel
theorem dX8_goesTo_126 : decode cX8_goesTo 126 = .ok (.iload_n 2, 1) := by decide +kernel
theorem dX8_goesTo_127 : decode cX8_goesTo 127 = .ok (.imul, 1) := by decide +kernel
theorem dX8_goesTo_128 : decode cX8_goesTo 128 = .ok (.istore 8, 2) := by decide +kernel
theorem dX8_goesTo_130 : decode cX8_goesTo 130 = .ok (.iload 8, 2) := by decide +kernel
theorem dX8_goesTo_132 : decode cX8_goesTo 132 = .ok (.iconst 4, 1) := by decide +kernel
theorem dX8_goesTo_133 : decode cX8_goesTo 133 = .ok (.iload_n 2, 1) := by decide +kernel
theorem dX8_goesTo_134 : decode cX8_goesTo 134 = .ok (.imul, 1) := by decide +kernel
theorem dX8_goesTo_135 : decode cX8_goesTo 135 = .ok (.aload_n 0, 1) := by decide +kernel
theorem dX8_goesTo_136 : decode cX8_goesTo 136 = .ok (.getfield 81, 3) := by decide +kernel
theorem dX8_goesTo_139 : decode cX8_goesTo 139 = .ok (.iload_n 2, 1) := by decide +kernel
theorem dX8_goesTo_140 : decode cX8_goesTo 140 = .ok (.iaload, 1) := by decide +kernel
theorem dX8_goesTo_141 : decode cX8_goesTo 141 = .ok (.iadd, 1) := by decide +kernel
theorem dX8_goesTo_142 : decode cX8_goesTo 142 = .ok (.if_icmp .ge 98, 3) := by decide +kernel
theorem dX8_goesTo_145 : decode cX8_goesTo 145 = .ok (.aload_n 0, 1) := by decide +kernel
theorem dX8_goesTo_146 : decode cX8_goesTo 146 = .ok (.getfield 96, 3) := by decide +kernel
theorem dX8_goesTo_149 : decode cX8_goesTo 149 = .ok (.bipush 32, 2) := by decide +kernel
theorem dX8_goesTo_151 : decode cX8_goesTo 151 = .ok (.iload_n 1, 1) := by decide +kernel
theorem dX8_goesTo_152 : decode cX8_goesTo 152 = .ok (.imul, 1) := by decide +kernel
theorem dX8_goesTo_153 : decode cX8_goesTo 153 = .ok (.aload_n 0, 1) := by decide +kernel
theorem dX8_goesTo_154 : decode cX8_goesTo 154 = .ok (.getfield 84, 3) := by decide +kernel
theorem dX8_goesTo_157 : decode cX8_goesTo 157 = .ok (.iload 8, 2) := by decide +kernel
theorem dX8_goesTo_159 : decode cX8_goesTo 159 = .ok (.iaload, 1) := by decide +kernel
theorem dX8_goesTo_160 : decode cX8_goesTo 160 = .ok (.iadd, 1) := by decide +kernel
theorem dX8_goesTo_161 : decode cX8_goesTo 161 = .ok (.baload, 1) := by decide +kernel
theorem dX8_goesTo_162 : decode cX8_goesTo 162 = .ok (.ifCond .ne 18, 3) := by decide +kernel
theorem dX8_goesTo_165 : decode cX8_goesTo 165 = .ok (.aload_n 0, 1) := by decide +kernel
theorem dX8_goesTo_166 : decode cX8_goesTo 166 = .ok (.getfield 87, 3) := by decide +kernel
theorem dX8_goesTo_169 : decode cX8_goesTo 169 = .ok (.iload 8, 2) := by decide +kernel
theorem dX8_goesTo_171 : decode cX8_goesTo 171 = .ok (.iaload, 1) := by decide +kernel
theorem dX8_goesTo_172 : decode cX8_goesTo 172 = .ok (.iload_n 3, 1) := by decide +kernel
theorem dX8_goesTo_173 : decode cX8_goesTo 173 = .ok (.if_icmp .ne 7, 3) := by decide +kernel
theorem dX8_goesTo_176 : decode cX8_goesTo 176 = .ok (.iconst 1, 1) := by decide +kernel
theorem dX8_goesTo_177 : decode cX8_goesTo 177 = .ok (.goto 4, 3) := by decide +kernel
theorem dX8_goesTo_180 : decode cX8_goesTo 180 = .ok (.iconst 0, 1) := by decide +kernel
theorem dX8_goesTo_181 : decode cX8_goesTo 181 = .ok (.istore 9, 2) := by decide +kernel
theorem dX8_goesTo_183 : decode cX8_goesTo 183 = .ok (.aload_n 0, 1) := by decide +kernel
theorem dX8_goesTo_184 : decode cX8_goesTo 184 = .ok (.getfield 90, 3) := by decide +kernel
theorem dX8_goesTo_187 : decode cX8_goesTo 187 = .ok (.iload 8, 2) := by decide +kernel
theorem dX8_goesTo_189 : decode cX8_goesTo 189 = .ok (.iaload, 1) := by decide +kernel
theorem dX8_goesTo_190 : decode cX8_goesTo 190 = .ok (.iload 4, 2) := by decide +kernel
theorem dX8_goesTo_192 : decode cX8_goesTo 192 = .ok (.iconst 1, 1) := by decide +kernel
theorem dX8_goesTo_193 : decode cX8_goesTo 193 = .ok (.iadd, 1) := by decide +kernel
theorem dX8_goesTo_194 : decode cX8_goesTo 194 = .ok (.imul, 1) := by decide +kernel
theorem dX8_goesTo_195 : decode cX8_goesTo 195 = .ok (.iload 5, 2) := by decide +kernel
theorem dX8_goesTo_197 : decode cX8_goesTo 197 = .ok (.aload_n 0, 1) := by decide +kernel
theorem dX8_goesTo_198 : decode cX8_goesTo 198 = .ok (.getfield 93, 3) := by decide +kernel
theorem dX8_goesTo_201 : decode cX8_goesTo 201 = .ok (.iload 8, 2) := by decide +kernel
theorem dX8_goesTo_203 : decode cX8_goesTo 203 = .ok (.iaload, 1) := by decide +kernel
theorem dX8_goesTo_204 : decode cX8_goesTo 204 = .ok (.imul, 1) := by decide +kernel
theorem dX8_goesTo_205 : decode cX8_goesTo 205 = .ok (.isub, 1) := by decide +kernel
theorem dX8_goesTo_206 : decode cX8_goesTo 206 = .ok (.istore 10, 2) := by decide +kernel
theorem dX8_goesTo_208 : decode cX8_goesTo 208 = .ok (.iload 9, 2) := by decide +kernel
theorem dX8_goesTo_210 : decode cX8_goesTo 210 = .ok (.ifCond .eq 24, 3) := by decide +kernel
theorem dX8_goesTo_213 : decode cX8_goesTo 213 = .ok (.iload 6, 2) := by decide +kernel
theorem dX8_goesTo_215 : decode cX8_goesTo 215 = .ok (.iconst (-1), 1) := by decide +kernel
theorem dX8_goesTo_216 : decode cX8_goesTo 216 = .ok (.if_icmp .eq 10, 3) := by decide +kernel
theorem dX8_goesTo_219 : decode cX8_goesTo 219 = .ok (.iload 10, 2) := by decide +kernel
theorem dX8_goesTo_221 : decode cX8_goesTo 221 = .ok (.iload 7, 2) := by decide +kernel
theorem dX8_goesTo_223 : decode cX8_goesTo 223 = .ok (.if_icmp .le 11, 3) := by decide +kernel
theorem dX8_goesTo_226 : decode cX8_goesTo 226 = .ok (.iload 8, 2) := by decide +kernel
theorem dX8_goesTo_228 : decode cX8_goesTo 228 = .ok (.istore 6, 2) := by decide +kernel
theorem dX8_goesTo_230 : decode cX8_goesTo 230 = .ok (.iload 10, 2) := by decide +kernel
theorem dX8_goesTo_232 : decode cX8_goesTo 232 = .ok (.istore 7, 2) := by decide +kernel
theorem dX8_goesTo_234 : decode cX8_goesTo 234 = .ok (.iinc 8 1, 3) := by decide +kernel
theorem dX8_goesTo_237 : decode cX8_goesTo 237 = .ok (.goto (-107), 3) := by decide +kernel
theorem dX8_goesTo_240 : decode cX8_goesTo 240 = .ok (.aload_n 0, 1) := by decide +kernel
theorem dX8_goesTo_241 : decode cX8_goesTo 241 = .ok (.getfield 93, 3) := by decide +kernel
theorem dX8_goesTo_244 : decode cX8_goesTo 244 = .ok (.iload 6, 2) := by decide +kernel
theorem dX8_goesTo_246 : decode cX8_goesTo 246 = .ok (.dup2, 1) := by decide +kernel
theorem dX8_goesTo_247 : decode cX8_goesTo 247 = .ok (.iaload, 1) := by decide +kernel
theorem dX8_goesTo_248 : decode cX8_goesTo 248 = .ok (.iconst 1, 1) := by decide +kernel
theorem dX8_goesTo_249 : decode cX8_goesTo 249 = .ok (.iadd, 1) := by decide +kernel
theorem dX8_goesTo_250 : decode cX8_goesTo 250 = .ok (.iastore, 1) := by decide +kernel
theorem dX8_goesTo_251 : decode cX8_goesTo 251 = .ok (.aload_n 0, 1) := by decide +kernel
theorem dX8_goesTo_252 : decode cX8_goesTo 252 = .ok (.getfield 84, 3) := by decide +kernel
theorem dX8_goesTo_255 : decode cX8_goesTo 255 = .ok (.iload 6, 2) := by decide +kernel
theorem dX8_goesTo_257 : decode cX8_goesTo 257 = .ok (.iaload, 1) := by decide +kernel
theorem dX8_goesTo_258 : decode cX8_goesTo 258 = .ok (.ireturn, 1) := by decide +kernel
theorem dX8_isRouter_0 : decode cX8_isRouter 0 = .ok (.iload_n 0, 1) := by decide +kernel
theorem dX8_isRouter_1 : decode cX8_isRouter 1 = .ok (.iconst 0, 1) := by decide +kernel
theorem dX8_isRouter_2 : decode cX8_isRouter 2 = .ok (.iconst 2, 1) := by decide +kernel
theorem dX8_isRouter_3 : decode cX8_isRouter 3 = .ok (.invokestatic 103, 3) := by decide +kernel
theorem dX8_isRouter_6 : decode cX8_isRouter 6 = .ok (.ireturn, 1) := by decide +kernel
theorem dX8_send_0 : decode cX8_send 0 = .ok (.aload_n 0, 1) := by decide +kernel
theorem dX8_send_1 : decode cX8_send 1 = .ok (.iload_n 1, 1) := by decide +kernel
theorem dX8_send_2 : decode cX8_send 2 = .ok (.invokestatic 188, 3) := by decide +kernel
theorem dX8_send_5 : decode cX8_send 5 = .ok (.ifCond .ne 7, 3) := by decide +kernel
theorem dX8_send_8 : decode cX8_send 8 = .ok (.iconst 1, 1) := by decide +kernel
theorem dX8_send_9 : decode cX8_send 9 = .ok (.goto 15, 3) := by decide +kernel
theorem dX8_send_12 : decode cX8_send 12 = .ok (.iload_n 2, 1) := by decide +kernel
theorem dX8_send_13 : decode cX8_send 13 = .ok (.invokestatic 107, 3) := by decide +kernel
theorem dX8_send_16 : decode cX8_send 16 = .ok (.ifCond .eq 7, 3) := by decide +kernel
theorem dX8_send_19 : decode cX8_send 19 = .ok (.iconst 0, 1) := by decide +kernel
theorem dX8_send_20 : decode cX8_send 20 = .ok (.goto 4, 3) := by decide +kernel
theorem dX8_send_23 : decode cX8_send 23 = .ok (.iconst 2, 1) := by decide +kernel
theorem dX8_send_24 : decode cX8_send 24 = .ok (.putfield 99, 3) := by decide +kernel
theorem dX8_send_27 : decode cX8_send 27 = .ok (.aload_n 0, 1) := by decide +kernel
theorem dX8_send_28 : decode cX8_send 28 = .ok (.getfield 99, 3) := by decide +kernel
theorem dX8_send_31 : decode cX8_send 31 = .ok (.ifCond .le 5, 3) := by decide +kernel
theorem dX8_send_34 : decode cX8_send 34 = .ok (.iconst 0, 1) := by decide +kernel
theorem dX8_send_35 : decode cX8_send 35 = .ok (.ireturn, 1) := by decide +kernel
theorem dX8_send_36 : decode cX8_send 36 = .ok (.aload_n 0, 1) := by decide +kernel
theorem dX8_send_37 : decode cX8_send 37 = .ok (.iload_n 1, 1) := by decide +kernel
theorem dX8_send_38 : decode cX8_send 38 = .ok (.iload_n 2, 1) := by decide +kernel
theorem dX8_send_39 : decode cX8_send 39 = .ok (.invokevirtual 191, 3) := by decide +kernel
theorem dX8_send_42 : decode cX8_send 42 = .ok (.istore_n 3, 1) := by decide +kernel
theorem dX8_send_43 : decode cX8_send 43 = .ok (.iload_n 3, 1) := by decide +kernel
theorem dX8_send_44 : decode cX8_send 44 = .ok (.iconst (-1), 1) := by decide +kernel
theorem dX8_send_45 : decode cX8_send 45 = .ok (.if_icmp .ne 41, 3) := by decide +kernel
theorem dX8_send_48 : decode cX8_send 48 = .ok (.aload_n 0, 1) := by decide +kernel
theorem dX8_send_49 : decode cX8_send 49 = .ok (.iload_n 2, 1) := by decide +kernel
theorem dX8_send_50 : decode cX8_send 50 = .ok (.invokevirtual 164, 3) := by decide +kernel
theorem dX8_send_53 : decode cX8_send 53 = .ok (.istore 4, 2) := by decide +kernel
theorem dX8_send_55 : decode cX8_send 55 = .ok (.aload_n 0, 1) := by decide +kernel
theorem dX8_send_56 : decode cX8_send 56 = .ok (.getfield 51, 3) := by decide +kernel
theorem dX8_send_59 : decode cX8_send 59 = .ok (.iload 4, 2) := by decide +kernel
theorem dX8_send_61 : decode cX8_send 61 = .ok (.baload, 1) := by decide +kernel
theorem dX8_send_62 : decode cX8_send 62 = .ok (.ifCond .eq 6, 3) := by decide +kernel
theorem dX8_send_65 : decode cX8_send 65 = .ok (.bipush (-2), 2) := by decide +kernel
theorem dX8_send_67 : decode cX8_send 67 = .ok (.ireturn, 1) := by decide +kernel
theorem dX8_send_68 : decode cX8_send 68 = .ok (.aload_n 0, 1) := by decide +kernel
theorem dX8_send_69 : decode cX8_send 69 = .ok (.getfield 54, 3) := by decide +kernel
theorem dX8_send_72 : decode cX8_send 72 = .ok (.iload 4, 2) := by decide +kernel
theorem dX8_send_74 : decode cX8_send 74 = .ok (.dup2, 1) := by decide +kernel
theorem dX8_send_75 : decode cX8_send 75 = .ok (.iaload, 1) := by decide +kernel
theorem dX8_send_76 : decode cX8_send 76 = .ok (.iconst 1, 1) := by decide +kernel
theorem dX8_send_77 : decode cX8_send 77 = .ok (.iadd, 1) := by decide +kernel
theorem dX8_send_78 : decode cX8_send 78 = .ok (.iastore, 1) := by decide +kernel
theorem dX8_send_79 : decode cX8_send 79 = .ok (.aload_n 0, 1) := by decide +kernel
theorem dX8_send_80 : decode cX8_send 80 = .ok (.iload_n 1, 1) := by decide +kernel
theorem dX8_send_81 : decode cX8_send 81 = .ok (.iload_n 2, 1) := by decide +kernel
theorem dX8_send_82 : decode cX8_send 82 = .ok (.invokevirtual 194, 3) := by decide +kernel
theorem dX8_send_85 : decode cX8_send 85 = .ok (.istore_n 3, 1) := by decide +kernel
theorem dX8_send_86 : decode cX8_send 86 = .ok (.aload_n 0, 1) := by decide +kernel
theorem dX8_send_87 : decode cX8_send 87 = .ok (.dup, 1) := by decide +kernel
theorem dX8_send_88 : decode cX8_send 88 = .ok (.getfield 167, 3) := by decide +kernel
theorem dX8_send_91 : decode cX8_send 91 = .ok (.iconst 1, 1) := by decide +kernel
theorem dX8_send_92 : decode cX8_send 92 = .ok (.iadd, 1) := by decide +kernel
theorem dX8_send_93 : decode cX8_send 93 = .ok (.putfield 167, 3) := by decide +kernel
theorem dX8_send_96 : decode cX8_send 96 = .ok (.aload_n 0, 1) := by decide +kernel
theorem dX8_send_97 : decode cX8_send 97 = .ok (.getfield 60, 3) := by decide +kernel
theorem dX8_send_100 : decode cX8_send 100 = .ok (.iload_n 3, 1) := by decide +kernel
theorem dX8_send_101 : decode cX8_send 101 = .ok (.aload_n 0, 1) := by decide +kernel
theorem dX8_send_102 : decode cX8_send 102 = .ok (.getfield 167, 3) := by decide +kernel
theorem dX8_send_105 : decode cX8_send 105 = .ok (.iastore, 1) := by decide +kernel
theorem dX8_send_106 : decode cX8_send 106 = .ok (.aload_n 0, 1) := by decide +kernel
theorem dX8_send_107 : decode cX8_send 107 = .ok (.getfield 69, 3) := by decide +kernel
theorem dX8_send_110 : decode cX8_send 110 = .ok (.iload_n 3, 1) := by decide +kernel
theorem dX8_send_111 : decode cX8_send 111 = .ok (.iaload, 1) := by decide +kernel
theorem dX8_send_112 : decode cX8_send 112 = .ok (.iconst (-1), 1) := by decide +kernel
theorem dX8_send_113 : decode cX8_send 113 = .ok (.if_icmp .ne 7, 3) := by decide +kernel
theorem dX8_send_116 : decode cX8_send 116 = .ok (.iconst (-1), 1) := by decide +kernel
theorem dX8_send_117 : decode cX8_send 117 = .ok (.goto 24, 3) := by decide +kernel
theorem dX8_send_120 : decode cX8_send 120 = .ok (.aload_n 0, 1) := by decide +kernel
theorem dX8_send_121 : decode cX8_send 121 = .ok (.iload_n 1, 1) := by decide +kernel
theorem dX8_send_122 : decode cX8_send 122 = .ok (.iload_n 3, 1) := by decide +kernel
theorem dX8_send_123 : decode cX8_send 123 = .ok (.invokevirtual 185, 3) := by decide +kernel
theorem dX8_send_126 : decode cX8_send 126 = .ok (.iconst 4, 1) := by decide +kernel
theorem dX8_send_127 : decode cX8_send 127 = .ok (.if_icmp .ne 8, 3) := by decide +kernel
theorem dX8_send_130 : decode cX8_send 130 = .ok (.bipush (-3), 2) := by decide +kernel
theorem dX8_send_132 : decode cX8_send 132 = .ok (.goto 9, 3) := by decide +kernel
theorem dX8_send_135 : decode cX8_send 135 = .ok (.aload_n 0, 1) := by decide +kernel
theorem dX8_send_136 : decode cX8_send 136 = .ok (.iload_n 1, 1) := by decide +kernel
theorem dX8_send_137 : decode cX8_send 137 = .ok (.iload_n 3, 1) := by decide +kernel
theorem dX8_send_138 : decode cX8_send 138 = .ok (.invokevirtual 197, 3) := by decide +kernel
theorem dX8_send_141 : decode cX8_send 141 = .ok (.ireturn, 1) := by decide +kernel
theorem dX8_probe_0 : decode cX8_probe 0 = .ok (.aload_n 0, 1) := by decide +kernel
theorem dX8_probe_1 : decode cX8_probe 1 = .ok (.iload_n 1, 1) := by decide +kernel
theorem dX8_probe_2 : decode cX8_probe 2 = .ok (.invokestatic 188, 3) := by decide +kernel
theorem dX8_probe_5 : decode cX8_probe 5 = .ok (.ifCond .ne 7, 3) := by decide +kernel
theorem dX8_probe_8 : decode cX8_probe 8 = .ok (.iconst 1, 1) := by decide +kernel
theorem dX8_probe_9 : decode cX8_probe 9 = .ok (.goto 18, 3) := by decide +kernel
theorem dX8_probe_12 : decode cX8_probe 12 = .ok (.iload_n 2, 1) := by decide +kernel
theorem dX8_probe_13 : decode cX8_probe 13 = .ok (.iconst 0, 1) := by decide +kernel
theorem dX8_probe_14 : decode cX8_probe 14 = .ok (.bipush 31, 2) := by decide +kernel
theorem dX8_probe_16 : decode cX8_probe 16 = .ok (.invokestatic 103, 3) := by decide +kernel
theorem dX8_probe_19 : decode cX8_probe 19 = .ok (.ifCond .eq 7, 3) := by decide +kernel
theorem dX8_probe_22 : decode cX8_probe 22 = .ok (.iconst 0, 1) := by decide +kernel
theorem dX8_probe_23 : decode cX8_probe 23 = .ok (.goto 4, 3) := by decide +kernel
theorem dX8_probe_26 : decode cX8_probe 26 = .ok (.iconst 2, 1) := by decide +kernel
theorem dX8_probe_27 : decode cX8_probe 27 = .ok (.putfield 99, 3) := by decide +kernel
theorem dX8_probe_30 : decode cX8_probe 30 = .ok (.aload_n 0, 1) := by decide +kernel
theorem dX8_probe_31 : decode cX8_probe 31 = .ok (.getfield 99, 3) := by decide +kernel
theorem dX8_probe_34 : decode cX8_probe 34 = .ok (.ifCond .le 5, 3) := by decide +kernel
theorem dX8_probe_37 : decode cX8_probe 37 = .ok (.iconst 0, 1) := by decide +kernel
theorem dX8_probe_38 : decode cX8_probe 38 = .ok (.ireturn, 1) := by decide +kernel
theorem dX8_probe_39 : decode cX8_probe 39 = .ok (.aload_n 0, 1) := by decide +kernel
theorem dX8_probe_40 : decode cX8_probe 40 = .ok (.getfield 96, 3) := by decide +kernel
theorem dX8_probe_43 : decode cX8_probe 43 = .ok (.bipush 32, 2) := by decide +kernel
theorem dX8_probe_45 : decode cX8_probe 45 = .ok (.iload_n 1, 1) := by decide +kernel
theorem dX8_probe_46 : decode cX8_probe 46 = .ok (.imul, 1) := by decide +kernel
theorem dX8_probe_47 : decode cX8_probe 47 = .ok (.iload_n 2, 1) := by decide +kernel
theorem dX8_probe_48 : decode cX8_probe 48 = .ok (.iadd, 1) := by decide +kernel
theorem dX8_probe_49 : decode cX8_probe 49 = .ok (.iload_n 3, 1) := by decide +kernel
theorem dX8_probe_50 : decode cX8_probe 50 = .ok (.ifCond .ne 7, 3) := by decide +kernel
theorem dX8_probe_53 : decode cX8_probe 53 = .ok (.iconst 1, 1) := by decide +kernel
theorem dX8_probe_54 : decode cX8_probe 54 = .ok (.goto 4, 3) := by decide +kernel
theorem dX8_probe_57 : decode cX8_probe 57 = .ok (.iconst 0, 1) := by decide +kernel
theorem dX8_probe_58 : decode cX8_probe 58 = .ok (.bastore, 1) := by decide +kernel
theorem dX8_probe_59 : decode cX8_probe 59 = .ok (.iconst 0, 1) := by decide +kernel
theorem dX8_probe_60 : decode cX8_probe 60 = .ok (.istore 4, 2) := by decide +kernel
theorem dX8_probe_62 : decode cX8_probe 62 = .ok (.iconst 0, 1) := by decide +kernel
theorem dX8_probe_63 : decode cX8_probe 63 = .ok (.istore 5, 2) := by decide +kernel
theorem dX8_probe_65 : decode cX8_probe 65 = .ok (.iload 5, 2) := by decide +kernel
theorem dX8_probe_67 : decode cX8_probe 67 = .ok (.bipush 32, 2) := by decide +kernel
theorem dX8_probe_69 : decode cX8_probe 69 = .ok (.if_icmp .ge 34, 3) := by decide +kernel
theorem dX8_probe_72 : decode cX8_probe 72 = .ok (.iload 4, 2) := by decide +kernel
theorem dX8_probe_74 : decode cX8_probe 74 = .ok (.aload_n 0, 1) := by decide +kernel
theorem dX8_probe_75 : decode cX8_probe 75 = .ok (.getfield 96, 3) := by decide +kernel
theorem dX8_probe_78 : decode cX8_probe 78 = .ok (.bipush 32, 2) := by decide +kernel
theorem dX8_probe_80 : decode cX8_probe 80 = .ok (.iload_n 1, 1) := by decide +kernel
theorem dX8_probe_81 : decode cX8_probe 81 = .ok (.imul, 1) := by decide +kernel
theorem dX8_probe_82 : decode cX8_probe 82 = .ok (.iload 5, 2) := by decide +kernel
theorem dX8_probe_84 : decode cX8_probe 84 = .ok (.iadd, 1) := by decide +kernel
theorem dX8_probe_85 : decode cX8_probe 85 = .ok (.baload, 1) := by decide +kernel
theorem dX8_probe_86 : decode cX8_probe 86 = .ok (.ifCond .eq 7, 3) := by decide +kernel
theorem dX8_probe_89 : decode cX8_probe 89 = .ok (.iconst 1, 1) := by decide +kernel
theorem dX8_probe_90 : decode cX8_probe 90 = .ok (.goto 4, 3) := by decide +kernel
theorem dX8_probe_93 : decode cX8_probe 93 = .ok (.iconst 0, 1) := by decide +kernel
theorem dX8_probe_94 : decode cX8_probe 94 = .ok (.iadd, 1) := by decide +kernel
theorem dX8_probe_95 : decode cX8_probe 95 = .ok (.istore 4, 2) := by decide +kernel
theorem dX8_probe_97 : decode cX8_probe 97 = .ok (.iinc 5 1, 3) := by decide +kernel
theorem dX8_probe_100 : decode cX8_probe 100 = .ok (.goto (-35), 3) := by decide +kernel
theorem dX8_probe_103 : decode cX8_probe 103 = .ok (.iload 4, 2) := by decide +kernel
theorem dX8_probe_105 : decode cX8_probe 105 = .ok (.ireturn, 1) := by decide +kernel
theorem dX8_setLifetimes_0 : decode cX8_setLifetimes 0 = .ok (.aload_n 0, 1) := by decide +kernel
theorem dX8_setLifetimes_1 : decode cX8_setLifetimes 1 = .ok (.iload_n 1, 1) := by decide +kernel
theorem dX8_setLifetimes_2 : decode cX8_setLifetimes 2 = .ok (.iconst 1, 1) := by decide +kernel
theorem dX8_setLifetimes_3 : decode cX8_setLifetimes 3 = .ok (.sipush 1000, 3) := by decide +kernel
theorem dX8_setLifetimes_6 : decode cX8_setLifetimes 6 = .ok (.invokestatic 103, 3) := by decide +kernel
theorem dX8_setLifetimes_9 : decode cX8_setLifetimes 9 = .ok (.ifCond .eq 18, 3) := by decide +kernel
theorem dX8_setLifetimes_12 : decode cX8_setLifetimes 12 = .ok (.iload_n 2, 1) := by decide +kernel
theorem dX8_setLifetimes_13 : decode cX8_setLifetimes 13 = .ok (.iconst 1, 1) := by decide +kernel
theorem dX8_setLifetimes_14 : decode cX8_setLifetimes 14 = .ok (.sipush 1000, 3) := by decide +kernel
theorem dX8_setLifetimes_17 : decode cX8_setLifetimes 17 = .ok (.invokestatic 103, 3) := by decide +kernel
theorem dX8_setLifetimes_20 : decode cX8_setLifetimes 20 = .ok (.ifCond .eq 7, 3) := by decide +kernel
theorem dX8_setLifetimes_23 : decode cX8_setLifetimes 23 = .ok (.iconst 0, 1) := by decide +kernel
theorem dX8_setLifetimes_24 : decode cX8_setLifetimes 24 = .ok (.goto 4, 3) := by decide +kernel
theorem dX8_setLifetimes_27 : decode cX8_setLifetimes 27 = .ok (.iconst 1, 1) := by decide +kernel
theorem dX8_setLifetimes_28 : decode cX8_setLifetimes 28 = .ok (.putfield 99, 3) := by decide +kernel
theorem dX8_setLifetimes_31 : decode cX8_setLifetimes 31 = .ok (.aload_n 0, 1) := by decide +kernel
theorem dX8_setLifetimes_32 : decode cX8_setLifetimes 32 = .ok (.getfield 99, 3) := by decide +kernel
theorem dX8_setLifetimes_35 : decode cX8_setLifetimes 35 = .ok (.ifCond .le 5, 3) := by decide +kernel
theorem dX8_setLifetimes_38 : decode cX8_setLifetimes 38 = .ok (.iconst 0, 1) := by decide +kernel
theorem dX8_setLifetimes_39 : decode cX8_setLifetimes 39 = .ok (.ireturn, 1) := by decide +kernel
theorem dX8_setLifetimes_40 : decode cX8_setLifetimes 40 = .ok (.aload_n 0, 1) := by decide +kernel
theorem dX8_setLifetimes_41 : decode cX8_setLifetimes 41 = .ok (.getfield 7, 3) := by decide +kernel
theorem dX8_setLifetimes_44 : decode cX8_setLifetimes 44 = .ok (.istore_n 3, 1) := by decide +kernel
theorem dX8_setLifetimes_45 : decode cX8_setLifetimes 45 = .ok (.aload_n 0, 1) := by decide +kernel
theorem dX8_setLifetimes_46 : decode cX8_setLifetimes 46 = .ok (.iload_n 1, 1) := by decide +kernel
theorem dX8_setLifetimes_47 : decode cX8_setLifetimes 47 = .ok (.putfield 7, 3) := by decide +kernel
theorem dX8_setLifetimes_50 : decode cX8_setLifetimes 50 = .ok (.aload_n 0, 1) := by decide +kernel
theorem dX8_setLifetimes_51 : decode cX8_setLifetimes 51 = .ok (.iload_n 2, 1) := by decide +kernel
theorem dX8_setLifetimes_52 : decode cX8_setLifetimes 52 = .ok (.putfield 13, 3) := by decide +kernel
theorem dX8_setLifetimes_55 : decode cX8_setLifetimes 55 = .ok (.iload_n 3, 1) := by decide +kernel
theorem dX8_setLifetimes_56 : decode cX8_setLifetimes 56 = .ok (.ireturn, 1) := by decide +kernel
theorem dX8_pass_0 : decode cX8_pass 0 = .ok (.aload_n 0, 1) := by decide +kernel
theorem dX8_pass_1 : decode cX8_pass 1 = .ok (.iload_n 1, 1) := by decide +kernel
theorem dX8_pass_2 : decode cX8_pass 2 = .ok (.iconst 1, 1) := by decide +kernel
theorem dX8_pass_3 : decode cX8_pass 3 = .ok (.sipush 1000, 3) := by decide +kernel
theorem dX8_pass_6 : decode cX8_pass 6 = .ok (.invokestatic 103, 3) := by decide +kernel
theorem dX8_pass_9 : decode cX8_pass 9 = .ok (.ifCond .eq 7, 3) := by decide +kernel
theorem dX8_pass_12 : decode cX8_pass 12 = .ok (.iconst 0, 1) := by decide +kernel
theorem dX8_pass_13 : decode cX8_pass 13 = .ok (.goto 4, 3) := by decide +kernel
theorem dX8_pass_16 : decode cX8_pass 16 = .ok (.iconst 1, 1) := by decide +kernel
theorem dX8_pass_17 : decode cX8_pass 17 = .ok (.putfield 99, 3) := by decide +kernel
theorem dX8_pass_20 : decode cX8_pass 20 = .ok (.aload_n 0, 1) := by decide +kernel
theorem dX8_pass_21 : decode cX8_pass 21 = .ok (.getfield 99, 3) := by decide +kernel
theorem dX8_pass_24 : decode cX8_pass 24 = .ok (.ifCond .le 5, 3) := by decide +kernel
theorem dX8_pass_27 : decode cX8_pass 27 = .ok (.iconst 0, 1) := by decide +kernel
theorem dX8_pass_28 : decode cX8_pass 28 = .ok (.ireturn, 1) := by decide +kernel
theorem dX8_pass_29 : decode cX8_pass 29 = .ok (.aload_n 0, 1) := by decide +kernel
theorem dX8_pass_30 : decode cX8_pass 30 = .ok (.dup, 1) := by decide +kernel
theorem dX8_pass_31 : decode cX8_pass 31 = .ok (.getfield 173, 3) := by decide +kernel
theorem dX8_pass_34 : decode cX8_pass 34 = .ok (.iload_n 1, 1) := by decide +kernel
theorem dX8_pass_35 : decode cX8_pass 35 = .ok (.iadd, 1) := by decide +kernel
theorem dX8_pass_36 : decode cX8_pass 36 = .ok (.putfield 173, 3) := by decide +kernel
theorem dX8_pass_39 : decode cX8_pass 39 = .ok (.aload_n 0, 1) := by decide +kernel
theorem dX8_pass_40 : decode cX8_pass 40 = .ok (.getfield 173, 3) := by decide +kernel
theorem dX8_pass_43 : decode cX8_pass 43 = .ok (.ireturn, 1) := by decide +kernel
theorem dX8_entries_0 : decode cX8_entries 0 = .ok (.aload_n 0, 1) := by decide +kernel
theorem dX8_entries_1 : decode cX8_entries 1 = .ok (.iload_n 1, 1) := by decide +kernel
theorem dX8_entries_2 : decode cX8_entries 2 = .ok (.invokestatic 188, 3) := by decide +kernel
theorem dX8_entries_5 : decode cX8_entries 5 = .ok (.ifCond .eq 7, 3) := by decide +kernel
theorem dX8_entries_8 : decode cX8_entries 8 = .ok (.iconst 0, 1) := by decide +kernel
theorem dX8_entries_9 : decode cX8_entries 9 = .ok (.goto 4, 3) := by decide +kernel
theorem dX8_entries_12 : decode cX8_entries 12 = .ok (.iconst 1, 1) := by decide +kernel
theorem dX8_entries_13 : decode cX8_entries 13 = .ok (.putfield 99, 3) := by decide +kernel
theorem dX8_entries_16 : decode cX8_entries 16 = .ok (.aload_n 0, 1) := by decide +kernel
theorem dX8_entries_17 : decode cX8_entries 17 = .ok (.getfield 99, 3) := by decide +kernel
theorem dX8_entries_20 : decode cX8_entries 20 = .ok (.ifCond .le 7, 3) := by decide +kernel
theorem dX8_entries_23 : decode cX8_entries 23 = .ok (.iconst 0, 1) := by decide +kernel
theorem dX8_entries_24 : decode cX8_entries 24 = .ok (.goto 8, 3) := by decide +kernel
theorem dX8_entries_27 : decode cX8_entries 27 = .ok (.aload_n 0, 1) := by decide +kernel
theorem dX8_entries_28 : decode cX8_entries 28 = .ok (.iload_n 1, 1) := by decide +kernel
theorem dX8_entries_29 : decode cX8_entries 29 = .ok (.invokevirtual 176, 3) := by decide +kernel
theorem dX8_entries_32 : decode cX8_entries 32 = .ok (.ireturn, 1) := by decide +kernel
theorem dX8_asks_0 : decode cX8_asks 0 = .ok (.aload_n 0, 1) := by decide +kernel
theorem dX8_asks_1 : decode cX8_asks 1 = .ok (.iload_n 1, 1) := by decide +kernel
theorem dX8_asks_2 : decode cX8_asks 2 = .ok (.invokestatic 188, 3) := by decide +kernel
theorem dX8_asks_5 : decode cX8_asks 5 = .ok (.ifCond .eq 22, 3) := by decide +kernel
theorem dX8_asks_8 : decode cX8_asks 8 = .ok (.iload_n 2, 1) := by decide +kernel
theorem dX8_asks_9 : decode cX8_asks 9 = .ok (.iconst 0, 1) := by decide +kernel
theorem dX8_asks_10 : decode cX8_asks 10 = .ok (.aload_n 0, 1) := by decide +kernel
theorem dX8_asks_11 : decode cX8_asks 11 = .ok (.iload_n 1, 1) := by decide +kernel
theorem dX8_asks_12 : decode cX8_asks 12 = .ok (.invokevirtual 176, 3) := by decide +kernel
theorem dX8_asks_15 : decode cX8_asks 15 = .ok (.iconst 1, 1) := by decide +kernel
theorem dX8_asks_16 : decode cX8_asks 16 = .ok (.isub, 1) := by decide +kernel
theorem dX8_asks_17 : decode cX8_asks 17 = .ok (.invokestatic 103, 3) := by decide +kernel
theorem dX8_asks_20 : decode cX8_asks 20 = .ok (.ifCond .eq 7, 3) := by decide +kernel
theorem dX8_asks_23 : decode cX8_asks 23 = .ok (.iconst 0, 1) := by decide +kernel
theorem dX8_asks_24 : decode cX8_asks 24 = .ok (.goto 4, 3) := by decide +kernel
theorem dX8_asks_27 : decode cX8_asks 27 = .ok (.iconst 1, 1) := by decide +kernel
theorem dX8_asks_28 : decode cX8_asks 28 = .ok (.putfield 99, 3) := by decide +kernel
