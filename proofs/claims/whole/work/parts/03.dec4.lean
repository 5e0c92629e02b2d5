theorem dX8_asks_31 : decode cX8_asks 31 = .ok (.aload_n 0, 1) := by decide +kernel
theorem dX8_asks_32 : decode cX8_asks 32 = .ok (.getfield 99, 3) := by decide +kernel
theorem dX8_asks_35 : decode cX8_asks 35 = .ok (.ifCond .le 7, 3) := by decide +kernel
theorem dX8_asks_38 : decode cX8_asks 38 = .ok (.iconst (-1), 1) := by decide +kernel
theorem dX8_asks_39 : decode cX8_asks 39 = .ok (.goto 9, 3) := by decide +kernel
theorem dX8_asks_42 : decode cX8_asks 42 = .ok (.aload_n 0, 1) := by decide +kernel
theorem dX8_asks_43 : decode cX8_asks 43 = .ok (.iload_n 1, 1) := by decide +kernel
theorem dX8_asks_44 : decode cX8_asks 44 = .ok (.iload_n 2, 1) := by decide +kernel
theorem dX8_asks_45 : decode cX8_asks 45 = .ok (.invokevirtual 179, 3) := by decide +kernel
theorem dX8_asks_48 : decode cX8_asks 48 = .ok (.ireturn, 1) := by decide +kernel
theorem dX8_prefixOf_0 : decode cX8_prefixOf 0 = .ok (.aload_n 0, 1) := by decide +kernel
theorem dX8_prefixOf_1 : decode cX8_prefixOf 1 = .ok (.iload_n 1, 1) := by decide +kernel
theorem dX8_prefixOf_2 : decode cX8_prefixOf 2 = .ok (.iload_n 2, 1) := by decide +kernel
theorem dX8_prefixOf_3 : decode cX8_prefixOf 3 = .ok (.invokevirtual 200, 3) := by decide +kernel
theorem dX8_prefixOf_6 : decode cX8_prefixOf 6 = .ok (.istore_n 3, 1) := by decide +kernel
theorem dX8_prefixOf_7 : decode cX8_prefixOf 7 = .ok (.aload_n 0, 1) := by decide +kernel
theorem dX8_prefixOf_8 : decode cX8_prefixOf 8 = .ok (.getfield 99, 3) := by decide +kernel
theorem dX8_prefixOf_11 : decode cX8_prefixOf 11 = .ok (.ifCond .le 7, 3) := by decide +kernel
theorem dX8_prefixOf_14 : decode cX8_prefixOf 14 = .ok (.iconst 0, 1) := by decide +kernel
theorem dX8_prefixOf_15 : decode cX8_prefixOf 15 = .ok (.goto 19, 3) := by decide +kernel
theorem dX8_prefixOf_18 : decode cX8_prefixOf 18 = .ok (.bipush 32, 2) := by decide +kernel
theorem dX8_prefixOf_20 : decode cX8_prefixOf 20 = .ok (.aload_n 0, 1) := by decide +kernel
theorem dX8_prefixOf_21 : decode cX8_prefixOf 21 = .ok (.getfield 63, 3) := by decide +kernel
theorem dX8_prefixOf_24 : decode cX8_prefixOf 24 = .ok (.iload_n 3, 1) := by decide +kernel
theorem dX8_prefixOf_25 : decode cX8_prefixOf 25 = .ok (.iaload, 1) := by decide +kernel
theorem dX8_prefixOf_26 : decode cX8_prefixOf 26 = .ok (.imul, 1) := by decide +kernel
theorem dX8_prefixOf_27 : decode cX8_prefixOf 27 = .ok (.aload_n 0, 1) := by decide +kernel
theorem dX8_prefixOf_28 : decode cX8_prefixOf 28 = .ok (.getfield 66, 3) := by decide +kernel
theorem dX8_prefixOf_31 : decode cX8_prefixOf 31 = .ok (.iload_n 3, 1) := by decide +kernel
theorem dX8_prefixOf_32 : decode cX8_prefixOf 32 = .ok (.iaload, 1) := by decide +kernel
theorem dX8_prefixOf_33 : decode cX8_prefixOf 33 = .ok (.iadd, 1) := by decide +kernel
theorem dX8_prefixOf_34 : decode cX8_prefixOf 34 = .ok (.ireturn, 1) := by decide +kernel
theorem dX8_mappingAt_0 : decode cX8_mappingAt 0 = .ok (.aload_n 0, 1) := by decide +kernel
theorem dX8_mappingAt_1 : decode cX8_mappingAt 1 = .ok (.iload_n 1, 1) := by decide +kernel
theorem dX8_mappingAt_2 : decode cX8_mappingAt 2 = .ok (.iload_n 2, 1) := by decide +kernel
theorem dX8_mappingAt_3 : decode cX8_mappingAt 3 = .ok (.invokevirtual 200, 3) := by decide +kernel
theorem dX8_mappingAt_6 : decode cX8_mappingAt 6 = .ok (.istore_n 3, 1) := by decide +kernel
theorem dX8_mappingAt_7 : decode cX8_mappingAt 7 = .ok (.aload_n 0, 1) := by decide +kernel
theorem dX8_mappingAt_8 : decode cX8_mappingAt 8 = .ok (.getfield 99, 3) := by decide +kernel
theorem dX8_mappingAt_11 : decode cX8_mappingAt 11 = .ok (.ifCond .le 7, 3) := by decide +kernel
theorem dX8_mappingAt_14 : decode cX8_mappingAt 14 = .ok (.iconst 0, 1) := by decide +kernel
theorem dX8_mappingAt_15 : decode cX8_mappingAt 15 = .ok (.goto 34, 3) := by decide +kernel
theorem dX8_mappingAt_18 : decode cX8_mappingAt 18 = .ok (.aload_n 0, 1) := by decide +kernel
theorem dX8_mappingAt_19 : decode cX8_mappingAt 19 = .ok (.getfield 69, 3) := by decide +kernel
theorem dX8_mappingAt_22 : decode cX8_mappingAt 22 = .ok (.iload_n 3, 1) := by decide +kernel
theorem dX8_mappingAt_23 : decode cX8_mappingAt 23 = .ok (.iaload, 1) := by decide +kernel
theorem dX8_mappingAt_24 : decode cX8_mappingAt 24 = .ok (.iconst (-1), 1) := by decide +kernel
theorem dX8_mappingAt_25 : decode cX8_mappingAt 25 = .ok (.if_icmp .ne 7, 3) := by decide +kernel
theorem dX8_mappingAt_28 : decode cX8_mappingAt 28 = .ok (.iconst (-1), 1) := by decide +kernel
theorem dX8_mappingAt_29 : decode cX8_mappingAt 29 = .ok (.goto 20, 3) := by decide +kernel
theorem dX8_mappingAt_32 : decode cX8_mappingAt 32 = .ok (.sipush 1000, 3) := by decide +kernel
theorem dX8_mappingAt_35 : decode cX8_mappingAt 35 = .ok (.aload_n 0, 1) := by decide +kernel
theorem dX8_mappingAt_36 : decode cX8_mappingAt 36 = .ok (.getfield 72, 3) := by decide +kernel
theorem dX8_mappingAt_39 : decode cX8_mappingAt 39 = .ok (.iload_n 3, 1) := by decide +kernel
theorem dX8_mappingAt_40 : decode cX8_mappingAt 40 = .ok (.iaload, 1) := by decide +kernel
theorem dX8_mappingAt_41 : decode cX8_mappingAt 41 = .ok (.imul, 1) := by decide +kernel
theorem dX8_mappingAt_42 : decode cX8_mappingAt 42 = .ok (.aload_n 0, 1) := by decide +kernel
theorem dX8_mappingAt_43 : decode cX8_mappingAt 43 = .ok (.getfield 69, 3) := by decide +kernel
theorem dX8_mappingAt_46 : decode cX8_mappingAt 46 = .ok (.iload_n 3, 1) := by decide +kernel
theorem dX8_mappingAt_47 : decode cX8_mappingAt 47 = .ok (.iaload, 1) := by decide +kernel
theorem dX8_mappingAt_48 : decode cX8_mappingAt 48 = .ok (.iadd, 1) := by decide +kernel
theorem dX8_mappingAt_49 : decode cX8_mappingAt 49 = .ok (.ireturn, 1) := by decide +kernel
theorem dX8_lasts_0 : decode cX8_lasts 0 = .ok (.aload_n 0, 1) := by decide +kernel
theorem dX8_lasts_1 : decode cX8_lasts 1 = .ok (.iload_n 1, 1) := by decide +kernel
theorem dX8_lasts_2 : decode cX8_lasts 2 = .ok (.iload_n 2, 1) := by decide +kernel
theorem dX8_lasts_3 : decode cX8_lasts 3 = .ok (.invokevirtual 200, 3) := by decide +kernel
theorem dX8_lasts_6 : decode cX8_lasts 6 = .ok (.istore_n 3, 1) := by decide +kernel
theorem dX8_lasts_7 : decode cX8_lasts 7 = .ok (.aload_n 0, 1) := by decide +kernel
theorem dX8_lasts_8 : decode cX8_lasts 8 = .ok (.getfield 99, 3) := by decide +kernel
theorem dX8_lasts_11 : decode cX8_lasts 11 = .ok (.ifCond .le 7, 3) := by decide +kernel
theorem dX8_lasts_14 : decode cX8_lasts 14 = .ok (.iconst 0, 1) := by decide +kernel
theorem dX8_lasts_15 : decode cX8_lasts 15 = .ok (.goto 44, 3) := by decide +kernel
theorem dX8_lasts_18 : decode cX8_lasts 18 = .ok (.aload_n 0, 1) := by decide +kernel
theorem dX8_lasts_19 : decode cX8_lasts 19 = .ok (.getfield 78, 3) := by decide +kernel
theorem dX8_lasts_22 : decode cX8_lasts 22 = .ok (.iload_n 3, 1) := by decide +kernel
theorem dX8_lasts_23 : decode cX8_lasts 23 = .ok (.baload, 1) := by decide +kernel
theorem dX8_lasts_24 : decode cX8_lasts 24 = .ok (.ifCond .eq 7, 3) := by decide +kernel
theorem dX8_lasts_27 : decode cX8_lasts 27 = .ok (.iconst (-1), 1) := by decide +kernel
theorem dX8_lasts_28 : decode cX8_lasts 28 = .ok (.goto 31, 3) := by decide +kernel
theorem dX8_lasts_31 : decode cX8_lasts 31 = .ok (.aload_n 0, 1) := by decide +kernel
theorem dX8_lasts_32 : decode cX8_lasts 32 = .ok (.getfield 75, 3) := by decide +kernel
theorem dX8_lasts_35 : decode cX8_lasts 35 = .ok (.iload_n 3, 1) := by decide +kernel
theorem dX8_lasts_36 : decode cX8_lasts 36 = .ok (.iaload, 1) := by decide +kernel
theorem dX8_lasts_37 : decode cX8_lasts 37 = .ok (.aload_n 0, 1) := by decide +kernel
theorem dX8_lasts_38 : decode cX8_lasts 38 = .ok (.getfield 173, 3) := by decide +kernel
theorem dX8_lasts_41 : decode cX8_lasts 41 = .ok (.if_icmp .le 17, 3) := by decide +kernel
theorem dX8_lasts_44 : decode cX8_lasts 44 = .ok (.aload_n 0, 1) := by decide +kernel
theorem dX8_lasts_45 : decode cX8_lasts 45 = .ok (.getfield 75, 3) := by decide +kernel
theorem dX8_lasts_48 : decode cX8_lasts 48 = .ok (.iload_n 3, 1) := by decide +kernel
theorem dX8_lasts_49 : decode cX8_lasts 49 = .ok (.iaload, 1) := by decide +kernel
theorem dX8_lasts_50 : decode cX8_lasts 50 = .ok (.aload_n 0, 1) := by decide +kernel
theorem dX8_lasts_51 : decode cX8_lasts 51 = .ok (.getfield 173, 3) := by decide +kernel
theorem dX8_lasts_54 : decode cX8_lasts 54 = .ok (.isub, 1) := by decide +kernel
theorem dX8_lasts_55 : decode cX8_lasts 55 = .ok (.goto 4, 3) := by decide +kernel
theorem dX8_lasts_58 : decode cX8_lasts 58 = .ok (.iconst 0, 1) := by decide +kernel
theorem dX8_lasts_59 : decode cX8_lasts 59 = .ok (.ireturn, 1) := by decide +kernel
theorem dX8_packetsTo_0 : decode cX8_packetsTo 0 = .ok (.aload_n 0, 1) := by decide +kernel
theorem dX8_packetsTo_1 : decode cX8_packetsTo 1 = .ok (.iload_n 1, 1) := by decide +kernel
theorem dX8_packetsTo_2 : decode cX8_packetsTo 2 = .ok (.iload_n 2, 1) := by decide +kernel
theorem dX8_packetsTo_3 : decode cX8_packetsTo 3 = .ok (.invokevirtual 200, 3) := by decide +kernel
theorem dX8_packetsTo_6 : decode cX8_packetsTo 6 = .ok (.istore 4, 2) := by decide +kernel
theorem dX8_packetsTo_8 : decode cX8_packetsTo 8 = .ok (.aload_n 0, 1) := by decide +kernel
theorem dX8_packetsTo_9 : decode cX8_packetsTo 9 = .ok (.getfield 99, 3) := by decide +kernel
theorem dX8_packetsTo_12 : decode cX8_packetsTo 12 = .ok (.ifCond .ne 22, 3) := by decide +kernel
theorem dX8_packetsTo_15 : decode cX8_packetsTo 15 = .ok (.aload_n 0, 1) := by decide +kernel
theorem dX8_packetsTo_16 : decode cX8_packetsTo 16 = .ok (.iload_n 3, 1) := by decide +kernel
theorem dX8_packetsTo_17 : decode cX8_packetsTo 17 = .ok (.iconst 0, 1) := by decide +kernel
theorem dX8_packetsTo_18 : decode cX8_packetsTo 18 = .ok (.bipush 31, 2) := by decide +kernel
theorem dX8_packetsTo_20 : decode cX8_packetsTo 20 = .ok (.invokestatic 103, 3) := by decide +kernel
theorem dX8_packetsTo_23 : decode cX8_packetsTo 23 = .ok (.ifCond .eq 7, 3) := by decide +kernel
theorem dX8_packetsTo_26 : decode cX8_packetsTo 26 = .ok (.iconst 0, 1) := by decide +kernel
theorem dX8_packetsTo_27 : decode cX8_packetsTo 27 = .ok (.goto 4, 3) := by decide +kernel
theorem dX8_packetsTo_30 : decode cX8_packetsTo 30 = .ok (.iconst 2, 1) := by decide +kernel
theorem dX8_packetsTo_31 : decode cX8_packetsTo 31 = .ok (.putfield 99, 3) := by decide +kernel
theorem dX8_packetsTo_34 : decode cX8_packetsTo 34 = .ok (.iconst 0, 1) := by decide +kernel
theorem dX8_packetsTo_35 : decode cX8_packetsTo 35 = .ok (.istore 5, 2) := by decide +kernel
theorem dX8_packetsTo_37 : decode cX8_packetsTo 37 = .ok (.iconst 4, 1) := by decide +kernel
theorem dX8_packetsTo_38 : decode cX8_packetsTo 38 = .ok (.iload 4, 2) := by decide +kernel
theorem dX8_packetsTo_40 : decode cX8_packetsTo 40 = .ok (.imul, 1) := by decide +kernel
theorem dX8_packetsTo_41 : decode cX8_packetsTo 41 = .ok (.istore 6, 2) := by decide +kernel
theorem dX8_packetsTo_43 : decode cX8_packetsTo 43 = .ok (.aload_n 0, 1) := by decide +kernel
theorem dX8_packetsTo_44 : decode cX8_packetsTo 44 = .ok (.getfield 99, 3) := by decide +kernel
theorem dX8_packetsTo_47 : decode cX8_packetsTo 47 = .ok (.ifCond .ne 53, 3) := by decide +kernel
theorem dX8_packetsTo_50 : decode cX8_packetsTo 50 = .ok (.iload 6, 2) := by decide +kernel
theorem dX8_packetsTo_52 : decode cX8_packetsTo 52 = .ok (.iconst 4, 1) := by decide +kernel
theorem dX8_packetsTo_53 : decode cX8_packetsTo 53 = .ok (.iload 4, 2) := by decide +kernel
theorem dX8_packetsTo_55 : decode cX8_packetsTo 55 = .ok (.imul, 1) := by decide +kernel
theorem dX8_packetsTo_56 : decode cX8_packetsTo 56 = .ok (.aload_n 0, 1) := by decide +kernel
theorem dX8_packetsTo_57 : decode cX8_packetsTo 57 = .ok (.getfield 81, 3) := by decide +kernel
theorem dX8_packetsTo_60 : decode cX8_packetsTo 60 = .ok (.iload 4, 2) := by decide +kernel
theorem dX8_packetsTo_62 : decode cX8_packetsTo 62 = .ok (.iaload, 1) := by decide +kernel
theorem dX8_packetsTo_63 : decode cX8_packetsTo 63 = .ok (.iadd, 1) := by decide +kernel
theorem dX8_packetsTo_64 : decode cX8_packetsTo 64 = .ok (.if_icmp .ge 36, 3) := by decide +kernel
theorem dX8_packetsTo_67 : decode cX8_packetsTo 67 = .ok (.iload 5, 2) := by decide +kernel
theorem dX8_packetsTo_69 : decode cX8_packetsTo 69 = .ok (.aload_n 0, 1) := by decide +kernel
theorem dX8_packetsTo_70 : decode cX8_packetsTo 70 = .ok (.getfield 84, 3) := by decide +kernel
theorem dX8_packetsTo_73 : decode cX8_packetsTo 73 = .ok (.iload 6, 2) := by decide +kernel
theorem dX8_packetsTo_75 : decode cX8_packetsTo 75 = .ok (.iaload, 1) := by decide +kernel
theorem dX8_packetsTo_76 : decode cX8_packetsTo 76 = .ok (.iload_n 3, 1) := by decide +kernel
theorem dX8_packetsTo_77 : decode cX8_packetsTo 77 = .ok (.if_icmp .ne 13, 3) := by decide +kernel
theorem dX8_packetsTo_80 : decode cX8_packetsTo 80 = .ok (.aload_n 0, 1) := by decide +kernel
theorem dX8_packetsTo_81 : decode cX8_packetsTo 81 = .ok (.getfield 93, 3) := by decide +kernel
theorem dX8_packetsTo_84 : decode cX8_packetsTo 84 = .ok (.iload 6, 2) := by decide +kernel
theorem dX8_packetsTo_86 : decode cX8_packetsTo 86 = .ok (.iaload, 1) := by decide +kernel
theorem dX8_packetsTo_87 : decode cX8_packetsTo 87 = .ok (.goto 4, 3) := by decide +kernel
theorem dX8_packetsTo_90 : decode cX8_packetsTo 90 = .ok (.iconst 0, 1) := by decide +kernel
theorem dX8_packetsTo_91 : decode cX8_packetsTo 91 = .ok (.iadd, 1) := by decide +kernel
theorem dX8_packetsTo_92 : decode cX8_packetsTo 92 = .ok (.istore 5, 2) := by decide +kernel
theorem dX8_packetsTo_94 : decode cX8_packetsTo 94 = .ok (.iinc 6 1, 3) := by decide +kernel
theorem dX8_packetsTo_97 : decode cX8_packetsTo 97 = .ok (.goto (-54), 3) := by decide +kernel
theorem dX8_packetsTo_100 : decode cX8_packetsTo 100 = .ok (.iload 5, 2) := by decide +kernel
theorem dX8_packetsTo_102 : decode cX8_packetsTo 102 = .ok (.ireturn, 1) := by decide +kernel
theorem dX8_solicitations_0 : decode cX8_solicitations 0 = .ok (.aload_n 0, 1) := by decide +kernel
theorem dX8_solicitations_1 : decode cX8_solicitations 1 = .ok (.iconst 0, 1) := by decide +kernel
theorem dX8_solicitations_2 : decode cX8_solicitations 2 = .ok (.putfield 99, 3) := by decide +kernel
theorem dX8_solicitations_5 : decode cX8_solicitations 5 = .ok (.aload_n 0, 1) := by decide +kernel
theorem dX8_solicitations_6 : decode cX8_solicitations 6 = .ok (.getfield 122, 3) := by decide +kernel
theorem dX8_solicitations_9 : decode cX8_solicitations 9 = .ok (.ireturn, 1) := by decide +kernel
theorem dL_register_0 : decode cL_register 0 = .ok (.aload_n 3, 1) := by decide +kernel
theorem dL_register_1 : decode cL_register 1 = .ok (.iconst 0, 1) := by decide +kernel
theorem dL_register_2 : decode cL_register 2 = .ok (.aload_n 0, 1) := by decide +kernel
theorem dL_register_3 : decode cL_register 3 = .ok (.iload_n 1, 1) := by decide +kernel
theorem dL_register_4 : decode cL_register 4 = .ok (.iload_n 2, 1) := by decide +kernel
theorem dL_register_5 : decode cL_register 5 = .ok (.invokevirtual 7, 3) := by decide +kernel
theorem dL_register_8 : decode cL_register 8 = .ok (.i2l, 1) := by decide +kernel
theorem dL_register_9 : decode cL_register 9 = .ok (.lastore, 1) := by decide +kernel
theorem dL_register_10 : decode cL_register 10 = .ok (.goto 11, 3) := by decide +kernel
theorem dL_register_13 : decode cL_register 13 = .ok (.astore 4, 2) := by decide +kernel
theorem dL_register_15 : decode cL_register 15 = .ok (.iconst 1, 1) := by decide +kernel
theorem dL_register_16 : decode cL_register 16 = .ok (.ireturn, 1) := by decide +kernel
theorem dL_register_17 : decode cL_register 17 = .ok (.astore 4, 2) := by decide +kernel
theorem dL_register_19 : decode cL_register 19 = .ok (.iconst 2, 1) := by decide +kernel
theorem dL_register_20 : decode cL_register 20 = .ok (.ireturn, 1) := by decide +kernel
theorem dL_register_21 : decode cL_register 21 = .ok (.iconst 0, 1) := by decide +kernel
theorem dL_register_22 : decode cL_register 22 = .ok (.ireturn, 1) := by decide +kernel
theorem dL_withdraw_0 : decode cL_withdraw 0 = .ok (.aload_n 2, 1) := by decide +kernel
theorem dL_withdraw_1 : decode cL_withdraw 1 = .ok (.iconst 0, 1) := by decide +kernel
theorem dL_withdraw_2 : decode cL_withdraw 2 = .ok (.aload_n 0, 1) := by decide +kernel
theorem dL_withdraw_3 : decode cL_withdraw 3 = .ok (.iload_n 1, 1) := by decide +kernel
theorem dL_withdraw_4 : decode cL_withdraw 4 = .ok (.invokevirtual 17, 3) := by decide +kernel
theorem dL_withdraw_7 : decode cL_withdraw 7 = .ok (.i2l, 1) := by decide +kernel
theorem dL_withdraw_8 : decode cL_withdraw 8 = .ok (.lastore, 1) := by decide +kernel
theorem dL_withdraw_9 : decode cL_withdraw 9 = .ok (.goto 9, 3) := by decide +kernel
theorem dL_withdraw_12 : decode cL_withdraw 12 = .ok (.astore_n 3, 1) := by decide +kernel
theorem dL_withdraw_13 : decode cL_withdraw 13 = .ok (.iconst 1, 1) := by decide +kernel
theorem dL_withdraw_14 : decode cL_withdraw 14 = .ok (.ireturn, 1) := by decide +kernel
theorem dL_withdraw_15 : decode cL_withdraw 15 = .ok (.astore_n 3, 1) := by decide +kernel
theorem dL_withdraw_16 : decode cL_withdraw 16 = .ok (.iconst 2, 1) := by decide +kernel
theorem dL_withdraw_17 : decode cL_withdraw 17 = .ok (.ireturn, 1) := by decide +kernel
theorem dL_withdraw_18 : decode cL_withdraw 18 = .ok (.iconst 0, 1) := by decide +kernel
theorem dL_withdraw_19 : decode cL_withdraw 19 = .ok (.ireturn, 1) := by decide +kernel
theorem dL_addLocator_0 : decode cL_addLocator 0 = .ok (.aload 5, 2) := by decide +kernel
theorem dL_addLocator_2 : decode cL_addLocator 2 = .ok (.iconst 0, 1) := by decide +kernel
theorem dL_addLocator_3 : decode cL_addLocator 3 = .ok (.aload_n 0, 1) := by decide +kernel
theorem dL_addLocator_4 : decode cL_addLocator 4 = .ok (.iload_n 1, 1) := by decide +kernel
theorem dL_addLocator_5 : decode cL_addLocator 5 = .ok (.iload_n 2, 1) := by decide +kernel
theorem dL_addLocator_6 : decode cL_addLocator 6 = .ok (.iload_n 3, 1) := by decide +kernel
theorem dL_addLocator_7 : decode cL_addLocator 7 = .ok (.iload 4, 2) := by decide +kernel
theorem dL_addLocator_9 : decode cL_addLocator 9 = .ok (.invokevirtual 23, 3) := by decide +kernel
theorem dL_addLocator_12 : decode cL_addLocator 12 = .ok (.i2l, 1) := by decide +kernel
theorem dL_addLocator_13 : decode cL_addLocator 13 = .ok (.lastore, 1) := by decide +kernel
theorem dL_addLocator_14 : decode cL_addLocator 14 = .ok (.goto 15, 3) := by decide +kernel
theorem dL_addLocator_17 : decode cL_addLocator 17 = .ok (.astore 6, 2) := by decide +kernel
theorem dL_addLocator_19 : decode cL_addLocator 19 = .ok (.iconst 1, 1) := by decide +kernel
theorem dL_addLocator_20 : decode cL_addLocator 20 = .ok (.ireturn, 1) := by decide +kernel
theorem dL_addLocator_21 : decode cL_addLocator 21 = .ok (.astore 6, 2) := by decide +kernel
theorem dL_addLocator_23 : decode cL_addLocator 23 = .ok (.iconst 2, 1) := by decide +kernel
theorem dL_addLocator_24 : decode cL_addLocator 24 = .ok (.ireturn, 1) := by decide +kernel
theorem dL_addLocator_25 : decode cL_addLocator 25 = .ok (.astore 6, 2) := by decide +kernel
theorem dL_addLocator_27 : decode cL_addLocator 27 = .ok (.iconst 3, 1) := by decide +kernel
theorem dL_addLocator_28 : decode cL_addLocator 28 = .ok (.ireturn, 1) := by decide +kernel
theorem dL_addLocator_29 : decode cL_addLocator 29 = .ok (.iconst 0, 1) := by decide +kernel
theorem dL_addLocator_30 : decode cL_addLocator 30 = .ok (.ireturn, 1) := by decide +kernel
theorem dL_move_0 : decode cL_move 0 = .ok (.aload 4, 2) := by decide +kernel
theorem dL_move_2 : decode cL_move 2 = .ok (.iconst 0, 1) := by decide +kernel
theorem dL_move_3 : decode cL_move 3 = .ok (.aload_n 0, 1) := by decide +kernel
theorem dL_move_4 : decode cL_move 4 = .ok (.iload_n 1, 1) := by decide +kernel
theorem dL_move_5 : decode cL_move 5 = .ok (.iload_n 2, 1) := by decide +kernel
theorem dL_move_6 : decode cL_move 6 = .ok (.iload_n 3, 1) := by decide +kernel
theorem dL_move_7 : decode cL_move 7 = .ok (.invokevirtual 27, 3) := by decide +kernel
theorem dL_move_10 : decode cL_move 10 = .ok (.i2l, 1) := by decide +kernel
theorem dL_move_11 : decode cL_move 11 = .ok (.lastore, 1) := by decide +kernel
theorem dL_move_12 : decode cL_move 12 = .ok (.goto 15, 3) := by decide +kernel
theorem dL_move_15 : decode cL_move 15 = .ok (.astore 5, 2) := by decide +kernel
theorem dL_move_17 : decode cL_move 17 = .ok (.iconst 1, 1) := by decide +kernel
theorem dL_move_18 : decode cL_move 18 = .ok (.ireturn, 1) := by decide +kernel
theorem dL_move_19 : decode cL_move 19 = .ok (.astore 5, 2) := by decide +kernel
theorem dL_move_21 : decode cL_move 21 = .ok (.iconst 2, 1) := by decide +kernel
theorem dL_move_22 : decode cL_move 22 = .ok (.ireturn, 1) := by decide +kernel
theorem dL_move_23 : decode cL_move 23 = .ok (.astore 5, 2) := by decide +kernel
theorem dL_move_25 : decode cL_move 25 = .ok (.iconst 3, 1) := by decide +kernel
theorem dL_move_26 : decode cL_move 26 = .ok (.ireturn, 1) := by decide +kernel
theorem dL_move_27 : decode cL_move 27 = .ok (.iconst 0, 1) := by decide +kernel
theorem dL_move_28 : decode cL_move 28 = .ok (.ireturn, 1) := by decide +kernel
theorem dL_removeLocator_0 : decode cL_removeLocator 0 = .ok (.aload_n 3, 1) := by decide +kernel
theorem dL_removeLocator_1 : decode cL_removeLocator 1 = .ok (.iconst 0, 1) := by decide +kernel
theorem dL_removeLocator_2 : decode cL_removeLocator 2 = .ok (.aload_n 0, 1) := by decide +kernel
theorem dL_removeLocator_3 : decode cL_removeLocator 3 = .ok (.iload_n 1, 1) := by decide +kernel
theorem dL_removeLocator_4 : decode cL_removeLocator 4 = .ok (.iload_n 2, 1) := by decide +kernel
theorem dL_removeLocator_5 : decode cL_removeLocator 5 = .ok (.invokevirtual 31, 3) := by decide +kernel
theorem dL_removeLocator_8 : decode cL_removeLocator 8 = .ok (.i2l, 1) := by decide +kernel
theorem dL_removeLocator_9 : decode cL_removeLocator 9 = .ok (.lastore, 1) := by decide +kernel
theorem dL_removeLocator_10 : decode cL_removeLocator 10 = .ok (.goto 15, 3) := by decide +kernel
theorem dL_removeLocator_13 : decode cL_removeLocator 13 = .ok (.astore 4, 2) := by decide +kernel
theorem dL_removeLocator_15 : decode cL_removeLocator 15 = .ok (.iconst 1, 1) := by decide +kernel
theorem dL_removeLocator_16 : decode cL_removeLocator 16 = .ok (.ireturn, 1) := by decide +kernel
theorem dL_removeLocator_17 : decode cL_removeLocator 17 = .ok (.astore 4, 2) := by decide +kernel
theorem dL_removeLocator_19 : decode cL_removeLocator 19 = .ok (.iconst 2, 1) := by decide +kernel
theorem dL_removeLocator_20 : decode cL_removeLocator 20 = .ok (.ireturn, 1) := by decide +kernel
theorem dL_removeLocator_21 : decode cL_removeLocator 21 = .ok (.astore 4, 2) := by decide +kernel
theorem dL_removeLocator_23 : decode cL_removeLocator 23 = .ok (.iconst 3, 1) := by decide +kernel
theorem dL_removeLocator_24 : decode cL_removeLocator 24 = .ok (.ireturn, 1) := by decide +kernel
theorem dL_removeLocator_25 : decode cL_removeLocator 25 = .ok (.iconst 0, 1) := by decide +kernel
theorem dL_removeLocator_26 : decode cL_removeLocator 26 = .ok (.ireturn, 1) := by decide +kernel
theorem dL_mappingOf_0 : decode cL_mappingOf 0 = .ok (.aload_n 2, 1) := by decide +kernel
theorem dL_mappingOf_1 : decode cL_mappingOf 1 = .ok (.iconst 0, 1) := by decide +kernel
theorem dL_mappingOf_2 : decode cL_mappingOf 2 = .ok (.aload_n 0, 1) := by decide +kernel
theorem dL_mappingOf_3 : decode cL_mappingOf 3 = .ok (.iload_n 1, 1) := by decide +kernel
theorem dL_mappingOf_4 : decode cL_mappingOf 4 = .ok (.invokevirtual 34, 3) := by decide +kernel
theorem dL_mappingOf_7 : decode cL_mappingOf 7 = .ok (.i2l, 1) := by decide +kernel
theorem dL_mappingOf_8 : decode cL_mappingOf 8 = .ok (.lastore, 1) := by decide +kernel
theorem dL_mappingOf_9 : decode cL_mappingOf 9 = .ok (.goto 6, 3) := by decide +kernel
theorem dL_mappingOf_12 : decode cL_mappingOf 12 = .ok (.astore_n 3, 1) := by decide +kernel
theorem dL_mappingOf_13 : decode cL_mappingOf 13 = .ok (.iconst 1, 1) := by decide +kernel
theorem dL_mappingOf_14 : decode cL_mappingOf 14 = .ok (.ireturn, 1) := by decide +kernel
theorem dL_mappingOf_15 : decode cL_mappingOf 15 = .ok (.iconst 0, 1) := by decide +kernel
theorem dL_mappingOf_16 : decode cL_mappingOf 16 = .ok (.ireturn, 1) := by decide +kernel
theorem dL_answerLength_0 : decode cL_answerLength 0 = .ok (.aload_n 2, 1) := by decide +kernel
theorem dL_answerLength_1 : decode cL_answerLength 1 = .ok (.iconst 0, 1) := by decide +kernel
theorem dL_answerLength_2 : decode cL_answerLength 2 = .ok (.aload_n 0, 1) := by decide +kernel
theorem dL_answerLength_3 : decode cL_answerLength 3 = .ok (.iload_n 1, 1) := by decide +kernel
theorem dL_answerLength_4 : decode cL_answerLength 4 = .ok (.invokevirtual 37, 3) := by decide +kernel
theorem dL_answerLength_7 : decode cL_answerLength 7 = .ok (.i2l, 1) := by decide +kernel
theorem dL_answerLength_8 : decode cL_answerLength 8 = .ok (.lastore, 1) := by decide +kernel
theorem dL_answerLength_9 : decode cL_answerLength 9 = .ok (.goto 6, 3) := by decide +kernel
theorem dL_answerLength_12 : decode cL_answerLength 12 = .ok (.astore_n 3, 1) := by decide +kernel
theorem dL_answerLength_13 : decode cL_answerLength 13 = .ok (.iconst 1, 1) := by decide +kernel
theorem dL_answerLength_14 : decode cL_answerLength 14 = .ok (.ireturn, 1) := by decide +kernel
theorem dL_answerLength_15 : decode cL_answerLength 15 = .ok (.iconst 0, 1) := by decide +kernel
theorem dL_answerLength_16 : decode cL_answerLength 16 = .ok (.ireturn, 1) := by decide +kernel
theorem dL_version_0 : decode cL_version 0 = .ok (.aload_n 2, 1) := by decide +kernel
theorem dL_version_1 : decode cL_version 1 = .ok (.iconst 0, 1) := by decide +kernel
theorem dL_version_2 : decode cL_version 2 = .ok (.aload_n 0, 1) := by decide +kernel
theorem dL_version_3 : decode cL_version 3 = .ok (.iload_n 1, 1) := by decide +kernel
theorem dL_version_4 : decode cL_version 4 = .ok (.invokevirtual 40, 3) := by decide +kernel
theorem dL_version_7 : decode cL_version 7 = .ok (.i2l, 1) := by decide +kernel
theorem dL_version_8 : decode cL_version 8 = .ok (.lastore, 1) := by decide +kernel
theorem dL_version_9 : decode cL_version 9 = .ok (.goto 6, 3) := by decide +kernel
theorem dL_version_12 : decode cL_version 12 = .ok (.astore_n 3, 1) := by decide +kernel
theorem dL_version_13 : decode cL_version 13 = .ok (.iconst 1, 1) := by decide +kernel
theorem dL_version_14 : decode cL_version 14 = .ok (.ireturn, 1) := by decide +kernel
theorem dL_version_15 : decode cL_version 15 = .ok (.iconst 0, 1) := by decide +kernel
theorem dL_version_16 : decode cL_version 16 = .ok (.ireturn, 1) := by decide +kernel
theorem dL_delegate_0 : decode cL_delegate 0 = .ok (.aload 4, 2) := by decide +kernel
theorem dL_delegate_2 : decode cL_delegate 2 = .ok (.iconst 0, 1) := by decide +kernel
theorem dL_delegate_3 : decode cL_delegate 3 = .ok (.aload_n 0, 1) := by decide +kernel
theorem dL_delegate_4 : decode cL_delegate 4 = .ok (.iload_n 1, 1) := by decide +kernel
theorem dL_delegate_5 : decode cL_delegate 5 = .ok (.iload_n 2, 1) := by decide +kernel
theorem dL_delegate_6 : decode cL_delegate 6 = .ok (.iload_n 3, 1) := by decide +kernel
theorem dL_delegate_7 : decode cL_delegate 7 = .ok (.invokevirtual 43, 3) := by decide +kernel
theorem dL_delegate_10 : decode cL_delegate 10 = .ok (.i2l, 1) := by decide +kernel
theorem dL_delegate_11 : decode cL_delegate 11 = .ok (.lastore, 1) := by decide +kernel
theorem dL_delegate_12 : decode cL_delegate 12 = .ok (.goto 15, 3) := by decide +kernel
theorem dL_delegate_15 : decode cL_delegate 15 = .ok (.astore 5, 2) := by decide +kernel
theorem dL_delegate_17 : decode cL_delegate 17 = .ok (.iconst 1, 1) := by decide +kernel
theorem dL_delegate_18 : decode cL_delegate 18 = .ok (.ireturn, 1) := by decide +kernel
theorem dL_delegate_19 : decode cL_delegate 19 = .ok (.astore 5, 2) := by decide +kernel
theorem dL_delegate_21 : decode cL_delegate 21 = .ok (.iconst 2, 1) := by decide +kernel
theorem dL_delegate_22 : decode cL_delegate 22 = .ok (.ireturn, 1) := by decide +kernel
theorem dL_delegate_23 : decode cL_delegate 23 = .ok (.astore 5, 2) := by decide +kernel
theorem dL_delegate_25 : decode cL_delegate 25 = .ok (.iconst 3, 1) := by decide +kernel
theorem dL_delegate_26 : decode cL_delegate 26 = .ok (.ireturn, 1) := by decide +kernel
theorem dL_delegate_27 : decode cL_delegate 27 = .ok (.iconst 0, 1) := by decide +kernel
theorem dL_delegate_28 : decode cL_delegate 28 = .ok (.ireturn, 1) := by decide +kernel
theorem dL_setUp_0 : decode cL_setUp 0 = .ok (.aload_n 3, 1) := by decide +kernel
theorem dL_setUp_1 : decode cL_setUp 1 = .ok (.iconst 0, 1) := by decide +kernel
theorem dL_setUp_2 : decode cL_setUp 2 = .ok (.aload_n 0, 1) := by decide +kernel
theorem dL_setUp_3 : decode cL_setUp 3 = .ok (.iload_n 1, 1) := by decide +kernel
theorem dL_setUp_4 : decode cL_setUp 4 = .ok (.iload_n 2, 1) := by decide +kernel
theorem dL_setUp_5 : decode cL_setUp 5 = .ok (.invokevirtual 46, 3) := by decide +kernel
theorem dL_setUp_8 : decode cL_setUp 8 = .ok (.ifCond .eq 7, 3) := by decide +kernel
theorem dL_setUp_11 : decode cL_setUp 11 = .ok (.lconst 1, 1) := by decide +kernel
theorem dL_setUp_12 : decode cL_setUp 12 = .ok (.goto 4, 3) := by decide +kernel
theorem dL_setUp_15 : decode cL_setUp 15 = .ok (.lconst 0, 1) := by decide +kernel
theorem dL_setUp_16 : decode cL_setUp 16 = .ok (.lastore, 1) := by decide +kernel
theorem dL_setUp_17 : decode cL_setUp 17 = .ok (.goto 7, 3) := by decide +kernel
theorem dL_setUp_20 : decode cL_setUp 20 = .ok (.astore 4, 2) := by decide +kernel
theorem dL_setUp_22 : decode cL_setUp 22 = .ok (.iconst 1, 1) := by decide +kernel
theorem dL_setUp_23 : decode cL_setUp 23 = .ok (.ireturn, 1) := by decide +kernel
theorem dL_setUp_24 : decode cL_setUp 24 = .ok (.iconst 0, 1) := by decide +kernel
theorem dL_setUp_25 : decode cL_setUp 25 = .ok (.ireturn, 1) := by decide +kernel
theorem dL_serverOf_0 : decode cL_serverOf 0 = .ok (.aload_n 2, 1) := by decide +kernel
theorem dL_serverOf_1 : decode cL_serverOf 1 = .ok (.iconst 0, 1) := by decide +kernel
theorem dL_serverOf_2 : decode cL_serverOf 2 = .ok (.aload_n 0, 1) := by decide +kernel
theorem dL_serverOf_3 : decode cL_serverOf 3 = .ok (.iload_n 1, 1) := by decide +kernel
theorem dL_serverOf_4 : decode cL_serverOf 4 = .ok (.invokevirtual 50, 3) := by decide +kernel
theorem dL_serverOf_7 : decode cL_serverOf 7 = .ok (.i2l, 1) := by decide +kernel
theorem dL_serverOf_8 : decode cL_serverOf 8 = .ok (.lastore, 1) := by decide +kernel
theorem dL_serverOf_9 : decode cL_serverOf 9 = .ok (.goto 6, 3) := by decide +kernel
theorem dL_serverOf_12 : decode cL_serverOf 12 = .ok (.astore_n 3, 1) := by decide +kernel
theorem dL_serverOf_13 : decode cL_serverOf 13 = .ok (.iconst 1, 1) := by decide +kernel
theorem dL_serverOf_14 : decode cL_serverOf 14 = .ok (.ireturn, 1) := by decide +kernel
theorem dL_serverOf_15 : decode cL_serverOf 15 = .ok (.iconst 0, 1) := by decide +kernel
theorem dL_serverOf_16 : decode cL_serverOf 16 = .ok (.ireturn, 1) := by decide +kernel
theorem dL_answers_0 : decode cL_answers 0 = .ok (.aload_n 2, 1) := by decide +kernel
theorem dL_answers_1 : decode cL_answers 1 = .ok (.iconst 0, 1) := by decide +kernel
theorem dL_answers_2 : decode cL_answers 2 = .ok (.aload_n 0, 1) := by decide +kernel
theorem dL_answers_3 : decode cL_answers 3 = .ok (.iload_n 1, 1) := by decide +kernel
theorem dL_answers_4 : decode cL_answers 4 = .ok (.invokevirtual 53, 3) := by decide +kernel
theorem dL_answers_7 : decode cL_answers 7 = .ok (.i2l, 1) := by decide +kernel
theorem dL_answers_8 : decode cL_answers 8 = .ok (.lastore, 1) := by decide +kernel
theorem dL_answers_9 : decode cL_answers 9 = .ok (.goto 6, 3) := by decide +kernel
theorem dL_answers_12 : decode cL_answers 12 = .ok (.astore_n 3, 1) := by decide +kernel
theorem dL_answers_13 : decode cL_answers 13 = .ok (.iconst 1, 1) := by decide +kernel
theorem dL_answers_14 : decode cL_answers 14 = .ok (.ireturn, 1) := by decide +kernel
theorem dL_answers_15 : decode cL_answers 15 = .ok (.iconst 0, 1) := by decide +kernel
theorem dL_answers_16 : decode cL_answers 16 = .ok (.ireturn, 1) := by decide +kernel
theorem dL_send_0 : decode cL_send 0 = .ok (.aload_n 3, 1) := by decide +kernel
theorem dL_send_1 : decode cL_send 1 = .ok (.iconst 0, 1) := by decide +kernel
theorem dL_send_2 : decode cL_send 2 = .ok (.aload_n 0, 1) := by decide +kernel
theorem dL_send_3 : decode cL_send 3 = .ok (.iload_n 1, 1) := by decide +kernel
theorem dL_send_4 : decode cL_send 4 = .ok (.iload_n 2, 1) := by decide +kernel
theorem dL_send_5 : decode cL_send 5 = .ok (.invokevirtual 56, 3) := by decide +kernel
theorem dL_send_8 : decode cL_send 8 = .ok (.i2l, 1) := by decide +kernel
theorem dL_send_9 : decode cL_send 9 = .ok (.lastore, 1) := by decide +kernel
theorem dL_send_10 : decode cL_send 10 = .ok (.goto 11, 3) := by decide +kernel
theorem dL_send_13 : decode cL_send 13 = .ok (.astore 4, 2) := by decide +kernel
theorem dL_send_15 : decode cL_send 15 = .ok (.iconst 1, 1) := by decide +kernel
theorem dL_send_16 : decode cL_send 16 = .ok (.ireturn, 1) := by decide +kernel
theorem dL_send_17 : decode cL_send 17 = .ok (.astore 4, 2) := by decide +kernel
theorem dL_send_19 : decode cL_send 19 = .ok (.iconst 2, 1) := by decide +kernel
theorem dL_send_20 : decode cL_send 20 = .ok (.ireturn, 1) := by decide +kernel
theorem dL_send_21 : decode cL_send 21 = .ok (.iconst 0, 1) := by decide +kernel
theorem dL_send_22 : decode cL_send 22 = .ok (.ireturn, 1) := by decide +kernel
theorem dL_probe_0 : decode cL_probe 0 = .ok (.aload 4, 2) := by decide +kernel
theorem dL_probe_2 : decode cL_probe 2 = .ok (.iconst 0, 1) := by decide +kernel
theorem dL_probe_3 : decode cL_probe 3 = .ok (.aload_n 0, 1) := by decide +kernel
theorem dL_probe_4 : decode cL_probe 4 = .ok (.iload_n 1, 1) := by decide +kernel
theorem dL_probe_5 : decode cL_probe 5 = .ok (.iload_n 2, 1) := by decide +kernel
theorem dL_probe_6 : decode cL_probe 6 = .ok (.iload_n 3, 1) := by decide +kernel
theorem dL_probe_7 : decode cL_probe 7 = .ok (.invokevirtual 59, 3) := by decide +kernel
theorem dL_probe_10 : decode cL_probe 10 = .ok (.i2l, 1) := by decide +kernel
theorem dL_probe_11 : decode cL_probe 11 = .ok (.lastore, 1) := by decide +kernel
theorem dL_probe_12 : decode cL_probe 12 = .ok (.goto 11, 3) := by decide +kernel
theorem dL_probe_15 : decode cL_probe 15 = .ok (.astore 5, 2) := by decide +kernel
theorem dL_probe_17 : decode cL_probe 17 = .ok (.iconst 1, 1) := by decide +kernel
theorem dL_probe_18 : decode cL_probe 18 = .ok (.ireturn, 1) := by decide +kernel
theorem dL_probe_19 : decode cL_probe 19 = .ok (.astore 5, 2) := by decide +kernel
theorem dL_probe_21 : decode cL_probe 21 = .ok (.iconst 2, 1) := by decide +kernel
theorem dL_probe_22 : decode cL_probe 22 = .ok (.ireturn, 1) := by decide +kernel
theorem dL_probe_23 : decode cL_probe 23 = .ok (.iconst 0, 1) := by decide +kernel
theorem dL_probe_24 : decode cL_probe 24 = .ok (.ireturn, 1) := by decide +kernel
theorem dL_setLifetimes_0 : decode cL_setLifetimes 0 = .ok (.aload_n 3, 1) := by decide +kernel
theorem dL_setLifetimes_1 : decode cL_setLifetimes 1 = .ok (.iconst 0, 1) := by decide +kernel
theorem dL_setLifetimes_2 : decode cL_setLifetimes 2 = .ok (.aload_n 0, 1) := by decide +kernel
theorem dL_setLifetimes_3 : decode cL_setLifetimes 3 = .ok (.iload_n 1, 1) := by decide +kernel
theorem dL_setLifetimes_4 : decode cL_setLifetimes 4 = .ok (.iload_n 2, 1) := by decide +kernel
theorem dL_setLifetimes_5 : decode cL_setLifetimes 5 = .ok (.invokevirtual 63, 3) := by decide +kernel
theorem dL_setLifetimes_8 : decode cL_setLifetimes 8 = .ok (.i2l, 1) := by decide +kernel
theorem dL_setLifetimes_9 : decode cL_setLifetimes 9 = .ok (.lastore, 1) := by decide +kernel
theorem dL_setLifetimes_10 : decode cL_setLifetimes 10 = .ok (.goto 7, 3) := by decide +kernel
theorem dL_setLifetimes_13 : decode cL_setLifetimes 13 = .ok (.astore 4, 2) := by decide +kernel
theorem dL_setLifetimes_15 : decode cL_setLifetimes 15 = .ok (.iconst 1, 1) := by decide +kernel
theorem dL_setLifetimes_16 : decode cL_setLifetimes 16 = .ok (.ireturn, 1) := by decide +kernel
theorem dL_setLifetimes_17 : decode cL_setLifetimes 17 = .ok (.iconst 0, 1) := by decide +kernel
theorem dL_setLifetimes_18 : decode cL_setLifetimes 18 = .ok (.ireturn, 1) := by decide +kernel
theorem dL_pass_0 : decode cL_pass 0 = .ok (.aload_n 2, 1) := by decide +kernel
theorem dL_pass_1 : decode cL_pass 1 = .ok (.iconst 0, 1) := by decide +kernel
theorem dL_pass_2 : decode cL_pass 2 = .ok (.aload_n 0, 1) := by decide +kernel
theorem dL_pass_3 : decode cL_pass 3 = .ok (.iload_n 1, 1) := by decide +kernel
theorem dL_pass_4 : decode cL_pass 4 = .ok (.invokevirtual 66, 3) := by decide +kernel
theorem dL_pass_7 : decode cL_pass 7 = .ok (.i2l, 1) := by decide +kernel
theorem dL_pass_8 : decode cL_pass 8 = .ok (.lastore, 1) := by decide +kernel
theorem dL_pass_9 : decode cL_pass 9 = .ok (.goto 6, 3) := by decide +kernel
theorem dL_pass_12 : decode cL_pass 12 = .ok (.astore_n 3, 1) := by decide +kernel
theorem dL_pass_13 : decode cL_pass 13 = .ok (.iconst 1, 1) := by decide +kernel
theorem dL_pass_14 : decode cL_pass 14 = .ok (.ireturn, 1) := by decide +kernel
theorem dL_pass_15 : decode cL_pass 15 = .ok (.iconst 0, 1) := by decide +kernel
theorem dL_pass_16 : decode cL_pass 16 = .ok (.ireturn, 1) := by decide +kernel
theorem dL_entries_0 : decode cL_entries 0 = .ok (.aload_n 2, 1) := by decide +kernel
theorem dL_entries_1 : decode cL_entries 1 = .ok (.iconst 0, 1) := by decide +kernel
theorem dL_entries_2 : decode cL_entries 2 = .ok (.aload_n 0, 1) := by decide +kernel
theorem dL_entries_3 : decode cL_entries 3 = .ok (.iload_n 1, 1) := by decide +kernel
theorem dL_entries_4 : decode cL_entries 4 = .ok (.invokevirtual 69, 3) := by decide +kernel
theorem dL_entries_7 : decode cL_entries 7 = .ok (.i2l, 1) := by decide +kernel
theorem dL_entries_8 : decode cL_entries 8 = .ok (.lastore, 1) := by decide +kernel
theorem dL_entries_9 : decode cL_entries 9 = .ok (.goto 6, 3) := by decide +kernel
theorem dL_entries_12 : decode cL_entries 12 = .ok (.astore_n 3, 1) := by decide +kernel
theorem dL_entries_13 : decode cL_entries 13 = .ok (.iconst 1, 1) := by decide +kernel
theorem dL_entries_14 : decode cL_entries 14 = .ok (.ireturn, 1) := by decide +kernel
theorem dL_entries_15 : decode cL_entries 15 = .ok (.iconst 0, 1) := by decide +kernel
theorem dL_entries_16 : decode cL_entries 16 = .ok (.ireturn, 1) := by decide +kernel
theorem dL_prefixOf_0 : decode cL_prefixOf 0 = .ok (.aload_n 3, 1) := by decide +kernel
theorem dL_prefixOf_1 : decode cL_prefixOf 1 = .ok (.iconst 0, 1) := by decide +kernel
theorem dL_prefixOf_2 : decode cL_prefixOf 2 = .ok (.aload_n 0, 1) := by decide +kernel
theorem dL_prefixOf_3 : decode cL_prefixOf 3 = .ok (.iload_n 1, 1) := by decide +kernel
theorem dL_prefixOf_4 : decode cL_prefixOf 4 = .ok (.iload_n 2, 1) := by decide +kernel
theorem dL_prefixOf_5 : decode cL_prefixOf 5 = .ok (.invokevirtual 72, 3) := by decide +kernel
theorem dL_prefixOf_8 : decode cL_prefixOf 8 = .ok (.i2l, 1) := by decide +kernel
theorem dL_prefixOf_9 : decode cL_prefixOf 9 = .ok (.lastore, 1) := by decide +kernel
theorem dL_prefixOf_10 : decode cL_prefixOf 10 = .ok (.goto 7, 3) := by decide +kernel
theorem dL_prefixOf_13 : decode cL_prefixOf 13 = .ok (.astore 4, 2) := by decide +kernel
theorem dL_prefixOf_15 : decode cL_prefixOf 15 = .ok (.iconst 1, 1) := by decide +kernel
theorem dL_prefixOf_16 : decode cL_prefixOf 16 = .ok (.ireturn, 1) := by decide +kernel
theorem dL_prefixOf_17 : decode cL_prefixOf 17 = .ok (.iconst 0, 1) := by decide +kernel
theorem dL_prefixOf_18 : decode cL_prefixOf 18 = .ok (.ireturn, 1) := by decide +kernel
theorem dL_mappingAt_0 : decode cL_mappingAt 0 = .ok (.aload_n 3, 1) := by decide +kernel
theorem dL_mappingAt_1 : decode cL_mappingAt 1 = .ok (.iconst 0, 1) := by decide +kernel
theorem dL_mappingAt_2 : decode cL_mappingAt 2 = .ok (.aload_n 0, 1) := by decide +kernel
theorem dL_mappingAt_3 : decode cL_mappingAt 3 = .ok (.iload_n 1, 1) := by decide +kernel
theorem dL_mappingAt_4 : decode cL_mappingAt 4 = .ok (.iload_n 2, 1) := by decide +kernel
theorem dL_mappingAt_5 : decode cL_mappingAt 5 = .ok (.invokevirtual 75, 3) := by decide +kernel
theorem dL_mappingAt_8 : decode cL_mappingAt 8 = .ok (.i2l, 1) := by decide +kernel
theorem dL_mappingAt_9 : decode cL_mappingAt 9 = .ok (.lastore, 1) := by decide +kernel
theorem dL_mappingAt_10 : decode cL_mappingAt 10 = .ok (.goto 7, 3) := by decide +kernel
theorem dL_mappingAt_13 : decode cL_mappingAt 13 = .ok (.astore 4, 2) := by decide +kernel
theorem dL_mappingAt_15 : decode cL_mappingAt 15 = .ok (.iconst 1, 1) := by decide +kernel
theorem dL_mappingAt_16 : decode cL_mappingAt 16 = .ok (.ireturn, 1) := by decide +kernel
theorem dL_mappingAt_17 : decode cL_mappingAt 17 = .ok (.iconst 0, 1) := by decide +kernel
theorem dL_mappingAt_18 : decode cL_mappingAt 18 = .ok (.ireturn, 1) := by decide +kernel
theorem dL_lasts_0 : decode cL_lasts 0 = .ok (.aload_n 3, 1) := by decide +kernel
theorem dL_lasts_1 : decode cL_lasts 1 = .ok (.iconst 0, 1) := by decide +kernel
theorem dL_lasts_2 : decode cL_lasts 2 = .ok (.aload_n 0, 1) := by decide +kernel
theorem dL_lasts_3 : decode cL_lasts 3 = .ok (.iload_n 1, 1) := by decide +kernel
theorem dL_lasts_4 : decode cL_lasts 4 = .ok (.iload_n 2, 1) := by decide +kernel
theorem dL_lasts_5 : decode cL_lasts 5 = .ok (.invokevirtual 78, 3) := by decide +kernel
theorem dL_lasts_8 : decode cL_lasts 8 = .ok (.i2l, 1) := by decide +kernel
theorem dL_lasts_9 : decode cL_lasts 9 = .ok (.lastore, 1) := by decide +kernel
theorem dL_lasts_10 : decode cL_lasts 10 = .ok (.goto 7, 3) := by decide +kernel
theorem dL_lasts_13 : decode cL_lasts 13 = .ok (.astore 4, 2) := by decide +kernel
theorem dL_lasts_15 : decode cL_lasts 15 = .ok (.iconst 1, 1) := by decide +kernel
theorem dL_lasts_16 : decode cL_lasts 16 = .ok (.ireturn, 1) := by decide +kernel
theorem dL_lasts_17 : decode cL_lasts 17 = .ok (.iconst 0, 1) := by decide +kernel
theorem dL_lasts_18 : decode cL_lasts 18 = .ok (.ireturn, 1) := by decide +kernel
theorem dL_packetsTo_0 : decode cL_packetsTo 0 = .ok (.aload 4, 2) := by decide +kernel
theorem dL_packetsTo_2 : decode cL_packetsTo 2 = .ok (.iconst 0, 1) := by decide +kernel
theorem dL_packetsTo_3 : decode cL_packetsTo 3 = .ok (.aload_n 0, 1) := by decide +kernel
theorem dL_packetsTo_4 : decode cL_packetsTo 4 = .ok (.iload_n 1, 1) := by decide +kernel
theorem dL_packetsTo_5 : decode cL_packetsTo 5 = .ok (.iload_n 2, 1) := by decide +kernel
theorem dL_packetsTo_6 : decode cL_packetsTo 6 = .ok (.iload_n 3, 1) := by decide +kernel
theorem dL_packetsTo_7 : decode cL_packetsTo 7 = .ok (.invokevirtual 81, 3) := by decide +kernel
theorem dL_packetsTo_10 : decode cL_packetsTo 10 = .ok (.i2l, 1) := by decide +kernel
theorem dL_packetsTo_11 : decode cL_packetsTo 11 = .ok (.lastore, 1) := by decide +kernel
theorem dL_packetsTo_12 : decode cL_packetsTo 12 = .ok (.goto 11, 3) := by decide +kernel
theorem dL_packetsTo_15 : decode cL_packetsTo 15 = .ok (.astore 5, 2) := by decide +kernel
theorem dL_packetsTo_17 : decode cL_packetsTo 17 = .ok (.iconst 1, 1) := by decide +kernel
theorem dL_packetsTo_18 : decode cL_packetsTo 18 = .ok (.ireturn, 1) := by decide +kernel
theorem dL_packetsTo_19 : decode cL_packetsTo 19 = .ok (.astore 5, 2) := by decide +kernel
theorem dL_packetsTo_21 : decode cL_packetsTo 21 = .ok (.iconst 2, 1) := by decide +kernel
theorem dL_packetsTo_22 : decode cL_packetsTo 22 = .ok (.ireturn, 1) := by decide +kernel
theorem dL_packetsTo_23 : decode cL_packetsTo 23 = .ok (.iconst 0, 1) := by decide +kernel
theorem dL_packetsTo_24 : decode cL_packetsTo 24 = .ok (.ireturn, 1) := by decide +kernel
theorem dL_law_0 : decode cL_law 0 = .ok (.new 8, 3) := by decide +kernel
theorem dL_law_3 : decode cL_law 3 = .ok (.dup, 1) := by decide +kernel
theorem dL_law_4 : decode cL_law 4 = .ok (.invokespecial 84, 3) := by decide +kernel
theorem dL_law_7 : decode cL_law 7 = .ok (.astore_n 1, 1) := by decide +kernel
theorem dL_law_8 : decode cL_law 8 = .ok (.new 85, 3) := by decide +kernel
theorem dL_law_11 : decode cL_law 11 = .ok (.dup, 1) := by decide +kernel
theorem dL_law_12 : decode cL_law 12 = .ok (.invokespecial 87, 3) := by decide +kernel
theorem dL_law_15 : decode cL_law 15 = .ok (.astore_n 2, 1) := by decide +kernel
theorem dL_law_16 : decode cL_law 16 = .ok (.iconst 1, 1) := by decide +kernel
theorem dL_law_17 : decode cL_law 17 = .ok (.newarray .long, 2) := by decide +kernel
theorem dL_law_19 : decode cL_law 19 = .ok (.astore_n 3, 1) := by decide +kernel
theorem dL_law_20 : decode cL_law 20 = .ok (.iconst 0, 1) := by decide +kernel
theorem dL_law_21 : decode cL_law 21 = .ok (.istore 4, 2) := by decide +kernel
theorem dL_law_23 : decode cL_law 23 = .ok (.iload 4, 2) := by decide +kernel
theorem dL_law_25 : decode cL_law 25 = .ok (.aload_n 0, 1) := by decide +kernel
theorem dL_law_26 : decode cL_law 26 = .ok (.arraylength, 1) := by decide +kernel
theorem dL_law_27 : decode cL_law 27 = .ok (.iconst 5, 1) := by decide +kernel
theorem dL_law_28 : decode cL_law 28 = .ok (.isub, 1) := by decide +kernel
theorem dL_law_29 : decode cL_law 29 = .ok (.if_icmp .gt 1573, 3) := by decide +kernel
theorem dL_law_32 : decode cL_law 32 = .ok (.aload_n 0, 1) := by decide +kernel
theorem dL_law_33 : decode cL_law 33 = .ok (.iload 4, 2) := by decide +kernel
theorem dL_law_35 : decode cL_law 35 = .ok (.iaload, 1) := by decide +kernel
theorem dL_law_36 : decode cL_law 36 = .ok (.bipush 31, 2) := by decide +kernel
theorem dL_law_38 : decode cL_law 38 = .ok (.iand, 1) := by decide +kernel
theorem dL_law_39 : decode cL_law 39 = .ok (.tableswitch 1557 0 21 #[101, 169, 225, 317, 397, 465, 521, 577, 633, 713, 804, 860, 916, 984, 1080, 1148, 1204, 1260, 1328, 1396, 1464, 1544], 101) := by decide +kernel
theorem dL_law_140 : decode cL_law 140 = .ok (.aload_n 1, 1) := by decide +kernel
theorem dL_law_141 : decode cL_law 141 = .ok (.aload_n 0, 1) := by decide +kernel
theorem dL_law_142 : decode cL_law 142 = .ok (.iload 4, 2) := by decide +kernel
theorem dL_law_144 : decode cL_law 144 = .ok (.iconst 1, 1) := by decide +kernel
theorem dL_law_145 : decode cL_law 145 = .ok (.iadd, 1) := by decide +kernel
theorem dL_law_146 : decode cL_law 146 = .ok (.iaload, 1) := by decide +kernel
theorem dL_law_147 : decode cL_law 147 = .ok (.aload_n 0, 1) := by decide +kernel
theorem dL_law_148 : decode cL_law 148 = .ok (.iload 4, 2) := by decide +kernel
theorem dL_law_150 : decode cL_law 150 = .ok (.iconst 2, 1) := by decide +kernel
theorem dL_law_151 : decode cL_law 151 = .ok (.iadd, 1) := by decide +kernel
theorem dL_law_152 : decode cL_law 152 = .ok (.iaload, 1) := by decide +kernel
theorem dL_law_153 : decode cL_law 153 = .ok (.aload_n 3, 1) := by decide +kernel
theorem dL_law_154 : decode cL_law 154 = .ok (.invokestatic 88, 3) := by decide +kernel
theorem dL_law_157 : decode cL_law 157 = .ok (.istore 5, 2) := by decide +kernel
theorem dL_law_159 : decode cL_law 159 = .ok (.aload_n 2, 1) := by decide +kernel
theorem dL_law_160 : decode cL_law 160 = .ok (.aload_n 0, 1) := by decide +kernel
theorem dL_law_161 : decode cL_law 161 = .ok (.iload 4, 2) := by decide +kernel
theorem dL_law_163 : decode cL_law 163 = .ok (.iconst 1, 1) := by decide +kernel
theorem dL_law_164 : decode cL_law 164 = .ok (.iadd, 1) := by decide +kernel
theorem dL_law_165 : decode cL_law 165 = .ok (.iaload, 1) := by decide +kernel
theorem dL_law_166 : decode cL_law 166 = .ok (.aload_n 0, 1) := by decide +kernel
theorem dL_law_167 : decode cL_law 167 = .ok (.iload 4, 2) := by decide +kernel
theorem dL_law_169 : decode cL_law 169 = .ok (.iconst 2, 1) := by decide +kernel
theorem dL_law_170 : decode cL_law 170 = .ok (.iadd, 1) := by decide +kernel
theorem dL_law_171 : decode cL_law 171 = .ok (.iaload, 1) := by decide +kernel
theorem dL_law_172 : decode cL_law 172 = .ok (.invokevirtual 93, 3) := by decide +kernel
theorem dL_law_175 : decode cL_law 175 = .ok (.istore 6, 2) := by decide +kernel
theorem dL_law_177 : decode cL_law 177 = .ok (.aload_n 2, 1) := by decide +kernel
theorem dL_law_178 : decode cL_law 178 = .ok (.invokevirtual 94, 3) := by decide +kernel
theorem dL_law_181 : decode cL_law 181 = .ok (.iload 5, 2) := by decide +kernel
theorem dL_law_183 : decode cL_law 183 = .ok (.if_icmp .eq 5, 3) := by decide +kernel
theorem dL_law_186 : decode cL_law 186 = .ok (.iconst 0, 1) := by decide +kernel
theorem dL_law_187 : decode cL_law 187 = .ok (.ireturn, 1) := by decide +kernel
theorem dL_law_188 : decode cL_law 188 = .ok (.iload 5, 2) := by decide +kernel
theorem dL_law_190 : decode cL_law 190 = .ok (.ifCond .ne 15, 3) := by decide +kernel
theorem dL_law_193 : decode cL_law 193 = .ok (.aload_n 3, 1) := by decide +kernel
theorem dL_law_194 : decode cL_law 194 = .ok (.iconst 0, 1) := by decide +kernel
theorem dL_law_195 : decode cL_law 195 = .ok (.laload, 1) := by decide +kernel
theorem dL_law_196 : decode cL_law 196 = .ok (.iload 6, 2) := by decide +kernel
theorem dL_law_198 : decode cL_law 198 = .ok (.i2l, 1) := by decide +kernel
theorem dL_law_199 : decode cL_law 199 = .ok (.lcmp, 1) := by decide +kernel
theorem dL_law_200 : decode cL_law 200 = .ok (.ifCond .eq 5, 3) := by decide +kernel
theorem dL_law_203 : decode cL_law 203 = .ok (.iconst 0, 1) := by decide +kernel
theorem dL_law_204 : decode cL_law 204 = .ok (.ireturn, 1) := by decide +kernel
theorem dL_law_205 : decode cL_law 205 = .ok (.goto 1391, 3) := by decide +kernel
theorem dL_law_208 : decode cL_law 208 = .ok (.aload_n 1, 1) := by decide +kernel
theorem dL_law_209 : decode cL_law 209 = .ok (.aload_n 0, 1) := by decide +kernel
theorem dL_law_210 : decode cL_law 210 = .ok (.iload 4, 2) := by decide +kernel
theorem dL_law_212 : decode cL_law 212 = .ok (.iconst 1, 1) := by decide +kernel
theorem dL_law_213 : decode cL_law 213 = .ok (.iadd, 1) := by decide +kernel
theorem dL_law_214 : decode cL_law 214 = .ok (.iaload, 1) := by decide +kernel
theorem dL_law_215 : decode cL_law 215 = .ok (.aload_n 3, 1) := by decide +kernel
theorem dL_law_216 : decode cL_law 216 = .ok (.invokestatic 98, 3) := by decide +kernel
theorem dL_law_219 : decode cL_law 219 = .ok (.istore 5, 2) := by decide +kernel
theorem dL_law_221 : decode cL_law 221 = .ok (.aload_n 2, 1) := by decide +kernel
theorem dL_law_222 : decode cL_law 222 = .ok (.aload_n 0, 1) := by decide +kernel
theorem dL_law_223 : decode cL_law 223 = .ok (.iload 4, 2) := by decide +kernel
theorem dL_law_225 : decode cL_law 225 = .ok (.iconst 1, 1) := by decide +kernel
theorem dL_law_226 : decode cL_law 226 = .ok (.iadd, 1) := by decide +kernel
theorem dL_law_227 : decode cL_law 227 = .ok (.iaload, 1) := by decide +kernel
theorem dL_law_228 : decode cL_law 228 = .ok (.invokevirtual 101, 3) := by decide +kernel
theorem dL_law_231 : decode cL_law 231 = .ok (.istore 6, 2) := by decide +kernel
theorem dL_law_233 : decode cL_law 233 = .ok (.aload_n 2, 1) := by decide +kernel
theorem dL_law_234 : decode cL_law 234 = .ok (.invokevirtual 94, 3) := by decide +kernel
theorem dL_law_237 : decode cL_law 237 = .ok (.iload 5, 2) := by decide +kernel
theorem dL_law_239 : decode cL_law 239 = .ok (.if_icmp .eq 5, 3) := by decide +kernel
theorem dL_law_242 : decode cL_law 242 = .ok (.iconst 0, 1) := by decide +kernel
theorem dL_law_243 : decode cL_law 243 = .ok (.ireturn, 1) := by decide +kernel
theorem dL_law_244 : decode cL_law 244 = .ok (.iload 5, 2) := by decide +kernel
theorem dL_law_246 : decode cL_law 246 = .ok (.ifCond .ne 15, 3) := by decide +kernel
theorem dL_law_249 : decode cL_law 249 = .ok (.aload_n 3, 1) := by decide +kernel
theorem dL_law_250 : decode cL_law 250 = .ok (.iconst 0, 1) := by decide +kernel
theorem dL_law_251 : decode cL_law 251 = .ok (.laload, 1) := by decide +kernel
theorem dL_law_252 : decode cL_law 252 = .ok (.iload 6, 2) := by decide +kernel
theorem dL_law_254 : decode cL_law 254 = .ok (.i2l, 1) := by decide +kernel
theorem dL_law_255 : decode cL_law 255 = .ok (.lcmp, 1) := by decide +kernel
theorem dL_law_256 : decode cL_law 256 = .ok (.ifCond .eq 5, 3) := by decide +kernel
theorem dL_law_259 : decode cL_law 259 = .ok (.iconst 0, 1) := by decide +kernel
theorem dL_law_260 : decode cL_law 260 = .ok (.ireturn, 1) := by decide +kernel
theorem dL_law_261 : decode cL_law 261 = .ok (.goto 1335, 3) := by decide +kernel
theorem dL_law_264 : decode cL_law 264 = .ok (.aload_n 1, 1) := by decide +kernel
theorem dL_law_265 : decode cL_law 265 = .ok (.aload_n 0, 1) := by decide +kernel
theorem dL_law_266 : decode cL_law 266 = .ok (.iload 4, 2) := by decide +kernel
theorem dL_law_268 : decode cL_law 268 = .ok (.iconst 1, 1) := by decide +kernel
theorem dL_law_269 : decode cL_law 269 = .ok (.iadd, 1) := by decide +kernel
theorem dL_law_270 : decode cL_law 270 = .ok (.iaload, 1) := by decide +kernel
theorem dL_law_271 : decode cL_law 271 = .ok (.aload_n 0, 1) := by decide +kernel
theorem dL_law_272 : decode cL_law 272 = .ok (.iload 4, 2) := by decide +kernel
theorem dL_law_274 : decode cL_law 274 = .ok (.iconst 2, 1) := by decide +kernel
theorem dL_law_275 : decode cL_law 275 = .ok (.iadd, 1) := by decide +kernel
theorem dL_law_276 : decode cL_law 276 = .ok (.iaload, 1) := by decide +kernel
theorem dL_law_277 : decode cL_law 277 = .ok (.aload_n 0, 1) := by decide +kernel
theorem dL_law_278 : decode cL_law 278 = .ok (.iload 4, 2) := by decide +kernel
theorem dL_law_280 : decode cL_law 280 = .ok (.iconst 3, 1) := by decide +kernel
theorem dL_law_281 : decode cL_law 281 = .ok (.iadd, 1) := by decide +kernel
theorem dL_law_282 : decode cL_law 282 = .ok (.iaload, 1) := by decide +kernel
theorem dL_law_283 : decode cL_law 283 = .ok (.aload_n 0, 1) := by decide +kernel
theorem dL_law_284 : decode cL_law 284 = .ok (.iload 4, 2) := by decide +kernel
theorem dL_law_286 : decode cL_law 286 = .ok (.iconst 4, 1) := by decide +kernel
theorem dL_law_287 : decode cL_law 287 = .ok (.iadd, 1) := by decide +kernel
theorem dL_law_288 : decode cL_law 288 = .ok (.iaload, 1) := by decide +kernel
theorem dL_law_289 : decode cL_law 289 = .ok (.aload_n 3, 1) := by decide +kernel
theorem dL_law_290 : decode cL_law 290 = .ok (.invokestatic 102, 3) := by decide +kernel
theorem dL_law_293 : decode cL_law 293 = .ok (.istore 5, 2) := by decide +kernel
theorem dL_law_295 : decode cL_law 295 = .ok (.aload_n 2, 1) := by decide +kernel
theorem dL_law_296 : decode cL_law 296 = .ok (.aload_n 0, 1) := by decide +kernel
theorem dL_law_297 : decode cL_law 297 = .ok (.iload 4, 2) := by decide +kernel
theorem dL_law_299 : decode cL_law 299 = .ok (.iconst 1, 1) := by decide +kernel
theorem dL_law_300 : decode cL_law 300 = .ok (.iadd, 1) := by decide +kernel
theorem dL_law_301 : decode cL_law 301 = .ok (.iaload, 1) := by decide +kernel
theorem dL_law_302 : decode cL_law 302 = .ok (.aload_n 0, 1) := by decide +kernel
theorem dL_law_303 : decode cL_law 303 = .ok (.iload 4, 2) := by decide +kernel
theorem dL_law_305 : decode cL_law 305 = .ok (.iconst 2, 1) := by decide +kernel
theorem dL_law_306 : decode cL_law 306 = .ok (.iadd, 1) := by decide +kernel
theorem dL_law_307 : decode cL_law 307 = .ok (.iaload, 1) := by decide +kernel
theorem dL_law_308 : decode cL_law 308 = .ok (.aload_n 0, 1) := by decide +kernel
theorem dL_law_309 : decode cL_law 309 = .ok (.iload 4, 2) := by decide +kernel
theorem dL_law_311 : decode cL_law 311 = .ok (.iconst 3, 1) := by decide +kernel
theorem dL_law_312 : decode cL_law 312 = .ok (.iadd, 1) := by decide +kernel
theorem dL_law_313 : decode cL_law 313 = .ok (.iaload, 1) := by decide +kernel
theorem dL_law_314 : decode cL_law 314 = .ok (.aload_n 0, 1) := by decide +kernel
theorem dL_law_315 : decode cL_law 315 = .ok (.iload 4, 2) := by decide +kernel
theorem dL_law_317 : decode cL_law 317 = .ok (.iconst 4, 1) := by decide +kernel
theorem dL_law_318 : decode cL_law 318 = .ok (.iadd, 1) := by decide +kernel
theorem dL_law_319 : decode cL_law 319 = .ok (.iaload, 1) := by decide +kernel
theorem dL_law_320 : decode cL_law 320 = .ok (.invokevirtual 105, 3) := by decide +kernel
theorem dL_law_323 : decode cL_law 323 = .ok (.istore 6, 2) := by decide +kernel
theorem dL_law_325 : decode cL_law 325 = .ok (.aload_n 2, 1) := by decide +kernel
theorem dL_law_326 : decode cL_law 326 = .ok (.invokevirtual 94, 3) := by decide +kernel
theorem dL_law_329 : decode cL_law 329 = .ok (.iload 5, 2) := by decide +kernel
theorem dL_law_331 : decode cL_law 331 = .ok (.if_icmp .eq 5, 3) := by decide +kernel
theorem dL_law_334 : decode cL_law 334 = .ok (.iconst 0, 1) := by decide +kernel
theorem dL_law_335 : decode cL_law 335 = .ok (.ireturn, 1) := by decide +kernel
theorem dL_law_336 : decode cL_law 336 = .ok (.iload 5, 2) := by decide +kernel
theorem dL_law_338 : decode cL_law 338 = .ok (.ifCond .ne 15, 3) := by decide +kernel
theorem dL_law_341 : decode cL_law 341 = .ok (.aload_n 3, 1) := by decide +kernel
theorem dL_law_342 : decode cL_law 342 = .ok (.iconst 0, 1) := by decide +kernel
theorem dL_law_343 : decode cL_law 343 = .ok (.laload, 1) := by decide +kernel
theorem dL_law_344 : decode cL_law 344 = .ok (.iload 6, 2) := by decide +kernel
theorem dL_law_346 : decode cL_law 346 = .ok (.i2l, 1) := by decide +kernel
theorem dL_law_347 : decode cL_law 347 = .ok (.lcmp, 1) := by decide +kernel
theorem dL_law_348 : decode cL_law 348 = .ok (.ifCond .eq 5, 3) := by decide +kernel
theorem dL_law_351 : decode cL_law 351 = .ok (.iconst 0, 1) := by decide +kernel
theorem dL_law_352 : decode cL_law 352 = .ok (.ireturn, 1) := by decide +kernel
theorem dL_law_353 : decode cL_law 353 = .ok (.goto 1243, 3) := by decide +kernel
theorem dL_law_356 : decode cL_law 356 = .ok (.aload_n 1, 1) := by decide +kernel
theorem dL_law_357 : decode cL_law 357 = .ok (.aload_n 0, 1) := by decide +kernel
theorem dL_law_358 : decode cL_law 358 = .ok (.iload 4, 2) := by decide +kernel
theorem dL_law_360 : decode cL_law 360 = .ok (.iconst 1, 1) := by decide +kernel
theorem dL_law_361 : decode cL_law 361 = .ok (.iadd, 1) := by decide +kernel
theorem dL_law_362 : decode cL_law 362 = .ok (.iaload, 1) := by decide +kernel
theorem dL_law_363 : decode cL_law 363 = .ok (.aload_n 0, 1) := by decide +kernel
theorem dL_law_364 : decode cL_law 364 = .ok (.iload 4, 2) := by decide +kernel
theorem dL_law_366 : decode cL_law 366 = .ok (.iconst 2, 1) := by decide +kernel
theorem dL_law_367 : decode cL_law 367 = .ok (.iadd, 1) := by decide +kernel
theorem dL_law_368 : decode cL_law 368 = .ok (.iaload, 1) := by decide +kernel
theorem dL_law_369 : decode cL_law 369 = .ok (.aload_n 0, 1) := by decide +kernel
theorem dL_law_370 : decode cL_law 370 = .ok (.iload 4, 2) := by decide +kernel
theorem dL_law_372 : decode cL_law 372 = .ok (.iconst 3, 1) := by decide +kernel
theorem dL_law_373 : decode cL_law 373 = .ok (.iadd, 1) := by decide +kernel
theorem dL_law_374 : decode cL_law 374 = .ok (.iaload, 1) := by decide +kernel
theorem dL_law_375 : decode cL_law 375 = .ok (.aload_n 3, 1) := by decide +kernel
theorem dL_law_376 : decode cL_law 376 = .ok (.invokestatic 106, 3) := by decide +kernel
theorem dL_law_379 : decode cL_law 379 = .ok (.istore 5, 2) := by decide +kernel
theorem dL_law_381 : decode cL_law 381 = .ok (.aload_n 2, 1) := by decide +kernel
theorem dL_law_382 : decode cL_law 382 = .ok (.aload_n 0, 1) := by decide +kernel
theorem dL_law_383 : decode cL_law 383 = .ok (.iload 4, 2) := by decide +kernel
theorem dL_law_385 : decode cL_law 385 = .ok (.iconst 1, 1) := by decide +kernel
theorem dL_law_386 : decode cL_law 386 = .ok (.iadd, 1) := by decide +kernel
theorem dL_law_387 : decode cL_law 387 = .ok (.iaload, 1) := by decide +kernel
theorem dL_law_388 : decode cL_law 388 = .ok (.aload_n 0, 1) := by decide +kernel
theorem dL_law_389 : decode cL_law 389 = .ok (.iload 4, 2) := by decide +kernel
theorem dL_law_391 : decode cL_law 391 = .ok (.iconst 2, 1) := by decide +kernel
theorem dL_law_392 : decode cL_law 392 = .ok (.iadd, 1) := by decide +kernel
theorem dL_law_393 : decode cL_law 393 = .ok (.iaload, 1) := by decide +kernel
theorem dL_law_394 : decode cL_law 394 = .ok (.aload_n 0, 1) := by decide +kernel
theorem dL_law_395 : decode cL_law 395 = .ok (.iload 4, 2) := by decide +kernel
theorem dL_law_397 : decode cL_law 397 = .ok (.iconst 3, 1) := by decide +kernel
theorem dL_law_398 : decode cL_law 398 = .ok (.iadd, 1) := by decide +kernel
theorem dL_law_399 : decode cL_law 399 = .ok (.iaload, 1) := by decide +kernel
theorem dL_law_400 : decode cL_law 400 = .ok (.invokevirtual 109, 3) := by decide +kernel
theorem dL_law_403 : decode cL_law 403 = .ok (.istore 6, 2) := by decide +kernel
theorem dL_law_405 : decode cL_law 405 = .ok (.aload_n 2, 1) := by decide +kernel
theorem dL_law_406 : decode cL_law 406 = .ok (.invokevirtual 94, 3) := by decide +kernel
theorem dL_law_409 : decode cL_law 409 = .ok (.iload 5, 2) := by decide +kernel
theorem dL_law_411 : decode cL_law 411 = .ok (.if_icmp .eq 5, 3) := by decide +kernel
theorem dL_law_414 : decode cL_law 414 = .ok (.iconst 0, 1) := by decide +kernel
theorem dL_law_415 : decode cL_law 415 = .ok (.ireturn, 1) := by decide +kernel
theorem dL_law_416 : decode cL_law 416 = .ok (.iload 5, 2) := by decide +kernel
theorem dL_law_418 : decode cL_law 418 = .ok (.ifCond .ne 15, 3) := by decide +kernel
theorem dL_law_421 : decode cL_law 421 = .ok (.aload_n 3, 1) := by decide +kernel
theorem dL_law_422 : decode cL_law 422 = .ok (.iconst 0, 1) := by decide +kernel
theorem dL_law_423 : decode cL_law 423 = .ok (.laload, 1) := by decide +kernel
theorem dL_law_424 : decode cL_law 424 = .ok (.iload 6, 2) := by decide +kernel
theorem dL_law_426 : decode cL_law 426 = .ok (.i2l, 1) := by decide +kernel
theorem dL_law_427 : decode cL_law 427 = .ok (.lcmp, 1) := by decide +kernel
theorem dL_law_428 : decode cL_law 428 = .ok (.ifCond .eq 5, 3) := by decide +kernel
theorem dL_law_431 : decode cL_law 431 = .ok (.iconst 0, 1) := by decide +kernel
theorem dL_law_432 : decode cL_law 432 = .ok (.ireturn, 1) := by decide +kernel
theorem dL_law_433 : decode cL_law 433 = .ok (.goto 1163, 3) := by decide +kernel
theorem dL_law_436 : decode cL_law 436 = .ok (.aload_n 1, 1) := by decide +kernel
theorem dL_law_437 : decode cL_law 437 = .ok (.aload_n 0, 1) := by decide +kernel
theorem dL_law_438 : decode cL_law 438 = .ok (.iload 4, 2) := by decide +kernel
theorem dL_law_440 : decode cL_law 440 = .ok (.iconst 1, 1) := by decide +kernel
theorem dL_law_441 : decode cL_law 441 = .ok (.iadd, 1) := by decide +kernel
theorem dL_law_442 : decode cL_law 442 = .ok (.iaload, 1) := by decide +kernel
theorem dL_law_443 : decode cL_law 443 = .ok (.aload_n 0, 1) := by decide +kernel
theorem dL_law_444 : decode cL_law 444 = .ok (.iload 4, 2) := by decide +kernel
theorem dL_law_446 : decode cL_law 446 = .ok (.iconst 2, 1) := by decide +kernel
theorem dL_law_447 : decode cL_law 447 = .ok (.iadd, 1) := by decide +kernel
theorem dL_law_448 : decode cL_law 448 = .ok (.iaload, 1) := by decide +kernel
theorem dL_law_449 : decode cL_law 449 = .ok (.aload_n 3, 1) := by decide +kernel
theorem dL_law_450 : decode cL_law 450 = .ok (.invokestatic 110, 3) := by decide +kernel
theorem dL_law_453 : decode cL_law 453 = .ok (.istore 5, 2) := by decide +kernel
theorem dL_law_455 : decode cL_law 455 = .ok (.aload_n 2, 1) := by decide +kernel
theorem dL_law_456 : decode cL_law 456 = .ok (.aload_n 0, 1) := by decide +kernel
theorem dL_law_457 : decode cL_law 457 = .ok (.iload 4, 2) := by decide +kernel
theorem dL_law_459 : decode cL_law 459 = .ok (.iconst 1, 1) := by decide +kernel
theorem dL_law_460 : decode cL_law 460 = .ok (.iadd, 1) := by decide +kernel
theorem dL_law_461 : decode cL_law 461 = .ok (.iaload, 1) := by decide +kernel
theorem dL_law_462 : decode cL_law 462 = .ok (.aload_n 0, 1) := by decide +kernel
theorem dL_law_463 : decode cL_law 463 = .ok (.iload 4, 2) := by decide +kernel
theorem dL_law_465 : decode cL_law 465 = .ok (.iconst 2, 1) := by decide +kernel
theorem dL_law_466 : decode cL_law 466 = .ok (.iadd, 1) := by decide +kernel
theorem dL_law_467 : decode cL_law 467 = .ok (.iaload, 1) := by decide +kernel
theorem dL_law_468 : decode cL_law 468 = .ok (.invokevirtual 112, 3) := by decide +kernel
theorem dL_law_471 : decode cL_law 471 = .ok (.istore 6, 2) := by decide +kernel
theorem dL_law_473 : decode cL_law 473 = .ok (.aload_n 2, 1) := by decide +kernel
theorem dL_law_474 : decode cL_law 474 = .ok (.invokevirtual 94, 3) := by decide +kernel
theorem dL_law_477 : decode cL_law 477 = .ok (.iload 5, 2) := by decide +kernel
theorem dL_law_479 : decode cL_law 479 = .ok (.if_icmp .eq 5, 3) := by decide +kernel
theorem dL_law_482 : decode cL_law 482 = .ok (.iconst 0, 1) := by decide +kernel
theorem dL_law_483 : decode cL_law 483 = .ok (.ireturn, 1) := by decide +kernel
theorem dL_law_484 : decode cL_law 484 = .ok (.iload 5, 2) := by decide +kernel
theorem dL_law_486 : decode cL_law 486 = .ok (.ifCond .ne 15, 3) := by decide +kernel
theorem dL_law_489 : decode cL_law 489 = .ok (.aload_n 3, 1) := by decide +kernel
theorem dL_law_490 : decode cL_law 490 = .ok (.iconst 0, 1) := by decide +kernel
theorem dL_law_491 : decode cL_law 491 = .ok (.laload, 1) := by decide +kernel
theorem dL_law_492 : decode cL_law 492 = .ok (.iload 6, 2) := by decide +kernel
theorem dL_law_494 : decode cL_law 494 = .ok (.i2l, 1) := by decide +kernel
theorem dL_law_495 : decode cL_law 495 = .ok (.lcmp, 1) := by decide +kernel
theorem dL_law_496 : decode cL_law 496 = .ok (.ifCond .eq 5, 3) := by decide +kernel
theorem dL_law_499 : decode cL_law 499 = .ok (.iconst 0, 1) := by decide +kernel
theorem dL_law_500 : decode cL_law 500 = .ok (.ireturn, 1) := by decide +kernel
theorem dL_law_501 : decode cL_law 501 = .ok (.goto 1095, 3) := by decide +kernel
theorem dL_law_504 : decode cL_law 504 = .ok (.aload_n 1, 1) := by decide +kernel
theorem dL_law_505 : decode cL_law 505 = .ok (.aload_n 0, 1) := by decide +kernel
theorem dL_law_506 : decode cL_law 506 = .ok (.iload 4, 2) := by decide +kernel
theorem dL_law_508 : decode cL_law 508 = .ok (.iconst 1, 1) := by decide +kernel
theorem dL_law_509 : decode cL_law 509 = .ok (.iadd, 1) := by decide +kernel
theorem dL_law_510 : decode cL_law 510 = .ok (.iaload, 1) := by decide +kernel
theorem dL_law_511 : decode cL_law 511 = .ok (.aload_n 3, 1) := by decide +kernel
theorem dL_law_512 : decode cL_law 512 = .ok (.invokestatic 113, 3) := by decide +kernel
theorem dL_law_515 : decode cL_law 515 = .ok (.istore 5, 2) := by decide +kernel
theorem dL_law_517 : decode cL_law 517 = .ok (.aload_n 2, 1) := by decide +kernel
theorem dL_law_518 : decode cL_law 518 = .ok (.aload_n 0, 1) := by decide +kernel
theorem dL_law_519 : decode cL_law 519 = .ok (.iload 4, 2) := by decide +kernel
theorem dL_law_521 : decode cL_law 521 = .ok (.iconst 1, 1) := by decide +kernel
theorem dL_law_522 : decode cL_law 522 = .ok (.iadd, 1) := by decide +kernel
theorem dL_law_523 : decode cL_law 523 = .ok (.iaload, 1) := by decide +kernel
theorem dL_law_524 : decode cL_law 524 = .ok (.invokevirtual 115, 3) := by decide +kernel
theorem dL_law_527 : decode cL_law 527 = .ok (.istore 6, 2) := by decide +kernel
theorem dL_law_529 : decode cL_law 529 = .ok (.aload_n 2, 1) := by decide +kernel
theorem dL_law_530 : decode cL_law 530 = .ok (.invokevirtual 94, 3) := by decide +kernel
theorem dL_law_533 : decode cL_law 533 = .ok (.iload 5, 2) := by decide +kernel
theorem dL_law_535 : decode cL_law 535 = .ok (.if_icmp .eq 5, 3) := by decide +kernel
theorem dL_law_538 : decode cL_law 538 = .ok (.iconst 0, 1) := by decide +kernel
theorem dL_law_539 : decode cL_law 539 = .ok (.ireturn, 1) := by decide +kernel
theorem dL_law_540 : decode cL_law 540 = .ok (.iload 5, 2) := by decide +kernel
theorem dL_law_542 : decode cL_law 542 = .ok (.ifCond .ne 15, 3) := by decide +kernel
theorem dL_law_545 : decode cL_law 545 = .ok (.aload_n 3, 1) := by decide +kernel
theorem dL_law_546 : decode cL_law 546 = .ok (.iconst 0, 1) := by decide +kernel
theorem dL_law_547 : decode cL_law 547 = .ok (.laload, 1) := by decide +kernel
theorem dL_law_548 : decode cL_law 548 = .ok (.iload 6, 2) := by decide +kernel
theorem dL_law_550 : decode cL_law 550 = .ok (.i2l, 1) := by decide +kernel
theorem dL_law_551 : decode cL_law 551 = .ok (.lcmp, 1) := by decide +kernel
theorem dL_law_552 : decode cL_law 552 = .ok (.ifCond .eq 5, 3) := by decide +kernel
theorem dL_law_555 : decode cL_law 555 = .ok (.iconst 0, 1) := by decide +kernel
theorem dL_law_556 : decode cL_law 556 = .ok (.ireturn, 1) := by decide +kernel
theorem dL_law_557 : decode cL_law 557 = .ok (.goto 1039, 3) := by decide +kernel
theorem dL_law_560 : decode cL_law 560 = .ok (.aload_n 1, 1) := by decide +kernel
theorem dL_law_561 : decode cL_law 561 = .ok (.aload_n 0, 1) := by decide +kernel
theorem dL_law_562 : decode cL_law 562 = .ok (.iload 4, 2) := by decide +kernel
theorem dL_law_564 : decode cL_law 564 = .ok (.iconst 1, 1) := by decide +kernel
theorem dL_law_565 : decode cL_law 565 = .ok (.iadd, 1) := by decide +kernel
theorem dL_law_566 : decode cL_law 566 = .ok (.iaload, 1) := by decide +kernel
theorem dL_law_567 : decode cL_law 567 = .ok (.aload_n 3, 1) := by decide +kernel
theorem dL_law_568 : decode cL_law 568 = .ok (.invokestatic 116, 3) := by decide +kernel
theorem dL_law_571 : decode cL_law 571 = .ok (.istore 5, 2) := by decide +kernel
theorem dL_law_573 : decode cL_law 573 = .ok (.aload_n 2, 1) := by decide +kernel
theorem dL_law_574 : decode cL_law 574 = .ok (.aload_n 0, 1) := by decide +kernel
theorem dL_law_575 : decode cL_law 575 = .ok (.iload 4, 2) := by decide +kernel
theorem dL_law_577 : decode cL_law 577 = .ok (.iconst 1, 1) := by decide +kernel
theorem dL_law_578 : decode cL_law 578 = .ok (.iadd, 1) := by decide +kernel
theorem dL_law_579 : decode cL_law 579 = .ok (.iaload, 1) := by decide +kernel
theorem dL_law_580 : decode cL_law 580 = .ok (.invokevirtual 118, 3) := by decide +kernel
theorem dL_law_583 : decode cL_law 583 = .ok (.istore 6, 2) := by decide +kernel
theorem dL_law_585 : decode cL_law 585 = .ok (.aload_n 2, 1) := by decide +kernel
theorem dL_law_586 : decode cL_law 586 = .ok (.invokevirtual 94, 3) := by decide +kernel
theorem dL_law_589 : decode cL_law 589 = .ok (.iload 5, 2) := by decide +kernel
theorem dL_law_591 : decode cL_law 591 = .ok (.if_icmp .eq 5, 3) := by decide +kernel
theorem dL_law_594 : decode cL_law 594 = .ok (.iconst 0, 1) := by decide +kernel
theorem dL_law_595 : decode cL_law 595 = .ok (.ireturn, 1) := by decide +kernel
theorem dL_law_596 : decode cL_law 596 = .ok (.iload 5, 2) := by decide +kernel
theorem dL_law_598 : decode cL_law 598 = .ok (.ifCond .ne 15, 3) := by decide +kernel
theorem dL_law_601 : decode cL_law 601 = .ok (.aload_n 3, 1) := by decide +kernel
theorem dL_law_602 : decode cL_law 602 = .ok (.iconst 0, 1) := by decide +kernel
theorem dL_law_603 : decode cL_law 603 = .ok (.laload, 1) := by decide +kernel
theorem dL_law_604 : decode cL_law 604 = .ok (.iload 6, 2) := by decide +kernel
theorem dL_law_606 : decode cL_law 606 = .ok (.i2l, 1) := by decide +kernel
theorem dL_law_607 : decode cL_law 607 = .ok (.lcmp, 1) := by decide +kernel
theorem dL_law_608 : decode cL_law 608 = .ok (.ifCond .eq 5, 3) := by decide +kernel
theorem dL_law_611 : decode cL_law 611 = .ok (.iconst 0, 1) := by decide +kernel
theorem dL_law_612 : decode cL_law 612 = .ok (.ireturn, 1) := by decide +kernel
theorem dL_law_613 : decode cL_law 613 = .ok (.goto 983, 3) := by decide +kernel
theorem dL_law_616 : decode cL_law 616 = .ok (.aload_n 1, 1) := by decide +kernel
theorem dL_law_617 : decode cL_law 617 = .ok (.aload_n 0, 1) := by decide +kernel
theorem dL_law_618 : decode cL_law 618 = .ok (.iload 4, 2) := by decide +kernel
theorem dL_law_620 : decode cL_law 620 = .ok (.iconst 1, 1) := by decide +kernel
theorem dL_law_621 : decode cL_law 621 = .ok (.iadd, 1) := by decide +kernel
theorem dL_law_622 : decode cL_law 622 = .ok (.iaload, 1) := by decide +kernel
theorem dL_law_623 : decode cL_law 623 = .ok (.aload_n 3, 1) := by decide +kernel
theorem dL_law_624 : decode cL_law 624 = .ok (.invokestatic 119, 3) := by decide +kernel
theorem dL_law_627 : decode cL_law 627 = .ok (.istore 5, 2) := by decide +kernel
theorem dL_law_629 : decode cL_law 629 = .ok (.aload_n 2, 1) := by decide +kernel
theorem dL_law_630 : decode cL_law 630 = .ok (.aload_n 0, 1) := by decide +kernel
theorem dL_law_631 : decode cL_law 631 = .ok (.iload 4, 2) := by decide +kernel
theorem dL_law_633 : decode cL_law 633 = .ok (.iconst 1, 1) := by decide +kernel
theorem dL_law_634 : decode cL_law 634 = .ok (.iadd, 1) := by decide +kernel
theorem dL_law_635 : decode cL_law 635 = .ok (.iaload, 1) := by decide +kernel
theorem dL_law_636 : decode cL_law 636 = .ok (.invokevirtual 121, 3) := by decide +kernel
theorem dL_law_639 : decode cL_law 639 = .ok (.istore 6, 2) := by decide +kernel
theorem dL_law_641 : decode cL_law 641 = .ok (.aload_n 2, 1) := by decide +kernel
theorem dL_law_642 : decode cL_law 642 = .ok (.invokevirtual 94, 3) := by decide +kernel
theorem dL_law_645 : decode cL_law 645 = .ok (.iload 5, 2) := by decide +kernel
theorem dL_law_647 : decode cL_law 647 = .ok (.if_icmp .eq 5, 3) := by decide +kernel
theorem dL_law_650 : decode cL_law 650 = .ok (.iconst 0, 1) := by decide +kernel
theorem dL_law_651 : decode cL_law 651 = .ok (.ireturn, 1) := by decide +kernel
theorem dL_law_652 : decode cL_law 652 = .ok (.iload 5, 2) := by decide +kernel
theorem dL_law_654 : decode cL_law 654 = .ok (.ifCond .ne 15, 3) := by decide +kernel
theorem dL_law_657 : decode cL_law 657 = .ok (.aload_n 3, 1) := by decide +kernel
theorem dL_law_658 : decode cL_law 658 = .ok (.iconst 0, 1) := by decide +kernel
theorem dL_law_659 : decode cL_law 659 = .ok (.laload, 1) := by decide +kernel
theorem dL_law_660 : decode cL_law 660 = .ok (.iload 6, 2) := by decide +kernel
theorem dL_law_662 : decode cL_law 662 = .ok (.i2l, 1) := by decide +kernel
theorem dL_law_663 : decode cL_law 663 = .ok (.lcmp, 1) := by decide +kernel
theorem dL_law_664 : decode cL_law 664 = .ok (.ifCond .eq 5, 3) := by decide +kernel
theorem dL_law_667 : decode cL_law 667 = .ok (.iconst 0, 1) := by decide +kernel
theorem dL_law_668 : decode cL_law 668 = .ok (.ireturn, 1) := by decide +kernel
theorem dL_law_669 : decode cL_law 669 = .ok (.goto 927, 3) := by decide +kernel
theorem dL_law_672 : decode cL_law 672 = .ok (.aload_n 1, 1) := by decide +kernel
theorem dL_law_673 : decode cL_law 673 = .ok (.aload_n 0, 1) := by decide +kernel
theorem dL_law_674 : decode cL_law 674 = .ok (.iload 4, 2) := by decide +kernel
theorem dL_law_676 : decode cL_law 676 = .ok (.iconst 1, 1) := by decide +kernel
theorem dL_law_677 : decode cL_law 677 = .ok (.iadd, 1) := by decide +kernel
theorem dL_law_678 : decode cL_law 678 = .ok (.iaload, 1) := by decide +kernel
theorem dL_law_679 : decode cL_law 679 = .ok (.aload_n 0, 1) := by decide +kernel
theorem dL_law_680 : decode cL_law 680 = .ok (.iload 4, 2) := by decide +kernel
theorem dL_law_682 : decode cL_law 682 = .ok (.iconst 2, 1) := by decide +kernel
theorem dL_law_683 : decode cL_law 683 = .ok (.iadd, 1) := by decide +kernel
theorem dL_law_684 : decode cL_law 684 = .ok (.iaload, 1) := by decide +kernel
theorem dL_law_685 : decode cL_law 685 = .ok (.aload_n 0, 1) := by decide +kernel
theorem dL_law_686 : decode cL_law 686 = .ok (.iload 4, 2) := by decide +kernel
theorem dL_law_688 : decode cL_law 688 = .ok (.iconst 3, 1) := by decide +kernel
theorem dL_law_689 : decode cL_law 689 = .ok (.iadd, 1) := by decide +kernel
theorem dL_law_690 : decode cL_law 690 = .ok (.iaload, 1) := by decide +kernel
theorem dL_law_691 : decode cL_law 691 = .ok (.aload_n 3, 1) := by decide +kernel
theorem dL_law_692 : decode cL_law 692 = .ok (.invokestatic 122, 3) := by decide +kernel
theorem dL_law_695 : decode cL_law 695 = .ok (.istore 5, 2) := by decide +kernel
theorem dL_law_697 : decode cL_law 697 = .ok (.aload_n 2, 1) := by decide +kernel
theorem dL_law_698 : decode cL_law 698 = .ok (.aload_n 0, 1) := by decide +kernel
theorem dL_law_699 : decode cL_law 699 = .ok (.iload 4, 2) := by decide +kernel
theorem dL_law_701 : decode cL_law 701 = .ok (.iconst 1, 1) := by decide +kernel
theorem dL_law_702 : decode cL_law 702 = .ok (.iadd, 1) := by decide +kernel
theorem dL_law_703 : decode cL_law 703 = .ok (.iaload, 1) := by decide +kernel
theorem dL_law_704 : decode cL_law 704 = .ok (.aload_n 0, 1) := by decide +kernel
theorem dL_law_705 : decode cL_law 705 = .ok (.iload 4, 2) := by decide +kernel
theorem dL_law_707 : decode cL_law 707 = .ok (.iconst 2, 1) := by decide +kernel
theorem dL_law_708 : decode cL_law 708 = .ok (.iadd, 1) := by decide +kernel
theorem dL_law_709 : decode cL_law 709 = .ok (.iaload, 1) := by decide +kernel
theorem dL_law_710 : decode cL_law 710 = .ok (.aload_n 0, 1) := by decide +kernel
theorem dL_law_711 : decode cL_law 711 = .ok (.iload 4, 2) := by decide +kernel
theorem dL_law_713 : decode cL_law 713 = .ok (.iconst 3, 1) := by decide +kernel
