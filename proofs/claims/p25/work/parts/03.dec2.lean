theorem dL_setUp_1 : decode cL_setUp 1 = .ok (.iload_n 1, 1) := by decide +kernel
theorem dL_setUp_2 : decode cL_setUp 2 = .ok (.iload_n 2, 1) := by decide +kernel
theorem dL_setUp_3 : decode cL_setUp 3 = .ok (.invokevirtual 47, 3) := by decide +kernel
theorem dL_setUp_6 : decode cL_setUp 6 = .ok (.istore_n 3, 1) := by decide +kernel
theorem dL_setUp_7 : decode cL_setUp 7 = .ok (.goto 8, 3) := by decide +kernel
theorem dL_setUp_10 : decode cL_setUp 10 = .ok (.astore 4, 2) := by decide +kernel
theorem dL_setUp_12 : decode cL_setUp 12 = .ok (.bipush (-71), 2) := by decide +kernel
theorem dL_setUp_14 : decode cL_setUp 14 = .ok (.ireturn, 1) := by decide +kernel
theorem dL_setUp_15 : decode cL_setUp 15 = .ok (.iload_n 3, 1) := by decide +kernel
theorem dL_setUp_16 : decode cL_setUp 16 = .ok (.ifCond .eq 7, 3) := by decide +kernel
theorem dL_setUp_19 : decode cL_setUp 19 = .ok (.iconst 1, 1) := by decide +kernel
theorem dL_setUp_20 : decode cL_setUp 20 = .ok (.goto 4, 3) := by decide +kernel
theorem dL_setUp_23 : decode cL_setUp 23 = .ok (.iconst 0, 1) := by decide +kernel
theorem dL_setUp_24 : decode cL_setUp 24 = .ok (.ireturn, 1) := by decide +kernel
theorem dL_serverOf_0 : decode cL_serverOf 0 = .ok (.aload_n 0, 1) := by decide +kernel
theorem dL_serverOf_1 : decode cL_serverOf 1 = .ok (.iload_n 1, 1) := by decide +kernel
theorem dL_serverOf_2 : decode cL_serverOf 2 = .ok (.invokevirtual 51, 3) := by decide +kernel
theorem dL_serverOf_5 : decode cL_serverOf 5 = .ok (.istore_n 2, 1) := by decide +kernel
theorem dL_serverOf_6 : decode cL_serverOf 6 = .ok (.goto 7, 3) := by decide +kernel
theorem dL_serverOf_9 : decode cL_serverOf 9 = .ok (.astore_n 3, 1) := by decide +kernel
theorem dL_serverOf_10 : decode cL_serverOf 10 = .ok (.bipush (-72), 2) := by decide +kernel
theorem dL_serverOf_12 : decode cL_serverOf 12 = .ok (.ireturn, 1) := by decide +kernel
theorem dL_serverOf_13 : decode cL_serverOf 13 = .ok (.iload_n 2, 1) := by decide +kernel
theorem dL_serverOf_14 : decode cL_serverOf 14 = .ok (.ireturn, 1) := by decide +kernel
theorem dL_send_0 : decode cL_send 0 = .ok (.aload_n 0, 1) := by decide +kernel
theorem dL_send_1 : decode cL_send 1 = .ok (.iload_n 1, 1) := by decide +kernel
theorem dL_send_2 : decode cL_send 2 = .ok (.iload_n 2, 1) := by decide +kernel
theorem dL_send_3 : decode cL_send 3 = .ok (.invokevirtual 54, 3) := by decide +kernel
theorem dL_send_6 : decode cL_send 6 = .ok (.istore_n 3, 1) := by decide +kernel
theorem dL_send_7 : decode cL_send 7 = .ok (.goto 13, 3) := by decide +kernel
theorem dL_send_10 : decode cL_send 10 = .ok (.astore 4, 2) := by decide +kernel
theorem dL_send_12 : decode cL_send 12 = .ok (.bipush (-71), 2) := by decide +kernel
theorem dL_send_14 : decode cL_send 14 = .ok (.ireturn, 1) := by decide +kernel
theorem dL_send_15 : decode cL_send 15 = .ok (.astore 4, 2) := by decide +kernel
theorem dL_send_17 : decode cL_send 17 = .ok (.bipush (-72), 2) := by decide +kernel
theorem dL_send_19 : decode cL_send 19 = .ok (.ireturn, 1) := by decide +kernel
theorem dL_send_20 : decode cL_send 20 = .ok (.iload_n 3, 1) := by decide +kernel
theorem dL_send_21 : decode cL_send 21 = .ok (.ireturn, 1) := by decide +kernel
theorem dL_probe_0 : decode cL_probe 0 = .ok (.aload_n 0, 1) := by decide +kernel
theorem dL_probe_1 : decode cL_probe 1 = .ok (.iload_n 1, 1) := by decide +kernel
theorem dL_probe_2 : decode cL_probe 2 = .ok (.iload_n 2, 1) := by decide +kernel
theorem dL_probe_3 : decode cL_probe 3 = .ok (.iload_n 3, 1) := by decide +kernel
theorem dL_probe_4 : decode cL_probe 4 = .ok (.invokevirtual 57, 3) := by decide +kernel
theorem dL_probe_7 : decode cL_probe 7 = .ok (.istore 4, 2) := by decide +kernel
theorem dL_probe_9 : decode cL_probe 9 = .ok (.goto 13, 3) := by decide +kernel
theorem dL_probe_12 : decode cL_probe 12 = .ok (.astore 5, 2) := by decide +kernel
theorem dL_probe_14 : decode cL_probe 14 = .ok (.bipush (-71), 2) := by decide +kernel
theorem dL_probe_16 : decode cL_probe 16 = .ok (.ireturn, 1) := by decide +kernel
theorem dL_probe_17 : decode cL_probe 17 = .ok (.astore 5, 2) := by decide +kernel
theorem dL_probe_19 : decode cL_probe 19 = .ok (.bipush (-72), 2) := by decide +kernel
theorem dL_probe_21 : decode cL_probe 21 = .ok (.ireturn, 1) := by decide +kernel
theorem dL_probe_22 : decode cL_probe 22 = .ok (.iload 4, 2) := by decide +kernel
theorem dL_probe_24 : decode cL_probe 24 = .ok (.ireturn, 1) := by decide +kernel
theorem dL_setLifetimes_0 : decode cL_setLifetimes 0 = .ok (.aload_n 0, 1) := by decide +kernel
theorem dL_setLifetimes_1 : decode cL_setLifetimes 1 = .ok (.iload_n 1, 1) := by decide +kernel
theorem dL_setLifetimes_2 : decode cL_setLifetimes 2 = .ok (.iload_n 2, 1) := by decide +kernel
theorem dL_setLifetimes_3 : decode cL_setLifetimes 3 = .ok (.invokevirtual 61, 3) := by decide +kernel
theorem dL_setLifetimes_6 : decode cL_setLifetimes 6 = .ok (.istore_n 3, 1) := by decide +kernel
theorem dL_setLifetimes_7 : decode cL_setLifetimes 7 = .ok (.goto 8, 3) := by decide +kernel
theorem dL_setLifetimes_10 : decode cL_setLifetimes 10 = .ok (.astore 4, 2) := by decide +kernel
theorem dL_setLifetimes_12 : decode cL_setLifetimes 12 = .ok (.bipush (-72), 2) := by decide +kernel
theorem dL_setLifetimes_14 : decode cL_setLifetimes 14 = .ok (.ireturn, 1) := by decide +kernel
theorem dL_setLifetimes_15 : decode cL_setLifetimes 15 = .ok (.iload_n 3, 1) := by decide +kernel
theorem dL_setLifetimes_16 : decode cL_setLifetimes 16 = .ok (.ireturn, 1) := by decide +kernel
theorem dL_pass_0 : decode cL_pass 0 = .ok (.aload_n 0, 1) := by decide +kernel
theorem dL_pass_1 : decode cL_pass 1 = .ok (.iload_n 1, 1) := by decide +kernel
theorem dL_pass_2 : decode cL_pass 2 = .ok (.invokevirtual 64, 3) := by decide +kernel
theorem dL_pass_5 : decode cL_pass 5 = .ok (.istore_n 2, 1) := by decide +kernel
theorem dL_pass_6 : decode cL_pass 6 = .ok (.goto 7, 3) := by decide +kernel
theorem dL_pass_9 : decode cL_pass 9 = .ok (.astore_n 3, 1) := by decide +kernel
theorem dL_pass_10 : decode cL_pass 10 = .ok (.bipush (-72), 2) := by decide +kernel
theorem dL_pass_12 : decode cL_pass 12 = .ok (.ireturn, 1) := by decide +kernel
theorem dL_pass_13 : decode cL_pass 13 = .ok (.iload_n 2, 1) := by decide +kernel
theorem dL_pass_14 : decode cL_pass 14 = .ok (.ireturn, 1) := by decide +kernel
theorem dL_prefixOf_0 : decode cL_prefixOf 0 = .ok (.aload_n 0, 1) := by decide +kernel
theorem dL_prefixOf_1 : decode cL_prefixOf 1 = .ok (.iload_n 1, 1) := by decide +kernel
theorem dL_prefixOf_2 : decode cL_prefixOf 2 = .ok (.iload_n 2, 1) := by decide +kernel
theorem dL_prefixOf_3 : decode cL_prefixOf 3 = .ok (.invokevirtual 67, 3) := by decide +kernel
theorem dL_prefixOf_6 : decode cL_prefixOf 6 = .ok (.istore_n 3, 1) := by decide +kernel
theorem dL_prefixOf_7 : decode cL_prefixOf 7 = .ok (.goto 8, 3) := by decide +kernel
theorem dL_prefixOf_10 : decode cL_prefixOf 10 = .ok (.astore 4, 2) := by decide +kernel
theorem dL_prefixOf_12 : decode cL_prefixOf 12 = .ok (.bipush (-71), 2) := by decide +kernel
theorem dL_prefixOf_14 : decode cL_prefixOf 14 = .ok (.ireturn, 1) := by decide +kernel
theorem dL_prefixOf_15 : decode cL_prefixOf 15 = .ok (.iload_n 3, 1) := by decide +kernel
theorem dL_prefixOf_16 : decode cL_prefixOf 16 = .ok (.ireturn, 1) := by decide +kernel
theorem dL_packetsTo_0 : decode cL_packetsTo 0 = .ok (.aload_n 0, 1) := by decide +kernel
theorem dL_packetsTo_1 : decode cL_packetsTo 1 = .ok (.iload_n 1, 1) := by decide +kernel
theorem dL_packetsTo_2 : decode cL_packetsTo 2 = .ok (.iload_n 2, 1) := by decide +kernel
theorem dL_packetsTo_3 : decode cL_packetsTo 3 = .ok (.iload_n 3, 1) := by decide +kernel
theorem dL_packetsTo_4 : decode cL_packetsTo 4 = .ok (.invokevirtual 70, 3) := by decide +kernel
theorem dL_packetsTo_7 : decode cL_packetsTo 7 = .ok (.istore 4, 2) := by decide +kernel
theorem dL_packetsTo_9 : decode cL_packetsTo 9 = .ok (.goto 13, 3) := by decide +kernel
theorem dL_packetsTo_12 : decode cL_packetsTo 12 = .ok (.astore 5, 2) := by decide +kernel
theorem dL_packetsTo_14 : decode cL_packetsTo 14 = .ok (.bipush (-71), 2) := by decide +kernel
theorem dL_packetsTo_16 : decode cL_packetsTo 16 = .ok (.ireturn, 1) := by decide +kernel
theorem dL_packetsTo_17 : decode cL_packetsTo 17 = .ok (.astore 5, 2) := by decide +kernel
theorem dL_packetsTo_19 : decode cL_packetsTo 19 = .ok (.bipush (-72), 2) := by decide +kernel
theorem dL_packetsTo_21 : decode cL_packetsTo 21 = .ok (.ireturn, 1) := by decide +kernel
theorem dL_packetsTo_22 : decode cL_packetsTo 22 = .ok (.iload 4, 2) := by decide +kernel
theorem dL_packetsTo_24 : decode cL_packetsTo 24 = .ok (.ireturn, 1) := by decide +kernel
theorem dL_alike_0 : decode cL_alike 0 = .ok (.bipush 16, 2) := by decide +kernel
theorem dL_alike_2 : decode cL_alike 2 = .ok (.istore_n 2, 1) := by decide +kernel
theorem dL_alike_3 : decode cL_alike 3 = .ok (.iload_n 0, 1) := by decide +kernel
theorem dL_alike_4 : decode cL_alike 4 = .ok (.iload_n 1, 1) := by decide +kernel
theorem dL_alike_5 : decode cL_alike 5 = .ok (.ixor, 1) := by decide +kernel
theorem dL_alike_6 : decode cL_alike 6 = .ok (.istore_n 3, 1) := by decide +kernel
theorem dL_alike_7 : decode cL_alike 7 = .ok (.iload_n 3, 1) := by decide +kernel
theorem dL_alike_8 : decode cL_alike 8 = .ok (.ifCond .le 13, 3) := by decide +kernel
theorem dL_alike_11 : decode cL_alike 11 = .ok (.iinc 2 (-1), 3) := by decide +kernel
theorem dL_alike_14 : decode cL_alike 14 = .ok (.iload_n 3, 1) := by decide +kernel
theorem dL_alike_15 : decode cL_alike 15 = .ok (.iconst 1, 1) := by decide +kernel
theorem dL_alike_16 : decode cL_alike 16 = .ok (.ishr, 1) := by decide +kernel
theorem dL_alike_17 : decode cL_alike 17 = .ok (.istore_n 3, 1) := by decide +kernel
theorem dL_alike_18 : decode cL_alike 18 = .ok (.goto (-11), 3) := by decide +kernel
theorem dL_alike_21 : decode cL_alike 21 = .ok (.iload_n 2, 1) := by decide +kernel
theorem dL_alike_22 : decode cL_alike 22 = .ok (.ireturn, 1) := by decide +kernel
theorem dL_covers_0 : decode cL_covers 0 = .ok (.iload_n 0, 1) := by decide +kernel
theorem dL_covers_1 : decode cL_covers 1 = .ok (.bipush 32, 2) := by decide +kernel
theorem dL_covers_3 : decode cL_covers 3 = .ok (.idiv, 1) := by decide +kernel
theorem dL_covers_4 : decode cL_covers 4 = .ok (.iload_n 1, 1) := by decide +kernel
theorem dL_covers_5 : decode cL_covers 5 = .ok (.invokestatic 73, 3) := by decide +kernel
theorem dL_covers_8 : decode cL_covers 8 = .ok (.iload_n 0, 1) := by decide +kernel
theorem dL_covers_9 : decode cL_covers 9 = .ok (.bipush 32, 2) := by decide +kernel
theorem dL_covers_11 : decode cL_covers 11 = .ok (.irem, 1) := by decide +kernel
theorem dL_covers_12 : decode cL_covers 12 = .ok (.if_icmp .lt 7, 3) := by decide +kernel
theorem dL_covers_15 : decode cL_covers 15 = .ok (.iconst 1, 1) := by decide +kernel
theorem dL_covers_16 : decode cL_covers 16 = .ok (.goto 4, 3) := by decide +kernel
theorem dL_covers_19 : decode cL_covers 19 = .ok (.iconst 0, 1) := by decide +kernel
theorem dL_covers_20 : decode cL_covers 20 = .ok (.ireturn, 1) := by decide +kernel
theorem dL_meet_0 : decode cL_meet 0 = .ok (.iload_n 0, 1) := by decide +kernel
theorem dL_meet_1 : decode cL_meet 1 = .ok (.iload_n 1, 1) := by decide +kernel
theorem dL_meet_2 : decode cL_meet 2 = .ok (.bipush 32, 2) := by decide +kernel
theorem dL_meet_4 : decode cL_meet 4 = .ok (.idiv, 1) := by decide +kernel
theorem dL_meet_5 : decode cL_meet 5 = .ok (.invokestatic 78, 3) := by decide +kernel
theorem dL_meet_8 : decode cL_meet 8 = .ok (.ifCond .ne 14, 3) := by decide +kernel
theorem dL_meet_11 : decode cL_meet 11 = .ok (.iload_n 1, 1) := by decide +kernel
theorem dL_meet_12 : decode cL_meet 12 = .ok (.iload_n 0, 1) := by decide +kernel
theorem dL_meet_13 : decode cL_meet 13 = .ok (.bipush 32, 2) := by decide +kernel
theorem dL_meet_15 : decode cL_meet 15 = .ok (.idiv, 1) := by decide +kernel
theorem dL_meet_16 : decode cL_meet 16 = .ok (.invokestatic 78, 3) := by decide +kernel
theorem dL_meet_19 : decode cL_meet 19 = .ok (.ifCond .eq 7, 3) := by decide +kernel
theorem dL_meet_22 : decode cL_meet 22 = .ok (.iconst 1, 1) := by decide +kernel
theorem dL_meet_23 : decode cL_meet 23 = .ok (.goto 4, 3) := by decide +kernel
theorem dL_meet_26 : decode cL_meet 26 = .ok (.iconst 0, 1) := by decide +kernel
theorem dL_meet_27 : decode cL_meet 27 = .ok (.ireturn, 1) := by decide +kernel
theorem dL_mapping_0 : decode cL_mapping 0 = .ok (.iconst (-1), 1) := by decide +kernel
theorem dL_mapping_1 : decode cL_mapping 1 = .ok (.istore 4, 2) := by decide +kernel
theorem dL_mapping_3 : decode cL_mapping 3 = .ok (.iconst 0, 1) := by decide +kernel
theorem dL_mapping_4 : decode cL_mapping 4 = .ok (.istore 5, 2) := by decide +kernel
theorem dL_mapping_6 : decode cL_mapping 6 = .ok (.iload 5, 2) := by decide +kernel
theorem dL_mapping_8 : decode cL_mapping 8 = .ok (.aload_n 2, 1) := by decide +kernel
theorem dL_mapping_9 : decode cL_mapping 9 = .ok (.iconst 3, 1) := by decide +kernel
theorem dL_mapping_10 : decode cL_mapping 10 = .ok (.iaload, 1) := by decide +kernel
theorem dL_mapping_11 : decode cL_mapping 11 = .ok (.if_icmp .ge 53, 3) := by decide +kernel
theorem dL_mapping_14 : decode cL_mapping 14 = .ok (.aload_n 1, 1) := by decide +kernel
theorem dL_mapping_15 : decode cL_mapping 15 = .ok (.iload 5, 2) := by decide +kernel
theorem dL_mapping_17 : decode cL_mapping 17 = .ok (.iaload, 1) := by decide +kernel
theorem dL_mapping_18 : decode cL_mapping 18 = .ok (.ifCond .le 40, 3) := by decide +kernel
theorem dL_mapping_21 : decode cL_mapping 21 = .ok (.aload_n 0, 1) := by decide +kernel
theorem dL_mapping_22 : decode cL_mapping 22 = .ok (.iload 5, 2) := by decide +kernel
theorem dL_mapping_24 : decode cL_mapping 24 = .ok (.iaload, 1) := by decide +kernel
theorem dL_mapping_25 : decode cL_mapping 25 = .ok (.iload_n 3, 1) := by decide +kernel
theorem dL_mapping_26 : decode cL_mapping 26 = .ok (.invokestatic 78, 3) := by decide +kernel
theorem dL_mapping_29 : decode cL_mapping 29 = .ok (.ifCond .eq 29, 3) := by decide +kernel
theorem dL_mapping_32 : decode cL_mapping 32 = .ok (.iload 4, 2) := by decide +kernel
theorem dL_mapping_34 : decode cL_mapping 34 = .ok (.ifCond .lt 20, 3) := by decide +kernel
theorem dL_mapping_37 : decode cL_mapping 37 = .ok (.aload_n 0, 1) := by decide +kernel
theorem dL_mapping_38 : decode cL_mapping 38 = .ok (.iload 5, 2) := by decide +kernel
theorem dL_mapping_40 : decode cL_mapping 40 = .ok (.iaload, 1) := by decide +kernel
theorem dL_mapping_41 : decode cL_mapping 41 = .ok (.bipush 32, 2) := by decide +kernel
theorem dL_mapping_43 : decode cL_mapping 43 = .ok (.irem, 1) := by decide +kernel
theorem dL_mapping_44 : decode cL_mapping 44 = .ok (.aload_n 0, 1) := by decide +kernel
theorem dL_mapping_45 : decode cL_mapping 45 = .ok (.iload 4, 2) := by decide +kernel
theorem dL_mapping_47 : decode cL_mapping 47 = .ok (.iaload, 1) := by decide +kernel
theorem dL_mapping_48 : decode cL_mapping 48 = .ok (.bipush 32, 2) := by decide +kernel
theorem dL_mapping_50 : decode cL_mapping 50 = .ok (.irem, 1) := by decide +kernel
theorem dL_mapping_51 : decode cL_mapping 51 = .ok (.if_icmp .le 7, 3) := by decide +kernel
theorem dL_mapping_54 : decode cL_mapping 54 = .ok (.iload 5, 2) := by decide +kernel
theorem dL_mapping_56 : decode cL_mapping 56 = .ok (.istore 4, 2) := by decide +kernel
theorem dL_mapping_58 : decode cL_mapping 58 = .ok (.iinc 5 1, 3) := by decide +kernel
theorem dL_mapping_61 : decode cL_mapping 61 = .ok (.goto (-55), 3) := by decide +kernel
theorem dL_mapping_64 : decode cL_mapping 64 = .ok (.iload 4, 2) := by decide +kernel
theorem dL_mapping_66 : decode cL_mapping 66 = .ok (.ireturn, 1) := by decide +kernel
theorem dL_bits_0 : decode cL_bits 0 = .ok (.iload 4, 2) := by decide +kernel
theorem dL_bits_2 : decode cL_bits 2 = .ok (.ifCond .ge 7, 3) := by decide +kernel
theorem dL_bits_5 : decode cL_bits 5 = .ok (.iconst 0, 1) := by decide +kernel
theorem dL_bits_6 : decode cL_bits 6 = .ok (.goto 10, 3) := by decide +kernel
theorem dL_bits_9 : decode cL_bits 9 = .ok (.aload_n 0, 1) := by decide +kernel
theorem dL_bits_10 : decode cL_bits 10 = .ok (.iload 4, 2) := by decide +kernel
theorem dL_bits_12 : decode cL_bits 12 = .ok (.iaload, 1) := by decide +kernel
theorem dL_bits_13 : decode cL_bits 13 = .ok (.bipush 32, 2) := by decide +kernel
theorem dL_bits_15 : decode cL_bits 15 = .ok (.irem, 1) := by decide +kernel
theorem dL_bits_16 : decode cL_bits 16 = .ok (.istore 5, 2) := by decide +kernel
theorem dL_bits_18 : decode cL_bits 18 = .ok (.iconst 0, 1) := by decide +kernel
theorem dL_bits_19 : decode cL_bits 19 = .ok (.istore 6, 2) := by decide +kernel
theorem dL_bits_21 : decode cL_bits 21 = .ok (.iload 6, 2) := by decide +kernel
theorem dL_bits_23 : decode cL_bits 23 = .ok (.aload_n 2, 1) := by decide +kernel
theorem dL_bits_24 : decode cL_bits 24 = .ok (.iconst 3, 1) := by decide +kernel
theorem dL_bits_25 : decode cL_bits 25 = .ok (.iaload, 1) := by decide +kernel
theorem dL_bits_26 : decode cL_bits 26 = .ok (.if_icmp .ge 96, 3) := by decide +kernel
theorem dL_bits_29 : decode cL_bits 29 = .ok (.aload_n 1, 1) := by decide +kernel
theorem dL_bits_30 : decode cL_bits 30 = .ok (.iload 6, 2) := by decide +kernel
theorem dL_bits_32 : decode cL_bits 32 = .ok (.iaload, 1) := by decide +kernel
theorem dL_bits_33 : decode cL_bits 33 = .ok (.ifCond .eq 83, 3) := by decide +kernel
theorem dL_bits_36 : decode cL_bits 36 = .ok (.iload 6, 2) := by decide +kernel
theorem dL_bits_38 : decode cL_bits 38 = .ok (.iload 4, 2) := by decide +kernel
theorem dL_bits_40 : decode cL_bits 40 = .ok (.if_icmp .eq 76, 3) := by decide +kernel
theorem dL_bits_43 : decode cL_bits 43 = .ok (.iload 4, 2) := by decide +kernel
theorem dL_bits_45 : decode cL_bits 45 = .ok (.ifCond .lt 40, 3) := by decide +kernel
theorem dL_bits_48 : decode cL_bits 48 = .ok (.aload_n 0, 1) := by decide +kernel
theorem dL_bits_49 : decode cL_bits 49 = .ok (.iload 6, 2) := by decide +kernel
theorem dL_bits_51 : decode cL_bits 51 = .ok (.iaload, 1) := by decide +kernel
theorem dL_bits_52 : decode cL_bits 52 = .ok (.bipush 32, 2) := by decide +kernel
theorem dL_bits_54 : decode cL_bits 54 = .ok (.irem, 1) := by decide +kernel
theorem dL_bits_55 : decode cL_bits 55 = .ok (.aload_n 0, 1) := by decide +kernel
theorem dL_bits_56 : decode cL_bits 56 = .ok (.iload 4, 2) := by decide +kernel
theorem dL_bits_58 : decode cL_bits 58 = .ok (.iaload, 1) := by decide +kernel
theorem dL_bits_59 : decode cL_bits 59 = .ok (.bipush 32, 2) := by decide +kernel
theorem dL_bits_61 : decode cL_bits 61 = .ok (.irem, 1) := by decide +kernel
theorem dL_bits_62 : decode cL_bits 62 = .ok (.if_icmp .lt 54, 3) := by decide +kernel
theorem dL_bits_65 : decode cL_bits 65 = .ok (.aload_n 0, 1) := by decide +kernel
theorem dL_bits_66 : decode cL_bits 66 = .ok (.iload 4, 2) := by decide +kernel
theorem dL_bits_68 : decode cL_bits 68 = .ok (.iaload, 1) := by decide +kernel
theorem dL_bits_69 : decode cL_bits 69 = .ok (.aload_n 0, 1) := by decide +kernel
theorem dL_bits_70 : decode cL_bits 70 = .ok (.iload 6, 2) := by decide +kernel
theorem dL_bits_72 : decode cL_bits 72 = .ok (.iaload, 1) := by decide +kernel
theorem dL_bits_73 : decode cL_bits 73 = .ok (.bipush 32, 2) := by decide +kernel
theorem dL_bits_75 : decode cL_bits 75 = .ok (.idiv, 1) := by decide +kernel
theorem dL_bits_76 : decode cL_bits 76 = .ok (.invokestatic 78, 3) := by decide +kernel
theorem dL_bits_79 : decode cL_bits 79 = .ok (.ifCond .ne 6, 3) := by decide +kernel
theorem dL_bits_82 : decode cL_bits 82 = .ok (.goto 34, 3) := by decide +kernel
theorem dL_bits_85 : decode cL_bits 85 = .ok (.aload_n 0, 1) := by decide +kernel
theorem dL_bits_86 : decode cL_bits 86 = .ok (.iload 6, 2) := by decide +kernel
theorem dL_bits_88 : decode cL_bits 88 = .ok (.iaload, 1) := by decide +kernel
theorem dL_bits_89 : decode cL_bits 89 = .ok (.bipush 32, 2) := by decide +kernel
theorem dL_bits_91 : decode cL_bits 91 = .ok (.idiv, 1) := by decide +kernel
theorem dL_bits_92 : decode cL_bits 92 = .ok (.iload_n 3, 1) := by decide +kernel
theorem dL_bits_93 : decode cL_bits 93 = .ok (.invokestatic 73, 3) := by decide +kernel
theorem dL_bits_96 : decode cL_bits 96 = .ok (.iconst 1, 1) := by decide +kernel
theorem dL_bits_97 : decode cL_bits 97 = .ok (.iadd, 1) := by decide +kernel
theorem dL_bits_98 : decode cL_bits 98 = .ok (.istore 7, 2) := by decide +kernel
theorem dL_bits_100 : decode cL_bits 100 = .ok (.iload 7, 2) := by decide +kernel
theorem dL_bits_102 : decode cL_bits 102 = .ok (.iload 5, 2) := by decide +kernel
theorem dL_bits_104 : decode cL_bits 104 = .ok (.if_icmp .le 8, 3) := by decide +kernel
theorem dL_bits_107 : decode cL_bits 107 = .ok (.iload 7, 2) := by decide +kernel
theorem dL_bits_109 : decode cL_bits 109 = .ok (.goto 5, 3) := by decide +kernel
theorem dL_bits_112 : decode cL_bits 112 = .ok (.iload 5, 2) := by decide +kernel
theorem dL_bits_114 : decode cL_bits 114 = .ok (.istore 5, 2) := by decide +kernel
theorem dL_bits_116 : decode cL_bits 116 = .ok (.iinc 6 1, 3) := by decide +kernel
theorem dL_bits_119 : decode cL_bits 119 = .ok (.goto (-98), 3) := by decide +kernel
theorem dL_bits_122 : decode cL_bits 122 = .ok (.iload 5, 2) := by decide +kernel
theorem dL_bits_124 : decode cL_bits 124 = .ok (.ireturn, 1) := by decide +kernel
theorem dL_solicit_0 : decode cL_solicit 0 = .ok (.iconst 0, 1) := by decide +kernel
theorem dL_solicit_1 : decode cL_solicit 1 = .ok (.istore 4, 2) := by decide +kernel
theorem dL_solicit_3 : decode cL_solicit 3 = .ok (.iload 4, 2) := by decide +kernel
theorem dL_solicit_5 : decode cL_solicit 5 = .ok (.bipush 16, 2) := by decide +kernel
theorem dL_solicit_7 : decode cL_solicit 7 = .ok (.if_icmp .ge 50, 3) := by decide +kernel
theorem dL_solicit_10 : decode cL_solicit 10 = .ok (.aload_n 0, 1) := by decide +kernel
theorem dL_solicit_11 : decode cL_solicit 11 = .ok (.iload 4, 2) := by decide +kernel
theorem dL_solicit_13 : decode cL_solicit 13 = .ok (.iaload, 1) := by decide +kernel
theorem dL_solicit_14 : decode cL_solicit 14 = .ok (.ifCond .lt 37, 3) := by decide +kernel
theorem dL_solicit_17 : decode cL_solicit 17 = .ok (.aload_n 1, 1) := by decide +kernel
theorem dL_solicit_18 : decode cL_solicit 18 = .ok (.iload 4, 2) := by decide +kernel
theorem dL_solicit_20 : decode cL_solicit 20 = .ok (.iaload, 1) := by decide +kernel
theorem dL_solicit_21 : decode cL_solicit 21 = .ok (.ifCond .lt 30, 3) := by decide +kernel
theorem dL_solicit_24 : decode cL_solicit 24 = .ok (.aload_n 0, 1) := by decide +kernel
theorem dL_solicit_25 : decode cL_solicit 25 = .ok (.iload 4, 2) := by decide +kernel
theorem dL_solicit_27 : decode cL_solicit 27 = .ok (.iaload, 1) := by decide +kernel
theorem dL_solicit_28 : decode cL_solicit 28 = .ok (.iload_n 3, 1) := by decide +kernel
theorem dL_solicit_29 : decode cL_solicit 29 = .ok (.invokestatic 82, 3) := by decide +kernel
theorem dL_solicit_32 : decode cL_solicit 32 = .ok (.ifCond .ne 6, 3) := by decide +kernel
theorem dL_solicit_35 : decode cL_solicit 35 = .ok (.goto 16, 3) := by decide +kernel
theorem dL_solicit_38 : decode cL_solicit 38 = .ok (.aload_n 1, 1) := by decide +kernel
theorem dL_solicit_39 : decode cL_solicit 39 = .ok (.iload 4, 2) := by decide +kernel
theorem dL_solicit_41 : decode cL_solicit 41 = .ok (.iconst (-1), 1) := by decide +kernel
theorem dL_solicit_42 : decode cL_solicit 42 = .ok (.iastore, 1) := by decide +kernel
theorem dL_solicit_43 : decode cL_solicit 43 = .ok (.aload_n 2, 1) := by decide +kernel
theorem dL_solicit_44 : decode cL_solicit 44 = .ok (.bipush 6, 2) := by decide +kernel
theorem dL_solicit_46 : decode cL_solicit 46 = .ok (.dup2, 1) := by decide +kernel
theorem dL_solicit_47 : decode cL_solicit 47 = .ok (.iaload, 1) := by decide +kernel
theorem dL_solicit_48 : decode cL_solicit 48 = .ok (.iconst 1, 1) := by decide +kernel
theorem dL_solicit_49 : decode cL_solicit 49 = .ok (.iadd, 1) := by decide +kernel
theorem dL_solicit_50 : decode cL_solicit 50 = .ok (.iastore, 1) := by decide +kernel
theorem dL_solicit_51 : decode cL_solicit 51 = .ok (.iinc 4 1, 3) := by decide +kernel
theorem dL_solicit_54 : decode cL_solicit 54 = .ok (.goto (-51), 3) := by decide +kernel
theorem dL_solicit_57 : decode cL_solicit 57 = .ok (.return_, 1) := by decide +kernel
theorem dL_identifier_0 : decode cL_identifier 0 = .ok (.iload_n 0, 1) := by decide +kernel
theorem dL_identifier_1 : decode cL_identifier 1 = .ok (.iconst 4, 1) := by decide +kernel
theorem dL_identifier_2 : decode cL_identifier 2 = .ok (.invokestatic 85, 3) := by decide +kernel
theorem dL_identifier_5 : decode cL_identifier 5 = .ok (.lookupswitch 57 #[(0, 27), (1, 36)], 27) := by decide +kernel
theorem dL_identifier_32 : decode cL_identifier 32 = .ok (.iload_n 0, 1) := by decide +kernel
theorem dL_identifier_33 : decode cL_identifier 33 = .ok (.iconst 3, 1) := by decide +kernel
theorem dL_identifier_34 : decode cL_identifier 34 = .ok (.ishr, 1) := by decide +kernel
theorem dL_identifier_35 : decode cL_identifier 35 = .ok (.ldc 88, 2) := by decide +kernel
theorem dL_identifier_37 : decode cL_identifier 37 = .ok (.invokestatic 85, 3) := by decide +kernel
theorem dL_identifier_40 : decode cL_identifier 40 = .ok (.ireturn, 1) := by decide +kernel
theorem dL_identifier_41 : decode cL_identifier 41 = .ok (.iload_n 0, 1) := by decide +kernel
theorem dL_identifier_42 : decode cL_identifier 42 = .ok (.iconst 3, 1) := by decide +kernel
theorem dL_identifier_43 : decode cL_identifier 43 = .ok (.ishr, 1) := by decide +kernel
theorem dL_identifier_44 : decode cL_identifier 44 = .ok (.bipush 8, 2) := by decide +kernel
theorem dL_identifier_46 : decode cL_identifier 46 = .ok (.invokestatic 85, 3) := by decide +kernel
theorem dL_identifier_49 : decode cL_identifier 49 = .ok (.bipush 13, 2) := by decide +kernel
theorem dL_identifier_51 : decode cL_identifier 51 = .ok (.ishl, 1) := by decide +kernel
theorem dL_identifier_52 : decode cL_identifier 52 = .ok (.iload_n 0, 1) := by decide +kernel
theorem dL_identifier_53 : decode cL_identifier 53 = .ok (.bipush 6, 2) := by decide +kernel
theorem dL_identifier_55 : decode cL_identifier 55 = .ok (.ishr, 1) := by decide +kernel
theorem dL_identifier_56 : decode cL_identifier 56 = .ok (.iconst 3, 1) := by decide +kernel
theorem dL_identifier_57 : decode cL_identifier 57 = .ok (.invokestatic 85, 3) := by decide +kernel
theorem dL_identifier_60 : decode cL_identifier 60 = .ok (.ior, 1) := by decide +kernel
theorem dL_identifier_61 : decode cL_identifier 61 = .ok (.ireturn, 1) := by decide +kernel
theorem dL_identifier_62 : decode cL_identifier 62 = .ok (.iload_n 0, 1) := by decide +kernel
theorem dL_identifier_63 : decode cL_identifier 63 = .ok (.iconst 3, 1) := by decide +kernel
theorem dL_identifier_64 : decode cL_identifier 64 = .ok (.ishr, 1) := by decide +kernel
theorem dL_identifier_65 : decode cL_identifier 65 = .ok (.iconst 4, 1) := by decide +kernel
theorem dL_identifier_66 : decode cL_identifier 66 = .ok (.invokestatic 85, 3) := by decide +kernel
theorem dL_identifier_69 : decode cL_identifier 69 = .ok (.bipush 14, 2) := by decide +kernel
theorem dL_identifier_71 : decode cL_identifier 71 = .ok (.ishl, 1) := by decide +kernel
theorem dL_identifier_72 : decode cL_identifier 72 = .ok (.iload_n 0, 1) := by decide +kernel
theorem dL_identifier_73 : decode cL_identifier 73 = .ok (.iconst 5, 1) := by decide +kernel
theorem dL_identifier_74 : decode cL_identifier 74 = .ok (.ishr, 1) := by decide +kernel
theorem dL_identifier_75 : decode cL_identifier 75 = .ok (.iconst 3, 1) := by decide +kernel
theorem dL_identifier_76 : decode cL_identifier 76 = .ok (.invokestatic 85, 3) := by decide +kernel
theorem dL_identifier_79 : decode cL_identifier 79 = .ok (.bipush 8, 2) := by decide +kernel
theorem dL_identifier_81 : decode cL_identifier 81 = .ok (.ishl, 1) := by decide +kernel
theorem dL_identifier_82 : decode cL_identifier 82 = .ok (.ior, 1) := by decide +kernel
theorem dL_identifier_83 : decode cL_identifier 83 = .ok (.iload_n 0, 1) := by decide +kernel
theorem dL_identifier_84 : decode cL_identifier 84 = .ok (.bipush 7, 2) := by decide +kernel
theorem dL_identifier_86 : decode cL_identifier 86 = .ok (.ishr, 1) := by decide +kernel
theorem dL_identifier_87 : decode cL_identifier 87 = .ok (.iconst 2, 1) := by decide +kernel
theorem dL_identifier_88 : decode cL_identifier 88 = .ok (.invokestatic 85, 3) := by decide +kernel
theorem dL_identifier_91 : decode cL_identifier 91 = .ok (.ior, 1) := by decide +kernel
theorem dL_identifier_92 : decode cL_identifier 92 = .ok (.ireturn, 1) := by decide +kernel
theorem dL_prefix_0 : decode cL_prefix 0 = .ok (.iload_n 1, 1) := by decide +kernel
theorem dL_prefix_1 : decode cL_prefix 1 = .ok (.bipush 6, 2) := by decide +kernel
theorem dL_prefix_3 : decode cL_prefix 3 = .ok (.iand, 1) := by decide +kernel
theorem dL_prefix_4 : decode cL_prefix 4 = .ok (.ifCond .ne 14, 3) := by decide +kernel
theorem dL_prefix_7 : decode cL_prefix 7 = .ok (.iload_n 1, 1) := by decide +kernel
theorem dL_prefix_8 : decode cL_prefix 8 = .ok (.iconst 3, 1) := by decide +kernel
theorem dL_prefix_9 : decode cL_prefix 9 = .ok (.ishr, 1) := by decide +kernel
theorem dL_prefix_10 : decode cL_prefix 10 = .ok (.bipush 17, 2) := by decide +kernel
theorem dL_prefix_12 : decode cL_prefix 12 = .ok (.invokestatic 85, 3) := by decide +kernel
theorem dL_prefix_15 : decode cL_prefix 15 = .ok (.goto 14, 3) := by decide +kernel
theorem dL_prefix_18 : decode cL_prefix 18 = .ok (.iconst 2, 1) := by decide +kernel
theorem dL_prefix_19 : decode cL_prefix 19 = .ok (.iload_n 1, 1) := by decide +kernel
theorem dL_prefix_20 : decode cL_prefix 20 = .ok (.iconst 3, 1) := by decide +kernel
theorem dL_prefix_21 : decode cL_prefix 21 = .ok (.ishr, 1) := by decide +kernel
theorem dL_prefix_22 : decode cL_prefix 22 = .ok (.iconst 3, 1) := by decide +kernel
theorem dL_prefix_23 : decode cL_prefix 23 = .ok (.invokestatic 85, 3) := by decide +kernel
theorem dL_prefix_26 : decode cL_prefix 26 = .ok (.iconst 3, 1) := by decide +kernel
theorem dL_prefix_27 : decode cL_prefix 27 = .ok (.imul, 1) := by decide +kernel
theorem dL_prefix_28 : decode cL_prefix 28 = .ok (.iadd, 1) := by decide +kernel
theorem dL_prefix_29 : decode cL_prefix 29 = .ok (.istore_n 2, 1) := by decide +kernel
theorem dL_prefix_30 : decode cL_prefix 30 = .ok (.iload_n 0, 1) := by decide +kernel
theorem dL_prefix_31 : decode cL_prefix 31 = .ok (.invokestatic 89, 3) := by decide +kernel
theorem dL_prefix_34 : decode cL_prefix 34 = .ok (.istore_n 3, 1) := by decide +kernel
theorem dL_prefix_35 : decode cL_prefix 35 = .ok (.bipush 32, 2) := by decide +kernel
theorem dL_prefix_37 : decode cL_prefix 37 = .ok (.iload_n 3, 1) := by decide +kernel
theorem dL_prefix_38 : decode cL_prefix 38 = .ok (.bipush 16, 2) := by decide +kernel
theorem dL_prefix_40 : decode cL_prefix 40 = .ok (.iload_n 2, 1) := by decide +kernel
theorem dL_prefix_41 : decode cL_prefix 41 = .ok (.isub, 1) := by decide +kernel
theorem dL_prefix_42 : decode cL_prefix 42 = .ok (.ishr, 1) := by decide +kernel
theorem dL_prefix_43 : decode cL_prefix 43 = .ok (.bipush 16, 2) := by decide +kernel
theorem dL_prefix_45 : decode cL_prefix 45 = .ok (.iload_n 2, 1) := by decide +kernel
theorem dL_prefix_46 : decode cL_prefix 46 = .ok (.isub, 1) := by decide +kernel
theorem dL_prefix_47 : decode cL_prefix 47 = .ok (.ishl, 1) := by decide +kernel
theorem dL_prefix_48 : decode cL_prefix 48 = .ok (.imul, 1) := by decide +kernel
theorem dL_prefix_49 : decode cL_prefix 49 = .ok (.iload_n 2, 1) := by decide +kernel
theorem dL_prefix_50 : decode cL_prefix 50 = .ok (.iadd, 1) := by decide +kernel
theorem dL_prefix_51 : decode cL_prefix 51 = .ok (.ireturn, 1) := by decide +kernel
theorem dL_registers_0 : decode cL_registers 0 = .ok (.iload_n 1, 1) := by decide +kernel
theorem dL_registers_1 : decode cL_registers 1 = .ok (.iconst 4, 1) := by decide +kernel
theorem dL_registers_2 : decode cL_registers 2 = .ok (.if_icmp .ge 252, 3) := by decide +kernel
theorem dL_registers_5 : decode cL_registers 5 = .ok (.iload_n 2, 1) := by decide +kernel
theorem dL_registers_6 : decode cL_registers 6 = .ok (.iload_n 3, 1) := by decide +kernel
theorem dL_registers_7 : decode cL_registers 7 = .ok (.invokestatic 92, 3) := by decide +kernel
theorem dL_registers_10 : decode cL_registers 10 = .ok (.istore 10, 2) := by decide +kernel
theorem dL_registers_12 : decode cL_registers 12 = .ok (.aload_n 0, 1) := by decide +kernel
theorem dL_registers_13 : decode cL_registers 13 = .ok (.ldc 88, 2) := by decide +kernel
theorem dL_registers_15 : decode cL_registers 15 = .ok (.iconst 0, 1) := by decide +kernel
theorem dL_registers_16 : decode cL_registers 16 = .ok (.invokestatic 95, 3) := by decide +kernel
theorem dL_registers_19 : decode cL_registers 19 = .ok (.bipush (-72), 2) := by decide +kernel
theorem dL_registers_21 : decode cL_registers 21 = .ok (.if_icmp .ne 61, 3) := by decide +kernel
theorem dL_registers_24 : decode cL_registers 24 = .ok (.aload_n 0, 1) := by decide +kernel
theorem dL_registers_25 : decode cL_registers 25 = .ok (.iconst (-1), 1) := by decide +kernel
theorem dL_registers_26 : decode cL_registers 26 = .ok (.iconst 3, 1) := by decide +kernel
theorem dL_registers_27 : decode cL_registers 27 = .ok (.invokestatic 95, 3) := by decide +kernel
theorem dL_registers_30 : decode cL_registers 30 = .ok (.bipush (-72), 2) := by decide +kernel
theorem dL_registers_32 : decode cL_registers 32 = .ok (.if_icmp .ne 50, 3) := by decide +kernel
theorem dL_registers_35 : decode cL_registers 35 = .ok (.aload_n 0, 1) := by decide +kernel
theorem dL_registers_36 : decode cL_registers 36 = .ok (.iconst 0, 1) := by decide +kernel
theorem dL_registers_37 : decode cL_registers 37 = .ok (.bipush 17, 2) := by decide +kernel
theorem dL_registers_39 : decode cL_registers 39 = .ok (.invokestatic 95, 3) := by decide +kernel
theorem dL_registers_42 : decode cL_registers 42 = .ok (.bipush (-72), 2) := by decide +kernel
theorem dL_registers_44 : decode cL_registers 44 = .ok (.if_icmp .ne 38, 3) := by decide +kernel
theorem dL_registers_47 : decode cL_registers 47 = .ok (.aload_n 0, 1) := by decide +kernel
theorem dL_registers_48 : decode cL_registers 48 = .ok (.iconst 0, 1) := by decide +kernel
theorem dL_registers_49 : decode cL_registers 49 = .ok (.iconst (-1), 1) := by decide +kernel
theorem dL_registers_50 : decode cL_registers 50 = .ok (.invokestatic 95, 3) := by decide +kernel
theorem dL_registers_53 : decode cL_registers 53 = .ok (.bipush (-72), 2) := by decide +kernel
theorem dL_registers_55 : decode cL_registers 55 = .ok (.if_icmp .ne 27, 3) := by decide +kernel
theorem dL_registers_58 : decode cL_registers 58 = .ok (.aload_n 0, 1) := by decide +kernel
theorem dL_registers_59 : decode cL_registers 59 = .ok (.iconst 1, 1) := by decide +kernel
theorem dL_registers_60 : decode cL_registers 60 = .ok (.bipush 15, 2) := by decide +kernel
theorem dL_registers_62 : decode cL_registers 62 = .ok (.invokestatic 95, 3) := by decide +kernel
theorem dL_registers_65 : decode cL_registers 65 = .ok (.bipush (-72), 2) := by decide +kernel
theorem dL_registers_67 : decode cL_registers 67 = .ok (.if_icmp .ne 15, 3) := by decide +kernel
theorem dL_registers_70 : decode cL_registers 70 = .ok (.aload_n 0, 1) := by decide +kernel
theorem dL_registers_71 : decode cL_registers 71 = .ok (.ldc 98, 2) := by decide +kernel
theorem dL_registers_73 : decode cL_registers 73 = .ok (.iconst 0, 1) := by decide +kernel
theorem dL_registers_74 : decode cL_registers 74 = .ok (.invokestatic 95, 3) := by decide +kernel
theorem dL_registers_77 : decode cL_registers 77 = .ok (.bipush (-72), 2) := by decide +kernel
theorem dL_registers_79 : decode cL_registers 79 = .ok (.if_icmp .eq 5, 3) := by decide +kernel
theorem dL_registers_82 : decode cL_registers 82 = .ok (.iconst 0, 1) := by decide +kernel
theorem dL_registers_83 : decode cL_registers 83 = .ok (.ireturn, 1) := by decide +kernel
theorem dL_registers_84 : decode cL_registers 84 = .ok (.iconst 0, 1) := by decide +kernel
theorem dL_registers_85 : decode cL_registers 85 = .ok (.istore 11, 2) := by decide +kernel
theorem dL_registers_87 : decode cL_registers 87 = .ok (.iconst 0, 1) := by decide +kernel
theorem dL_registers_88 : decode cL_registers 88 = .ok (.istore 12, 2) := by decide +kernel
theorem dL_registers_90 : decode cL_registers 90 = .ok (.iload 12, 2) := by decide +kernel
theorem dL_registers_92 : decode cL_registers 92 = .ok (.aload 9, 2) := by decide +kernel
theorem dL_registers_94 : decode cL_registers 94 = .ok (.iconst 3, 1) := by decide +kernel
theorem dL_registers_95 : decode cL_registers 95 = .ok (.iaload, 1) := by decide +kernel
theorem dL_registers_96 : decode cL_registers 96 = .ok (.if_icmp .ge 37, 3) := by decide +kernel
theorem dL_registers_99 : decode cL_registers 99 = .ok (.iload 11, 2) := by decide +kernel
theorem dL_registers_101 : decode cL_registers 101 = .ok (.aload 5, 2) := by decide +kernel
theorem dL_registers_103 : decode cL_registers 103 = .ok (.iload 12, 2) := by decide +kernel
theorem dL_registers_105 : decode cL_registers 105 = .ok (.iaload, 1) := by decide +kernel
theorem dL_registers_106 : decode cL_registers 106 = .ok (.ifCond .le 17, 3) := by decide +kernel
theorem dL_registers_109 : decode cL_registers 109 = .ok (.aload 4, 2) := by decide +kernel
theorem dL_registers_111 : decode cL_registers 111 = .ok (.iload 12, 2) := by decide +kernel
theorem dL_registers_113 : decode cL_registers 113 = .ok (.iaload, 1) := by decide +kernel
theorem dL_registers_114 : decode cL_registers 114 = .ok (.iload 10, 2) := by decide +kernel
theorem dL_registers_116 : decode cL_registers 116 = .ok (.if_icmp .ne 7, 3) := by decide +kernel
theorem dL_registers_119 : decode cL_registers 119 = .ok (.iconst 1, 1) := by decide +kernel
theorem dL_registers_120 : decode cL_registers 120 = .ok (.goto 4, 3) := by decide +kernel
theorem dL_registers_123 : decode cL_registers 123 = .ok (.iconst 0, 1) := by decide +kernel
theorem dL_registers_124 : decode cL_registers 124 = .ok (.ior, 1) := by decide +kernel
theorem dL_registers_125 : decode cL_registers 125 = .ok (.istore 11, 2) := by decide +kernel
theorem dL_registers_127 : decode cL_registers 127 = .ok (.iinc 12 1, 3) := by decide +kernel
theorem dL_registers_130 : decode cL_registers 130 = .ok (.goto (-40), 3) := by decide +kernel
theorem dL_registers_133 : decode cL_registers 133 = .ok (.iload 11, 2) := by decide +kernel
theorem dL_registers_135 : decode cL_registers 135 = .ok (.ifCond .eq 28, 3) := by decide +kernel
theorem dL_registers_138 : decode cL_registers 138 = .ok (.aload_n 0, 1) := by decide +kernel
theorem dL_registers_139 : decode cL_registers 139 = .ok (.iload 10, 2) := by decide +kernel
theorem dL_registers_141 : decode cL_registers 141 = .ok (.bipush 32, 2) := by decide +kernel
theorem dL_registers_143 : decode cL_registers 143 = .ok (.idiv, 1) := by decide +kernel
theorem dL_registers_144 : decode cL_registers 144 = .ok (.iload 10, 2) := by decide +kernel
theorem dL_registers_146 : decode cL_registers 146 = .ok (.bipush 32, 2) := by decide +kernel
theorem dL_registers_148 : decode cL_registers 148 = .ok (.irem, 1) := by decide +kernel
theorem dL_registers_149 : decode cL_registers 149 = .ok (.invokestatic 95, 3) := by decide +kernel
theorem dL_registers_152 : decode cL_registers 152 = .ok (.bipush (-73), 2) := by decide +kernel
theorem dL_registers_154 : decode cL_registers 154 = .ok (.if_icmp .ne 7, 3) := by decide +kernel
theorem dL_registers_157 : decode cL_registers 157 = .ok (.iconst 1, 1) := by decide +kernel
theorem dL_registers_158 : decode cL_registers 158 = .ok (.goto 4, 3) := by decide +kernel
theorem dL_registers_161 : decode cL_registers 161 = .ok (.iconst 0, 1) := by decide +kernel
theorem dL_registers_162 : decode cL_registers 162 = .ok (.ireturn, 1) := by decide +kernel
theorem dL_registers_163 : decode cL_registers 163 = .ok (.aload 9, 2) := by decide +kernel
theorem dL_registers_165 : decode cL_registers 165 = .ok (.iconst 3, 1) := by decide +kernel
theorem dL_registers_166 : decode cL_registers 166 = .ok (.iaload, 1) := by decide +kernel
theorem dL_registers_167 : decode cL_registers 167 = .ok (.bipush 16, 2) := by decide +kernel
theorem dL_registers_169 : decode cL_registers 169 = .ok (.if_icmp .ne 20, 3) := by decide +kernel
theorem dL_registers_172 : decode cL_registers 172 = .ok (.aload_n 0, 1) := by decide +kernel
theorem dL_registers_173 : decode cL_registers 173 = .ok (.bipush 15, 2) := by decide +kernel
theorem dL_registers_175 : decode cL_registers 175 = .ok (.invokestatic 99, 3) := by decide +kernel
theorem dL_registers_178 : decode cL_registers 178 = .ok (.bipush (-71), 2) := by decide +kernel
theorem dL_registers_180 : decode cL_registers 180 = .ok (.if_icmp .eq 7, 3) := by decide +kernel
theorem dL_registers_183 : decode cL_registers 183 = .ok (.iconst 1, 1) := by decide +kernel
theorem dL_registers_184 : decode cL_registers 184 = .ok (.goto 4, 3) := by decide +kernel
theorem dL_registers_187 : decode cL_registers 187 = .ok (.iconst 0, 1) := by decide +kernel
theorem dL_registers_188 : decode cL_registers 188 = .ok (.ireturn, 1) := by decide +kernel
theorem dL_registers_189 : decode cL_registers 189 = .ok (.aload 4, 2) := by decide +kernel
theorem dL_registers_191 : decode cL_registers 191 = .ok (.aload 9, 2) := by decide +kernel
theorem dL_registers_193 : decode cL_registers 193 = .ok (.iconst 3, 1) := by decide +kernel
theorem dL_registers_194 : decode cL_registers 194 = .ok (.iaload, 1) := by decide +kernel
theorem dL_registers_195 : decode cL_registers 195 = .ok (.iload 10, 2) := by decide +kernel
theorem dL_registers_197 : decode cL_registers 197 = .ok (.iastore, 1) := by decide +kernel
theorem dL_registers_198 : decode cL_registers 198 = .ok (.aload 5, 2) := by decide +kernel
theorem dL_registers_200 : decode cL_registers 200 = .ok (.aload 9, 2) := by decide +kernel
theorem dL_registers_202 : decode cL_registers 202 = .ok (.iconst 3, 1) := by decide +kernel
theorem dL_registers_203 : decode cL_registers 203 = .ok (.iaload, 1) := by decide +kernel
theorem dL_registers_204 : decode cL_registers 204 = .ok (.iconst 1, 1) := by decide +kernel
theorem dL_registers_205 : decode cL_registers 205 = .ok (.iastore, 1) := by decide +kernel
theorem dL_registers_206 : decode cL_registers 206 = .ok (.aload 9, 2) := by decide +kernel
theorem dL_registers_208 : decode cL_registers 208 = .ok (.iconst 3, 1) := by decide +kernel
theorem dL_registers_209 : decode cL_registers 209 = .ok (.dup2, 1) := by decide +kernel
theorem dL_registers_210 : decode cL_registers 210 = .ok (.iaload, 1) := by decide +kernel
theorem dL_registers_211 : decode cL_registers 211 = .ok (.iconst 1, 1) := by decide +kernel
theorem dL_registers_212 : decode cL_registers 212 = .ok (.iadd, 1) := by decide +kernel
theorem dL_registers_213 : decode cL_registers 213 = .ok (.iastore, 1) := by decide +kernel
theorem dL_registers_214 : decode cL_registers 214 = .ok (.aload 7, 2) := by decide +kernel
theorem dL_registers_216 : decode cL_registers 216 = .ok (.aload 8, 2) := by decide +kernel
theorem dL_registers_218 : decode cL_registers 218 = .ok (.aload 9, 2) := by decide +kernel
theorem dL_registers_220 : decode cL_registers 220 = .ok (.iload 10, 2) := by decide +kernel
theorem dL_registers_222 : decode cL_registers 222 = .ok (.invokestatic 102, 3) := by decide +kernel
theorem dL_registers_225 : decode cL_registers 225 = .ok (.aload_n 0, 1) := by decide +kernel
theorem dL_registers_226 : decode cL_registers 226 = .ok (.iload 10, 2) := by decide +kernel
theorem dL_registers_228 : decode cL_registers 228 = .ok (.bipush 32, 2) := by decide +kernel
theorem dL_registers_230 : decode cL_registers 230 = .ok (.idiv, 1) := by decide +kernel
theorem dL_registers_231 : decode cL_registers 231 = .ok (.iload 10, 2) := by decide +kernel
theorem dL_registers_233 : decode cL_registers 233 = .ok (.bipush 32, 2) := by decide +kernel
theorem dL_registers_235 : decode cL_registers 235 = .ok (.irem, 1) := by decide +kernel
theorem dL_registers_236 : decode cL_registers 236 = .ok (.invokestatic 95, 3) := by decide +kernel
theorem dL_registers_239 : decode cL_registers 239 = .ok (.aload 9, 2) := by decide +kernel
theorem dL_registers_241 : decode cL_registers 241 = .ok (.iconst 3, 1) := by decide +kernel
theorem dL_registers_242 : decode cL_registers 242 = .ok (.iaload, 1) := by decide +kernel
theorem dL_registers_243 : decode cL_registers 243 = .ok (.iconst 1, 1) := by decide +kernel
theorem dL_registers_244 : decode cL_registers 244 = .ok (.isub, 1) := by decide +kernel
theorem dL_registers_245 : decode cL_registers 245 = .ok (.if_icmp .ne 7, 3) := by decide +kernel
theorem dL_registers_248 : decode cL_registers 248 = .ok (.iconst 1, 1) := by decide +kernel
theorem dL_registers_249 : decode cL_registers 249 = .ok (.goto 4, 3) := by decide +kernel
theorem dL_registers_252 : decode cL_registers 252 = .ok (.iconst 0, 1) := by decide +kernel
theorem dL_registers_253 : decode cL_registers 253 = .ok (.ireturn, 1) := by decide +kernel
theorem dL_registers_254 : decode cL_registers 254 = .ok (.iload_n 2, 1) := by decide +kernel
theorem dL_registers_255 : decode cL_registers 255 = .ok (.aload 9, 2) := by decide +kernel
theorem dL_registers_257 : decode cL_registers 257 = .ok (.iconst 3, 1) := by decide +kernel
theorem dL_registers_258 : decode cL_registers 258 = .ok (.iaload, 1) := by decide +kernel
theorem dL_registers_259 : decode cL_registers 259 = .ok (.iconst 1, 1) := by decide +kernel
theorem dL_registers_260 : decode cL_registers 260 = .ok (.iadd, 1) := by decide +kernel
theorem dL_registers_261 : decode cL_registers 261 = .ok (.invokestatic 85, 3) := by decide +kernel
theorem dL_registers_264 : decode cL_registers 264 = .ok (.istore 10, 2) := by decide +kernel
theorem dL_registers_266 : decode cL_registers 266 = .ok (.iconst 0, 1) := by decide +kernel
theorem dL_registers_267 : decode cL_registers 267 = .ok (.istore 11, 2) := by decide +kernel
theorem dL_registers_269 : decode cL_registers 269 = .ok (.iload 11, 2) := by decide +kernel
theorem dL_registers_271 : decode cL_registers 271 = .ok (.aload 9, 2) := by decide +kernel
theorem dL_registers_273 : decode cL_registers 273 = .ok (.iconst 3, 1) := by decide +kernel
theorem dL_registers_274 : decode cL_registers 274 = .ok (.iaload, 1) := by decide +kernel
theorem dL_registers_275 : decode cL_registers 275 = .ok (.if_icmp .ge 44, 3) := by decide +kernel
theorem dL_registers_278 : decode cL_registers 278 = .ok (.iload_n 3, 1) := by decide +kernel
theorem dL_registers_279 : decode cL_registers 279 = .ok (.bipush 96, 2) := by decide +kernel
theorem dL_registers_281 : decode cL_registers 281 = .ok (.iand, 1) := by decide +kernel
theorem dL_registers_282 : decode cL_registers 282 = .ok (.ifCond .le 37, 3) := by decide +kernel
theorem dL_registers_285 : decode cL_registers 285 = .ok (.iload 10, 2) := by decide +kernel
theorem dL_registers_287 : decode cL_registers 287 = .ok (.aload 9, 2) := by decide +kernel
theorem dL_registers_289 : decode cL_registers 289 = .ok (.iconst 3, 1) := by decide +kernel
theorem dL_registers_290 : decode cL_registers 290 = .ok (.iaload, 1) := by decide +kernel
theorem dL_registers_291 : decode cL_registers 291 = .ok (.if_icmp .eq 11, 3) := by decide +kernel
theorem dL_registers_294 : decode cL_registers 294 = .ok (.aload 5, 2) := by decide +kernel
theorem dL_registers_296 : decode cL_registers 296 = .ok (.iload 10, 2) := by decide +kernel
theorem dL_registers_298 : decode cL_registers 298 = .ok (.iaload, 1) := by decide +kernel
theorem dL_registers_299 : decode cL_registers 299 = .ok (.ifCond .ne 20, 3) := by decide +kernel
theorem dL_registers_302 : decode cL_registers 302 = .ok (.iload 10, 2) := by decide +kernel
theorem dL_registers_304 : decode cL_registers 304 = .ok (.iconst 1, 1) := by decide +kernel
theorem dL_registers_305 : decode cL_registers 305 = .ok (.iadd, 1) := by decide +kernel
theorem dL_registers_306 : decode cL_registers 306 = .ok (.aload 9, 2) := by decide +kernel
theorem dL_registers_308 : decode cL_registers 308 = .ok (.iconst 3, 1) := by decide +kernel
theorem dL_registers_309 : decode cL_registers 309 = .ok (.iaload, 1) := by decide +kernel
theorem dL_registers_310 : decode cL_registers 310 = .ok (.irem, 1) := by decide +kernel
theorem dL_registers_311 : decode cL_registers 311 = .ok (.istore 10, 2) := by decide +kernel
theorem dL_registers_313 : decode cL_registers 313 = .ok (.iinc 11 1, 3) := by decide +kernel
theorem dL_registers_316 : decode cL_registers 316 = .ok (.goto (-47), 3) := by decide +kernel
theorem dL_registers_319 : decode cL_registers 319 = .ok (.iload_n 1, 1) := by decide +kernel
theorem dL_registers_320 : decode cL_registers 320 = .ok (.iconst 4, 1) := by decide +kernel
theorem dL_registers_321 : decode cL_registers 321 = .ok (.if_icmp .ne 140, 3) := by decide +kernel
theorem dL_registers_324 : decode cL_registers 324 = .ok (.iload 10, 2) := by decide +kernel
theorem dL_registers_326 : decode cL_registers 326 = .ok (.aload 9, 2) := by decide +kernel
theorem dL_registers_328 : decode cL_registers 328 = .ok (.iconst 3, 1) := by decide +kernel
theorem dL_registers_329 : decode cL_registers 329 = .ok (.iaload, 1) := by decide +kernel
theorem dL_registers_330 : decode cL_registers 330 = .ok (.if_icmp .ne 30, 3) := by decide +kernel
theorem dL_registers_333 : decode cL_registers 333 = .ok (.aload_n 0, 1) := by decide +kernel
theorem dL_registers_334 : decode cL_registers 334 = .ok (.iload 10, 2) := by decide +kernel
theorem dL_registers_336 : decode cL_registers 336 = .ok (.invokestatic 106, 3) := by decide +kernel
theorem dL_registers_339 : decode cL_registers 339 = .ok (.bipush (-71), 2) := by decide +kernel
theorem dL_registers_341 : decode cL_registers 341 = .ok (.if_icmp .ne 17, 3) := by decide +kernel
theorem dL_registers_344 : decode cL_registers 344 = .ok (.aload_n 0, 1) := by decide +kernel
theorem dL_registers_345 : decode cL_registers 345 = .ok (.iconst (-1), 1) := by decide +kernel
theorem dL_registers_346 : decode cL_registers 346 = .ok (.invokestatic 106, 3) := by decide +kernel
theorem dL_registers_349 : decode cL_registers 349 = .ok (.bipush (-71), 2) := by decide +kernel
theorem dL_registers_351 : decode cL_registers 351 = .ok (.if_icmp .ne 7, 3) := by decide +kernel
theorem dL_registers_354 : decode cL_registers 354 = .ok (.iconst 1, 1) := by decide +kernel
theorem dL_registers_355 : decode cL_registers 355 = .ok (.goto 4, 3) := by decide +kernel
theorem dL_registers_358 : decode cL_registers 358 = .ok (.iconst 0, 1) := by decide +kernel
theorem dL_registers_359 : decode cL_registers 359 = .ok (.ireturn, 1) := by decide +kernel
theorem dL_registers_360 : decode cL_registers 360 = .ok (.aload 5, 2) := by decide +kernel
theorem dL_registers_362 : decode cL_registers 362 = .ok (.iload 10, 2) := by decide +kernel
theorem dL_registers_364 : decode cL_registers 364 = .ok (.iaload, 1) := by decide +kernel
theorem dL_registers_365 : decode cL_registers 365 = .ok (.ifCond .ne 20, 3) := by decide +kernel
theorem dL_registers_368 : decode cL_registers 368 = .ok (.aload_n 0, 1) := by decide +kernel
theorem dL_registers_369 : decode cL_registers 369 = .ok (.iload 10, 2) := by decide +kernel
theorem dL_registers_371 : decode cL_registers 371 = .ok (.invokestatic 106, 3) := by decide +kernel
theorem dL_registers_374 : decode cL_registers 374 = .ok (.bipush (-73), 2) := by decide +kernel
theorem dL_registers_376 : decode cL_registers 376 = .ok (.if_icmp .ne 7, 3) := by decide +kernel
theorem dL_registers_379 : decode cL_registers 379 = .ok (.iconst 1, 1) := by decide +kernel
theorem dL_registers_380 : decode cL_registers 380 = .ok (.goto 4, 3) := by decide +kernel
theorem dL_registers_383 : decode cL_registers 383 = .ok (.iconst 0, 1) := by decide +kernel
theorem dL_registers_384 : decode cL_registers 384 = .ok (.ireturn, 1) := by decide +kernel
theorem dL_registers_385 : decode cL_registers 385 = .ok (.aload 5, 2) := by decide +kernel
theorem dL_registers_387 : decode cL_registers 387 = .ok (.iload 10, 2) := by decide +kernel
theorem dL_registers_389 : decode cL_registers 389 = .ok (.iconst 0, 1) := by decide +kernel
theorem dL_registers_390 : decode cL_registers 390 = .ok (.iastore, 1) := by decide +kernel
theorem dL_registers_391 : decode cL_registers 391 = .ok (.aload 7, 2) := by decide +kernel
theorem dL_registers_393 : decode cL_registers 393 = .ok (.aload 8, 2) := by decide +kernel
theorem dL_registers_395 : decode cL_registers 395 = .ok (.aload 9, 2) := by decide +kernel
theorem dL_registers_397 : decode cL_registers 397 = .ok (.aload 4, 2) := by decide +kernel
theorem dL_registers_399 : decode cL_registers 399 = .ok (.iload 10, 2) := by decide +kernel
theorem dL_registers_401 : decode cL_registers 401 = .ok (.iaload, 1) := by decide +kernel
theorem dL_registers_402 : decode cL_registers 402 = .ok (.invokestatic 102, 3) := by decide +kernel
theorem dL_registers_405 : decode cL_registers 405 = .ok (.iconst 0, 1) := by decide +kernel
theorem dL_registers_406 : decode cL_registers 406 = .ok (.istore 11, 2) := by decide +kernel
theorem dL_registers_408 : decode cL_registers 408 = .ok (.iconst 0, 1) := by decide +kernel
theorem dL_registers_409 : decode cL_registers 409 = .ok (.istore 12, 2) := by decide +kernel
theorem dL_registers_411 : decode cL_registers 411 = .ok (.iload 12, 2) := by decide +kernel
theorem dL_registers_413 : decode cL_registers 413 = .ok (.aload 9, 2) := by decide +kernel
theorem dL_registers_415 : decode cL_registers 415 = .ok (.iconst 3, 1) := by decide +kernel
theorem dL_registers_416 : decode cL_registers 416 = .ok (.iaload, 1) := by decide +kernel
theorem dL_registers_417 : decode cL_registers 417 = .ok (.if_icmp .ge 27, 3) := by decide +kernel
theorem dL_registers_420 : decode cL_registers 420 = .ok (.iload 11, 2) := by decide +kernel
theorem dL_registers_422 : decode cL_registers 422 = .ok (.aload 5, 2) := by decide +kernel
theorem dL_registers_424 : decode cL_registers 424 = .ok (.iload 12, 2) := by decide +kernel
theorem dL_registers_426 : decode cL_registers 426 = .ok (.iaload, 1) := by decide +kernel
theorem dL_registers_427 : decode cL_registers 427 = .ok (.ifCond .le 7, 3) := by decide +kernel
theorem dL_registers_430 : decode cL_registers 430 = .ok (.iconst 1, 1) := by decide +kernel
theorem dL_registers_431 : decode cL_registers 431 = .ok (.goto 4, 3) := by decide +kernel
theorem dL_registers_434 : decode cL_registers 434 = .ok (.iconst 0, 1) := by decide +kernel
theorem dL_registers_435 : decode cL_registers 435 = .ok (.iadd, 1) := by decide +kernel
theorem dL_registers_436 : decode cL_registers 436 = .ok (.istore 11, 2) := by decide +kernel
theorem dL_registers_438 : decode cL_registers 438 = .ok (.iinc 12 1, 3) := by decide +kernel
theorem dL_registers_441 : decode cL_registers 441 = .ok (.goto (-30), 3) := by decide +kernel
theorem dL_registers_444 : decode cL_registers 444 = .ok (.aload_n 0, 1) := by decide +kernel
theorem dL_registers_445 : decode cL_registers 445 = .ok (.iload 10, 2) := by decide +kernel
theorem dL_registers_447 : decode cL_registers 447 = .ok (.invokestatic 106, 3) := by decide +kernel
theorem dL_registers_450 : decode cL_registers 450 = .ok (.iload 11, 2) := by decide +kernel
theorem dL_registers_452 : decode cL_registers 452 = .ok (.if_icmp .ne 7, 3) := by decide +kernel
theorem dL_registers_455 : decode cL_registers 455 = .ok (.iconst 1, 1) := by decide +kernel
theorem dL_registers_456 : decode cL_registers 456 = .ok (.goto 4, 3) := by decide +kernel
theorem dL_registers_459 : decode cL_registers 459 = .ok (.iconst 0, 1) := by decide +kernel
theorem dL_registers_460 : decode cL_registers 460 = .ok (.ireturn, 1) := by decide +kernel
theorem dL_registers_461 : decode cL_registers 461 = .ok (.iload_n 3, 1) := by decide +kernel
theorem dL_registers_462 : decode cL_registers 462 = .ok (.bipush 7, 2) := by decide +kernel
theorem dL_registers_464 : decode cL_registers 464 = .ok (.ishr, 1) := by decide +kernel
theorem dL_registers_465 : decode cL_registers 465 = .ok (.bipush 6, 2) := by decide +kernel
theorem dL_registers_467 : decode cL_registers 467 = .ok (.invokestatic 85, 3) := by decide +kernel
theorem dL_registers_470 : decode cL_registers 470 = .ok (.istore 11, 2) := by decide +kernel
theorem dL_registers_472 : decode cL_registers 472 = .ok (.iload 10, 2) := by decide +kernel
theorem dL_registers_474 : decode cL_registers 474 = .ok (.aload 9, 2) := by decide +kernel
theorem dL_registers_476 : decode cL_registers 476 = .ok (.iconst 3, 1) := by decide +kernel
theorem dL_registers_477 : decode cL_registers 477 = .ok (.iaload, 1) := by decide +kernel
theorem dL_registers_478 : decode cL_registers 478 = .ok (.if_icmp .ne 49, 3) := by decide +kernel
theorem dL_registers_481 : decode cL_registers 481 = .ok (.aload_n 0, 1) := by decide +kernel
theorem dL_registers_482 : decode cL_registers 482 = .ok (.iload 10, 2) := by decide +kernel
theorem dL_registers_484 : decode cL_registers 484 = .ok (.bipush 32, 2) := by decide +kernel
theorem dL_registers_486 : decode cL_registers 486 = .ok (.iconst 0, 1) := by decide +kernel
theorem dL_registers_487 : decode cL_registers 487 = .ok (.iconst 1, 1) := by decide +kernel
theorem dL_registers_488 : decode cL_registers 488 = .ok (.invokestatic 108, 3) := by decide +kernel
theorem dL_registers_491 : decode cL_registers 491 = .ok (.bipush (-71), 2) := by decide +kernel
theorem dL_registers_493 : decode cL_registers 493 = .ok (.if_icmp .ne 32, 3) := by decide +kernel
theorem dL_registers_496 : decode cL_registers 496 = .ok (.aload_n 0, 1) := by decide +kernel
theorem dL_registers_497 : decode cL_registers 497 = .ok (.iload 10, 2) := by decide +kernel
theorem dL_registers_499 : decode cL_registers 499 = .ok (.iconst (-1), 1) := by decide +kernel
theorem dL_registers_500 : decode cL_registers 500 = .ok (.iconst 0, 1) := by decide +kernel
theorem dL_registers_501 : decode cL_registers 501 = .ok (.invokestatic 111, 3) := by decide +kernel
theorem dL_registers_504 : decode cL_registers 504 = .ok (.bipush (-71), 2) := by decide +kernel
theorem dL_registers_506 : decode cL_registers 506 = .ok (.if_icmp .ne 19, 3) := by decide +kernel
theorem dL_registers_509 : decode cL_registers 509 = .ok (.aload_n 0, 1) := by decide +kernel
theorem dL_registers_510 : decode cL_registers 510 = .ok (.iconst (-1), 1) := by decide +kernel
theorem dL_registers_511 : decode cL_registers 511 = .ok (.bipush 32, 2) := by decide +kernel
theorem dL_registers_513 : decode cL_registers 513 = .ok (.invokestatic 114, 3) := by decide +kernel
theorem dL_registers_516 : decode cL_registers 516 = .ok (.bipush (-71), 2) := by decide +kernel
theorem dL_registers_518 : decode cL_registers 518 = .ok (.if_icmp .ne 7, 3) := by decide +kernel
theorem dL_registers_521 : decode cL_registers 521 = .ok (.iconst 1, 1) := by decide +kernel
theorem dL_registers_522 : decode cL_registers 522 = .ok (.goto 4, 3) := by decide +kernel
theorem dL_registers_525 : decode cL_registers 525 = .ok (.iconst 0, 1) := by decide +kernel
theorem dL_registers_526 : decode cL_registers 526 = .ok (.ireturn, 1) := by decide +kernel
theorem dL_registers_527 : decode cL_registers 527 = .ok (.iconst (-1), 1) := by decide +kernel
theorem dL_registers_528 : decode cL_registers 528 = .ok (.istore 12, 2) := by decide +kernel
theorem dL_registers_530 : decode cL_registers 530 = .ok (.iconst 0, 1) := by decide +kernel
theorem dL_registers_531 : decode cL_registers 531 = .ok (.istore 13, 2) := by decide +kernel
theorem dL_registers_533 : decode cL_registers 533 = .ok (.iconst 0, 1) := by decide +kernel
theorem dL_registers_534 : decode cL_registers 534 = .ok (.istore 14, 2) := by decide +kernel
theorem dL_registers_536 : decode cL_registers 536 = .ok (.iload 14, 2) := by decide +kernel
theorem dL_registers_538 : decode cL_registers 538 = .ok (.iconst 4, 1) := by decide +kernel
theorem dL_registers_539 : decode cL_registers 539 = .ok (.if_icmp .ge 77, 3) := by decide +kernel
theorem dL_registers_542 : decode cL_registers 542 = .ok (.aload 6, 2) := by decide +kernel
theorem dL_registers_544 : decode cL_registers 544 = .ok (.iconst 4, 1) := by decide +kernel
theorem dL_registers_545 : decode cL_registers 545 = .ok (.iload 10, 2) := by decide +kernel
theorem dL_registers_547 : decode cL_registers 547 = .ok (.imul, 1) := by decide +kernel
theorem dL_registers_548 : decode cL_registers 548 = .ok (.iload 14, 2) := by decide +kernel
theorem dL_registers_550 : decode cL_registers 550 = .ok (.iadd, 1) := by decide +kernel
theorem dL_registers_551 : decode cL_registers 551 = .ok (.iaload, 1) := by decide +kernel
theorem dL_registers_552 : decode cL_registers 552 = .ok (.ifCond .le 31, 3) := by decide +kernel
theorem dL_registers_555 : decode cL_registers 555 = .ok (.aload 6, 2) := by decide +kernel
theorem dL_registers_557 : decode cL_registers 557 = .ok (.iconst 4, 1) := by decide +kernel
theorem dL_registers_558 : decode cL_registers 558 = .ok (.iload 10, 2) := by decide +kernel
theorem dL_registers_560 : decode cL_registers 560 = .ok (.imul, 1) := by decide +kernel
theorem dL_registers_561 : decode cL_registers 561 = .ok (.iload 14, 2) := by decide +kernel
theorem dL_registers_563 : decode cL_registers 563 = .ok (.iadd, 1) := by decide +kernel
theorem dL_registers_564 : decode cL_registers 564 = .ok (.iaload, 1) := by decide +kernel
theorem dL_registers_565 : decode cL_registers 565 = .ok (.bipush 32, 2) := by decide +kernel
theorem dL_registers_567 : decode cL_registers 567 = .ok (.irem, 1) := by decide +kernel
theorem dL_registers_568 : decode cL_registers 568 = .ok (.iload 11, 2) := by decide +kernel
theorem dL_registers_570 : decode cL_registers 570 = .ok (.if_icmp .ne 13, 3) := by decide +kernel
theorem dL_registers_573 : decode cL_registers 573 = .ok (.iconst 4, 1) := by decide +kernel
theorem dL_registers_574 : decode cL_registers 574 = .ok (.iload 10, 2) := by decide +kernel
theorem dL_registers_576 : decode cL_registers 576 = .ok (.imul, 1) := by decide +kernel
theorem dL_registers_577 : decode cL_registers 577 = .ok (.iload 14, 2) := by decide +kernel
theorem dL_registers_579 : decode cL_registers 579 = .ok (.iadd, 1) := by decide +kernel
theorem dL_registers_580 : decode cL_registers 580 = .ok (.goto 5, 3) := by decide +kernel
theorem dL_registers_583 : decode cL_registers 583 = .ok (.iload 12, 2) := by decide +kernel
theorem dL_registers_585 : decode cL_registers 585 = .ok (.istore 12, 2) := by decide +kernel
theorem dL_registers_587 : decode cL_registers 587 = .ok (.iload 13, 2) := by decide +kernel
theorem dL_registers_589 : decode cL_registers 589 = .ok (.aload 6, 2) := by decide +kernel
theorem dL_registers_591 : decode cL_registers 591 = .ok (.iconst 4, 1) := by decide +kernel
theorem dL_registers_592 : decode cL_registers 592 = .ok (.iload 10, 2) := by decide +kernel
theorem dL_registers_594 : decode cL_registers 594 = .ok (.imul, 1) := by decide +kernel
theorem dL_registers_595 : decode cL_registers 595 = .ok (.iload 14, 2) := by decide +kernel
theorem dL_registers_597 : decode cL_registers 597 = .ok (.iadd, 1) := by decide +kernel
theorem dL_registers_598 : decode cL_registers 598 = .ok (.iaload, 1) := by decide +kernel
theorem dL_registers_599 : decode cL_registers 599 = .ok (.ifCond .le 7, 3) := by decide +kernel
theorem dL_registers_602 : decode cL_registers 602 = .ok (.iconst 1, 1) := by decide +kernel
theorem dL_registers_603 : decode cL_registers 603 = .ok (.goto 4, 3) := by decide +kernel
theorem dL_registers_606 : decode cL_registers 606 = .ok (.iconst 0, 1) := by decide +kernel
theorem dL_registers_607 : decode cL_registers 607 = .ok (.iadd, 1) := by decide +kernel
theorem dL_registers_608 : decode cL_registers 608 = .ok (.istore 13, 2) := by decide +kernel
theorem dL_registers_610 : decode cL_registers 610 = .ok (.iinc 14 1, 3) := by decide +kernel
theorem dL_registers_613 : decode cL_registers 613 = .ok (.goto (-77), 3) := by decide +kernel
theorem dL_registers_616 : decode cL_registers 616 = .ok (.iload_n 1, 1) := by decide +kernel
theorem dL_registers_617 : decode cL_registers 617 = .ok (.bipush 10, 2) := by decide +kernel
theorem dL_registers_619 : decode cL_registers 619 = .ok (.if_icmp .ge 210, 3) := by decide +kernel
theorem dL_registers_622 : decode cL_registers 622 = .ok (.iload_n 3, 1) := by decide +kernel
theorem dL_registers_623 : decode cL_registers 623 = .ok (.bipush 12, 2) := by decide +kernel
theorem dL_registers_625 : decode cL_registers 625 = .ok (.ishr, 1) := by decide +kernel
theorem dL_registers_626 : decode cL_registers 626 = .ok (.iconst 3, 1) := by decide +kernel
theorem dL_registers_627 : decode cL_registers 627 = .ok (.invokestatic 85, 3) := by decide +kernel
theorem dL_registers_630 : decode cL_registers 630 = .ok (.istore 14, 2) := by decide +kernel
theorem dL_registers_632 : decode cL_registers 632 = .ok (.iconst 1, 1) := by decide +kernel
theorem dL_registers_633 : decode cL_registers 633 = .ok (.iload_n 3, 1) := by decide +kernel
theorem dL_registers_634 : decode cL_registers 634 = .ok (.bipush 15, 2) := by decide +kernel
theorem dL_registers_636 : decode cL_registers 636 = .ok (.ishr, 1) := by decide +kernel
theorem dL_registers_637 : decode cL_registers 637 = .ok (.bipush 10, 2) := by decide +kernel
theorem dL_registers_639 : decode cL_registers 639 = .ok (.invokestatic 85, 3) := by decide +kernel
theorem dL_registers_642 : decode cL_registers 642 = .ok (.iadd, 1) := by decide +kernel
theorem dL_registers_643 : decode cL_registers 643 = .ok (.istore 15, 2) := by decide +kernel
theorem dL_registers_645 : decode cL_registers 645 = .ok (.aload_n 0, 1) := by decide +kernel
theorem dL_registers_646 : decode cL_registers 646 = .ok (.iload 10, 2) := by decide +kernel
theorem dL_registers_648 : decode cL_registers 648 = .ok (.bipush 32, 2) := by decide +kernel
theorem dL_registers_650 : decode cL_registers 650 = .ok (.iload 14, 2) := by decide +kernel
theorem dL_registers_652 : decode cL_registers 652 = .ok (.iload 15, 2) := by decide +kernel
theorem dL_registers_654 : decode cL_registers 654 = .ok (.invokestatic 108, 3) := by decide +kernel
theorem dL_registers_657 : decode cL_registers 657 = .ok (.bipush (-72), 2) := by decide +kernel
theorem dL_registers_659 : decode cL_registers 659 = .ok (.if_icmp .ne 52, 3) := by decide +kernel
theorem dL_registers_662 : decode cL_registers 662 = .ok (.aload_n 0, 1) := by decide +kernel
theorem dL_registers_663 : decode cL_registers 663 = .ok (.iload 10, 2) := by decide +kernel
theorem dL_registers_665 : decode cL_registers 665 = .ok (.iload 11, 2) := by decide +kernel
theorem dL_registers_667 : decode cL_registers 667 = .ok (.iconst 4, 1) := by decide +kernel
theorem dL_registers_668 : decode cL_registers 668 = .ok (.iload 15, 2) := by decide +kernel
theorem dL_registers_670 : decode cL_registers 670 = .ok (.invokestatic 108, 3) := by decide +kernel
theorem dL_registers_673 : decode cL_registers 673 = .ok (.bipush (-72), 2) := by decide +kernel
theorem dL_registers_675 : decode cL_registers 675 = .ok (.if_icmp .ne 36, 3) := by decide +kernel
theorem dL_registers_678 : decode cL_registers 678 = .ok (.aload_n 0, 1) := by decide +kernel
theorem dL_registers_679 : decode cL_registers 679 = .ok (.iload 10, 2) := by decide +kernel
theorem dL_registers_681 : decode cL_registers 681 = .ok (.iload 11, 2) := by decide +kernel
theorem dL_registers_683 : decode cL_registers 683 = .ok (.iload 14, 2) := by decide +kernel
theorem dL_registers_685 : decode cL_registers 685 = .ok (.iconst 0, 1) := by decide +kernel
theorem dL_registers_686 : decode cL_registers 686 = .ok (.invokestatic 108, 3) := by decide +kernel
theorem dL_registers_689 : decode cL_registers 689 = .ok (.bipush (-72), 2) := by decide +kernel
theorem dL_registers_691 : decode cL_registers 691 = .ok (.if_icmp .ne 20, 3) := by decide +kernel
theorem dL_registers_694 : decode cL_registers 694 = .ok (.aload_n 0, 1) := by decide +kernel
theorem dL_registers_695 : decode cL_registers 695 = .ok (.iload 10, 2) := by decide +kernel
theorem dL_registers_697 : decode cL_registers 697 = .ok (.iload 11, 2) := by decide +kernel
theorem dL_registers_699 : decode cL_registers 699 = .ok (.iload 14, 2) := by decide +kernel
theorem dL_registers_701 : decode cL_registers 701 = .ok (.bipush 11, 2) := by decide +kernel
theorem dL_registers_703 : decode cL_registers 703 = .ok (.invokestatic 108, 3) := by decide +kernel
theorem dL_registers_706 : decode cL_registers 706 = .ok (.bipush (-72), 2) := by decide +kernel
theorem dL_registers_708 : decode cL_registers 708 = .ok (.if_icmp .eq 5, 3) := by decide +kernel
theorem dL_registers_711 : decode cL_registers 711 = .ok (.iconst 0, 1) := by decide +kernel
theorem dL_registers_712 : decode cL_registers 712 = .ok (.ireturn, 1) := by decide +kernel
theorem dL_registers_713 : decode cL_registers 713 = .ok (.aload 5, 2) := by decide +kernel
theorem dL_registers_715 : decode cL_registers 715 = .ok (.iload 10, 2) := by decide +kernel
theorem dL_registers_717 : decode cL_registers 717 = .ok (.iaload, 1) := by decide +kernel
theorem dL_registers_718 : decode cL_registers 718 = .ok (.ifCond .eq 14, 3) := by decide +kernel
theorem dL_registers_721 : decode cL_registers 721 = .ok (.iload 12, 2) := by decide +kernel
theorem dL_registers_723 : decode cL_registers 723 = .ok (.ifCond .ge 9, 3) := by decide +kernel
theorem dL_registers_726 : decode cL_registers 726 = .ok (.iload 13, 2) := by decide +kernel
theorem dL_registers_728 : decode cL_registers 728 = .ok (.iconst 4, 1) := by decide +kernel
theorem dL_registers_729 : decode cL_registers 729 = .ok (.if_icmp .ne 26, 3) := by decide +kernel
theorem dL_registers_732 : decode cL_registers 732 = .ok (.aload_n 0, 1) := by decide +kernel
theorem dL_registers_733 : decode cL_registers 733 = .ok (.iload 10, 2) := by decide +kernel
theorem dL_registers_735 : decode cL_registers 735 = .ok (.iload 11, 2) := by decide +kernel
theorem dL_registers_737 : decode cL_registers 737 = .ok (.iload 14, 2) := by decide +kernel
theorem dL_registers_739 : decode cL_registers 739 = .ok (.iload 15, 2) := by decide +kernel
theorem dL_registers_741 : decode cL_registers 741 = .ok (.invokestatic 108, 3) := by decide +kernel
theorem dL_registers_744 : decode cL_registers 744 = .ok (.bipush (-73), 2) := by decide +kernel
theorem dL_registers_746 : decode cL_registers 746 = .ok (.if_icmp .ne 7, 3) := by decide +kernel
theorem dL_registers_749 : decode cL_registers 749 = .ok (.iconst 1, 1) := by decide +kernel
theorem dL_registers_750 : decode cL_registers 750 = .ok (.goto 4, 3) := by decide +kernel
theorem dL_registers_753 : decode cL_registers 753 = .ok (.iconst 0, 1) := by decide +kernel
theorem dL_registers_754 : decode cL_registers 754 = .ok (.ireturn, 1) := by decide +kernel
theorem dL_registers_755 : decode cL_registers 755 = .ok (.aload 6, 2) := by decide +kernel
theorem dL_registers_757 : decode cL_registers 757 = .ok (.iconst 4, 1) := by decide +kernel
theorem dL_registers_758 : decode cL_registers 758 = .ok (.iload 10, 2) := by decide +kernel
theorem dL_registers_760 : decode cL_registers 760 = .ok (.imul, 1) := by decide +kernel
theorem dL_registers_761 : decode cL_registers 761 = .ok (.iload 13, 2) := by decide +kernel
theorem dL_registers_763 : decode cL_registers 763 = .ok (.iadd, 1) := by decide +kernel
theorem dL_registers_764 : decode cL_registers 764 = .ok (.iload 11, 2) := by decide +kernel
theorem dL_registers_766 : decode cL_registers 766 = .ok (.bipush 32, 2) := by decide +kernel
theorem dL_registers_768 : decode cL_registers 768 = .ok (.iload 14, 2) := by decide +kernel
theorem dL_registers_770 : decode cL_registers 770 = .ok (.imul, 1) := by decide +kernel
theorem dL_registers_771 : decode cL_registers 771 = .ok (.iadd, 1) := by decide +kernel
theorem dL_registers_772 : decode cL_registers 772 = .ok (.sipush 128, 3) := by decide +kernel
theorem dL_registers_775 : decode cL_registers 775 = .ok (.iload 15, 2) := by decide +kernel
theorem dL_registers_777 : decode cL_registers 777 = .ok (.imul, 1) := by decide +kernel
theorem dL_registers_778 : decode cL_registers 778 = .ok (.iadd, 1) := by decide +kernel
theorem dL_registers_779 : decode cL_registers 779 = .ok (.iastore, 1) := by decide +kernel
theorem dL_registers_780 : decode cL_registers 780 = .ok (.aload 5, 2) := by decide +kernel
theorem dL_registers_782 : decode cL_registers 782 = .ok (.iload 10, 2) := by decide +kernel
theorem dL_registers_784 : decode cL_registers 784 = .ok (.dup2, 1) := by decide +kernel
theorem dL_registers_785 : decode cL_registers 785 = .ok (.iaload, 1) := by decide +kernel
theorem dL_registers_786 : decode cL_registers 786 = .ok (.iconst 1, 1) := by decide +kernel
theorem dL_registers_787 : decode cL_registers 787 = .ok (.iadd, 1) := by decide +kernel
theorem dL_registers_788 : decode cL_registers 788 = .ok (.iastore, 1) := by decide +kernel
theorem dL_registers_789 : decode cL_registers 789 = .ok (.aload 7, 2) := by decide +kernel
theorem dL_registers_791 : decode cL_registers 791 = .ok (.aload 8, 2) := by decide +kernel
theorem dL_registers_793 : decode cL_registers 793 = .ok (.aload 9, 2) := by decide +kernel
theorem dL_registers_795 : decode cL_registers 795 = .ok (.aload 4, 2) := by decide +kernel
theorem dL_registers_797 : decode cL_registers 797 = .ok (.iload 10, 2) := by decide +kernel
theorem dL_registers_799 : decode cL_registers 799 = .ok (.iaload, 1) := by decide +kernel
theorem dL_registers_800 : decode cL_registers 800 = .ok (.invokestatic 102, 3) := by decide +kernel
theorem dL_registers_803 : decode cL_registers 803 = .ok (.aload_n 0, 1) := by decide +kernel
theorem dL_registers_804 : decode cL_registers 804 = .ok (.iload 10, 2) := by decide +kernel
theorem dL_registers_806 : decode cL_registers 806 = .ok (.iload 11, 2) := by decide +kernel
theorem dL_registers_808 : decode cL_registers 808 = .ok (.iload 14, 2) := by decide +kernel
theorem dL_registers_810 : decode cL_registers 810 = .ok (.iload 15, 2) := by decide +kernel
theorem dL_registers_812 : decode cL_registers 812 = .ok (.invokestatic 108, 3) := by decide +kernel
theorem dL_registers_815 : decode cL_registers 815 = .ok (.aload 5, 2) := by decide +kernel
theorem dL_registers_817 : decode cL_registers 817 = .ok (.iload 10, 2) := by decide +kernel
theorem dL_registers_819 : decode cL_registers 819 = .ok (.iaload, 1) := by decide +kernel
theorem dL_registers_820 : decode cL_registers 820 = .ok (.if_icmp .ne 7, 3) := by decide +kernel
theorem dL_registers_823 : decode cL_registers 823 = .ok (.iconst 1, 1) := by decide +kernel
theorem dL_registers_824 : decode cL_registers 824 = .ok (.goto 4, 3) := by decide +kernel
theorem dL_registers_827 : decode cL_registers 827 = .ok (.iconst 0, 1) := by decide +kernel
theorem dL_registers_828 : decode cL_registers 828 = .ok (.ireturn, 1) := by decide +kernel
theorem dL_registers_829 : decode cL_registers 829 = .ok (.iload_n 1, 1) := by decide +kernel
theorem dL_registers_830 : decode cL_registers 830 = .ok (.bipush 10, 2) := by decide +kernel
theorem dL_registers_832 : decode cL_registers 832 = .ok (.if_icmp .ne 201, 3) := by decide +kernel
theorem dL_registers_835 : decode cL_registers 835 = .ok (.iload_n 3, 1) := by decide +kernel
theorem dL_registers_836 : decode cL_registers 836 = .ok (.bipush 12, 2) := by decide +kernel
theorem dL_registers_838 : decode cL_registers 838 = .ok (.ishr, 1) := by decide +kernel
theorem dL_registers_839 : decode cL_registers 839 = .ok (.bipush 6, 2) := by decide +kernel
theorem dL_registers_841 : decode cL_registers 841 = .ok (.invokestatic 85, 3) := by decide +kernel
theorem dL_registers_844 : decode cL_registers 844 = .ok (.istore 14, 2) := by decide +kernel
theorem dL_registers_846 : decode cL_registers 846 = .ok (.iconst 0, 1) := by decide +kernel
theorem dL_registers_847 : decode cL_registers 847 = .ok (.istore 15, 2) := by decide +kernel
theorem dL_registers_849 : decode cL_registers 849 = .ok (.iconst 0, 1) := by decide +kernel
theorem dL_registers_850 : decode cL_registers 850 = .ok (.istore 16, 2) := by decide +kernel
theorem dL_registers_852 : decode cL_registers 852 = .ok (.iload 16, 2) := by decide +kernel
theorem dL_registers_854 : decode cL_registers 854 = .ok (.iconst 4, 1) := by decide +kernel
theorem dL_registers_855 : decode cL_registers 855 = .ok (.if_icmp .ge 50, 3) := by decide +kernel
theorem dL_registers_858 : decode cL_registers 858 = .ok (.iload 15, 2) := by decide +kernel
theorem dL_registers_860 : decode cL_registers 860 = .ok (.aload 6, 2) := by decide +kernel
theorem dL_registers_862 : decode cL_registers 862 = .ok (.iconst 4, 1) := by decide +kernel
theorem dL_registers_863 : decode cL_registers 863 = .ok (.iload 10, 2) := by decide +kernel
theorem dL_registers_865 : decode cL_registers 865 = .ok (.imul, 1) := by decide +kernel
theorem dL_registers_866 : decode cL_registers 866 = .ok (.iload 16, 2) := by decide +kernel
theorem dL_registers_868 : decode cL_registers 868 = .ok (.iadd, 1) := by decide +kernel
theorem dL_registers_869 : decode cL_registers 869 = .ok (.iaload, 1) := by decide +kernel
theorem dL_registers_870 : decode cL_registers 870 = .ok (.ifCond .le 25, 3) := by decide +kernel
theorem dL_registers_873 : decode cL_registers 873 = .ok (.aload 6, 2) := by decide +kernel
theorem dL_registers_875 : decode cL_registers 875 = .ok (.iconst 4, 1) := by decide +kernel
theorem dL_registers_876 : decode cL_registers 876 = .ok (.iload 10, 2) := by decide +kernel
theorem dL_registers_878 : decode cL_registers 878 = .ok (.imul, 1) := by decide +kernel
theorem dL_registers_879 : decode cL_registers 879 = .ok (.iload 16, 2) := by decide +kernel
theorem dL_registers_881 : decode cL_registers 881 = .ok (.iadd, 1) := by decide +kernel
theorem dL_registers_882 : decode cL_registers 882 = .ok (.iaload, 1) := by decide +kernel
theorem dL_registers_883 : decode cL_registers 883 = .ok (.bipush 32, 2) := by decide +kernel
theorem dL_registers_885 : decode cL_registers 885 = .ok (.irem, 1) := by decide +kernel
theorem dL_registers_886 : decode cL_registers 886 = .ok (.iload 14, 2) := by decide +kernel
theorem dL_registers_888 : decode cL_registers 888 = .ok (.if_icmp .ne 7, 3) := by decide +kernel
theorem dL_registers_891 : decode cL_registers 891 = .ok (.iconst 1, 1) := by decide +kernel
theorem dL_registers_892 : decode cL_registers 892 = .ok (.goto 4, 3) := by decide +kernel
theorem dL_registers_895 : decode cL_registers 895 = .ok (.iconst 0, 1) := by decide +kernel
theorem dL_registers_896 : decode cL_registers 896 = .ok (.ior, 1) := by decide +kernel
theorem dL_registers_897 : decode cL_registers 897 = .ok (.istore 15, 2) := by decide +kernel
theorem dL_registers_899 : decode cL_registers 899 = .ok (.iinc 16 1, 3) := by decide +kernel
theorem dL_registers_902 : decode cL_registers 902 = .ok (.goto (-50), 3) := by decide +kernel
theorem dL_registers_905 : decode cL_registers 905 = .ok (.aload_n 0, 1) := by decide +kernel
theorem dL_registers_906 : decode cL_registers 906 = .ok (.iload 10, 2) := by decide +kernel
theorem dL_registers_908 : decode cL_registers 908 = .ok (.bipush 32, 2) := by decide +kernel
theorem dL_registers_910 : decode cL_registers 910 = .ok (.iconst 0, 1) := by decide +kernel
theorem dL_registers_911 : decode cL_registers 911 = .ok (.invokestatic 111, 3) := by decide +kernel
theorem dL_registers_914 : decode cL_registers 914 = .ok (.bipush (-72), 2) := by decide +kernel
theorem dL_registers_916 : decode cL_registers 916 = .ok (.if_icmp .ne 16, 3) := by decide +kernel
theorem dL_registers_919 : decode cL_registers 919 = .ok (.aload_n 0, 1) := by decide +kernel
theorem dL_registers_920 : decode cL_registers 920 = .ok (.iload 10, 2) := by decide +kernel
theorem dL_registers_922 : decode cL_registers 922 = .ok (.iconst 0, 1) := by decide +kernel
theorem dL_registers_923 : decode cL_registers 923 = .ok (.iconst (-1), 1) := by decide +kernel
theorem dL_registers_924 : decode cL_registers 924 = .ok (.invokestatic 111, 3) := by decide +kernel
theorem dL_registers_927 : decode cL_registers 927 = .ok (.bipush (-72), 2) := by decide +kernel
theorem dL_registers_929 : decode cL_registers 929 = .ok (.if_icmp .eq 5, 3) := by decide +kernel
theorem dL_registers_932 : decode cL_registers 932 = .ok (.iconst 0, 1) := by decide +kernel
theorem dL_registers_933 : decode cL_registers 933 = .ok (.ireturn, 1) := by decide +kernel
theorem dL_registers_934 : decode cL_registers 934 = .ok (.aload 5, 2) := by decide +kernel
theorem dL_registers_936 : decode cL_registers 936 = .ok (.iload 10, 2) := by decide +kernel
theorem dL_registers_938 : decode cL_registers 938 = .ok (.iaload, 1) := by decide +kernel
theorem dL_registers_939 : decode cL_registers 939 = .ok (.ifCond .eq 13, 3) := by decide +kernel
theorem dL_registers_942 : decode cL_registers 942 = .ok (.iload 12, 2) := by decide +kernel
theorem dL_registers_944 : decode cL_registers 944 = .ok (.ifCond .lt 8, 3) := by decide +kernel
theorem dL_registers_947 : decode cL_registers 947 = .ok (.iload 15, 2) := by decide +kernel
theorem dL_registers_949 : decode cL_registers 949 = .ok (.ifCond .eq 24, 3) := by decide +kernel
theorem dL_registers_952 : decode cL_registers 952 = .ok (.aload_n 0, 1) := by decide +kernel
theorem dL_registers_953 : decode cL_registers 953 = .ok (.iload 10, 2) := by decide +kernel
theorem dL_registers_955 : decode cL_registers 955 = .ok (.iload 11, 2) := by decide +kernel
