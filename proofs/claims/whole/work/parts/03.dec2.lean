theorem dX8_isPrefix_18 : decode cX8_isPrefix 18 = .ok (.iload_n 1, 1) := by decide +kernel
theorem dX8_isPrefix_19 : decode cX8_isPrefix 19 = .ok (.invokestatic 111, 3) := by decide +kernel
theorem dX8_isPrefix_22 : decode cX8_isPrefix 22 = .ok (.bipush 16, 2) := by decide +kernel
theorem dX8_isPrefix_24 : decode cX8_isPrefix 24 = .ok (.iload_n 1, 1) := by decide +kernel
theorem dX8_isPrefix_25 : decode cX8_isPrefix 25 = .ok (.isub, 1) := by decide +kernel
theorem dX8_isPrefix_26 : decode cX8_isPrefix 26 = .ok (.ishl, 1) := by decide +kernel
theorem dX8_isPrefix_27 : decode cX8_isPrefix 27 = .ok (.iload_n 0, 1) := by decide +kernel
theorem dX8_isPrefix_28 : decode cX8_isPrefix 28 = .ok (.if_icmp .ne 7, 3) := by decide +kernel
theorem dX8_isPrefix_31 : decode cX8_isPrefix 31 = .ok (.iconst 1, 1) := by decide +kernel
theorem dX8_isPrefix_32 : decode cX8_isPrefix 32 = .ok (.goto 4, 3) := by decide +kernel
theorem dX8_isPrefix_35 : decode cX8_isPrefix 35 = .ok (.iconst 0, 1) := by decide +kernel
theorem dX8_isPrefix_36 : decode cX8_isPrefix 36 = .ok (.ireturn, 1) := by decide +kernel
theorem dX8_meet_0 : decode cX8_meet 0 = .ok (.iload_n 1, 1) := by decide +kernel
theorem dX8_meet_1 : decode cX8_meet 1 = .ok (.iload_n 3, 1) := by decide +kernel
theorem dX8_meet_2 : decode cX8_meet 2 = .ok (.if_icmp .ge 7, 3) := by decide +kernel
theorem dX8_meet_5 : decode cX8_meet 5 = .ok (.iload_n 1, 1) := by decide +kernel
theorem dX8_meet_6 : decode cX8_meet 6 = .ok (.goto 4, 3) := by decide +kernel
theorem dX8_meet_9 : decode cX8_meet 9 = .ok (.iload_n 3, 1) := by decide +kernel
theorem dX8_meet_10 : decode cX8_meet 10 = .ok (.istore 4, 2) := by decide +kernel
theorem dX8_meet_12 : decode cX8_meet 12 = .ok (.iload_n 0, 1) := by decide +kernel
theorem dX8_meet_13 : decode cX8_meet 13 = .ok (.iload 4, 2) := by decide +kernel
theorem dX8_meet_15 : decode cX8_meet 15 = .ok (.invokestatic 111, 3) := by decide +kernel
theorem dX8_meet_18 : decode cX8_meet 18 = .ok (.iload_n 2, 1) := by decide +kernel
theorem dX8_meet_19 : decode cX8_meet 19 = .ok (.iload 4, 2) := by decide +kernel
theorem dX8_meet_21 : decode cX8_meet 21 = .ok (.invokestatic 111, 3) := by decide +kernel
theorem dX8_meet_24 : decode cX8_meet 24 = .ok (.if_icmp .ne 7, 3) := by decide +kernel
theorem dX8_meet_27 : decode cX8_meet 27 = .ok (.iconst 1, 1) := by decide +kernel
theorem dX8_meet_28 : decode cX8_meet 28 = .ok (.goto 4, 3) := by decide +kernel
theorem dX8_meet_31 : decode cX8_meet 31 = .ok (.iconst 0, 1) := by decide +kernel
theorem dX8_meet_32 : decode cX8_meet 32 = .ok (.ireturn, 1) := by decide +kernel
theorem dX8_covers_0 : decode cX8_covers 0 = .ok (.iload_n 0, 1) := by decide +kernel
theorem dX8_covers_1 : decode cX8_covers 1 = .ok (.iload_n 1, 1) := by decide +kernel
theorem dX8_covers_2 : decode cX8_covers 2 = .ok (.invokestatic 111, 3) := by decide +kernel
theorem dX8_covers_5 : decode cX8_covers 5 = .ok (.iload_n 2, 1) := by decide +kernel
theorem dX8_covers_6 : decode cX8_covers 6 = .ok (.iload_n 1, 1) := by decide +kernel
theorem dX8_covers_7 : decode cX8_covers 7 = .ok (.invokestatic 111, 3) := by decide +kernel
theorem dX8_covers_10 : decode cX8_covers 10 = .ok (.if_icmp .ne 7, 3) := by decide +kernel
theorem dX8_covers_13 : decode cX8_covers 13 = .ok (.iconst 1, 1) := by decide +kernel
theorem dX8_covers_14 : decode cX8_covers 14 = .ok (.goto 4, 3) := by decide +kernel
theorem dX8_covers_17 : decode cX8_covers 17 = .ok (.iconst 0, 1) := by decide +kernel
theorem dX8_covers_18 : decode cX8_covers 18 = .ok (.ireturn, 1) := by decide +kernel
theorem dX8_isMapping_0 : decode cX8_isMapping 0 = .ok (.iload_n 1, 1) := by decide +kernel
theorem dX8_isMapping_1 : decode cX8_isMapping 1 = .ok (.iconst 0, 1) := by decide +kernel
theorem dX8_isMapping_2 : decode cX8_isMapping 2 = .ok (.aload_n 0, 1) := by decide +kernel
theorem dX8_isMapping_3 : decode cX8_isMapping 3 = .ok (.getfield 115, 3) := by decide +kernel
theorem dX8_isMapping_6 : decode cX8_isMapping 6 = .ok (.iconst 1, 1) := by decide +kernel
theorem dX8_isMapping_7 : decode cX8_isMapping 7 = .ok (.isub, 1) := by decide +kernel
theorem dX8_isMapping_8 : decode cX8_isMapping 8 = .ok (.invokestatic 103, 3) := by decide +kernel
theorem dX8_isMapping_11 : decode cX8_isMapping 11 = .ok (.ireturn, 1) := by decide +kernel
theorem dX8_solicits_0 : decode cX8_solicits 0 = .ok (.iconst 0, 1) := by decide +kernel
theorem dX8_solicits_1 : decode cX8_solicits 1 = .ok (.istore_n 2, 1) := by decide +kernel
theorem dX8_solicits_2 : decode cX8_solicits 2 = .ok (.iload_n 2, 1) := by decide +kernel
theorem dX8_solicits_3 : decode cX8_solicits 3 = .ok (.iconst 3, 1) := by decide +kernel
theorem dX8_solicits_4 : decode cX8_solicits 4 = .ok (.if_icmp .ge 96, 3) := by decide +kernel
theorem dX8_solicits_7 : decode cX8_solicits 7 = .ok (.bipush 8, 2) := by decide +kernel
theorem dX8_solicits_9 : decode cX8_solicits 9 = .ok (.iload_n 2, 1) := by decide +kernel
theorem dX8_solicits_10 : decode cX8_solicits 10 = .ok (.imul, 1) := by decide +kernel
theorem dX8_solicits_11 : decode cX8_solicits 11 = .ok (.istore_n 3, 1) := by decide +kernel
theorem dX8_solicits_12 : decode cX8_solicits 12 = .ok (.iload_n 3, 1) := by decide +kernel
theorem dX8_solicits_13 : decode cX8_solicits 13 = .ok (.bipush 8, 2) := by decide +kernel
theorem dX8_solicits_15 : decode cX8_solicits 15 = .ok (.iload_n 2, 1) := by decide +kernel
theorem dX8_solicits_16 : decode cX8_solicits 16 = .ok (.imul, 1) := by decide +kernel
theorem dX8_solicits_17 : decode cX8_solicits 17 = .ok (.bipush 8, 2) := by decide +kernel
theorem dX8_solicits_19 : decode cX8_solicits 19 = .ok (.iadd, 1) := by decide +kernel
theorem dX8_solicits_20 : decode cX8_solicits 20 = .ok (.if_icmp .ge 74, 3) := by decide +kernel
theorem dX8_solicits_23 : decode cX8_solicits 23 = .ok (.aload_n 0, 1) := by decide +kernel
theorem dX8_solicits_24 : decode cX8_solicits 24 = .ok (.getfield 57, 3) := by decide +kernel
theorem dX8_solicits_27 : decode cX8_solicits 27 = .ok (.iload_n 3, 1) := by decide +kernel
theorem dX8_solicits_28 : decode cX8_solicits 28 = .ok (.baload, 1) := by decide +kernel
theorem dX8_solicits_29 : decode cX8_solicits 29 = .ok (.ifCond .eq 59, 3) := by decide +kernel
theorem dX8_solicits_32 : decode cX8_solicits 32 = .ok (.aload_n 0, 1) := by decide +kernel
theorem dX8_solicits_33 : decode cX8_solicits 33 = .ok (.getfield 78, 3) := by decide +kernel
theorem dX8_solicits_36 : decode cX8_solicits 36 = .ok (.iload_n 3, 1) := by decide +kernel
theorem dX8_solicits_37 : decode cX8_solicits 37 = .ok (.baload, 1) := by decide +kernel
theorem dX8_solicits_38 : decode cX8_solicits 38 = .ok (.ifCond .ne 50, 3) := by decide +kernel
theorem dX8_solicits_41 : decode cX8_solicits 41 = .ok (.aload_n 0, 1) := by decide +kernel
theorem dX8_solicits_42 : decode cX8_solicits 42 = .ok (.getfield 63, 3) := by decide +kernel
theorem dX8_solicits_45 : decode cX8_solicits 45 = .ok (.iload_n 3, 1) := by decide +kernel
theorem dX8_solicits_46 : decode cX8_solicits 46 = .ok (.iaload, 1) := by decide +kernel
theorem dX8_solicits_47 : decode cX8_solicits 47 = .ok (.aload_n 0, 1) := by decide +kernel
theorem dX8_solicits_48 : decode cX8_solicits 48 = .ok (.getfield 66, 3) := by decide +kernel
theorem dX8_solicits_51 : decode cX8_solicits 51 = .ok (.iload_n 3, 1) := by decide +kernel
theorem dX8_solicits_52 : decode cX8_solicits 52 = .ok (.iaload, 1) := by decide +kernel
theorem dX8_solicits_53 : decode cX8_solicits 53 = .ok (.aload_n 0, 1) := by decide +kernel
theorem dX8_solicits_54 : decode cX8_solicits 54 = .ok (.getfield 16, 3) := by decide +kernel
theorem dX8_solicits_57 : decode cX8_solicits 57 = .ok (.iload_n 1, 1) := by decide +kernel
theorem dX8_solicits_58 : decode cX8_solicits 58 = .ok (.iaload, 1) := by decide +kernel
theorem dX8_solicits_59 : decode cX8_solicits 59 = .ok (.aload_n 0, 1) := by decide +kernel
theorem dX8_solicits_60 : decode cX8_solicits 60 = .ok (.getfield 20, 3) := by decide +kernel
theorem dX8_solicits_63 : decode cX8_solicits 63 = .ok (.iload_n 1, 1) := by decide +kernel
theorem dX8_solicits_64 : decode cX8_solicits 64 = .ok (.iaload, 1) := by decide +kernel
theorem dX8_solicits_65 : decode cX8_solicits 65 = .ok (.invokestatic 118, 3) := by decide +kernel
theorem dX8_solicits_68 : decode cX8_solicits 68 = .ok (.ifCond .eq 20, 3) := by decide +kernel
theorem dX8_solicits_71 : decode cX8_solicits 71 = .ok (.aload_n 0, 1) := by decide +kernel
theorem dX8_solicits_72 : decode cX8_solicits 72 = .ok (.getfield 78, 3) := by decide +kernel
theorem dX8_solicits_75 : decode cX8_solicits 75 = .ok (.iload_n 3, 1) := by decide +kernel
theorem dX8_solicits_76 : decode cX8_solicits 76 = .ok (.iconst 1, 1) := by decide +kernel
theorem dX8_solicits_77 : decode cX8_solicits 77 = .ok (.bastore, 1) := by decide +kernel
theorem dX8_solicits_78 : decode cX8_solicits 78 = .ok (.aload_n 0, 1) := by decide +kernel
theorem dX8_solicits_79 : decode cX8_solicits 79 = .ok (.dup, 1) := by decide +kernel
theorem dX8_solicits_80 : decode cX8_solicits 80 = .ok (.getfield 122, 3) := by decide +kernel
theorem dX8_solicits_83 : decode cX8_solicits 83 = .ok (.iconst 1, 1) := by decide +kernel
theorem dX8_solicits_84 : decode cX8_solicits 84 = .ok (.iadd, 1) := by decide +kernel
theorem dX8_solicits_85 : decode cX8_solicits 85 = .ok (.putfield 122, 3) := by decide +kernel
theorem dX8_solicits_88 : decode cX8_solicits 88 = .ok (.iinc 3 1, 3) := by decide +kernel
theorem dX8_solicits_91 : decode cX8_solicits 91 = .ok (.goto (-79), 3) := by decide +kernel
theorem dX8_solicits_94 : decode cX8_solicits 94 = .ok (.iinc 2 1, 3) := by decide +kernel
theorem dX8_solicits_97 : decode cX8_solicits 97 = .ok (.goto (-95), 3) := by decide +kernel
theorem dX8_solicits_100 : decode cX8_solicits 100 = .ok (.return_, 1) := by decide +kernel
theorem dX8_register_0 : decode cX8_register 0 = .ok (.aload_n 0, 1) := by decide +kernel
theorem dX8_register_1 : decode cX8_register 1 = .ok (.iload_n 1, 1) := by decide +kernel
theorem dX8_register_2 : decode cX8_register 2 = .ok (.iload_n 2, 1) := by decide +kernel
theorem dX8_register_3 : decode cX8_register 3 = .ok (.invokestatic 125, 3) := by decide +kernel
theorem dX8_register_6 : decode cX8_register 6 = .ok (.ifCond .eq 7, 3) := by decide +kernel
theorem dX8_register_9 : decode cX8_register 9 = .ok (.iconst 0, 1) := by decide +kernel
theorem dX8_register_10 : decode cX8_register 10 = .ok (.goto 4, 3) := by decide +kernel
theorem dX8_register_13 : decode cX8_register 13 = .ok (.iconst 1, 1) := by decide +kernel
theorem dX8_register_14 : decode cX8_register 14 = .ok (.putfield 99, 3) := by decide +kernel
theorem dX8_register_17 : decode cX8_register 17 = .ok (.aload_n 0, 1) := by decide +kernel
theorem dX8_register_18 : decode cX8_register 18 = .ok (.getfield 99, 3) := by decide +kernel
theorem dX8_register_21 : decode cX8_register 21 = .ok (.ifCond .le 5, 3) := by decide +kernel
theorem dX8_register_24 : decode cX8_register 24 = .ok (.iconst 0, 1) := by decide +kernel
theorem dX8_register_25 : decode cX8_register 25 = .ok (.ireturn, 1) := by decide +kernel
theorem dX8_register_26 : decode cX8_register 26 = .ok (.aload_n 0, 1) := by decide +kernel
theorem dX8_register_27 : decode cX8_register 27 = .ok (.getfield 115, 3) := by decide +kernel
theorem dX8_register_30 : decode cX8_register 30 = .ok (.bipush 24, 2) := by decide +kernel
theorem dX8_register_32 : decode cX8_register 32 = .ok (.if_icmp .ge 7, 3) := by decide +kernel
theorem dX8_register_35 : decode cX8_register 35 = .ok (.iconst 1, 1) := by decide +kernel
theorem dX8_register_36 : decode cX8_register 36 = .ok (.goto 4, 3) := by decide +kernel
theorem dX8_register_39 : decode cX8_register 39 = .ok (.iconst 0, 1) := by decide +kernel
theorem dX8_register_40 : decode cX8_register 40 = .ok (.istore_n 3, 1) := by decide +kernel
theorem dX8_register_41 : decode cX8_register 41 = .ok (.iconst 0, 1) := by decide +kernel
theorem dX8_register_42 : decode cX8_register 42 = .ok (.istore 4, 2) := by decide +kernel
theorem dX8_register_44 : decode cX8_register 44 = .ok (.iload 4, 2) := by decide +kernel
theorem dX8_register_46 : decode cX8_register 46 = .ok (.aload_n 0, 1) := by decide +kernel
theorem dX8_register_47 : decode cX8_register 47 = .ok (.getfield 115, 3) := by decide +kernel
theorem dX8_register_50 : decode cX8_register 50 = .ok (.if_icmp .ge 51, 3) := by decide +kernel
theorem dX8_register_53 : decode cX8_register 53 = .ok (.iload_n 3, 1) := by decide +kernel
theorem dX8_register_54 : decode cX8_register 54 = .ok (.ifCond .eq 39, 3) := by decide +kernel
theorem dX8_register_57 : decode cX8_register 57 = .ok (.aload_n 0, 1) := by decide +kernel
theorem dX8_register_58 : decode cX8_register 58 = .ok (.getfield 23, 3) := by decide +kernel
theorem dX8_register_61 : decode cX8_register 61 = .ok (.iload 4, 2) := by decide +kernel
theorem dX8_register_63 : decode cX8_register 63 = .ok (.baload, 1) := by decide +kernel
theorem dX8_register_64 : decode cX8_register 64 = .ok (.ifCond .ne 25, 3) := by decide +kernel
theorem dX8_register_67 : decode cX8_register 67 = .ok (.aload_n 0, 1) := by decide +kernel
theorem dX8_register_68 : decode cX8_register 68 = .ok (.getfield 16, 3) := by decide +kernel
theorem dX8_register_71 : decode cX8_register 71 = .ok (.iload 4, 2) := by decide +kernel
theorem dX8_register_73 : decode cX8_register 73 = .ok (.iaload, 1) := by decide +kernel
theorem dX8_register_74 : decode cX8_register 74 = .ok (.iload_n 1, 1) := by decide +kernel
theorem dX8_register_75 : decode cX8_register 75 = .ok (.if_icmp .ne 14, 3) := by decide +kernel
theorem dX8_register_78 : decode cX8_register 78 = .ok (.aload_n 0, 1) := by decide +kernel
theorem dX8_register_79 : decode cX8_register 79 = .ok (.getfield 20, 3) := by decide +kernel
theorem dX8_register_82 : decode cX8_register 82 = .ok (.iload 4, 2) := by decide +kernel
theorem dX8_register_84 : decode cX8_register 84 = .ok (.iaload, 1) := by decide +kernel
theorem dX8_register_85 : decode cX8_register 85 = .ok (.iload_n 2, 1) := by decide +kernel
theorem dX8_register_86 : decode cX8_register 86 = .ok (.if_icmp .eq 7, 3) := by decide +kernel
theorem dX8_register_89 : decode cX8_register 89 = .ok (.iconst 1, 1) := by decide +kernel
theorem dX8_register_90 : decode cX8_register 90 = .ok (.goto 4, 3) := by decide +kernel
theorem dX8_register_93 : decode cX8_register 93 = .ok (.iconst 0, 1) := by decide +kernel
theorem dX8_register_94 : decode cX8_register 94 = .ok (.istore_n 3, 1) := by decide +kernel
theorem dX8_register_95 : decode cX8_register 95 = .ok (.iinc 4 1, 3) := by decide +kernel
theorem dX8_register_98 : decode cX8_register 98 = .ok (.goto (-54), 3) := by decide +kernel
theorem dX8_register_101 : decode cX8_register 101 = .ok (.aload_n 0, 1) := by decide +kernel
theorem dX8_register_102 : decode cX8_register 102 = .ok (.iload_n 3, 1) := by decide +kernel
theorem dX8_register_103 : decode cX8_register 103 = .ok (.ifCond .eq 7, 3) := by decide +kernel
theorem dX8_register_106 : decode cX8_register 106 = .ok (.iconst 0, 1) := by decide +kernel
theorem dX8_register_107 : decode cX8_register 107 = .ok (.goto 4, 3) := by decide +kernel
theorem dX8_register_110 : decode cX8_register 110 = .ok (.iconst 2, 1) := by decide +kernel
theorem dX8_register_111 : decode cX8_register 111 = .ok (.putfield 99, 3) := by decide +kernel
theorem dX8_register_114 : decode cX8_register 114 = .ok (.aload_n 0, 1) := by decide +kernel
theorem dX8_register_115 : decode cX8_register 115 = .ok (.getfield 99, 3) := by decide +kernel
theorem dX8_register_118 : decode cX8_register 118 = .ok (.ifCond .le 5, 3) := by decide +kernel
theorem dX8_register_121 : decode cX8_register 121 = .ok (.iconst 0, 1) := by decide +kernel
theorem dX8_register_122 : decode cX8_register 122 = .ok (.ireturn, 1) := by decide +kernel
theorem dX8_register_123 : decode cX8_register 123 = .ok (.aload_n 0, 1) := by decide +kernel
theorem dX8_register_124 : decode cX8_register 124 = .ok (.getfield 115, 3) := by decide +kernel
theorem dX8_register_127 : decode cX8_register 127 = .ok (.istore 4, 2) := by decide +kernel
theorem dX8_register_129 : decode cX8_register 129 = .ok (.aload_n 0, 1) := by decide +kernel
theorem dX8_register_130 : decode cX8_register 130 = .ok (.dup, 1) := by decide +kernel
theorem dX8_register_131 : decode cX8_register 131 = .ok (.getfield 115, 3) := by decide +kernel
theorem dX8_register_134 : decode cX8_register 134 = .ok (.iconst 1, 1) := by decide +kernel
theorem dX8_register_135 : decode cX8_register 135 = .ok (.iadd, 1) := by decide +kernel
theorem dX8_register_136 : decode cX8_register 136 = .ok (.putfield 115, 3) := by decide +kernel
theorem dX8_register_139 : decode cX8_register 139 = .ok (.aload_n 0, 1) := by decide +kernel
theorem dX8_register_140 : decode cX8_register 140 = .ok (.getfield 16, 3) := by decide +kernel
theorem dX8_register_143 : decode cX8_register 143 = .ok (.iload 4, 2) := by decide +kernel
theorem dX8_register_145 : decode cX8_register 145 = .ok (.iload_n 1, 1) := by decide +kernel
theorem dX8_register_146 : decode cX8_register 146 = .ok (.iastore, 1) := by decide +kernel
theorem dX8_register_147 : decode cX8_register 147 = .ok (.aload_n 0, 1) := by decide +kernel
theorem dX8_register_148 : decode cX8_register 148 = .ok (.getfield 20, 3) := by decide +kernel
theorem dX8_register_151 : decode cX8_register 151 = .ok (.iload 4, 2) := by decide +kernel
theorem dX8_register_153 : decode cX8_register 153 = .ok (.iload_n 2, 1) := by decide +kernel
theorem dX8_register_154 : decode cX8_register 154 = .ok (.iastore, 1) := by decide +kernel
theorem dX8_register_155 : decode cX8_register 155 = .ok (.aload_n 0, 1) := by decide +kernel
theorem dX8_register_156 : decode cX8_register 156 = .ok (.getfield 27, 3) := by decide +kernel
theorem dX8_register_159 : decode cX8_register 159 = .ok (.iload 4, 2) := by decide +kernel
theorem dX8_register_161 : decode cX8_register 161 = .ok (.iconst 1, 1) := by decide +kernel
theorem dX8_register_162 : decode cX8_register 162 = .ok (.iastore, 1) := by decide +kernel
theorem dX8_register_163 : decode cX8_register 163 = .ok (.aload_n 0, 1) := by decide +kernel
theorem dX8_register_164 : decode cX8_register 164 = .ok (.iload 4, 2) := by decide +kernel
theorem dX8_register_166 : decode cX8_register 166 = .ok (.invokevirtual 129, 3) := by decide +kernel
theorem dX8_register_169 : decode cX8_register 169 = .ok (.iload 4, 2) := by decide +kernel
theorem dX8_register_171 : decode cX8_register 171 = .ok (.ireturn, 1) := by decide +kernel
theorem dX8_withdraw_0 : decode cX8_withdraw 0 = .ok (.aload_n 0, 1) := by decide +kernel
theorem dX8_withdraw_1 : decode cX8_withdraw 1 = .ok (.aload_n 0, 1) := by decide +kernel
theorem dX8_withdraw_2 : decode cX8_withdraw 2 = .ok (.iload_n 1, 1) := by decide +kernel
theorem dX8_withdraw_3 : decode cX8_withdraw 3 = .ok (.invokevirtual 133, 3) := by decide +kernel
theorem dX8_withdraw_6 : decode cX8_withdraw 6 = .ok (.ifCond .ne 7, 3) := by decide +kernel
theorem dX8_withdraw_9 : decode cX8_withdraw 9 = .ok (.iconst 1, 1) := by decide +kernel
theorem dX8_withdraw_10 : decode cX8_withdraw 10 = .ok (.goto 17, 3) := by decide +kernel
theorem dX8_withdraw_13 : decode cX8_withdraw 13 = .ok (.aload_n 0, 1) := by decide +kernel
theorem dX8_withdraw_14 : decode cX8_withdraw 14 = .ok (.getfield 23, 3) := by decide +kernel
theorem dX8_withdraw_17 : decode cX8_withdraw 17 = .ok (.iload_n 1, 1) := by decide +kernel
theorem dX8_withdraw_18 : decode cX8_withdraw 18 = .ok (.baload, 1) := by decide +kernel
theorem dX8_withdraw_19 : decode cX8_withdraw 19 = .ok (.ifCond .eq 7, 3) := by decide +kernel
theorem dX8_withdraw_22 : decode cX8_withdraw 22 = .ok (.iconst 2, 1) := by decide +kernel
theorem dX8_withdraw_23 : decode cX8_withdraw 23 = .ok (.goto 4, 3) := by decide +kernel
theorem dX8_withdraw_26 : decode cX8_withdraw 26 = .ok (.iconst 0, 1) := by decide +kernel
theorem dX8_withdraw_27 : decode cX8_withdraw 27 = .ok (.putfield 99, 3) := by decide +kernel
theorem dX8_withdraw_30 : decode cX8_withdraw 30 = .ok (.aload_n 0, 1) := by decide +kernel
theorem dX8_withdraw_31 : decode cX8_withdraw 31 = .ok (.getfield 99, 3) := by decide +kernel
theorem dX8_withdraw_34 : decode cX8_withdraw 34 = .ok (.ifCond .le 5, 3) := by decide +kernel
theorem dX8_withdraw_37 : decode cX8_withdraw 37 = .ok (.iconst 0, 1) := by decide +kernel
theorem dX8_withdraw_38 : decode cX8_withdraw 38 = .ok (.ireturn, 1) := by decide +kernel
theorem dX8_withdraw_39 : decode cX8_withdraw 39 = .ok (.aload_n 0, 1) := by decide +kernel
theorem dX8_withdraw_40 : decode cX8_withdraw 40 = .ok (.getfield 23, 3) := by decide +kernel
theorem dX8_withdraw_43 : decode cX8_withdraw 43 = .ok (.iload_n 1, 1) := by decide +kernel
theorem dX8_withdraw_44 : decode cX8_withdraw 44 = .ok (.iconst 1, 1) := by decide +kernel
theorem dX8_withdraw_45 : decode cX8_withdraw 45 = .ok (.bastore, 1) := by decide +kernel
theorem dX8_withdraw_46 : decode cX8_withdraw 46 = .ok (.aload_n 0, 1) := by decide +kernel
theorem dX8_withdraw_47 : decode cX8_withdraw 47 = .ok (.iload_n 1, 1) := by decide +kernel
theorem dX8_withdraw_48 : decode cX8_withdraw 48 = .ok (.invokevirtual 129, 3) := by decide +kernel
theorem dX8_withdraw_51 : decode cX8_withdraw 51 = .ok (.iconst 0, 1) := by decide +kernel
theorem dX8_withdraw_52 : decode cX8_withdraw 52 = .ok (.istore_n 2, 1) := by decide +kernel
theorem dX8_withdraw_53 : decode cX8_withdraw 53 = .ok (.iconst 0, 1) := by decide +kernel
theorem dX8_withdraw_54 : decode cX8_withdraw 54 = .ok (.istore_n 3, 1) := by decide +kernel
theorem dX8_withdraw_55 : decode cX8_withdraw 55 = .ok (.iload_n 3, 1) := by decide +kernel
theorem dX8_withdraw_56 : decode cX8_withdraw 56 = .ok (.aload_n 0, 1) := by decide +kernel
theorem dX8_withdraw_57 : decode cX8_withdraw 57 = .ok (.getfield 115, 3) := by decide +kernel
theorem dX8_withdraw_60 : decode cX8_withdraw 60 = .ok (.if_icmp .ge 26, 3) := by decide +kernel
theorem dX8_withdraw_63 : decode cX8_withdraw 63 = .ok (.iload_n 2, 1) := by decide +kernel
theorem dX8_withdraw_64 : decode cX8_withdraw 64 = .ok (.aload_n 0, 1) := by decide +kernel
theorem dX8_withdraw_65 : decode cX8_withdraw 65 = .ok (.getfield 23, 3) := by decide +kernel
theorem dX8_withdraw_68 : decode cX8_withdraw 68 = .ok (.iload_n 3, 1) := by decide +kernel
theorem dX8_withdraw_69 : decode cX8_withdraw 69 = .ok (.baload, 1) := by decide +kernel
theorem dX8_withdraw_70 : decode cX8_withdraw 70 = .ok (.ifCond .eq 7, 3) := by decide +kernel
theorem dX8_withdraw_73 : decode cX8_withdraw 73 = .ok (.iconst 0, 1) := by decide +kernel
theorem dX8_withdraw_74 : decode cX8_withdraw 74 = .ok (.goto 4, 3) := by decide +kernel
theorem dX8_withdraw_77 : decode cX8_withdraw 77 = .ok (.iconst 1, 1) := by decide +kernel
theorem dX8_withdraw_78 : decode cX8_withdraw 78 = .ok (.iadd, 1) := by decide +kernel
theorem dX8_withdraw_79 : decode cX8_withdraw 79 = .ok (.istore_n 2, 1) := by decide +kernel
theorem dX8_withdraw_80 : decode cX8_withdraw 80 = .ok (.iinc 3 1, 3) := by decide +kernel
theorem dX8_withdraw_83 : decode cX8_withdraw 83 = .ok (.goto (-28), 3) := by decide +kernel
theorem dX8_withdraw_86 : decode cX8_withdraw 86 = .ok (.iload_n 2, 1) := by decide +kernel
theorem dX8_withdraw_87 : decode cX8_withdraw 87 = .ok (.ireturn, 1) := by decide +kernel
theorem dX8_placeOf_0 : decode cX8_placeOf 0 = .ok (.iconst (-1), 1) := by decide +kernel
theorem dX8_placeOf_1 : decode cX8_placeOf 1 = .ok (.istore_n 3, 1) := by decide +kernel
theorem dX8_placeOf_2 : decode cX8_placeOf 2 = .ok (.iconst 4, 1) := by decide +kernel
theorem dX8_placeOf_3 : decode cX8_placeOf 3 = .ok (.iload_n 1, 1) := by decide +kernel
theorem dX8_placeOf_4 : decode cX8_placeOf 4 = .ok (.imul, 1) := by decide +kernel
theorem dX8_placeOf_5 : decode cX8_placeOf 5 = .ok (.istore 4, 2) := by decide +kernel
theorem dX8_placeOf_7 : decode cX8_placeOf 7 = .ok (.iload 4, 2) := by decide +kernel
theorem dX8_placeOf_9 : decode cX8_placeOf 9 = .ok (.iconst 4, 1) := by decide +kernel
theorem dX8_placeOf_10 : decode cX8_placeOf 10 = .ok (.iload_n 1, 1) := by decide +kernel
theorem dX8_placeOf_11 : decode cX8_placeOf 11 = .ok (.imul, 1) := by decide +kernel
theorem dX8_placeOf_12 : decode cX8_placeOf 12 = .ok (.aload_n 0, 1) := by decide +kernel
theorem dX8_placeOf_13 : decode cX8_placeOf 13 = .ok (.getfield 30, 3) := by decide +kernel
theorem dX8_placeOf_16 : decode cX8_placeOf 16 = .ok (.iload_n 1, 1) := by decide +kernel
theorem dX8_placeOf_17 : decode cX8_placeOf 17 = .ok (.iaload, 1) := by decide +kernel
theorem dX8_placeOf_18 : decode cX8_placeOf 18 = .ok (.iadd, 1) := by decide +kernel
theorem dX8_placeOf_19 : decode cX8_placeOf 19 = .ok (.if_icmp .ge 27, 3) := by decide +kernel
theorem dX8_placeOf_22 : decode cX8_placeOf 22 = .ok (.aload_n 0, 1) := by decide +kernel
theorem dX8_placeOf_23 : decode cX8_placeOf 23 = .ok (.getfield 33, 3) := by decide +kernel
theorem dX8_placeOf_26 : decode cX8_placeOf 26 = .ok (.iload 4, 2) := by decide +kernel
theorem dX8_placeOf_28 : decode cX8_placeOf 28 = .ok (.iaload, 1) := by decide +kernel
theorem dX8_placeOf_29 : decode cX8_placeOf 29 = .ok (.iload_n 2, 1) := by decide +kernel
theorem dX8_placeOf_30 : decode cX8_placeOf 30 = .ok (.if_icmp .ne 8, 3) := by decide +kernel
theorem dX8_placeOf_33 : decode cX8_placeOf 33 = .ok (.iload 4, 2) := by decide +kernel
theorem dX8_placeOf_35 : decode cX8_placeOf 35 = .ok (.goto 4, 3) := by decide +kernel
theorem dX8_placeOf_38 : decode cX8_placeOf 38 = .ok (.iload_n 3, 1) := by decide +kernel
theorem dX8_placeOf_39 : decode cX8_placeOf 39 = .ok (.istore_n 3, 1) := by decide +kernel
theorem dX8_placeOf_40 : decode cX8_placeOf 40 = .ok (.iinc 4 1, 3) := by decide +kernel
theorem dX8_placeOf_43 : decode cX8_placeOf 43 = .ok (.goto (-36), 3) := by decide +kernel
theorem dX8_placeOf_46 : decode cX8_placeOf 46 = .ok (.iload_n 3, 1) := by decide +kernel
theorem dX8_placeOf_47 : decode cX8_placeOf 47 = .ok (.ireturn, 1) := by decide +kernel
theorem dX8_changes_0 : decode cX8_changes 0 = .ok (.aload_n 0, 1) := by decide +kernel
theorem dX8_changes_1 : decode cX8_changes 1 = .ok (.getfield 27, 3) := by decide +kernel
theorem dX8_changes_4 : decode cX8_changes 4 = .ok (.iload_n 1, 1) := by decide +kernel
theorem dX8_changes_5 : decode cX8_changes 5 = .ok (.dup2, 1) := by decide +kernel
theorem dX8_changes_6 : decode cX8_changes 6 = .ok (.iaload, 1) := by decide +kernel
theorem dX8_changes_7 : decode cX8_changes 7 = .ok (.iconst 1, 1) := by decide +kernel
theorem dX8_changes_8 : decode cX8_changes 8 = .ok (.iadd, 1) := by decide +kernel
theorem dX8_changes_9 : decode cX8_changes 9 = .ok (.iastore, 1) := by decide +kernel
theorem dX8_changes_10 : decode cX8_changes 10 = .ok (.aload_n 0, 1) := by decide +kernel
theorem dX8_changes_11 : decode cX8_changes 11 = .ok (.iload_n 1, 1) := by decide +kernel
theorem dX8_changes_12 : decode cX8_changes 12 = .ok (.invokevirtual 129, 3) := by decide +kernel
theorem dX8_changes_15 : decode cX8_changes 15 = .ok (.aload_n 0, 1) := by decide +kernel
theorem dX8_changes_16 : decode cX8_changes 16 = .ok (.getfield 27, 3) := by decide +kernel
theorem dX8_changes_19 : decode cX8_changes 19 = .ok (.iload_n 1, 1) := by decide +kernel
theorem dX8_changes_20 : decode cX8_changes 20 = .ok (.iaload, 1) := by decide +kernel
theorem dX8_changes_21 : decode cX8_changes 21 = .ok (.ireturn, 1) := by decide +kernel
theorem dX8_addLocator_0 : decode cX8_addLocator 0 = .ok (.iload_n 2, 1) := by decide +kernel
theorem dX8_addLocator_1 : decode cX8_addLocator 1 = .ok (.iconst 0, 1) := by decide +kernel
theorem dX8_addLocator_2 : decode cX8_addLocator 2 = .ok (.bipush 31, 2) := by decide +kernel
theorem dX8_addLocator_4 : decode cX8_addLocator 4 = .ok (.invokestatic 103, 3) := by decide +kernel
theorem dX8_addLocator_7 : decode cX8_addLocator 7 = .ok (.ifCond .eq 27, 3) := by decide +kernel
theorem dX8_addLocator_10 : decode cX8_addLocator 10 = .ok (.iload_n 3, 1) := by decide +kernel
theorem dX8_addLocator_11 : decode cX8_addLocator 11 = .ok (.iconst 0, 1) := by decide +kernel
theorem dX8_addLocator_12 : decode cX8_addLocator 12 = .ok (.iconst 3, 1) := by decide +kernel
theorem dX8_addLocator_13 : decode cX8_addLocator 13 = .ok (.invokestatic 103, 3) := by decide +kernel
theorem dX8_addLocator_16 : decode cX8_addLocator 16 = .ok (.ifCond .eq 18, 3) := by decide +kernel
theorem dX8_addLocator_19 : decode cX8_addLocator 19 = .ok (.iload 4, 2) := by decide +kernel
theorem dX8_addLocator_21 : decode cX8_addLocator 21 = .ok (.iconst 1, 1) := by decide +kernel
theorem dX8_addLocator_22 : decode cX8_addLocator 22 = .ok (.bipush 10, 2) := by decide +kernel
theorem dX8_addLocator_24 : decode cX8_addLocator 24 = .ok (.invokestatic 103, 3) := by decide +kernel
theorem dX8_addLocator_27 : decode cX8_addLocator 27 = .ok (.ifCond .eq 7, 3) := by decide +kernel
theorem dX8_addLocator_30 : decode cX8_addLocator 30 = .ok (.iconst 1, 1) := by decide +kernel
theorem dX8_addLocator_31 : decode cX8_addLocator 31 = .ok (.goto 4, 3) := by decide +kernel
theorem dX8_addLocator_34 : decode cX8_addLocator 34 = .ok (.iconst 0, 1) := by decide +kernel
theorem dX8_addLocator_35 : decode cX8_addLocator 35 = .ok (.istore 5, 2) := by decide +kernel
theorem dX8_addLocator_37 : decode cX8_addLocator 37 = .ok (.aload_n 0, 1) := by decide +kernel
theorem dX8_addLocator_38 : decode cX8_addLocator 38 = .ok (.aload_n 0, 1) := by decide +kernel
theorem dX8_addLocator_39 : decode cX8_addLocator 39 = .ok (.iload_n 1, 1) := by decide +kernel
theorem dX8_addLocator_40 : decode cX8_addLocator 40 = .ok (.invokevirtual 133, 3) := by decide +kernel
theorem dX8_addLocator_43 : decode cX8_addLocator 43 = .ok (.ifCond .ne 7, 3) := by decide +kernel
theorem dX8_addLocator_46 : decode cX8_addLocator 46 = .ok (.iconst 1, 1) := by decide +kernel
theorem dX8_addLocator_47 : decode cX8_addLocator 47 = .ok (.goto 13, 3) := by decide +kernel
theorem dX8_addLocator_50 : decode cX8_addLocator 50 = .ok (.iload 5, 2) := by decide +kernel
theorem dX8_addLocator_52 : decode cX8_addLocator 52 = .ok (.ifCond .ne 7, 3) := by decide +kernel
theorem dX8_addLocator_55 : decode cX8_addLocator 55 = .ok (.iconst 2, 1) := by decide +kernel
theorem dX8_addLocator_56 : decode cX8_addLocator 56 = .ok (.goto 4, 3) := by decide +kernel
theorem dX8_addLocator_59 : decode cX8_addLocator 59 = .ok (.iconst 0, 1) := by decide +kernel
theorem dX8_addLocator_60 : decode cX8_addLocator 60 = .ok (.putfield 99, 3) := by decide +kernel
theorem dX8_addLocator_63 : decode cX8_addLocator 63 = .ok (.aload_n 0, 1) := by decide +kernel
theorem dX8_addLocator_64 : decode cX8_addLocator 64 = .ok (.getfield 99, 3) := by decide +kernel
theorem dX8_addLocator_67 : decode cX8_addLocator 67 = .ok (.ifCond .ne 41, 3) := by decide +kernel
theorem dX8_addLocator_70 : decode cX8_addLocator 70 = .ok (.aload_n 0, 1) := by decide +kernel
theorem dX8_addLocator_71 : decode cX8_addLocator 71 = .ok (.aload_n 0, 1) := by decide +kernel
theorem dX8_addLocator_72 : decode cX8_addLocator 72 = .ok (.getfield 23, 3) := by decide +kernel
theorem dX8_addLocator_75 : decode cX8_addLocator 75 = .ok (.iload_n 1, 1) := by decide +kernel
theorem dX8_addLocator_76 : decode cX8_addLocator 76 = .ok (.baload, 1) := by decide +kernel
theorem dX8_addLocator_77 : decode cX8_addLocator 77 = .ok (.ifCond .ne 23, 3) := by decide +kernel
theorem dX8_addLocator_80 : decode cX8_addLocator 80 = .ok (.aload_n 0, 1) := by decide +kernel
theorem dX8_addLocator_81 : decode cX8_addLocator 81 = .ok (.getfield 30, 3) := by decide +kernel
theorem dX8_addLocator_84 : decode cX8_addLocator 84 = .ok (.iload_n 1, 1) := by decide +kernel
theorem dX8_addLocator_85 : decode cX8_addLocator 85 = .ok (.iaload, 1) := by decide +kernel
theorem dX8_addLocator_86 : decode cX8_addLocator 86 = .ok (.iconst 4, 1) := by decide +kernel
theorem dX8_addLocator_87 : decode cX8_addLocator 87 = .ok (.if_icmp .eq 13, 3) := by decide +kernel
theorem dX8_addLocator_90 : decode cX8_addLocator 90 = .ok (.aload_n 0, 1) := by decide +kernel
theorem dX8_addLocator_91 : decode cX8_addLocator 91 = .ok (.iload_n 1, 1) := by decide +kernel
theorem dX8_addLocator_92 : decode cX8_addLocator 92 = .ok (.iload_n 2, 1) := by decide +kernel
theorem dX8_addLocator_93 : decode cX8_addLocator 93 = .ok (.invokevirtual 136, 3) := by decide +kernel
theorem dX8_addLocator_96 : decode cX8_addLocator 96 = .ok (.iconst (-1), 1) := by decide +kernel
theorem dX8_addLocator_97 : decode cX8_addLocator 97 = .ok (.if_icmp .eq 7, 3) := by decide +kernel
theorem dX8_addLocator_100 : decode cX8_addLocator 100 = .ok (.iconst 3, 1) := by decide +kernel
theorem dX8_addLocator_101 : decode cX8_addLocator 101 = .ok (.goto 4, 3) := by decide +kernel
theorem dX8_addLocator_104 : decode cX8_addLocator 104 = .ok (.iconst 0, 1) := by decide +kernel
theorem dX8_addLocator_105 : decode cX8_addLocator 105 = .ok (.putfield 99, 3) := by decide +kernel
theorem dX8_addLocator_108 : decode cX8_addLocator 108 = .ok (.aload_n 0, 1) := by decide +kernel
theorem dX8_addLocator_109 : decode cX8_addLocator 109 = .ok (.getfield 99, 3) := by decide +kernel
theorem dX8_addLocator_112 : decode cX8_addLocator 112 = .ok (.ifCond .le 5, 3) := by decide +kernel
theorem dX8_addLocator_115 : decode cX8_addLocator 115 = .ok (.iconst 0, 1) := by decide +kernel
theorem dX8_addLocator_116 : decode cX8_addLocator 116 = .ok (.ireturn, 1) := by decide +kernel
theorem dX8_addLocator_117 : decode cX8_addLocator 117 = .ok (.iconst 4, 1) := by decide +kernel
theorem dX8_addLocator_118 : decode cX8_addLocator 118 = .ok (.iload_n 1, 1) := by decide +kernel
theorem dX8_addLocator_119 : decode cX8_addLocator 119 = .ok (.imul, 1) := by decide +kernel
theorem dX8_addLocator_120 : decode cX8_addLocator 120 = .ok (.aload_n 0, 1) := by decide +kernel
theorem dX8_addLocator_121 : decode cX8_addLocator 121 = .ok (.getfield 30, 3) := by decide +kernel
theorem dX8_addLocator_124 : decode cX8_addLocator 124 = .ok (.iload_n 1, 1) := by decide +kernel
theorem dX8_addLocator_125 : decode cX8_addLocator 125 = .ok (.iaload, 1) := by decide +kernel
theorem dX8_addLocator_126 : decode cX8_addLocator 126 = .ok (.iadd, 1) := by decide +kernel
theorem dX8_addLocator_127 : decode cX8_addLocator 127 = .ok (.istore 6, 2) := by decide +kernel
theorem dX8_addLocator_129 : decode cX8_addLocator 129 = .ok (.aload_n 0, 1) := by decide +kernel
theorem dX8_addLocator_130 : decode cX8_addLocator 130 = .ok (.getfield 30, 3) := by decide +kernel
theorem dX8_addLocator_133 : decode cX8_addLocator 133 = .ok (.iload_n 1, 1) := by decide +kernel
theorem dX8_addLocator_134 : decode cX8_addLocator 134 = .ok (.dup2, 1) := by decide +kernel
theorem dX8_addLocator_135 : decode cX8_addLocator 135 = .ok (.iaload, 1) := by decide +kernel
theorem dX8_addLocator_136 : decode cX8_addLocator 136 = .ok (.iconst 1, 1) := by decide +kernel
theorem dX8_addLocator_137 : decode cX8_addLocator 137 = .ok (.iadd, 1) := by decide +kernel
theorem dX8_addLocator_138 : decode cX8_addLocator 138 = .ok (.iastore, 1) := by decide +kernel
theorem dX8_addLocator_139 : decode cX8_addLocator 139 = .ok (.aload_n 0, 1) := by decide +kernel
theorem dX8_addLocator_140 : decode cX8_addLocator 140 = .ok (.getfield 33, 3) := by decide +kernel
theorem dX8_addLocator_143 : decode cX8_addLocator 143 = .ok (.iload 6, 2) := by decide +kernel
theorem dX8_addLocator_145 : decode cX8_addLocator 145 = .ok (.iload_n 2, 1) := by decide +kernel
theorem dX8_addLocator_146 : decode cX8_addLocator 146 = .ok (.iastore, 1) := by decide +kernel
theorem dX8_addLocator_147 : decode cX8_addLocator 147 = .ok (.aload_n 0, 1) := by decide +kernel
theorem dX8_addLocator_148 : decode cX8_addLocator 148 = .ok (.getfield 36, 3) := by decide +kernel
theorem dX8_addLocator_151 : decode cX8_addLocator 151 = .ok (.iload 6, 2) := by decide +kernel
theorem dX8_addLocator_153 : decode cX8_addLocator 153 = .ok (.iload_n 3, 1) := by decide +kernel
theorem dX8_addLocator_154 : decode cX8_addLocator 154 = .ok (.iastore, 1) := by decide +kernel
theorem dX8_addLocator_155 : decode cX8_addLocator 155 = .ok (.aload_n 0, 1) := by decide +kernel
theorem dX8_addLocator_156 : decode cX8_addLocator 156 = .ok (.getfield 39, 3) := by decide +kernel
theorem dX8_addLocator_159 : decode cX8_addLocator 159 = .ok (.iload 6, 2) := by decide +kernel
theorem dX8_addLocator_161 : decode cX8_addLocator 161 = .ok (.iload 4, 2) := by decide +kernel
theorem dX8_addLocator_163 : decode cX8_addLocator 163 = .ok (.iastore, 1) := by decide +kernel
theorem dX8_addLocator_164 : decode cX8_addLocator 164 = .ok (.aload_n 0, 1) := by decide +kernel
theorem dX8_addLocator_165 : decode cX8_addLocator 165 = .ok (.iload_n 1, 1) := by decide +kernel
theorem dX8_addLocator_166 : decode cX8_addLocator 166 = .ok (.invokevirtual 139, 3) := by decide +kernel
theorem dX8_addLocator_169 : decode cX8_addLocator 169 = .ok (.ireturn, 1) := by decide +kernel
theorem dX8_move_0 : decode cX8_move 0 = .ok (.aload_n 0, 1) := by decide +kernel
theorem dX8_move_1 : decode cX8_move 1 = .ok (.aload_n 0, 1) := by decide +kernel
theorem dX8_move_2 : decode cX8_move 2 = .ok (.iload_n 1, 1) := by decide +kernel
theorem dX8_move_3 : decode cX8_move 3 = .ok (.invokevirtual 133, 3) := by decide +kernel
theorem dX8_move_6 : decode cX8_move 6 = .ok (.ifCond .ne 7, 3) := by decide +kernel
theorem dX8_move_9 : decode cX8_move 9 = .ok (.iconst 1, 1) := by decide +kernel
theorem dX8_move_10 : decode cX8_move 10 = .ok (.goto 28, 3) := by decide +kernel
theorem dX8_move_13 : decode cX8_move 13 = .ok (.iload_n 2, 1) := by decide +kernel
theorem dX8_move_14 : decode cX8_move 14 = .ok (.iconst 0, 1) := by decide +kernel
theorem dX8_move_15 : decode cX8_move 15 = .ok (.bipush 31, 2) := by decide +kernel
theorem dX8_move_17 : decode cX8_move 17 = .ok (.invokestatic 103, 3) := by decide +kernel
theorem dX8_move_20 : decode cX8_move 20 = .ok (.ifCond .eq 17, 3) := by decide +kernel
theorem dX8_move_23 : decode cX8_move 23 = .ok (.iload_n 3, 1) := by decide +kernel
theorem dX8_move_24 : decode cX8_move 24 = .ok (.iconst 0, 1) := by decide +kernel
theorem dX8_move_25 : decode cX8_move 25 = .ok (.bipush 31, 2) := by decide +kernel
theorem dX8_move_27 : decode cX8_move 27 = .ok (.invokestatic 103, 3) := by decide +kernel
theorem dX8_move_30 : decode cX8_move 30 = .ok (.ifCond .eq 7, 3) := by decide +kernel
theorem dX8_move_33 : decode cX8_move 33 = .ok (.iconst 0, 1) := by decide +kernel
theorem dX8_move_34 : decode cX8_move 34 = .ok (.goto 4, 3) := by decide +kernel
theorem dX8_move_37 : decode cX8_move 37 = .ok (.iconst 2, 1) := by decide +kernel
theorem dX8_move_38 : decode cX8_move 38 = .ok (.putfield 99, 3) := by decide +kernel
theorem dX8_move_41 : decode cX8_move 41 = .ok (.aload_n 0, 1) := by decide +kernel
theorem dX8_move_42 : decode cX8_move 42 = .ok (.getfield 99, 3) := by decide +kernel
theorem dX8_move_45 : decode cX8_move 45 = .ok (.ifCond .ne 53, 3) := by decide +kernel
theorem dX8_move_48 : decode cX8_move 48 = .ok (.aload_n 0, 1) := by decide +kernel
theorem dX8_move_49 : decode cX8_move 49 = .ok (.getfield 23, 3) := by decide +kernel
theorem dX8_move_52 : decode cX8_move 52 = .ok (.iload_n 1, 1) := by decide +kernel
theorem dX8_move_53 : decode cX8_move 53 = .ok (.baload, 1) := by decide +kernel
theorem dX8_move_54 : decode cX8_move 54 = .ok (.ifCond .ne 27, 3) := by decide +kernel
theorem dX8_move_57 : decode cX8_move 57 = .ok (.aload_n 0, 1) := by decide +kernel
theorem dX8_move_58 : decode cX8_move 58 = .ok (.iload_n 1, 1) := by decide +kernel
theorem dX8_move_59 : decode cX8_move 59 = .ok (.iload_n 2, 1) := by decide +kernel
theorem dX8_move_60 : decode cX8_move 60 = .ok (.invokevirtual 136, 3) := by decide +kernel
theorem dX8_move_63 : decode cX8_move 63 = .ok (.iconst (-1), 1) := by decide +kernel
theorem dX8_move_64 : decode cX8_move 64 = .ok (.if_icmp .eq 17, 3) := by decide +kernel
theorem dX8_move_67 : decode cX8_move 67 = .ok (.aload_n 0, 1) := by decide +kernel
theorem dX8_move_68 : decode cX8_move 68 = .ok (.iload_n 1, 1) := by decide +kernel
theorem dX8_move_69 : decode cX8_move 69 = .ok (.iload_n 3, 1) := by decide +kernel
theorem dX8_move_70 : decode cX8_move 70 = .ok (.invokevirtual 136, 3) := by decide +kernel
theorem dX8_move_73 : decode cX8_move 73 = .ok (.iconst (-1), 1) := by decide +kernel
theorem dX8_move_74 : decode cX8_move 74 = .ok (.if_icmp .ne 7, 3) := by decide +kernel
theorem dX8_move_77 : decode cX8_move 77 = .ok (.iconst 1, 1) := by decide +kernel
theorem dX8_move_78 : decode cX8_move 78 = .ok (.goto 4, 3) := by decide +kernel
theorem dX8_move_81 : decode cX8_move 81 = .ok (.iconst 0, 1) := by decide +kernel
theorem dX8_move_82 : decode cX8_move 82 = .ok (.istore 4, 2) := by decide +kernel
theorem dX8_move_84 : decode cX8_move 84 = .ok (.aload_n 0, 1) := by decide +kernel
theorem dX8_move_85 : decode cX8_move 85 = .ok (.iload 4, 2) := by decide +kernel
theorem dX8_move_87 : decode cX8_move 87 = .ok (.ifCond .eq 7, 3) := by decide +kernel
theorem dX8_move_90 : decode cX8_move 90 = .ok (.iconst 0, 1) := by decide +kernel
theorem dX8_move_91 : decode cX8_move 91 = .ok (.goto 4, 3) := by decide +kernel
theorem dX8_move_94 : decode cX8_move 94 = .ok (.iconst 3, 1) := by decide +kernel
theorem dX8_move_95 : decode cX8_move 95 = .ok (.putfield 99, 3) := by decide +kernel
theorem dX8_move_98 : decode cX8_move 98 = .ok (.aload_n 0, 1) := by decide +kernel
theorem dX8_move_99 : decode cX8_move 99 = .ok (.getfield 99, 3) := by decide +kernel
theorem dX8_move_102 : decode cX8_move 102 = .ok (.ifCond .le 5, 3) := by decide +kernel
theorem dX8_move_105 : decode cX8_move 105 = .ok (.iconst 0, 1) := by decide +kernel
theorem dX8_move_106 : decode cX8_move 106 = .ok (.ireturn, 1) := by decide +kernel
theorem dX8_move_107 : decode cX8_move 107 = .ok (.aload_n 0, 1) := by decide +kernel
theorem dX8_move_108 : decode cX8_move 108 = .ok (.getfield 33, 3) := by decide +kernel
theorem dX8_move_111 : decode cX8_move 111 = .ok (.aload_n 0, 1) := by decide +kernel
theorem dX8_move_112 : decode cX8_move 112 = .ok (.iload_n 1, 1) := by decide +kernel
theorem dX8_move_113 : decode cX8_move 113 = .ok (.iload_n 2, 1) := by decide +kernel
theorem dX8_move_114 : decode cX8_move 114 = .ok (.invokevirtual 136, 3) := by decide +kernel
theorem dX8_move_117 : decode cX8_move 117 = .ok (.iload_n 3, 1) := by decide +kernel
theorem dX8_move_118 : decode cX8_move 118 = .ok (.iastore, 1) := by decide +kernel
theorem dX8_move_119 : decode cX8_move 119 = .ok (.aload_n 0, 1) := by decide +kernel
theorem dX8_move_120 : decode cX8_move 120 = .ok (.iload_n 1, 1) := by decide +kernel
theorem dX8_move_121 : decode cX8_move 121 = .ok (.invokevirtual 139, 3) := by decide +kernel
theorem dX8_move_124 : decode cX8_move 124 = .ok (.ireturn, 1) := by decide +kernel
theorem dX8_removeLocator_0 : decode cX8_removeLocator 0 = .ok (.aload_n 0, 1) := by decide +kernel
theorem dX8_removeLocator_1 : decode cX8_removeLocator 1 = .ok (.aload_n 0, 1) := by decide +kernel
theorem dX8_removeLocator_2 : decode cX8_removeLocator 2 = .ok (.iload_n 1, 1) := by decide +kernel
theorem dX8_removeLocator_3 : decode cX8_removeLocator 3 = .ok (.invokevirtual 133, 3) := by decide +kernel
theorem dX8_removeLocator_6 : decode cX8_removeLocator 6 = .ok (.ifCond .ne 7, 3) := by decide +kernel
theorem dX8_removeLocator_9 : decode cX8_removeLocator 9 = .ok (.iconst 1, 1) := by decide +kernel
theorem dX8_removeLocator_10 : decode cX8_removeLocator 10 = .ok (.goto 18, 3) := by decide +kernel
theorem dX8_removeLocator_13 : decode cX8_removeLocator 13 = .ok (.iload_n 2, 1) := by decide +kernel
theorem dX8_removeLocator_14 : decode cX8_removeLocator 14 = .ok (.iconst 0, 1) := by decide +kernel
theorem dX8_removeLocator_15 : decode cX8_removeLocator 15 = .ok (.bipush 31, 2) := by decide +kernel
theorem dX8_removeLocator_17 : decode cX8_removeLocator 17 = .ok (.invokestatic 103, 3) := by decide +kernel
theorem dX8_removeLocator_20 : decode cX8_removeLocator 20 = .ok (.ifCond .eq 7, 3) := by decide +kernel
theorem dX8_removeLocator_23 : decode cX8_removeLocator 23 = .ok (.iconst 0, 1) := by decide +kernel
theorem dX8_removeLocator_24 : decode cX8_removeLocator 24 = .ok (.goto 4, 3) := by decide +kernel
theorem dX8_removeLocator_27 : decode cX8_removeLocator 27 = .ok (.iconst 2, 1) := by decide +kernel
theorem dX8_removeLocator_28 : decode cX8_removeLocator 28 = .ok (.putfield 99, 3) := by decide +kernel
theorem dX8_removeLocator_31 : decode cX8_removeLocator 31 = .ok (.aload_n 0, 1) := by decide +kernel
theorem dX8_removeLocator_32 : decode cX8_removeLocator 32 = .ok (.getfield 99, 3) := by decide +kernel
theorem dX8_removeLocator_35 : decode cX8_removeLocator 35 = .ok (.ifCond .ne 31, 3) := by decide +kernel
theorem dX8_removeLocator_38 : decode cX8_removeLocator 38 = .ok (.aload_n 0, 1) := by decide +kernel
theorem dX8_removeLocator_39 : decode cX8_removeLocator 39 = .ok (.aload_n 0, 1) := by decide +kernel
theorem dX8_removeLocator_40 : decode cX8_removeLocator 40 = .ok (.getfield 23, 3) := by decide +kernel
theorem dX8_removeLocator_43 : decode cX8_removeLocator 43 = .ok (.iload_n 1, 1) := by decide +kernel
theorem dX8_removeLocator_44 : decode cX8_removeLocator 44 = .ok (.baload, 1) := by decide +kernel
theorem dX8_removeLocator_45 : decode cX8_removeLocator 45 = .ok (.ifCond .ne 13, 3) := by decide +kernel
theorem dX8_removeLocator_48 : decode cX8_removeLocator 48 = .ok (.aload_n 0, 1) := by decide +kernel
theorem dX8_removeLocator_49 : decode cX8_removeLocator 49 = .ok (.iload_n 1, 1) := by decide +kernel
theorem dX8_removeLocator_50 : decode cX8_removeLocator 50 = .ok (.iload_n 2, 1) := by decide +kernel
theorem dX8_removeLocator_51 : decode cX8_removeLocator 51 = .ok (.invokevirtual 136, 3) := by decide +kernel
theorem dX8_removeLocator_54 : decode cX8_removeLocator 54 = .ok (.iconst (-1), 1) := by decide +kernel
theorem dX8_removeLocator_55 : decode cX8_removeLocator 55 = .ok (.if_icmp .ne 7, 3) := by decide +kernel
theorem dX8_removeLocator_58 : decode cX8_removeLocator 58 = .ok (.iconst 3, 1) := by decide +kernel
theorem dX8_removeLocator_59 : decode cX8_removeLocator 59 = .ok (.goto 4, 3) := by decide +kernel
theorem dX8_removeLocator_62 : decode cX8_removeLocator 62 = .ok (.iconst 0, 1) := by decide +kernel
theorem dX8_removeLocator_63 : decode cX8_removeLocator 63 = .ok (.putfield 99, 3) := by decide +kernel
theorem dX8_removeLocator_66 : decode cX8_removeLocator 66 = .ok (.aload_n 0, 1) := by decide +kernel
theorem dX8_removeLocator_67 : decode cX8_removeLocator 67 = .ok (.getfield 99, 3) := by decide +kernel
theorem dX8_removeLocator_70 : decode cX8_removeLocator 70 = .ok (.ifCond .le 5, 3) := by decide +kernel
theorem dX8_removeLocator_73 : decode cX8_removeLocator 73 = .ok (.iconst 0, 1) := by decide +kernel
theorem dX8_removeLocator_74 : decode cX8_removeLocator 74 = .ok (.ireturn, 1) := by decide +kernel
theorem dX8_removeLocator_75 : decode cX8_removeLocator 75 = .ok (.aload_n 0, 1) := by decide +kernel
theorem dX8_removeLocator_76 : decode cX8_removeLocator 76 = .ok (.getfield 30, 3) := by decide +kernel
theorem dX8_removeLocator_79 : decode cX8_removeLocator 79 = .ok (.iload_n 1, 1) := by decide +kernel
theorem dX8_removeLocator_80 : decode cX8_removeLocator 80 = .ok (.dup2, 1) := by decide +kernel
theorem dX8_removeLocator_81 : decode cX8_removeLocator 81 = .ok (.iaload, 1) := by decide +kernel
theorem dX8_removeLocator_82 : decode cX8_removeLocator 82 = .ok (.iconst 1, 1) := by decide +kernel
theorem dX8_removeLocator_83 : decode cX8_removeLocator 83 = .ok (.isub, 1) := by decide +kernel
theorem dX8_removeLocator_84 : decode cX8_removeLocator 84 = .ok (.iastore, 1) := by decide +kernel
theorem dX8_removeLocator_85 : decode cX8_removeLocator 85 = .ok (.aload_n 0, 1) := by decide +kernel
theorem dX8_removeLocator_86 : decode cX8_removeLocator 86 = .ok (.iload_n 1, 1) := by decide +kernel
theorem dX8_removeLocator_87 : decode cX8_removeLocator 87 = .ok (.iload_n 2, 1) := by decide +kernel
theorem dX8_removeLocator_88 : decode cX8_removeLocator 88 = .ok (.invokevirtual 143, 3) := by decide +kernel
theorem dX8_removeLocator_91 : decode cX8_removeLocator 91 = .ok (.istore_n 3, 1) := by decide +kernel
theorem dX8_removeLocator_92 : decode cX8_removeLocator 92 = .ok (.iload_n 3, 1) := by decide +kernel
theorem dX8_removeLocator_93 : decode cX8_removeLocator 93 = .ok (.iconst 4, 1) := by decide +kernel
theorem dX8_removeLocator_94 : decode cX8_removeLocator 94 = .ok (.iload_n 1, 1) := by decide +kernel
theorem dX8_removeLocator_95 : decode cX8_removeLocator 95 = .ok (.imul, 1) := by decide +kernel
theorem dX8_removeLocator_96 : decode cX8_removeLocator 96 = .ok (.aload_n 0, 1) := by decide +kernel
theorem dX8_removeLocator_97 : decode cX8_removeLocator 97 = .ok (.getfield 30, 3) := by decide +kernel
theorem dX8_removeLocator_100 : decode cX8_removeLocator 100 = .ok (.iload_n 1, 1) := by decide +kernel
theorem dX8_removeLocator_101 : decode cX8_removeLocator 101 = .ok (.iaload, 1) := by decide +kernel
theorem dX8_removeLocator_102 : decode cX8_removeLocator 102 = .ok (.iadd, 1) := by decide +kernel
theorem dX8_removeLocator_103 : decode cX8_removeLocator 103 = .ok (.if_icmp .ge 51, 3) := by decide +kernel
theorem dX8_removeLocator_106 : decode cX8_removeLocator 106 = .ok (.aload_n 0, 1) := by decide +kernel
theorem dX8_removeLocator_107 : decode cX8_removeLocator 107 = .ok (.getfield 33, 3) := by decide +kernel
theorem dX8_removeLocator_110 : decode cX8_removeLocator 110 = .ok (.iload_n 3, 1) := by decide +kernel
theorem dX8_removeLocator_111 : decode cX8_removeLocator 111 = .ok (.aload_n 0, 1) := by decide +kernel
theorem dX8_removeLocator_112 : decode cX8_removeLocator 112 = .ok (.getfield 33, 3) := by decide +kernel
theorem dX8_removeLocator_115 : decode cX8_removeLocator 115 = .ok (.iload_n 3, 1) := by decide +kernel
theorem dX8_removeLocator_116 : decode cX8_removeLocator 116 = .ok (.iconst 1, 1) := by decide +kernel
theorem dX8_removeLocator_117 : decode cX8_removeLocator 117 = .ok (.iadd, 1) := by decide +kernel
theorem dX8_removeLocator_118 : decode cX8_removeLocator 118 = .ok (.iaload, 1) := by decide +kernel
theorem dX8_removeLocator_119 : decode cX8_removeLocator 119 = .ok (.iastore, 1) := by decide +kernel
theorem dX8_removeLocator_120 : decode cX8_removeLocator 120 = .ok (.aload_n 0, 1) := by decide +kernel
theorem dX8_removeLocator_121 : decode cX8_removeLocator 121 = .ok (.getfield 36, 3) := by decide +kernel
theorem dX8_removeLocator_124 : decode cX8_removeLocator 124 = .ok (.iload_n 3, 1) := by decide +kernel
theorem dX8_removeLocator_125 : decode cX8_removeLocator 125 = .ok (.aload_n 0, 1) := by decide +kernel
theorem dX8_removeLocator_126 : decode cX8_removeLocator 126 = .ok (.getfield 36, 3) := by decide +kernel
theorem dX8_removeLocator_129 : decode cX8_removeLocator 129 = .ok (.iload_n 3, 1) := by decide +kernel
theorem dX8_removeLocator_130 : decode cX8_removeLocator 130 = .ok (.iconst 1, 1) := by decide +kernel
theorem dX8_removeLocator_131 : decode cX8_removeLocator 131 = .ok (.iadd, 1) := by decide +kernel
theorem dX8_removeLocator_132 : decode cX8_removeLocator 132 = .ok (.iaload, 1) := by decide +kernel
theorem dX8_removeLocator_133 : decode cX8_removeLocator 133 = .ok (.iastore, 1) := by decide +kernel
theorem dX8_removeLocator_134 : decode cX8_removeLocator 134 = .ok (.aload_n 0, 1) := by decide +kernel
theorem dX8_removeLocator_135 : decode cX8_removeLocator 135 = .ok (.getfield 39, 3) := by decide +kernel
theorem dX8_removeLocator_138 : decode cX8_removeLocator 138 = .ok (.iload_n 3, 1) := by decide +kernel
theorem dX8_removeLocator_139 : decode cX8_removeLocator 139 = .ok (.aload_n 0, 1) := by decide +kernel
theorem dX8_removeLocator_140 : decode cX8_removeLocator 140 = .ok (.getfield 39, 3) := by decide +kernel
theorem dX8_removeLocator_143 : decode cX8_removeLocator 143 = .ok (.iload_n 3, 1) := by decide +kernel
theorem dX8_removeLocator_144 : decode cX8_removeLocator 144 = .ok (.iconst 1, 1) := by decide +kernel
theorem dX8_removeLocator_145 : decode cX8_removeLocator 145 = .ok (.iadd, 1) := by decide +kernel
theorem dX8_removeLocator_146 : decode cX8_removeLocator 146 = .ok (.iaload, 1) := by decide +kernel
theorem dX8_removeLocator_147 : decode cX8_removeLocator 147 = .ok (.iastore, 1) := by decide +kernel
theorem dX8_removeLocator_148 : decode cX8_removeLocator 148 = .ok (.iinc 3 1, 3) := by decide +kernel
theorem dX8_removeLocator_151 : decode cX8_removeLocator 151 = .ok (.goto (-59), 3) := by decide +kernel
theorem dX8_removeLocator_154 : decode cX8_removeLocator 154 = .ok (.aload_n 0, 1) := by decide +kernel
theorem dX8_removeLocator_155 : decode cX8_removeLocator 155 = .ok (.iload_n 1, 1) := by decide +kernel
theorem dX8_removeLocator_156 : decode cX8_removeLocator 156 = .ok (.invokevirtual 139, 3) := by decide +kernel
theorem dX8_removeLocator_159 : decode cX8_removeLocator 159 = .ok (.ireturn, 1) := by decide +kernel
theorem dX8_placeAmong_0 : decode cX8_placeAmong 0 = .ok (.iconst 4, 1) := by decide +kernel
theorem dX8_placeAmong_1 : decode cX8_placeAmong 1 = .ok (.iload_n 1, 1) := by decide +kernel
theorem dX8_placeAmong_2 : decode cX8_placeAmong 2 = .ok (.imul, 1) := by decide +kernel
theorem dX8_placeAmong_3 : decode cX8_placeAmong 3 = .ok (.istore_n 3, 1) := by decide +kernel
theorem dX8_placeAmong_4 : decode cX8_placeAmong 4 = .ok (.aload_n 0, 1) := by decide +kernel
theorem dX8_placeAmong_5 : decode cX8_placeAmong 5 = .ok (.getfield 33, 3) := by decide +kernel
theorem dX8_placeAmong_8 : decode cX8_placeAmong 8 = .ok (.iload_n 3, 1) := by decide +kernel
theorem dX8_placeAmong_9 : decode cX8_placeAmong 9 = .ok (.iaload, 1) := by decide +kernel
theorem dX8_placeAmong_10 : decode cX8_placeAmong 10 = .ok (.iload_n 2, 1) := by decide +kernel
theorem dX8_placeAmong_11 : decode cX8_placeAmong 11 = .ok (.if_icmp .eq 9, 3) := by decide +kernel
theorem dX8_placeAmong_14 : decode cX8_placeAmong 14 = .ok (.iinc 3 1, 3) := by decide +kernel
theorem dX8_placeAmong_17 : decode cX8_placeAmong 17 = .ok (.goto (-13), 3) := by decide +kernel
theorem dX8_placeAmong_20 : decode cX8_placeAmong 20 = .ok (.iload_n 3, 1) := by decide +kernel
theorem dX8_placeAmong_21 : decode cX8_placeAmong 21 = .ok (.ireturn, 1) := by decide +kernel
theorem dX8_mappingFor_0 : decode cX8_mappingFor 0 = .ok (.iconst (-1), 1) := by decide +kernel
theorem dX8_mappingFor_1 : decode cX8_mappingFor 1 = .ok (.istore_n 2, 1) := by decide +kernel
theorem dX8_mappingFor_2 : decode cX8_mappingFor 2 = .ok (.iconst 0, 1) := by decide +kernel
theorem dX8_mappingFor_3 : decode cX8_mappingFor 3 = .ok (.istore_n 3, 1) := by decide +kernel
theorem dX8_mappingFor_4 : decode cX8_mappingFor 4 = .ok (.iload_n 3, 1) := by decide +kernel
theorem dX8_mappingFor_5 : decode cX8_mappingFor 5 = .ok (.aload_n 0, 1) := by decide +kernel
theorem dX8_mappingFor_6 : decode cX8_mappingFor 6 = .ok (.getfield 115, 3) := by decide +kernel
theorem dX8_mappingFor_9 : decode cX8_mappingFor 9 = .ok (.if_icmp .ge 75, 3) := by decide +kernel
theorem dX8_mappingFor_12 : decode cX8_mappingFor 12 = .ok (.aload_n 0, 1) := by decide +kernel
theorem dX8_mappingFor_13 : decode cX8_mappingFor 13 = .ok (.getfield 23, 3) := by decide +kernel
theorem dX8_mappingFor_16 : decode cX8_mappingFor 16 = .ok (.iload_n 3, 1) := by decide +kernel
theorem dX8_mappingFor_17 : decode cX8_mappingFor 17 = .ok (.baload, 1) := by decide +kernel
theorem dX8_mappingFor_18 : decode cX8_mappingFor 18 = .ok (.ifCond .ne 26, 3) := by decide +kernel
theorem dX8_mappingFor_21 : decode cX8_mappingFor 21 = .ok (.aload_n 0, 1) := by decide +kernel
theorem dX8_mappingFor_22 : decode cX8_mappingFor 22 = .ok (.getfield 16, 3) := by decide +kernel
theorem dX8_mappingFor_25 : decode cX8_mappingFor 25 = .ok (.iload_n 3, 1) := by decide +kernel
theorem dX8_mappingFor_26 : decode cX8_mappingFor 26 = .ok (.iaload, 1) := by decide +kernel
theorem dX8_mappingFor_27 : decode cX8_mappingFor 27 = .ok (.aload_n 0, 1) := by decide +kernel
theorem dX8_mappingFor_28 : decode cX8_mappingFor 28 = .ok (.getfield 20, 3) := by decide +kernel
theorem dX8_mappingFor_31 : decode cX8_mappingFor 31 = .ok (.iload_n 3, 1) := by decide +kernel
theorem dX8_mappingFor_32 : decode cX8_mappingFor 32 = .ok (.iaload, 1) := by decide +kernel
theorem dX8_mappingFor_33 : decode cX8_mappingFor 33 = .ok (.iload_n 1, 1) := by decide +kernel
theorem dX8_mappingFor_34 : decode cX8_mappingFor 34 = .ok (.invokestatic 146, 3) := by decide +kernel
theorem dX8_mappingFor_37 : decode cX8_mappingFor 37 = .ok (.ifCond .eq 7, 3) := by decide +kernel
theorem dX8_mappingFor_40 : decode cX8_mappingFor 40 = .ok (.iconst 1, 1) := by decide +kernel
theorem dX8_mappingFor_41 : decode cX8_mappingFor 41 = .ok (.goto 4, 3) := by decide +kernel
theorem dX8_mappingFor_44 : decode cX8_mappingFor 44 = .ok (.iconst 0, 1) := by decide +kernel
theorem dX8_mappingFor_45 : decode cX8_mappingFor 45 = .ok (.istore 4, 2) := by decide +kernel
theorem dX8_mappingFor_47 : decode cX8_mappingFor 47 = .ok (.iload 4, 2) := by decide +kernel
theorem dX8_mappingFor_49 : decode cX8_mappingFor 49 = .ok (.ifCond .eq 27, 3) := by decide +kernel
theorem dX8_mappingFor_52 : decode cX8_mappingFor 52 = .ok (.iload_n 2, 1) := by decide +kernel
theorem dX8_mappingFor_53 : decode cX8_mappingFor 53 = .ok (.iconst (-1), 1) := by decide +kernel
theorem dX8_mappingFor_54 : decode cX8_mappingFor 54 = .ok (.if_icmp .eq 18, 3) := by decide +kernel
theorem dX8_mappingFor_57 : decode cX8_mappingFor 57 = .ok (.aload_n 0, 1) := by decide +kernel
theorem dX8_mappingFor_58 : decode cX8_mappingFor 58 = .ok (.getfield 20, 3) := by decide +kernel
theorem dX8_mappingFor_61 : decode cX8_mappingFor 61 = .ok (.iload_n 3, 1) := by decide +kernel
theorem dX8_mappingFor_62 : decode cX8_mappingFor 62 = .ok (.iaload, 1) := by decide +kernel
theorem dX8_mappingFor_63 : decode cX8_mappingFor 63 = .ok (.aload_n 0, 1) := by decide +kernel
theorem dX8_mappingFor_64 : decode cX8_mappingFor 64 = .ok (.getfield 20, 3) := by decide +kernel
theorem dX8_mappingFor_67 : decode cX8_mappingFor 67 = .ok (.iload_n 2, 1) := by decide +kernel
theorem dX8_mappingFor_68 : decode cX8_mappingFor 68 = .ok (.iaload, 1) := by decide +kernel
theorem dX8_mappingFor_69 : decode cX8_mappingFor 69 = .ok (.if_icmp .le 7, 3) := by decide +kernel
theorem dX8_mappingFor_72 : decode cX8_mappingFor 72 = .ok (.iload_n 3, 1) := by decide +kernel
theorem dX8_mappingFor_73 : decode cX8_mappingFor 73 = .ok (.goto 4, 3) := by decide +kernel
theorem dX8_mappingFor_76 : decode cX8_mappingFor 76 = .ok (.iload_n 2, 1) := by decide +kernel
theorem dX8_mappingFor_77 : decode cX8_mappingFor 77 = .ok (.istore_n 2, 1) := by decide +kernel
theorem dX8_mappingFor_78 : decode cX8_mappingFor 78 = .ok (.iinc 3 1, 3) := by decide +kernel
theorem dX8_mappingFor_81 : decode cX8_mappingFor 81 = .ok (.goto (-77), 3) := by decide +kernel
theorem dX8_mappingFor_84 : decode cX8_mappingFor 84 = .ok (.iload_n 2, 1) := by decide +kernel
theorem dX8_mappingFor_85 : decode cX8_mappingFor 85 = .ok (.ireturn, 1) := by decide +kernel
theorem dX8_mappingOf_0 : decode cX8_mappingOf 0 = .ok (.aload_n 0, 1) := by decide +kernel
theorem dX8_mappingOf_1 : decode cX8_mappingOf 1 = .ok (.iload_n 1, 1) := by decide +kernel
theorem dX8_mappingOf_2 : decode cX8_mappingOf 2 = .ok (.invokestatic 107, 3) := by decide +kernel
theorem dX8_mappingOf_5 : decode cX8_mappingOf 5 = .ok (.ifCond .eq 7, 3) := by decide +kernel
theorem dX8_mappingOf_8 : decode cX8_mappingOf 8 = .ok (.iconst 0, 1) := by decide +kernel
theorem dX8_mappingOf_9 : decode cX8_mappingOf 9 = .ok (.goto 4, 3) := by decide +kernel
theorem dX8_mappingOf_12 : decode cX8_mappingOf 12 = .ok (.iconst 1, 1) := by decide +kernel
theorem dX8_mappingOf_13 : decode cX8_mappingOf 13 = .ok (.putfield 99, 3) := by decide +kernel
theorem dX8_mappingOf_16 : decode cX8_mappingOf 16 = .ok (.aload_n 0, 1) := by decide +kernel
theorem dX8_mappingOf_17 : decode cX8_mappingOf 17 = .ok (.getfield 99, 3) := by decide +kernel
theorem dX8_mappingOf_20 : decode cX8_mappingOf 20 = .ok (.ifCond .le 7, 3) := by decide +kernel
theorem dX8_mappingOf_23 : decode cX8_mappingOf 23 = .ok (.iconst (-1), 1) := by decide +kernel
theorem dX8_mappingOf_24 : decode cX8_mappingOf 24 = .ok (.goto 8, 3) := by decide +kernel
theorem dX8_mappingOf_27 : decode cX8_mappingOf 27 = .ok (.aload_n 0, 1) := by decide +kernel
theorem dX8_mappingOf_28 : decode cX8_mappingOf 28 = .ok (.iload_n 1, 1) := by decide +kernel
theorem dX8_mappingOf_29 : decode cX8_mappingOf 29 = .ok (.invokevirtual 149, 3) := by decide +kernel
theorem dX8_mappingOf_32 : decode cX8_mappingOf 32 = .ok (.ireturn, 1) := by decide +kernel
theorem dX8_isHiding_0 : decode cX8_isHiding 0 = .ok (.iconst 0, 1) := by decide +kernel
theorem dX8_isHiding_1 : decode cX8_isHiding 1 = .ok (.istore 4, 2) := by decide +kernel
theorem dX8_isHiding_3 : decode cX8_isHiding 3 = .ok (.iconst 0, 1) := by decide +kernel
theorem dX8_isHiding_4 : decode cX8_isHiding 4 = .ok (.istore 5, 2) := by decide +kernel
theorem dX8_isHiding_6 : decode cX8_isHiding 6 = .ok (.iload 5, 2) := by decide +kernel
theorem dX8_isHiding_8 : decode cX8_isHiding 8 = .ok (.aload_n 0, 1) := by decide +kernel
theorem dX8_isHiding_9 : decode cX8_isHiding 9 = .ok (.getfield 115, 3) := by decide +kernel
theorem dX8_isHiding_12 : decode cX8_isHiding 12 = .ok (.if_icmp .ge 117, 3) := by decide +kernel
theorem dX8_isHiding_15 : decode cX8_isHiding 15 = .ok (.aload_n 0, 1) := by decide +kernel
theorem dX8_isHiding_16 : decode cX8_isHiding 16 = .ok (.getfield 23, 3) := by decide +kernel
theorem dX8_isHiding_19 : decode cX8_isHiding 19 = .ok (.iload 5, 2) := by decide +kernel
theorem dX8_isHiding_21 : decode cX8_isHiding 21 = .ok (.baload, 1) := by decide +kernel
theorem dX8_isHiding_22 : decode cX8_isHiding 22 = .ok (.ifCond .ne 59, 3) := by decide +kernel
theorem dX8_isHiding_25 : decode cX8_isHiding 25 = .ok (.iload 5, 2) := by decide +kernel
theorem dX8_isHiding_27 : decode cX8_isHiding 27 = .ok (.iload_n 3, 1) := by decide +kernel
theorem dX8_isHiding_28 : decode cX8_isHiding 28 = .ok (.if_icmp .eq 53, 3) := by decide +kernel
theorem dX8_isHiding_31 : decode cX8_isHiding 31 = .ok (.iload_n 3, 1) := by decide +kernel
theorem dX8_isHiding_32 : decode cX8_isHiding 32 = .ok (.iconst (-1), 1) := by decide +kernel
theorem dX8_isHiding_33 : decode cX8_isHiding 33 = .ok (.if_icmp .eq 44, 3) := by decide +kernel
theorem dX8_isHiding_36 : decode cX8_isHiding 36 = .ok (.aload_n 0, 1) := by decide +kernel
theorem dX8_isHiding_37 : decode cX8_isHiding 37 = .ok (.getfield 20, 3) := by decide +kernel
theorem dX8_isHiding_40 : decode cX8_isHiding 40 = .ok (.iload 5, 2) := by decide +kernel
theorem dX8_isHiding_42 : decode cX8_isHiding 42 = .ok (.iaload, 1) := by decide +kernel
theorem dX8_isHiding_43 : decode cX8_isHiding 43 = .ok (.aload_n 0, 1) := by decide +kernel
theorem dX8_isHiding_44 : decode cX8_isHiding 44 = .ok (.getfield 20, 3) := by decide +kernel
theorem dX8_isHiding_47 : decode cX8_isHiding 47 = .ok (.iload_n 3, 1) := by decide +kernel
theorem dX8_isHiding_48 : decode cX8_isHiding 48 = .ok (.iaload, 1) := by decide +kernel
theorem dX8_isHiding_49 : decode cX8_isHiding 49 = .ok (.if_icmp .lt 32, 3) := by decide +kernel
theorem dX8_isHiding_52 : decode cX8_isHiding 52 = .ok (.aload_n 0, 1) := by decide +kernel
theorem dX8_isHiding_53 : decode cX8_isHiding 53 = .ok (.getfield 16, 3) := by decide +kernel
theorem dX8_isHiding_56 : decode cX8_isHiding 56 = .ok (.iload_n 3, 1) := by decide +kernel
theorem dX8_isHiding_57 : decode cX8_isHiding 57 = .ok (.iaload, 1) := by decide +kernel
theorem dX8_isHiding_58 : decode cX8_isHiding 58 = .ok (.aload_n 0, 1) := by decide +kernel
theorem dX8_isHiding_59 : decode cX8_isHiding 59 = .ok (.getfield 20, 3) := by decide +kernel
theorem dX8_isHiding_62 : decode cX8_isHiding 62 = .ok (.iload_n 3, 1) := by decide +kernel
theorem dX8_isHiding_63 : decode cX8_isHiding 63 = .ok (.iaload, 1) := by decide +kernel
theorem dX8_isHiding_64 : decode cX8_isHiding 64 = .ok (.aload_n 0, 1) := by decide +kernel
theorem dX8_isHiding_65 : decode cX8_isHiding 65 = .ok (.getfield 16, 3) := by decide +kernel
theorem dX8_isHiding_68 : decode cX8_isHiding 68 = .ok (.iload 5, 2) := by decide +kernel
theorem dX8_isHiding_70 : decode cX8_isHiding 70 = .ok (.iaload, 1) := by decide +kernel
theorem dX8_isHiding_71 : decode cX8_isHiding 71 = .ok (.invokestatic 146, 3) := by decide +kernel
theorem dX8_isHiding_74 : decode cX8_isHiding 74 = .ok (.ifCond .eq 7, 3) := by decide +kernel
theorem dX8_isHiding_77 : decode cX8_isHiding 77 = .ok (.iconst 1, 1) := by decide +kernel
theorem dX8_isHiding_78 : decode cX8_isHiding 78 = .ok (.goto 4, 3) := by decide +kernel
theorem dX8_isHiding_81 : decode cX8_isHiding 81 = .ok (.iconst 0, 1) := by decide +kernel
theorem dX8_isHiding_82 : decode cX8_isHiding 82 = .ok (.istore 6, 2) := by decide +kernel
theorem dX8_isHiding_84 : decode cX8_isHiding 84 = .ok (.iload 4, 2) := by decide +kernel
theorem dX8_isHiding_86 : decode cX8_isHiding 86 = .ok (.ifCond .ne 30, 3) := by decide +kernel
theorem dX8_isHiding_89 : decode cX8_isHiding 89 = .ok (.iload 6, 2) := by decide +kernel
theorem dX8_isHiding_91 : decode cX8_isHiding 91 = .ok (.ifCond .eq 29, 3) := by decide +kernel
theorem dX8_isHiding_94 : decode cX8_isHiding 94 = .ok (.iload_n 1, 1) := by decide +kernel
theorem dX8_isHiding_95 : decode cX8_isHiding 95 = .ok (.iload_n 2, 1) := by decide +kernel
theorem dX8_isHiding_96 : decode cX8_isHiding 96 = .ok (.aload_n 0, 1) := by decide +kernel
theorem dX8_isHiding_97 : decode cX8_isHiding 97 = .ok (.getfield 16, 3) := by decide +kernel
theorem dX8_isHiding_100 : decode cX8_isHiding 100 = .ok (.iload 5, 2) := by decide +kernel
theorem dX8_isHiding_102 : decode cX8_isHiding 102 = .ok (.iaload, 1) := by decide +kernel
theorem dX8_isHiding_103 : decode cX8_isHiding 103 = .ok (.aload_n 0, 1) := by decide +kernel
theorem dX8_isHiding_104 : decode cX8_isHiding 104 = .ok (.getfield 20, 3) := by decide +kernel
theorem dX8_isHiding_107 : decode cX8_isHiding 107 = .ok (.iload 5, 2) := by decide +kernel
theorem dX8_isHiding_109 : decode cX8_isHiding 109 = .ok (.iaload, 1) := by decide +kernel
theorem dX8_isHiding_110 : decode cX8_isHiding 110 = .ok (.invokestatic 118, 3) := by decide +kernel
theorem dX8_isHiding_113 : decode cX8_isHiding 113 = .ok (.ifCond .eq 7, 3) := by decide +kernel
theorem dX8_isHiding_116 : decode cX8_isHiding 116 = .ok (.iconst 1, 1) := by decide +kernel
theorem dX8_isHiding_117 : decode cX8_isHiding 117 = .ok (.goto 4, 3) := by decide +kernel
theorem dX8_isHiding_120 : decode cX8_isHiding 120 = .ok (.iconst 0, 1) := by decide +kernel
theorem dX8_isHiding_121 : decode cX8_isHiding 121 = .ok (.istore 4, 2) := by decide +kernel
theorem dX8_isHiding_123 : decode cX8_isHiding 123 = .ok (.iinc 5 1, 3) := by decide +kernel
theorem dX8_isHiding_126 : decode cX8_isHiding 126 = .ok (.goto (-120), 3) := by decide +kernel
theorem dX8_isHiding_129 : decode cX8_isHiding 129 = .ok (.iload 4, 2) := by decide +kernel
theorem dX8_isHiding_131 : decode cX8_isHiding 131 = .ok (.ireturn, 1) := by decide +kernel
theorem dX8_bitsFor_0 : decode cX8_bitsFor 0 = .ok (.iload_n 2, 1) := by decide +kernel
theorem dX8_bitsFor_1 : decode cX8_bitsFor 1 = .ok (.iconst (-1), 1) := by decide +kernel
theorem dX8_bitsFor_2 : decode cX8_bitsFor 2 = .ok (.if_icmp .ne 7, 3) := by decide +kernel
theorem dX8_bitsFor_5 : decode cX8_bitsFor 5 = .ok (.iconst 0, 1) := by decide +kernel
theorem dX8_bitsFor_6 : decode cX8_bitsFor 6 = .ok (.goto 9, 3) := by decide +kernel
theorem dX8_bitsFor_9 : decode cX8_bitsFor 9 = .ok (.aload_n 0, 1) := by decide +kernel
theorem dX8_bitsFor_10 : decode cX8_bitsFor 10 = .ok (.getfield 20, 3) := by decide +kernel
theorem dX8_bitsFor_13 : decode cX8_bitsFor 13 = .ok (.iload_n 2, 1) := by decide +kernel
theorem dX8_bitsFor_14 : decode cX8_bitsFor 14 = .ok (.iaload, 1) := by decide +kernel
theorem dX8_bitsFor_15 : decode cX8_bitsFor 15 = .ok (.istore_n 3, 1) := by decide +kernel
theorem dX8_bitsFor_16 : decode cX8_bitsFor 16 = .ok (.aload_n 0, 1) := by decide +kernel
theorem dX8_bitsFor_17 : decode cX8_bitsFor 17 = .ok (.iload_n 1, 1) := by decide +kernel
theorem dX8_bitsFor_18 : decode cX8_bitsFor 18 = .ok (.iload_n 3, 1) := by decide +kernel
theorem dX8_bitsFor_19 : decode cX8_bitsFor 19 = .ok (.iload_n 2, 1) := by decide +kernel
theorem dX8_bitsFor_20 : decode cX8_bitsFor 20 = .ok (.invokevirtual 152, 3) := by decide +kernel
theorem dX8_bitsFor_23 : decode cX8_bitsFor 23 = .ok (.ifCond .eq 9, 3) := by decide +kernel
theorem dX8_bitsFor_26 : decode cX8_bitsFor 26 = .ok (.iinc 3 1, 3) := by decide +kernel
theorem dX8_bitsFor_29 : decode cX8_bitsFor 29 = .ok (.goto (-13), 3) := by decide +kernel
theorem dX8_bitsFor_32 : decode cX8_bitsFor 32 = .ok (.iload_n 3, 1) := by decide +kernel
theorem dX8_bitsFor_33 : decode cX8_bitsFor 33 = .ok (.ireturn, 1) := by decide +kernel
theorem dX8_answerLength_0 : decode cX8_answerLength 0 = .ok (.aload_n 0, 1) := by decide +kernel
theorem dX8_answerLength_1 : decode cX8_answerLength 1 = .ok (.iload_n 1, 1) := by decide +kernel
theorem dX8_answerLength_2 : decode cX8_answerLength 2 = .ok (.invokestatic 107, 3) := by decide +kernel
theorem dX8_answerLength_5 : decode cX8_answerLength 5 = .ok (.ifCond .eq 7, 3) := by decide +kernel
theorem dX8_answerLength_8 : decode cX8_answerLength 8 = .ok (.iconst 0, 1) := by decide +kernel
theorem dX8_answerLength_9 : decode cX8_answerLength 9 = .ok (.goto 4, 3) := by decide +kernel
theorem dX8_answerLength_12 : decode cX8_answerLength 12 = .ok (.iconst 1, 1) := by decide +kernel
theorem dX8_answerLength_13 : decode cX8_answerLength 13 = .ok (.putfield 99, 3) := by decide +kernel
theorem dX8_answerLength_16 : decode cX8_answerLength 16 = .ok (.aload_n 0, 1) := by decide +kernel
theorem dX8_answerLength_17 : decode cX8_answerLength 17 = .ok (.getfield 99, 3) := by decide +kernel
theorem dX8_answerLength_20 : decode cX8_answerLength 20 = .ok (.ifCond .le 5, 3) := by decide +kernel
theorem dX8_answerLength_23 : decode cX8_answerLength 23 = .ok (.iconst 0, 1) := by decide +kernel
theorem dX8_answerLength_24 : decode cX8_answerLength 24 = .ok (.ireturn, 1) := by decide +kernel
theorem dX8_answerLength_25 : decode cX8_answerLength 25 = .ok (.aload_n 0, 1) := by decide +kernel
theorem dX8_answerLength_26 : decode cX8_answerLength 26 = .ok (.iload_n 1, 1) := by decide +kernel
theorem dX8_answerLength_27 : decode cX8_answerLength 27 = .ok (.invokevirtual 149, 3) := by decide +kernel
theorem dX8_answerLength_30 : decode cX8_answerLength 30 = .ok (.istore_n 2, 1) := by decide +kernel
theorem dX8_answerLength_31 : decode cX8_answerLength 31 = .ok (.aload_n 0, 1) := by decide +kernel
theorem dX8_answerLength_32 : decode cX8_answerLength 32 = .ok (.iload_n 1, 1) := by decide +kernel
theorem dX8_answerLength_33 : decode cX8_answerLength 33 = .ok (.iload_n 2, 1) := by decide +kernel
theorem dX8_answerLength_34 : decode cX8_answerLength 34 = .ok (.invokevirtual 155, 3) := by decide +kernel
theorem dX8_answerLength_37 : decode cX8_answerLength 37 = .ok (.iload_n 2, 1) := by decide +kernel
theorem dX8_answerLength_38 : decode cX8_answerLength 38 = .ok (.iconst (-1), 1) := by decide +kernel
theorem dX8_answerLength_39 : decode cX8_answerLength 39 = .ok (.if_icmp .ne 8, 3) := by decide +kernel
theorem dX8_answerLength_42 : decode cX8_answerLength 42 = .ok (.bipush 17, 2) := by decide +kernel
theorem dX8_answerLength_44 : decode cX8_answerLength 44 = .ok (.goto 4, 3) := by decide +kernel
theorem dX8_answerLength_47 : decode cX8_answerLength 47 = .ok (.iconst 0, 1) := by decide +kernel
theorem dX8_answerLength_48 : decode cX8_answerLength 48 = .ok (.iadd, 1) := by decide +kernel
theorem dX8_answerLength_49 : decode cX8_answerLength 49 = .ok (.ireturn, 1) := by decide +kernel
theorem dX8_version_0 : decode cX8_version 0 = .ok (.aload_n 0, 1) := by decide +kernel
theorem dX8_version_1 : decode cX8_version 1 = .ok (.aload_n 0, 1) := by decide +kernel
theorem dX8_version_2 : decode cX8_version 2 = .ok (.iload_n 1, 1) := by decide +kernel
theorem dX8_version_3 : decode cX8_version 3 = .ok (.invokevirtual 133, 3) := by decide +kernel
theorem dX8_version_6 : decode cX8_version 6 = .ok (.ifCond .eq 7, 3) := by decide +kernel
theorem dX8_version_9 : decode cX8_version 9 = .ok (.iconst 0, 1) := by decide +kernel
theorem dX8_version_10 : decode cX8_version 10 = .ok (.goto 4, 3) := by decide +kernel
theorem dX8_version_13 : decode cX8_version 13 = .ok (.iconst 1, 1) := by decide +kernel
theorem dX8_version_14 : decode cX8_version 14 = .ok (.putfield 99, 3) := by decide +kernel
theorem dX8_version_17 : decode cX8_version 17 = .ok (.aload_n 0, 1) := by decide +kernel
theorem dX8_version_18 : decode cX8_version 18 = .ok (.getfield 99, 3) := by decide +kernel
theorem dX8_version_21 : decode cX8_version 21 = .ok (.ifCond .le 7, 3) := by decide +kernel
theorem dX8_version_24 : decode cX8_version 24 = .ok (.iconst 0, 1) := by decide +kernel
theorem dX8_version_25 : decode cX8_version 25 = .ok (.goto 22, 3) := by decide +kernel
theorem dX8_version_28 : decode cX8_version 28 = .ok (.aload_n 0, 1) := by decide +kernel
theorem dX8_version_29 : decode cX8_version 29 = .ok (.getfield 23, 3) := by decide +kernel
theorem dX8_version_32 : decode cX8_version 32 = .ok (.iload_n 1, 1) := by decide +kernel
theorem dX8_version_33 : decode cX8_version 33 = .ok (.baload, 1) := by decide +kernel
theorem dX8_version_34 : decode cX8_version 34 = .ok (.ifCond .eq 7, 3) := by decide +kernel
theorem dX8_version_37 : decode cX8_version 37 = .ok (.iconst (-1), 1) := by decide +kernel
theorem dX8_version_38 : decode cX8_version 38 = .ok (.goto 9, 3) := by decide +kernel
theorem dX8_version_41 : decode cX8_version 41 = .ok (.aload_n 0, 1) := by decide +kernel
theorem dX8_version_42 : decode cX8_version 42 = .ok (.getfield 27, 3) := by decide +kernel
theorem dX8_version_45 : decode cX8_version 45 = .ok (.iload_n 1, 1) := by decide +kernel
theorem dX8_version_46 : decode cX8_version 46 = .ok (.iaload, 1) := by decide +kernel
theorem dX8_version_47 : decode cX8_version 47 = .ok (.ireturn, 1) := by decide +kernel
theorem dX8_isServer_0 : decode cX8_isServer 0 = .ok (.iload_n 0, 1) := by decide +kernel
theorem dX8_isServer_1 : decode cX8_isServer 1 = .ok (.iconst 0, 1) := by decide +kernel
theorem dX8_isServer_2 : decode cX8_isServer 2 = .ok (.iconst 3, 1) := by decide +kernel
theorem dX8_isServer_3 : decode cX8_isServer 3 = .ok (.invokestatic 103, 3) := by decide +kernel
theorem dX8_isServer_6 : decode cX8_isServer 6 = .ok (.ireturn, 1) := by decide +kernel
theorem dX8_delegate_0 : decode cX8_delegate 0 = .ok (.aload_n 0, 1) := by decide +kernel
theorem dX8_delegate_1 : decode cX8_delegate 1 = .ok (.iload_n 3, 1) := by decide +kernel
theorem dX8_delegate_2 : decode cX8_delegate 2 = .ok (.invokestatic 158, 3) := by decide +kernel
theorem dX8_delegate_5 : decode cX8_delegate 5 = .ok (.ifCond .ne 7, 3) := by decide +kernel
theorem dX8_delegate_8 : decode cX8_delegate 8 = .ok (.iconst 1, 1) := by decide +kernel
theorem dX8_delegate_9 : decode cX8_delegate 9 = .ok (.goto 16, 3) := by decide +kernel
theorem dX8_delegate_12 : decode cX8_delegate 12 = .ok (.iload_n 1, 1) := by decide +kernel
theorem dX8_delegate_13 : decode cX8_delegate 13 = .ok (.iload_n 2, 1) := by decide +kernel
theorem dX8_delegate_14 : decode cX8_delegate 14 = .ok (.invokestatic 125, 3) := by decide +kernel
theorem dX8_delegate_17 : decode cX8_delegate 17 = .ok (.ifCond .eq 7, 3) := by decide +kernel
theorem dX8_delegate_20 : decode cX8_delegate 20 = .ok (.iconst 0, 1) := by decide +kernel
theorem dX8_delegate_21 : decode cX8_delegate 21 = .ok (.goto 4, 3) := by decide +kernel
theorem dX8_delegate_24 : decode cX8_delegate 24 = .ok (.iconst 2, 1) := by decide +kernel
theorem dX8_delegate_25 : decode cX8_delegate 25 = .ok (.putfield 99, 3) := by decide +kernel
theorem dX8_delegate_28 : decode cX8_delegate 28 = .ok (.aload_n 0, 1) := by decide +kernel
theorem dX8_delegate_29 : decode cX8_delegate 29 = .ok (.getfield 99, 3) := by decide +kernel
theorem dX8_delegate_32 : decode cX8_delegate 32 = .ok (.ifCond .le 5, 3) := by decide +kernel
theorem dX8_delegate_35 : decode cX8_delegate 35 = .ok (.iconst 0, 1) := by decide +kernel
theorem dX8_delegate_36 : decode cX8_delegate 36 = .ok (.ireturn, 1) := by decide +kernel
theorem dX8_delegate_37 : decode cX8_delegate 37 = .ok (.aload_n 0, 1) := by decide +kernel
theorem dX8_delegate_38 : decode cX8_delegate 38 = .ok (.getfield 161, 3) := by decide +kernel
theorem dX8_delegate_41 : decode cX8_delegate 41 = .ok (.istore 4, 2) := by decide +kernel
theorem dX8_delegate_43 : decode cX8_delegate 43 = .ok (.iconst 0, 1) := by decide +kernel
theorem dX8_delegate_44 : decode cX8_delegate 44 = .ok (.istore 5, 2) := by decide +kernel
theorem dX8_delegate_46 : decode cX8_delegate 46 = .ok (.iload 5, 2) := by decide +kernel
theorem dX8_delegate_48 : decode cX8_delegate 48 = .ok (.aload_n 0, 1) := by decide +kernel
theorem dX8_delegate_49 : decode cX8_delegate 49 = .ok (.getfield 161, 3) := by decide +kernel
theorem dX8_delegate_52 : decode cX8_delegate 52 = .ok (.if_icmp .ge 40, 3) := by decide +kernel
theorem dX8_delegate_55 : decode cX8_delegate 55 = .ok (.aload_n 0, 1) := by decide +kernel
theorem dX8_delegate_56 : decode cX8_delegate 56 = .ok (.getfield 42, 3) := by decide +kernel
theorem dX8_delegate_59 : decode cX8_delegate 59 = .ok (.iload 5, 2) := by decide +kernel
theorem dX8_delegate_61 : decode cX8_delegate 61 = .ok (.iaload, 1) := by decide +kernel
theorem dX8_delegate_62 : decode cX8_delegate 62 = .ok (.iload_n 1, 1) := by decide +kernel
theorem dX8_delegate_63 : decode cX8_delegate 63 = .ok (.if_icmp .ne 19, 3) := by decide +kernel
theorem dX8_delegate_66 : decode cX8_delegate 66 = .ok (.aload_n 0, 1) := by decide +kernel
theorem dX8_delegate_67 : decode cX8_delegate 67 = .ok (.getfield 45, 3) := by decide +kernel
theorem dX8_delegate_70 : decode cX8_delegate 70 = .ok (.iload 5, 2) := by decide +kernel
theorem dX8_delegate_72 : decode cX8_delegate 72 = .ok (.iaload, 1) := by decide +kernel
theorem dX8_delegate_73 : decode cX8_delegate 73 = .ok (.iload_n 2, 1) := by decide +kernel
theorem dX8_delegate_74 : decode cX8_delegate 74 = .ok (.if_icmp .ne 8, 3) := by decide +kernel
theorem dX8_delegate_77 : decode cX8_delegate 77 = .ok (.iload 5, 2) := by decide +kernel
theorem dX8_delegate_79 : decode cX8_delegate 79 = .ok (.goto 5, 3) := by decide +kernel
theorem dX8_delegate_82 : decode cX8_delegate 82 = .ok (.iload 4, 2) := by decide +kernel
theorem dX8_delegate_84 : decode cX8_delegate 84 = .ok (.istore 4, 2) := by decide +kernel
theorem dX8_delegate_86 : decode cX8_delegate 86 = .ok (.iinc 5 1, 3) := by decide +kernel
theorem dX8_delegate_89 : decode cX8_delegate 89 = .ok (.goto (-43), 3) := by decide +kernel
theorem dX8_delegate_92 : decode cX8_delegate 92 = .ok (.aload_n 0, 1) := by decide +kernel
theorem dX8_delegate_93 : decode cX8_delegate 93 = .ok (.iload 4, 2) := by decide +kernel
theorem dX8_delegate_95 : decode cX8_delegate 95 = .ok (.bipush 12, 2) := by decide +kernel
theorem dX8_delegate_97 : decode cX8_delegate 97 = .ok (.if_icmp .ne 7, 3) := by decide +kernel
theorem dX8_delegate_100 : decode cX8_delegate 100 = .ok (.iconst 3, 1) := by decide +kernel
theorem dX8_delegate_101 : decode cX8_delegate 101 = .ok (.goto 4, 3) := by decide +kernel
theorem dX8_delegate_104 : decode cX8_delegate 104 = .ok (.iconst 0, 1) := by decide +kernel
theorem dX8_delegate_105 : decode cX8_delegate 105 = .ok (.putfield 99, 3) := by decide +kernel
theorem dX8_delegate_108 : decode cX8_delegate 108 = .ok (.aload_n 0, 1) := by decide +kernel
theorem dX8_delegate_109 : decode cX8_delegate 109 = .ok (.getfield 99, 3) := by decide +kernel
theorem dX8_delegate_112 : decode cX8_delegate 112 = .ok (.ifCond .le 5, 3) := by decide +kernel
theorem dX8_delegate_115 : decode cX8_delegate 115 = .ok (.iconst 0, 1) := by decide +kernel
theorem dX8_delegate_116 : decode cX8_delegate 116 = .ok (.ireturn, 1) := by decide +kernel
theorem dX8_delegate_117 : decode cX8_delegate 117 = .ok (.aload_n 0, 1) := by decide +kernel
theorem dX8_delegate_118 : decode cX8_delegate 118 = .ok (.getfield 42, 3) := by decide +kernel
theorem dX8_delegate_121 : decode cX8_delegate 121 = .ok (.iload 4, 2) := by decide +kernel
theorem dX8_delegate_123 : decode cX8_delegate 123 = .ok (.iload_n 1, 1) := by decide +kernel
theorem dX8_delegate_124 : decode cX8_delegate 124 = .ok (.iastore, 1) := by decide +kernel
theorem dX8_delegate_125 : decode cX8_delegate 125 = .ok (.aload_n 0, 1) := by decide +kernel
theorem dX8_delegate_126 : decode cX8_delegate 126 = .ok (.getfield 45, 3) := by decide +kernel
theorem dX8_delegate_129 : decode cX8_delegate 129 = .ok (.iload 4, 2) := by decide +kernel
theorem dX8_delegate_131 : decode cX8_delegate 131 = .ok (.iload_n 2, 1) := by decide +kernel
theorem dX8_delegate_132 : decode cX8_delegate 132 = .ok (.iastore, 1) := by decide +kernel
theorem dX8_delegate_133 : decode cX8_delegate 133 = .ok (.aload_n 0, 1) := by decide +kernel
theorem dX8_delegate_134 : decode cX8_delegate 134 = .ok (.getfield 48, 3) := by decide +kernel
theorem dX8_delegate_137 : decode cX8_delegate 137 = .ok (.iload 4, 2) := by decide +kernel
theorem dX8_delegate_139 : decode cX8_delegate 139 = .ok (.iload_n 3, 1) := by decide +kernel
theorem dX8_delegate_140 : decode cX8_delegate 140 = .ok (.iastore, 1) := by decide +kernel
theorem dX8_delegate_141 : decode cX8_delegate 141 = .ok (.aload_n 0, 1) := by decide +kernel
theorem dX8_delegate_142 : decode cX8_delegate 142 = .ok (.dup, 1) := by decide +kernel
theorem dX8_delegate_143 : decode cX8_delegate 143 = .ok (.getfield 161, 3) := by decide +kernel
theorem dX8_delegate_146 : decode cX8_delegate 146 = .ok (.iload 4, 2) := by decide +kernel
theorem dX8_delegate_148 : decode cX8_delegate 148 = .ok (.aload_n 0, 1) := by decide +kernel
theorem dX8_delegate_149 : decode cX8_delegate 149 = .ok (.getfield 161, 3) := by decide +kernel
theorem dX8_delegate_152 : decode cX8_delegate 152 = .ok (.if_icmp .ne 7, 3) := by decide +kernel
theorem dX8_delegate_155 : decode cX8_delegate 155 = .ok (.iconst 1, 1) := by decide +kernel
theorem dX8_delegate_156 : decode cX8_delegate 156 = .ok (.goto 4, 3) := by decide +kernel
theorem dX8_delegate_159 : decode cX8_delegate 159 = .ok (.iconst 0, 1) := by decide +kernel
theorem dX8_delegate_160 : decode cX8_delegate 160 = .ok (.iadd, 1) := by decide +kernel
theorem dX8_delegate_161 : decode cX8_delegate 161 = .ok (.putfield 161, 3) := by decide +kernel
theorem dX8_delegate_164 : decode cX8_delegate 164 = .ok (.aload_n 0, 1) := by decide +kernel
theorem dX8_delegate_165 : decode cX8_delegate 165 = .ok (.getfield 161, 3) := by decide +kernel
theorem dX8_delegate_168 : decode cX8_delegate 168 = .ok (.ireturn, 1) := by decide +kernel
theorem dX8_setUp_0 : decode cX8_setUp 0 = .ok (.aload_n 0, 1) := by decide +kernel
theorem dX8_setUp_1 : decode cX8_setUp 1 = .ok (.iload_n 1, 1) := by decide +kernel
theorem dX8_setUp_2 : decode cX8_setUp 2 = .ok (.invokestatic 158, 3) := by decide +kernel
theorem dX8_setUp_5 : decode cX8_setUp 5 = .ok (.ifCond .eq 7, 3) := by decide +kernel
theorem dX8_setUp_8 : decode cX8_setUp 8 = .ok (.iconst 0, 1) := by decide +kernel
theorem dX8_setUp_9 : decode cX8_setUp 9 = .ok (.goto 4, 3) := by decide +kernel
theorem dX8_setUp_12 : decode cX8_setUp 12 = .ok (.iconst 1, 1) := by decide +kernel
theorem dX8_setUp_13 : decode cX8_setUp 13 = .ok (.putfield 99, 3) := by decide +kernel
theorem dX8_setUp_16 : decode cX8_setUp 16 = .ok (.aload_n 0, 1) := by decide +kernel
theorem dX8_setUp_17 : decode cX8_setUp 17 = .ok (.getfield 99, 3) := by decide +kernel
theorem dX8_setUp_20 : decode cX8_setUp 20 = .ok (.ifCond .le 5, 3) := by decide +kernel
theorem dX8_setUp_23 : decode cX8_setUp 23 = .ok (.iconst 0, 1) := by decide +kernel
theorem dX8_setUp_24 : decode cX8_setUp 24 = .ok (.ireturn, 1) := by decide +kernel
