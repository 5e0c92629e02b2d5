theorem dL_registers_957 : decode cL_registers 957 = .ok (.iload 14, 2) := by decide +kernel
theorem dL_registers_959 : decode cL_registers 959 = .ok (.invokestatic 111, 3) := by decide +kernel
theorem dL_registers_962 : decode cL_registers 962 = .ok (.bipush (-73), 2) := by decide +kernel
theorem dL_registers_964 : decode cL_registers 964 = .ok (.if_icmp .ne 7, 3) := by decide +kernel
theorem dL_registers_967 : decode cL_registers 967 = .ok (.iconst 1, 1) := by decide +kernel
theorem dL_registers_968 : decode cL_registers 968 = .ok (.goto 4, 3) := by decide +kernel
theorem dL_registers_971 : decode cL_registers 971 = .ok (.iconst 0, 1) := by decide +kernel
theorem dL_registers_972 : decode cL_registers 972 = .ok (.ireturn, 1) := by decide +kernel
theorem dL_registers_973 : decode cL_registers 973 = .ok (.aload 6, 2) := by decide +kernel
theorem dL_registers_975 : decode cL_registers 975 = .ok (.iload 12, 2) := by decide +kernel
theorem dL_registers_977 : decode cL_registers 977 = .ok (.dup2, 1) := by decide +kernel
theorem dL_registers_978 : decode cL_registers 978 = .ok (.iaload, 1) := by decide +kernel
theorem dL_registers_979 : decode cL_registers 979 = .ok (.iload 14, 2) := by decide +kernel
theorem dL_registers_981 : decode cL_registers 981 = .ok (.iload 11, 2) := by decide +kernel
theorem dL_registers_983 : decode cL_registers 983 = .ok (.isub, 1) := by decide +kernel
theorem dL_registers_984 : decode cL_registers 984 = .ok (.iadd, 1) := by decide +kernel
theorem dL_registers_985 : decode cL_registers 985 = .ok (.iastore, 1) := by decide +kernel
theorem dL_registers_986 : decode cL_registers 986 = .ok (.aload 5, 2) := by decide +kernel
theorem dL_registers_988 : decode cL_registers 988 = .ok (.iload 10, 2) := by decide +kernel
theorem dL_registers_990 : decode cL_registers 990 = .ok (.dup2, 1) := by decide +kernel
theorem dL_registers_991 : decode cL_registers 991 = .ok (.iaload, 1) := by decide +kernel
theorem dL_registers_992 : decode cL_registers 992 = .ok (.iconst 1, 1) := by decide +kernel
theorem dL_registers_993 : decode cL_registers 993 = .ok (.iadd, 1) := by decide +kernel
theorem dL_registers_994 : decode cL_registers 994 = .ok (.iastore, 1) := by decide +kernel
theorem dL_registers_995 : decode cL_registers 995 = .ok (.aload 7, 2) := by decide +kernel
theorem dL_registers_997 : decode cL_registers 997 = .ok (.aload 8, 2) := by decide +kernel
theorem dL_registers_999 : decode cL_registers 999 = .ok (.aload 9, 2) := by decide +kernel
theorem dL_registers_1001 : decode cL_registers 1001 = .ok (.aload 4, 2) := by decide +kernel
theorem dL_registers_1003 : decode cL_registers 1003 = .ok (.iload 10, 2) := by decide +kernel
theorem dL_registers_1005 : decode cL_registers 1005 = .ok (.iaload, 1) := by decide +kernel
theorem dL_registers_1006 : decode cL_registers 1006 = .ok (.invokestatic 102, 3) := by decide +kernel
theorem dL_registers_1009 : decode cL_registers 1009 = .ok (.aload_n 0, 1) := by decide +kernel
theorem dL_registers_1010 : decode cL_registers 1010 = .ok (.iload 10, 2) := by decide +kernel
theorem dL_registers_1012 : decode cL_registers 1012 = .ok (.iload 11, 2) := by decide +kernel
theorem dL_registers_1014 : decode cL_registers 1014 = .ok (.iload 14, 2) := by decide +kernel
theorem dL_registers_1016 : decode cL_registers 1016 = .ok (.invokestatic 111, 3) := by decide +kernel
theorem dL_registers_1019 : decode cL_registers 1019 = .ok (.aload 5, 2) := by decide +kernel
theorem dL_registers_1021 : decode cL_registers 1021 = .ok (.iload 10, 2) := by decide +kernel
theorem dL_registers_1023 : decode cL_registers 1023 = .ok (.iaload, 1) := by decide +kernel
theorem dL_registers_1024 : decode cL_registers 1024 = .ok (.if_icmp .ne 7, 3) := by decide +kernel
theorem dL_registers_1027 : decode cL_registers 1027 = .ok (.iconst 1, 1) := by decide +kernel
theorem dL_registers_1028 : decode cL_registers 1028 = .ok (.goto 4, 3) := by decide +kernel
theorem dL_registers_1031 : decode cL_registers 1031 = .ok (.iconst 0, 1) := by decide +kernel
theorem dL_registers_1032 : decode cL_registers 1032 = .ok (.ireturn, 1) := by decide +kernel
theorem dL_registers_1033 : decode cL_registers 1033 = .ok (.aload_n 0, 1) := by decide +kernel
theorem dL_registers_1034 : decode cL_registers 1034 = .ok (.iload 10, 2) := by decide +kernel
theorem dL_registers_1036 : decode cL_registers 1036 = .ok (.bipush 32, 2) := by decide +kernel
theorem dL_registers_1038 : decode cL_registers 1038 = .ok (.invokestatic 114, 3) := by decide +kernel
theorem dL_registers_1041 : decode cL_registers 1041 = .ok (.bipush (-72), 2) := by decide +kernel
theorem dL_registers_1043 : decode cL_registers 1043 = .ok (.if_icmp .eq 5, 3) := by decide +kernel
theorem dL_registers_1046 : decode cL_registers 1046 = .ok (.iconst 0, 1) := by decide +kernel
theorem dL_registers_1047 : decode cL_registers 1047 = .ok (.ireturn, 1) := by decide +kernel
theorem dL_registers_1048 : decode cL_registers 1048 = .ok (.aload 5, 2) := by decide +kernel
theorem dL_registers_1050 : decode cL_registers 1050 = .ok (.iload 10, 2) := by decide +kernel
theorem dL_registers_1052 : decode cL_registers 1052 = .ok (.iaload, 1) := by decide +kernel
theorem dL_registers_1053 : decode cL_registers 1053 = .ok (.ifCond .eq 8, 3) := by decide +kernel
theorem dL_registers_1056 : decode cL_registers 1056 = .ok (.iload 12, 2) := by decide +kernel
theorem dL_registers_1058 : decode cL_registers 1058 = .ok (.ifCond .ge 22, 3) := by decide +kernel
theorem dL_registers_1061 : decode cL_registers 1061 = .ok (.aload_n 0, 1) := by decide +kernel
theorem dL_registers_1062 : decode cL_registers 1062 = .ok (.iload 10, 2) := by decide +kernel
theorem dL_registers_1064 : decode cL_registers 1064 = .ok (.iload 11, 2) := by decide +kernel
theorem dL_registers_1066 : decode cL_registers 1066 = .ok (.invokestatic 114, 3) := by decide +kernel
theorem dL_registers_1069 : decode cL_registers 1069 = .ok (.bipush (-73), 2) := by decide +kernel
theorem dL_registers_1071 : decode cL_registers 1071 = .ok (.if_icmp .ne 7, 3) := by decide +kernel
theorem dL_registers_1074 : decode cL_registers 1074 = .ok (.iconst 1, 1) := by decide +kernel
theorem dL_registers_1075 : decode cL_registers 1075 = .ok (.goto 4, 3) := by decide +kernel
theorem dL_registers_1078 : decode cL_registers 1078 = .ok (.iconst 0, 1) := by decide +kernel
theorem dL_registers_1079 : decode cL_registers 1079 = .ok (.ireturn, 1) := by decide +kernel
theorem dL_registers_1080 : decode cL_registers 1080 = .ok (.iload 12, 2) := by decide +kernel
theorem dL_registers_1082 : decode cL_registers 1082 = .ok (.istore 14, 2) := by decide +kernel
theorem dL_registers_1084 : decode cL_registers 1084 = .ok (.iload 14, 2) := by decide +kernel
theorem dL_registers_1086 : decode cL_registers 1086 = .ok (.iconst 4, 1) := by decide +kernel
theorem dL_registers_1087 : decode cL_registers 1087 = .ok (.iload 10, 2) := by decide +kernel
theorem dL_registers_1089 : decode cL_registers 1089 = .ok (.imul, 1) := by decide +kernel
theorem dL_registers_1090 : decode cL_registers 1090 = .ok (.iconst 4, 1) := by decide +kernel
theorem dL_registers_1091 : decode cL_registers 1091 = .ok (.iadd, 1) := by decide +kernel
theorem dL_registers_1092 : decode cL_registers 1092 = .ok (.if_icmp .ge 36, 3) := by decide +kernel
theorem dL_registers_1095 : decode cL_registers 1095 = .ok (.aload 6, 2) := by decide +kernel
theorem dL_registers_1097 : decode cL_registers 1097 = .ok (.iload 14, 2) := by decide +kernel
theorem dL_registers_1099 : decode cL_registers 1099 = .ok (.iload 14, 2) := by decide +kernel
theorem dL_registers_1101 : decode cL_registers 1101 = .ok (.iconst 4, 1) := by decide +kernel
theorem dL_registers_1102 : decode cL_registers 1102 = .ok (.iload 10, 2) := by decide +kernel
theorem dL_registers_1104 : decode cL_registers 1104 = .ok (.imul, 1) := by decide +kernel
theorem dL_registers_1105 : decode cL_registers 1105 = .ok (.iconst 3, 1) := by decide +kernel
theorem dL_registers_1106 : decode cL_registers 1106 = .ok (.iadd, 1) := by decide +kernel
theorem dL_registers_1107 : decode cL_registers 1107 = .ok (.if_icmp .ge 13, 3) := by decide +kernel
theorem dL_registers_1110 : decode cL_registers 1110 = .ok (.aload 6, 2) := by decide +kernel
theorem dL_registers_1112 : decode cL_registers 1112 = .ok (.iload 14, 2) := by decide +kernel
theorem dL_registers_1114 : decode cL_registers 1114 = .ok (.iconst 1, 1) := by decide +kernel
theorem dL_registers_1115 : decode cL_registers 1115 = .ok (.iadd, 1) := by decide +kernel
theorem dL_registers_1116 : decode cL_registers 1116 = .ok (.iaload, 1) := by decide +kernel
theorem dL_registers_1117 : decode cL_registers 1117 = .ok (.goto 4, 3) := by decide +kernel
theorem dL_registers_1120 : decode cL_registers 1120 = .ok (.iconst 0, 1) := by decide +kernel
theorem dL_registers_1121 : decode cL_registers 1121 = .ok (.iastore, 1) := by decide +kernel
theorem dL_registers_1122 : decode cL_registers 1122 = .ok (.iinc 14 1, 3) := by decide +kernel
theorem dL_registers_1125 : decode cL_registers 1125 = .ok (.goto (-41), 3) := by decide +kernel
theorem dL_registers_1128 : decode cL_registers 1128 = .ok (.aload 5, 2) := by decide +kernel
theorem dL_registers_1130 : decode cL_registers 1130 = .ok (.iload 10, 2) := by decide +kernel
theorem dL_registers_1132 : decode cL_registers 1132 = .ok (.dup2, 1) := by decide +kernel
theorem dL_registers_1133 : decode cL_registers 1133 = .ok (.iaload, 1) := by decide +kernel
theorem dL_registers_1134 : decode cL_registers 1134 = .ok (.iconst 1, 1) := by decide +kernel
theorem dL_registers_1135 : decode cL_registers 1135 = .ok (.iadd, 1) := by decide +kernel
theorem dL_registers_1136 : decode cL_registers 1136 = .ok (.iastore, 1) := by decide +kernel
theorem dL_registers_1137 : decode cL_registers 1137 = .ok (.aload 7, 2) := by decide +kernel
theorem dL_registers_1139 : decode cL_registers 1139 = .ok (.aload 8, 2) := by decide +kernel
theorem dL_registers_1141 : decode cL_registers 1141 = .ok (.aload 9, 2) := by decide +kernel
theorem dL_registers_1143 : decode cL_registers 1143 = .ok (.aload 4, 2) := by decide +kernel
theorem dL_registers_1145 : decode cL_registers 1145 = .ok (.iload 10, 2) := by decide +kernel
theorem dL_registers_1147 : decode cL_registers 1147 = .ok (.iaload, 1) := by decide +kernel
theorem dL_registers_1148 : decode cL_registers 1148 = .ok (.invokestatic 102, 3) := by decide +kernel
theorem dL_registers_1151 : decode cL_registers 1151 = .ok (.aload_n 0, 1) := by decide +kernel
theorem dL_registers_1152 : decode cL_registers 1152 = .ok (.iload 10, 2) := by decide +kernel
theorem dL_registers_1154 : decode cL_registers 1154 = .ok (.iload 11, 2) := by decide +kernel
theorem dL_registers_1156 : decode cL_registers 1156 = .ok (.invokestatic 114, 3) := by decide +kernel
theorem dL_registers_1159 : decode cL_registers 1159 = .ok (.aload 5, 2) := by decide +kernel
theorem dL_registers_1161 : decode cL_registers 1161 = .ok (.iload 10, 2) := by decide +kernel
theorem dL_registers_1163 : decode cL_registers 1163 = .ok (.iaload, 1) := by decide +kernel
theorem dL_registers_1164 : decode cL_registers 1164 = .ok (.if_icmp .ne 7, 3) := by decide +kernel
theorem dL_registers_1167 : decode cL_registers 1167 = .ok (.iconst 1, 1) := by decide +kernel
theorem dL_registers_1168 : decode cL_registers 1168 = .ok (.goto 4, 3) := by decide +kernel
theorem dL_registers_1171 : decode cL_registers 1171 = .ok (.iconst 0, 1) := by decide +kernel
theorem dL_registers_1172 : decode cL_registers 1172 = .ok (.ireturn, 1) := by decide +kernel
theorem dL_server_0 : decode cL_server 0 = .ok (.iconst (-1), 1) := by decide +kernel
theorem dL_server_1 : decode cL_server 1 = .ok (.istore_n 3, 1) := by decide +kernel
theorem dL_server_2 : decode cL_server 2 = .ok (.iconst 0, 1) := by decide +kernel
theorem dL_server_3 : decode cL_server 3 = .ok (.istore 4, 2) := by decide +kernel
theorem dL_server_5 : decode cL_server 5 = .ok (.iload 4, 2) := by decide +kernel
theorem dL_server_7 : decode cL_server 7 = .ok (.aload_n 1, 1) := by decide +kernel
theorem dL_server_8 : decode cL_server 8 = .ok (.iconst 4, 1) := by decide +kernel
theorem dL_server_9 : decode cL_server 9 = .ok (.iaload, 1) := by decide +kernel
theorem dL_server_10 : decode cL_server 10 = .ok (.if_icmp .ge 46, 3) := by decide +kernel
theorem dL_server_13 : decode cL_server 13 = .ok (.aload_n 0, 1) := by decide +kernel
theorem dL_server_14 : decode cL_server 14 = .ok (.iload 4, 2) := by decide +kernel
theorem dL_server_16 : decode cL_server 16 = .ok (.iaload, 1) := by decide +kernel
theorem dL_server_17 : decode cL_server 17 = .ok (.ldc 116, 2) := by decide +kernel
theorem dL_server_19 : decode cL_server 19 = .ok (.iand, 1) := by decide +kernel
theorem dL_server_20 : decode cL_server 20 = .ok (.iload_n 2, 1) := by decide +kernel
theorem dL_server_21 : decode cL_server 21 = .ok (.invokestatic 78, 3) := by decide +kernel
theorem dL_server_24 : decode cL_server 24 = .ok (.ifCond .eq 26, 3) := by decide +kernel
theorem dL_server_27 : decode cL_server 27 = .ok (.iload_n 3, 1) := by decide +kernel
theorem dL_server_28 : decode cL_server 28 = .ok (.ifCond .lt 19, 3) := by decide +kernel
theorem dL_server_31 : decode cL_server 31 = .ok (.aload_n 0, 1) := by decide +kernel
theorem dL_server_32 : decode cL_server 32 = .ok (.iload 4, 2) := by decide +kernel
theorem dL_server_34 : decode cL_server 34 = .ok (.iaload, 1) := by decide +kernel
theorem dL_server_35 : decode cL_server 35 = .ok (.bipush 32, 2) := by decide +kernel
theorem dL_server_37 : decode cL_server 37 = .ok (.irem, 1) := by decide +kernel
theorem dL_server_38 : decode cL_server 38 = .ok (.aload_n 0, 1) := by decide +kernel
theorem dL_server_39 : decode cL_server 39 = .ok (.iload_n 3, 1) := by decide +kernel
theorem dL_server_40 : decode cL_server 40 = .ok (.iaload, 1) := by decide +kernel
theorem dL_server_41 : decode cL_server 41 = .ok (.bipush 32, 2) := by decide +kernel
theorem dL_server_43 : decode cL_server 43 = .ok (.irem, 1) := by decide +kernel
theorem dL_server_44 : decode cL_server 44 = .ok (.if_icmp .le 6, 3) := by decide +kernel
theorem dL_server_47 : decode cL_server 47 = .ok (.iload 4, 2) := by decide +kernel
theorem dL_server_49 : decode cL_server 49 = .ok (.istore_n 3, 1) := by decide +kernel
theorem dL_server_50 : decode cL_server 50 = .ok (.iinc 4 1, 3) := by decide +kernel
theorem dL_server_53 : decode cL_server 53 = .ok (.goto (-48), 3) := by decide +kernel
theorem dL_server_56 : decode cL_server 56 = .ok (.iload_n 3, 1) := by decide +kernel
theorem dL_server_57 : decode cL_server 57 = .ok (.ifCond .ge 7, 3) := by decide +kernel
theorem dL_server_60 : decode cL_server 60 = .ok (.iconst 0, 1) := by decide +kernel
theorem dL_server_61 : decode cL_server 61 = .ok (.goto 9, 3) := by decide +kernel
theorem dL_server_64 : decode cL_server 64 = .ok (.aload_n 0, 1) := by decide +kernel
theorem dL_server_65 : decode cL_server 65 = .ok (.iload_n 3, 1) := by decide +kernel
theorem dL_server_66 : decode cL_server 66 = .ok (.iaload, 1) := by decide +kernel
theorem dL_server_67 : decode cL_server 67 = .ok (.bipush 22, 2) := by decide +kernel
theorem dL_server_69 : decode cL_server 69 = .ok (.ishr, 1) := by decide +kernel
theorem dL_server_70 : decode cL_server 70 = .ok (.ireturn, 1) := by decide +kernel
theorem dL_entry_0 : decode cL_entry 0 = .ok (.bipush 8, 2) := by decide +kernel
theorem dL_entry_2 : decode cL_entry 2 = .ok (.iload_n 2, 1) := by decide +kernel
theorem dL_entry_3 : decode cL_entry 3 = .ok (.imul, 1) := by decide +kernel
theorem dL_entry_4 : decode cL_entry 4 = .ok (.istore 4, 2) := by decide +kernel
theorem dL_entry_6 : decode cL_entry 6 = .ok (.iload 4, 2) := by decide +kernel
theorem dL_entry_8 : decode cL_entry 8 = .ok (.bipush 8, 2) := by decide +kernel
theorem dL_entry_10 : decode cL_entry 10 = .ok (.iload_n 2, 1) := by decide +kernel
theorem dL_entry_11 : decode cL_entry 11 = .ok (.imul, 1) := by decide +kernel
theorem dL_entry_12 : decode cL_entry 12 = .ok (.bipush 8, 2) := by decide +kernel
theorem dL_entry_14 : decode cL_entry 14 = .ok (.iadd, 1) := by decide +kernel
theorem dL_entry_15 : decode cL_entry 15 = .ok (.if_icmp .ge 80, 3) := by decide +kernel
theorem dL_entry_18 : decode cL_entry 18 = .ok (.iconst 0, 1) := by decide +kernel
theorem dL_entry_19 : decode cL_entry 19 = .ok (.istore 5, 2) := by decide +kernel
theorem dL_entry_21 : decode cL_entry 21 = .ok (.bipush 8, 2) := by decide +kernel
theorem dL_entry_23 : decode cL_entry 23 = .ok (.iload_n 2, 1) := by decide +kernel
theorem dL_entry_24 : decode cL_entry 24 = .ok (.imul, 1) := by decide +kernel
theorem dL_entry_25 : decode cL_entry 25 = .ok (.istore 6, 2) := by decide +kernel
theorem dL_entry_27 : decode cL_entry 27 = .ok (.iload 6, 2) := by decide +kernel
theorem dL_entry_29 : decode cL_entry 29 = .ok (.bipush 8, 2) := by decide +kernel
theorem dL_entry_31 : decode cL_entry 31 = .ok (.iload_n 2, 1) := by decide +kernel
theorem dL_entry_32 : decode cL_entry 32 = .ok (.imul, 1) := by decide +kernel
theorem dL_entry_33 : decode cL_entry 33 = .ok (.bipush 8, 2) := by decide +kernel
theorem dL_entry_35 : decode cL_entry 35 = .ok (.iadd, 1) := by decide +kernel
theorem dL_entry_36 : decode cL_entry 36 = .ok (.if_icmp .ge 37, 3) := by decide +kernel
theorem dL_entry_39 : decode cL_entry 39 = .ok (.iload 5, 2) := by decide +kernel
theorem dL_entry_41 : decode cL_entry 41 = .ok (.aload_n 0, 1) := by decide +kernel
theorem dL_entry_42 : decode cL_entry 42 = .ok (.iload 6, 2) := by decide +kernel
theorem dL_entry_44 : decode cL_entry 44 = .ok (.iaload, 1) := by decide +kernel
theorem dL_entry_45 : decode cL_entry 45 = .ok (.ifCond .lt 18, 3) := by decide +kernel
theorem dL_entry_48 : decode cL_entry 48 = .ok (.aload_n 1, 1) := by decide +kernel
theorem dL_entry_49 : decode cL_entry 49 = .ok (.iload 6, 2) := by decide +kernel
theorem dL_entry_51 : decode cL_entry 51 = .ok (.iaload, 1) := by decide +kernel
theorem dL_entry_52 : decode cL_entry 52 = .ok (.aload_n 1, 1) := by decide +kernel
theorem dL_entry_53 : decode cL_entry 53 = .ok (.iload 4, 2) := by decide +kernel
theorem dL_entry_55 : decode cL_entry 55 = .ok (.iaload, 1) := by decide +kernel
theorem dL_entry_56 : decode cL_entry 56 = .ok (.if_icmp .ge 7, 3) := by decide +kernel
theorem dL_entry_59 : decode cL_entry 59 = .ok (.iconst 1, 1) := by decide +kernel
theorem dL_entry_60 : decode cL_entry 60 = .ok (.goto 4, 3) := by decide +kernel
theorem dL_entry_63 : decode cL_entry 63 = .ok (.iconst 0, 1) := by decide +kernel
theorem dL_entry_64 : decode cL_entry 64 = .ok (.iadd, 1) := by decide +kernel
theorem dL_entry_65 : decode cL_entry 65 = .ok (.istore 5, 2) := by decide +kernel
theorem dL_entry_67 : decode cL_entry 67 = .ok (.iinc 6 1, 3) := by decide +kernel
theorem dL_entry_70 : decode cL_entry 70 = .ok (.goto (-43), 3) := by decide +kernel
theorem dL_entry_73 : decode cL_entry 73 = .ok (.aload_n 0, 1) := by decide +kernel
theorem dL_entry_74 : decode cL_entry 74 = .ok (.iload 4, 2) := by decide +kernel
theorem dL_entry_76 : decode cL_entry 76 = .ok (.iaload, 1) := by decide +kernel
theorem dL_entry_77 : decode cL_entry 77 = .ok (.ifCond .lt 12, 3) := by decide +kernel
theorem dL_entry_80 : decode cL_entry 80 = .ok (.iload 5, 2) := by decide +kernel
theorem dL_entry_82 : decode cL_entry 82 = .ok (.iload_n 3, 1) := by decide +kernel
theorem dL_entry_83 : decode cL_entry 83 = .ok (.if_icmp .ne 6, 3) := by decide +kernel
theorem dL_entry_86 : decode cL_entry 86 = .ok (.iload 4, 2) := by decide +kernel
theorem dL_entry_88 : decode cL_entry 88 = .ok (.ireturn, 1) := by decide +kernel
theorem dL_entry_89 : decode cL_entry 89 = .ok (.iinc 4 1, 3) := by decide +kernel
theorem dL_entry_92 : decode cL_entry 92 = .ok (.goto (-86), 3) := by decide +kernel
theorem dL_entry_95 : decode cL_entry 95 = .ok (.iconst (-1), 1) := by decide +kernel
theorem dL_entry_96 : decode cL_entry 96 = .ok (.ireturn, 1) := by decide +kernel
theorem dL_packet_0 : decode cL_packet 0 = .ok (.iconst (-1), 1) := by decide +kernel
theorem dL_packet_1 : decode cL_packet 1 = .ok (.istore 13, 2) := by decide +kernel
theorem dL_packet_3 : decode cL_packet 3 = .ok (.bipush 8, 2) := by decide +kernel
theorem dL_packet_5 : decode cL_packet 5 = .ok (.iload_n 1, 1) := by decide +kernel
theorem dL_packet_6 : decode cL_packet 6 = .ok (.imul, 1) := by decide +kernel
theorem dL_packet_7 : decode cL_packet 7 = .ok (.istore 14, 2) := by decide +kernel
theorem dL_packet_9 : decode cL_packet 9 = .ok (.iload 14, 2) := by decide +kernel
theorem dL_packet_11 : decode cL_packet 11 = .ok (.bipush 8, 2) := by decide +kernel
theorem dL_packet_13 : decode cL_packet 13 = .ok (.iload_n 1, 1) := by decide +kernel
theorem dL_packet_14 : decode cL_packet 14 = .ok (.imul, 1) := by decide +kernel
theorem dL_packet_15 : decode cL_packet 15 = .ok (.bipush 8, 2) := by decide +kernel
theorem dL_packet_17 : decode cL_packet 17 = .ok (.iadd, 1) := by decide +kernel
theorem dL_packet_18 : decode cL_packet 18 = .ok (.if_icmp .ge 45, 3) := by decide +kernel
theorem dL_packet_21 : decode cL_packet 21 = .ok (.aload 6, 2) := by decide +kernel
theorem dL_packet_23 : decode cL_packet 23 = .ok (.iload 14, 2) := by decide +kernel
theorem dL_packet_25 : decode cL_packet 25 = .ok (.iaload, 1) := by decide +kernel
theorem dL_packet_26 : decode cL_packet 26 = .ok (.ifCond .lt 31, 3) := by decide +kernel
theorem dL_packet_29 : decode cL_packet 29 = .ok (.aload 8, 2) := by decide +kernel
theorem dL_packet_31 : decode cL_packet 31 = .ok (.iload 14, 2) := by decide +kernel
theorem dL_packet_33 : decode cL_packet 33 = .ok (.iaload, 1) := by decide +kernel
theorem dL_packet_34 : decode cL_packet 34 = .ok (.aload 12, 2) := by decide +kernel
theorem dL_packet_36 : decode cL_packet 36 = .ok (.iconst 0, 1) := by decide +kernel
theorem dL_packet_37 : decode cL_packet 37 = .ok (.iaload, 1) := by decide +kernel
theorem dL_packet_38 : decode cL_packet 38 = .ok (.if_icmp .le 19, 3) := by decide +kernel
theorem dL_packet_41 : decode cL_packet 41 = .ok (.aload 6, 2) := by decide +kernel
theorem dL_packet_43 : decode cL_packet 43 = .ok (.iload 14, 2) := by decide +kernel
theorem dL_packet_45 : decode cL_packet 45 = .ok (.iaload, 1) := by decide +kernel
theorem dL_packet_46 : decode cL_packet 46 = .ok (.iload_n 0, 1) := by decide +kernel
theorem dL_packet_47 : decode cL_packet 47 = .ok (.invokestatic 78, 3) := by decide +kernel
theorem dL_packet_50 : decode cL_packet 50 = .ok (.ifCond .eq 7, 3) := by decide +kernel
theorem dL_packet_53 : decode cL_packet 53 = .ok (.iload 14, 2) := by decide +kernel
theorem dL_packet_55 : decode cL_packet 55 = .ok (.istore 13, 2) := by decide +kernel
theorem dL_packet_57 : decode cL_packet 57 = .ok (.iinc 14 1, 3) := by decide +kernel
theorem dL_packet_60 : decode cL_packet 60 = .ok (.goto (-51), 3) := by decide +kernel
theorem dL_packet_63 : decode cL_packet 63 = .ok (.iload 13, 2) := by decide +kernel
theorem dL_packet_65 : decode cL_packet 65 = .ok (.ifCond .ge 295, 3) := by decide +kernel
theorem dL_packet_68 : decode cL_packet 68 = .ok (.aload 5, 2) := by decide +kernel
theorem dL_packet_70 : decode cL_packet 70 = .ok (.aload 12, 2) := by decide +kernel
theorem dL_packet_72 : decode cL_packet 72 = .ok (.iload_n 0, 1) := by decide +kernel
theorem dL_packet_73 : decode cL_packet 73 = .ok (.invokestatic 117, 3) := by decide +kernel
theorem dL_packet_76 : decode cL_packet 76 = .ok (.istore 14, 2) := by decide +kernel
theorem dL_packet_78 : decode cL_packet 78 = .ok (.aload 12, 2) := by decide +kernel
theorem dL_packet_80 : decode cL_packet 80 = .ok (.iconst 5, 1) := by decide +kernel
theorem dL_packet_81 : decode cL_packet 81 = .ok (.iaload, 1) := by decide +kernel
theorem dL_packet_82 : decode cL_packet 82 = .ok (.iload 14, 2) := by decide +kernel
theorem dL_packet_84 : decode cL_packet 84 = .ok (.ishr, 1) := by decide +kernel
theorem dL_packet_85 : decode cL_packet 85 = .ok (.iconst 1, 1) := by decide +kernel
theorem dL_packet_86 : decode cL_packet 86 = .ok (.iand, 1) := by decide +kernel
theorem dL_packet_87 : decode cL_packet 87 = .ok (.iconst 1, 1) := by decide +kernel
theorem dL_packet_88 : decode cL_packet 88 = .ok (.if_icmp .ne 6, 3) := by decide +kernel
theorem dL_packet_91 : decode cL_packet 91 = .ok (.bipush (-2), 2) := by decide +kernel
theorem dL_packet_93 : decode cL_packet 93 = .ok (.ireturn, 1) := by decide +kernel
theorem dL_packet_94 : decode cL_packet 94 = .ok (.aload 12, 2) := by decide +kernel
theorem dL_packet_96 : decode cL_packet 96 = .ok (.bipush 8, 2) := by decide +kernel
theorem dL_packet_98 : decode cL_packet 98 = .ok (.iload 14, 2) := by decide +kernel
theorem dL_packet_100 : decode cL_packet 100 = .ok (.iadd, 1) := by decide +kernel
theorem dL_packet_101 : decode cL_packet 101 = .ok (.dup2, 1) := by decide +kernel
theorem dL_packet_102 : decode cL_packet 102 = .ok (.iaload, 1) := by decide +kernel
theorem dL_packet_103 : decode cL_packet 103 = .ok (.iconst 1, 1) := by decide +kernel
theorem dL_packet_104 : decode cL_packet 104 = .ok (.iadd, 1) := by decide +kernel
theorem dL_packet_105 : decode cL_packet 105 = .ok (.iastore, 1) := by decide +kernel
theorem dL_packet_106 : decode cL_packet 106 = .ok (.aload_n 2, 1) := by decide +kernel
theorem dL_packet_107 : decode cL_packet 107 = .ok (.aload_n 3, 1) := by decide +kernel
theorem dL_packet_108 : decode cL_packet 108 = .ok (.aload 12, 2) := by decide +kernel
theorem dL_packet_110 : decode cL_packet 110 = .ok (.iload_n 0, 1) := by decide +kernel
theorem dL_packet_111 : decode cL_packet 111 = .ok (.invokestatic 121, 3) := by decide +kernel
theorem dL_packet_114 : decode cL_packet 114 = .ok (.istore 15, 2) := by decide +kernel
theorem dL_packet_116 : decode cL_packet 116 = .ok (.aload_n 2, 1) := by decide +kernel
theorem dL_packet_117 : decode cL_packet 117 = .ok (.aload_n 3, 1) := by decide +kernel
theorem dL_packet_118 : decode cL_packet 118 = .ok (.aload 12, 2) := by decide +kernel
theorem dL_packet_120 : decode cL_packet 120 = .ok (.iload_n 0, 1) := by decide +kernel
theorem dL_packet_121 : decode cL_packet 121 = .ok (.iload 15, 2) := by decide +kernel
theorem dL_packet_123 : decode cL_packet 123 = .ok (.invokestatic 125, 3) := by decide +kernel
theorem dL_packet_126 : decode cL_packet 126 = .ok (.istore 16, 2) := by decide +kernel
theorem dL_packet_128 : decode cL_packet 128 = .ok (.bipush 32, 2) := by decide +kernel
theorem dL_packet_130 : decode cL_packet 130 = .ok (.iload_n 0, 1) := by decide +kernel
theorem dL_packet_131 : decode cL_packet 131 = .ok (.bipush 16, 2) := by decide +kernel
theorem dL_packet_133 : decode cL_packet 133 = .ok (.iload 16, 2) := by decide +kernel
theorem dL_packet_135 : decode cL_packet 135 = .ok (.isub, 1) := by decide +kernel
theorem dL_packet_136 : decode cL_packet 136 = .ok (.ishr, 1) := by decide +kernel
theorem dL_packet_137 : decode cL_packet 137 = .ok (.bipush 16, 2) := by decide +kernel
theorem dL_packet_139 : decode cL_packet 139 = .ok (.iload 16, 2) := by decide +kernel
theorem dL_packet_141 : decode cL_packet 141 = .ok (.isub, 1) := by decide +kernel
theorem dL_packet_142 : decode cL_packet 142 = .ok (.ishl, 1) := by decide +kernel
theorem dL_packet_143 : decode cL_packet 143 = .ok (.imul, 1) := by decide +kernel
theorem dL_packet_144 : decode cL_packet 144 = .ok (.iload 16, 2) := by decide +kernel
theorem dL_packet_146 : decode cL_packet 146 = .ok (.iadd, 1) := by decide +kernel
theorem dL_packet_147 : decode cL_packet 147 = .ok (.istore 17, 2) := by decide +kernel
theorem dL_packet_149 : decode cL_packet 149 = .ok (.bipush 8, 2) := by decide +kernel
theorem dL_packet_151 : decode cL_packet 151 = .ok (.iload_n 1, 1) := by decide +kernel
theorem dL_packet_152 : decode cL_packet 152 = .ok (.imul, 1) := by decide +kernel
theorem dL_packet_153 : decode cL_packet 153 = .ok (.istore 18, 2) := by decide +kernel
theorem dL_packet_155 : decode cL_packet 155 = .ok (.iload 18, 2) := by decide +kernel
theorem dL_packet_157 : decode cL_packet 157 = .ok (.bipush 8, 2) := by decide +kernel
theorem dL_packet_159 : decode cL_packet 159 = .ok (.iload_n 1, 1) := by decide +kernel
theorem dL_packet_160 : decode cL_packet 160 = .ok (.imul, 1) := by decide +kernel
theorem dL_packet_161 : decode cL_packet 161 = .ok (.bipush 8, 2) := by decide +kernel
theorem dL_packet_163 : decode cL_packet 163 = .ok (.iadd, 1) := by decide +kernel
theorem dL_packet_164 : decode cL_packet 164 = .ok (.if_icmp .ge 36, 3) := by decide +kernel
theorem dL_packet_167 : decode cL_packet 167 = .ok (.aload 6, 2) := by decide +kernel
theorem dL_packet_169 : decode cL_packet 169 = .ok (.iload 18, 2) := by decide +kernel
theorem dL_packet_171 : decode cL_packet 171 = .ok (.iaload, 1) := by decide +kernel
theorem dL_packet_172 : decode cL_packet 172 = .ok (.ifCond .lt 22, 3) := by decide +kernel
theorem dL_packet_175 : decode cL_packet 175 = .ok (.aload 6, 2) := by decide +kernel
theorem dL_packet_177 : decode cL_packet 177 = .ok (.iload 18, 2) := by decide +kernel
theorem dL_packet_179 : decode cL_packet 179 = .ok (.iaload, 1) := by decide +kernel
theorem dL_packet_180 : decode cL_packet 180 = .ok (.iload 17, 2) := by decide +kernel
theorem dL_packet_182 : decode cL_packet 182 = .ok (.invokestatic 82, 3) := by decide +kernel
theorem dL_packet_185 : decode cL_packet 185 = .ok (.ifCond .eq 9, 3) := by decide +kernel
theorem dL_packet_188 : decode cL_packet 188 = .ok (.aload 6, 2) := by decide +kernel
theorem dL_packet_190 : decode cL_packet 190 = .ok (.iload 18, 2) := by decide +kernel
theorem dL_packet_192 : decode cL_packet 192 = .ok (.iconst (-1), 1) := by decide +kernel
theorem dL_packet_193 : decode cL_packet 193 = .ok (.iastore, 1) := by decide +kernel
theorem dL_packet_194 : decode cL_packet 194 = .ok (.iinc 18 1, 3) := by decide +kernel
theorem dL_packet_197 : decode cL_packet 197 = .ok (.goto (-42), 3) := by decide +kernel
theorem dL_packet_200 : decode cL_packet 200 = .ok (.bipush 8, 2) := by decide +kernel
theorem dL_packet_202 : decode cL_packet 202 = .ok (.iload_n 1, 1) := by decide +kernel
theorem dL_packet_203 : decode cL_packet 203 = .ok (.imul, 1) := by decide +kernel
theorem dL_packet_204 : decode cL_packet 204 = .ok (.istore 18, 2) := by decide +kernel
theorem dL_packet_206 : decode cL_packet 206 = .ok (.iload 18, 2) := by decide +kernel
theorem dL_packet_208 : decode cL_packet 208 = .ok (.bipush 8, 2) := by decide +kernel
theorem dL_packet_210 : decode cL_packet 210 = .ok (.iload_n 1, 1) := by decide +kernel
theorem dL_packet_211 : decode cL_packet 211 = .ok (.imul, 1) := by decide +kernel
theorem dL_packet_212 : decode cL_packet 212 = .ok (.bipush 8, 2) := by decide +kernel
theorem dL_packet_214 : decode cL_packet 214 = .ok (.iadd, 1) := by decide +kernel
theorem dL_packet_215 : decode cL_packet 215 = .ok (.if_icmp .ge 26, 3) := by decide +kernel
theorem dL_packet_218 : decode cL_packet 218 = .ok (.aload 6, 2) := by decide +kernel
theorem dL_packet_220 : decode cL_packet 220 = .ok (.iload 18, 2) := by decide +kernel
theorem dL_packet_222 : decode cL_packet 222 = .ok (.iaload, 1) := by decide +kernel
theorem dL_packet_223 : decode cL_packet 223 = .ok (.ifCond .ge 8, 3) := by decide +kernel
theorem dL_packet_226 : decode cL_packet 226 = .ok (.iload 18, 2) := by decide +kernel
theorem dL_packet_228 : decode cL_packet 228 = .ok (.goto 5, 3) := by decide +kernel
theorem dL_packet_231 : decode cL_packet 231 = .ok (.iload 13, 2) := by decide +kernel
theorem dL_packet_233 : decode cL_packet 233 = .ok (.istore 13, 2) := by decide +kernel
theorem dL_packet_235 : decode cL_packet 235 = .ok (.iinc 18 1, 3) := by decide +kernel
theorem dL_packet_238 : decode cL_packet 238 = .ok (.goto (-32), 3) := by decide +kernel
theorem dL_packet_241 : decode cL_packet 241 = .ok (.iload 13, 2) := by decide +kernel
theorem dL_packet_243 : decode cL_packet 243 = .ok (.ifCond .ge 14, 3) := by decide +kernel
theorem dL_packet_246 : decode cL_packet 246 = .ok (.aload 6, 2) := by decide +kernel
theorem dL_packet_248 : decode cL_packet 248 = .ok (.aload 9, 2) := by decide +kernel
theorem dL_packet_250 : decode cL_packet 250 = .ok (.iload_n 1, 1) := by decide +kernel
theorem dL_packet_251 : decode cL_packet 251 = .ok (.iconst 0, 1) := by decide +kernel
theorem dL_packet_252 : decode cL_packet 252 = .ok (.invokestatic 129, 3) := by decide +kernel
theorem dL_packet_255 : decode cL_packet 255 = .ok (.istore 13, 2) := by decide +kernel
theorem dL_packet_257 : decode cL_packet 257 = .ok (.aload 6, 2) := by decide +kernel
theorem dL_packet_259 : decode cL_packet 259 = .ok (.iload 13, 2) := by decide +kernel
theorem dL_packet_261 : decode cL_packet 261 = .ok (.iload 17, 2) := by decide +kernel
theorem dL_packet_263 : decode cL_packet 263 = .ok (.iastore, 1) := by decide +kernel
theorem dL_packet_264 : decode cL_packet 264 = .ok (.aload 7, 2) := by decide +kernel
theorem dL_packet_266 : decode cL_packet 266 = .ok (.iload 13, 2) := by decide +kernel
theorem dL_packet_268 : decode cL_packet 268 = .ok (.iload 15, 2) := by decide +kernel
theorem dL_packet_270 : decode cL_packet 270 = .ok (.ifCond .ge 7, 3) := by decide +kernel
theorem dL_packet_273 : decode cL_packet 273 = .ok (.iconst 0, 1) := by decide +kernel
theorem dL_packet_274 : decode cL_packet 274 = .ok (.goto 15, 3) := by decide +kernel
theorem dL_packet_277 : decode cL_packet 277 = .ok (.bipush 32, 2) := by decide +kernel
theorem dL_packet_279 : decode cL_packet 279 = .ok (.aload_n 3, 1) := by decide +kernel
theorem dL_packet_280 : decode cL_packet 280 = .ok (.iload 15, 2) := by decide +kernel
theorem dL_packet_282 : decode cL_packet 282 = .ok (.iaload, 1) := by decide +kernel
theorem dL_packet_283 : decode cL_packet 283 = .ok (.imul, 1) := by decide +kernel
theorem dL_packet_284 : decode cL_packet 284 = .ok (.iload 15, 2) := by decide +kernel
theorem dL_packet_286 : decode cL_packet 286 = .ok (.iadd, 1) := by decide +kernel
theorem dL_packet_287 : decode cL_packet 287 = .ok (.iconst 1, 1) := by decide +kernel
theorem dL_packet_288 : decode cL_packet 288 = .ok (.iadd, 1) := by decide +kernel
theorem dL_packet_289 : decode cL_packet 289 = .ok (.iastore, 1) := by decide +kernel
theorem dL_packet_290 : decode cL_packet 290 = .ok (.aload 8, 2) := by decide +kernel
theorem dL_packet_292 : decode cL_packet 292 = .ok (.iload 13, 2) := by decide +kernel
theorem dL_packet_294 : decode cL_packet 294 = .ok (.aload 12, 2) := by decide +kernel
theorem dL_packet_296 : decode cL_packet 296 = .ok (.iconst 0, 1) := by decide +kernel
theorem dL_packet_297 : decode cL_packet 297 = .ok (.iaload, 1) := by decide +kernel
theorem dL_packet_298 : decode cL_packet 298 = .ok (.iload 15, 2) := by decide +kernel
theorem dL_packet_300 : decode cL_packet 300 = .ok (.ifCond .ge 10, 3) := by decide +kernel
theorem dL_packet_303 : decode cL_packet 303 = .ok (.aload 12, 2) := by decide +kernel
theorem dL_packet_305 : decode cL_packet 305 = .ok (.iconst 2, 1) := by decide +kernel
theorem dL_packet_306 : decode cL_packet 306 = .ok (.iaload, 1) := by decide +kernel
theorem dL_packet_307 : decode cL_packet 307 = .ok (.goto 7, 3) := by decide +kernel
theorem dL_packet_310 : decode cL_packet 310 = .ok (.aload 12, 2) := by decide +kernel
theorem dL_packet_312 : decode cL_packet 312 = .ok (.iconst 1, 1) := by decide +kernel
theorem dL_packet_313 : decode cL_packet 313 = .ok (.iaload, 1) := by decide +kernel
theorem dL_packet_314 : decode cL_packet 314 = .ok (.iadd, 1) := by decide +kernel
theorem dL_packet_315 : decode cL_packet 315 = .ok (.iastore, 1) := by decide +kernel
theorem dL_packet_316 : decode cL_packet 316 = .ok (.iconst 0, 1) := by decide +kernel
theorem dL_packet_317 : decode cL_packet 317 = .ok (.istore 18, 2) := by decide +kernel
theorem dL_packet_319 : decode cL_packet 319 = .ok (.iload 18, 2) := by decide +kernel
theorem dL_packet_321 : decode cL_packet 321 = .ok (.iconst 4, 1) := by decide +kernel
theorem dL_packet_322 : decode cL_packet 322 = .ok (.if_icmp .ge 38, 3) := by decide +kernel
theorem dL_packet_325 : decode cL_packet 325 = .ok (.aload 10, 2) := by decide +kernel
theorem dL_packet_327 : decode cL_packet 327 = .ok (.iconst 4, 1) := by decide +kernel
theorem dL_packet_328 : decode cL_packet 328 = .ok (.iload 13, 2) := by decide +kernel
theorem dL_packet_330 : decode cL_packet 330 = .ok (.imul, 1) := by decide +kernel
theorem dL_packet_331 : decode cL_packet 331 = .ok (.iload 18, 2) := by decide +kernel
theorem dL_packet_333 : decode cL_packet 333 = .ok (.iadd, 1) := by decide +kernel
theorem dL_packet_334 : decode cL_packet 334 = .ok (.iload 15, 2) := by decide +kernel
theorem dL_packet_336 : decode cL_packet 336 = .ok (.ifCond .ge 7, 3) := by decide +kernel
theorem dL_packet_339 : decode cL_packet 339 = .ok (.iconst 0, 1) := by decide +kernel
theorem dL_packet_340 : decode cL_packet 340 = .ok (.goto 13, 3) := by decide +kernel
theorem dL_packet_343 : decode cL_packet 343 = .ok (.aload 4, 2) := by decide +kernel
theorem dL_packet_345 : decode cL_packet 345 = .ok (.iconst 4, 1) := by decide +kernel
theorem dL_packet_346 : decode cL_packet 346 = .ok (.iload 15, 2) := by decide +kernel
theorem dL_packet_348 : decode cL_packet 348 = .ok (.imul, 1) := by decide +kernel
theorem dL_packet_349 : decode cL_packet 349 = .ok (.iload 18, 2) := by decide +kernel
theorem dL_packet_351 : decode cL_packet 351 = .ok (.iadd, 1) := by decide +kernel
theorem dL_packet_352 : decode cL_packet 352 = .ok (.iaload, 1) := by decide +kernel
theorem dL_packet_353 : decode cL_packet 353 = .ok (.iastore, 1) := by decide +kernel
theorem dL_packet_354 : decode cL_packet 354 = .ok (.iinc 18 1, 3) := by decide +kernel
theorem dL_packet_357 : decode cL_packet 357 = .ok (.goto (-38), 3) := by decide +kernel
theorem dL_packet_360 : decode cL_packet 360 = .ok (.aload 12, 2) := by decide +kernel
theorem dL_packet_362 : decode cL_packet 362 = .ok (.bipush 7, 2) := by decide +kernel
theorem dL_packet_364 : decode cL_packet 364 = .ok (.dup2, 1) := by decide +kernel
theorem dL_packet_365 : decode cL_packet 365 = .ok (.iaload, 1) := by decide +kernel
theorem dL_packet_366 : decode cL_packet 366 = .ok (.iconst 1, 1) := by decide +kernel
theorem dL_packet_367 : decode cL_packet 367 = .ok (.iadd, 1) := by decide +kernel
theorem dL_packet_368 : decode cL_packet 368 = .ok (.iastore, 1) := by decide +kernel
theorem dL_packet_369 : decode cL_packet 369 = .ok (.aload 9, 2) := by decide +kernel
theorem dL_packet_371 : decode cL_packet 371 = .ok (.iload 13, 2) := by decide +kernel
theorem dL_packet_373 : decode cL_packet 373 = .ok (.aload 12, 2) := by decide +kernel
theorem dL_packet_375 : decode cL_packet 375 = .ok (.bipush 7, 2) := by decide +kernel
theorem dL_packet_377 : decode cL_packet 377 = .ok (.iaload, 1) := by decide +kernel
theorem dL_packet_378 : decode cL_packet 378 = .ok (.iastore, 1) := by decide +kernel
theorem dL_packet_379 : decode cL_packet 379 = .ok (.aload 7, 2) := by decide +kernel
theorem dL_packet_381 : decode cL_packet 381 = .ok (.iload 13, 2) := by decide +kernel
theorem dL_packet_383 : decode cL_packet 383 = .ok (.iaload, 1) := by decide +kernel
theorem dL_packet_384 : decode cL_packet 384 = .ok (.ifCond .ne 5, 3) := by decide +kernel
theorem dL_packet_387 : decode cL_packet 387 = .ok (.iconst (-1), 1) := by decide +kernel
theorem dL_packet_388 : decode cL_packet 388 = .ok (.ireturn, 1) := by decide +kernel
theorem dL_packet_389 : decode cL_packet 389 = .ok (.iconst 4, 1) := by decide +kernel
theorem dL_packet_390 : decode cL_packet 390 = .ok (.istore 14, 2) := by decide +kernel
theorem dL_packet_392 : decode cL_packet 392 = .ok (.iconst 0, 1) := by decide +kernel
theorem dL_packet_393 : decode cL_packet 393 = .ok (.istore 15, 2) := by decide +kernel
theorem dL_packet_395 : decode cL_packet 395 = .ok (.iconst 0, 1) := by decide +kernel
theorem dL_packet_396 : decode cL_packet 396 = .ok (.istore 16, 2) := by decide +kernel
theorem dL_packet_398 : decode cL_packet 398 = .ok (.iconst 4, 1) := by decide +kernel
theorem dL_packet_399 : decode cL_packet 399 = .ok (.iload 13, 2) := by decide +kernel
theorem dL_packet_401 : decode cL_packet 401 = .ok (.imul, 1) := by decide +kernel
theorem dL_packet_402 : decode cL_packet 402 = .ok (.istore 17, 2) := by decide +kernel
theorem dL_packet_404 : decode cL_packet 404 = .ok (.iload 17, 2) := by decide +kernel
theorem dL_packet_406 : decode cL_packet 406 = .ok (.iconst 4, 1) := by decide +kernel
theorem dL_packet_407 : decode cL_packet 407 = .ok (.iload 13, 2) := by decide +kernel
theorem dL_packet_409 : decode cL_packet 409 = .ok (.imul, 1) := by decide +kernel
theorem dL_packet_410 : decode cL_packet 410 = .ok (.iconst 4, 1) := by decide +kernel
theorem dL_packet_411 : decode cL_packet 411 = .ok (.iadd, 1) := by decide +kernel
theorem dL_packet_412 : decode cL_packet 412 = .ok (.if_icmp .ge 122, 3) := by decide +kernel
theorem dL_packet_415 : decode cL_packet 415 = .ok (.aload 10, 2) := by decide +kernel
theorem dL_packet_417 : decode cL_packet 417 = .ok (.iload 17, 2) := by decide +kernel
theorem dL_packet_419 : decode cL_packet 419 = .ok (.iaload, 1) := by decide +kernel
theorem dL_packet_420 : decode cL_packet 420 = .ok (.iconst 5, 1) := by decide +kernel
theorem dL_packet_421 : decode cL_packet 421 = .ok (.ishr, 1) := by decide +kernel
theorem dL_packet_422 : decode cL_packet 422 = .ok (.iconst 3, 1) := by decide +kernel
theorem dL_packet_423 : decode cL_packet 423 = .ok (.iand, 1) := by decide +kernel
theorem dL_packet_424 : decode cL_packet 424 = .ok (.istore 18, 2) := by decide +kernel
theorem dL_packet_426 : decode cL_packet 426 = .ok (.aload 10, 2) := by decide +kernel
theorem dL_packet_428 : decode cL_packet 428 = .ok (.iload 17, 2) := by decide +kernel
theorem dL_packet_430 : decode cL_packet 430 = .ok (.iaload, 1) := by decide +kernel
theorem dL_packet_431 : decode cL_packet 431 = .ok (.ifCond .eq 97, 3) := by decide +kernel
theorem dL_packet_434 : decode cL_packet 434 = .ok (.aload 11, 2) := by decide +kernel
theorem dL_packet_436 : decode cL_packet 436 = .ok (.iload_n 1, 1) := by decide +kernel
theorem dL_packet_437 : decode cL_packet 437 = .ok (.iaload, 1) := by decide +kernel
theorem dL_packet_438 : decode cL_packet 438 = .ok (.aload 10, 2) := by decide +kernel
theorem dL_packet_440 : decode cL_packet 440 = .ok (.iload 17, 2) := by decide +kernel
theorem dL_packet_442 : decode cL_packet 442 = .ok (.iaload, 1) := by decide +kernel
theorem dL_packet_443 : decode cL_packet 443 = .ok (.bipush 32, 2) := by decide +kernel
theorem dL_packet_445 : decode cL_packet 445 = .ok (.irem, 1) := by decide +kernel
theorem dL_packet_446 : decode cL_packet 446 = .ok (.ishr, 1) := by decide +kernel
theorem dL_packet_447 : decode cL_packet 447 = .ok (.iconst 1, 1) := by decide +kernel
theorem dL_packet_448 : decode cL_packet 448 = .ok (.iand, 1) := by decide +kernel
theorem dL_packet_449 : decode cL_packet 449 = .ok (.iconst 1, 1) := by decide +kernel
theorem dL_packet_450 : decode cL_packet 450 = .ok (.if_icmp .eq 78, 3) := by decide +kernel
theorem dL_packet_453 : decode cL_packet 453 = .ok (.iload 18, 2) := by decide +kernel
theorem dL_packet_455 : decode cL_packet 455 = .ok (.iload 14, 2) := by decide +kernel
theorem dL_packet_457 : decode cL_packet 457 = .ok (.if_icmp .le 6, 3) := by decide +kernel
theorem dL_packet_460 : decode cL_packet 460 = .ok (.goto 68, 3) := by decide +kernel
theorem dL_packet_463 : decode cL_packet 463 = .ok (.iload 18, 2) := by decide +kernel
theorem dL_packet_465 : decode cL_packet 465 = .ok (.iload 14, 2) := by decide +kernel
theorem dL_packet_467 : decode cL_packet 467 = .ok (.if_icmp .ge 7, 3) := by decide +kernel
theorem dL_packet_470 : decode cL_packet 470 = .ok (.iconst 0, 1) := by decide +kernel
theorem dL_packet_471 : decode cL_packet 471 = .ok (.goto 5, 3) := by decide +kernel
theorem dL_packet_474 : decode cL_packet 474 = .ok (.iload 15, 2) := by decide +kernel
theorem dL_packet_476 : decode cL_packet 476 = .ok (.istore 15, 2) := by decide +kernel
theorem dL_packet_478 : decode cL_packet 478 = .ok (.iload 18, 2) := by decide +kernel
theorem dL_packet_480 : decode cL_packet 480 = .ok (.iload 14, 2) := by decide +kernel
theorem dL_packet_482 : decode cL_packet 482 = .ok (.if_icmp .ge 7, 3) := by decide +kernel
theorem dL_packet_485 : decode cL_packet 485 = .ok (.iconst 0, 1) := by decide +kernel
theorem dL_packet_486 : decode cL_packet 486 = .ok (.goto 5, 3) := by decide +kernel
theorem dL_packet_489 : decode cL_packet 489 = .ok (.iload 16, 2) := by decide +kernel
theorem dL_packet_491 : decode cL_packet 491 = .ok (.istore 16, 2) := by decide +kernel
theorem dL_packet_493 : decode cL_packet 493 = .ok (.iload 18, 2) := by decide +kernel
theorem dL_packet_495 : decode cL_packet 495 = .ok (.istore 14, 2) := by decide +kernel
theorem dL_packet_497 : decode cL_packet 497 = .ok (.iload 15, 2) := by decide +kernel
theorem dL_packet_499 : decode cL_packet 499 = .ok (.aload 10, 2) := by decide +kernel
theorem dL_packet_501 : decode cL_packet 501 = .ok (.iload 17, 2) := by decide +kernel
theorem dL_packet_503 : decode cL_packet 503 = .ok (.iaload, 1) := by decide +kernel
theorem dL_packet_504 : decode cL_packet 504 = .ok (.sipush 2048, 3) := by decide +kernel
theorem dL_packet_507 : decode cL_packet 507 = .ok (.idiv, 1) := by decide +kernel
theorem dL_packet_508 : decode cL_packet 508 = .ok (.iadd, 1) := by decide +kernel
theorem dL_packet_509 : decode cL_packet 509 = .ok (.istore 15, 2) := by decide +kernel
theorem dL_packet_511 : decode cL_packet 511 = .ok (.iload 16, 2) := by decide +kernel
theorem dL_packet_513 : decode cL_packet 513 = .ok (.aload 10, 2) := by decide +kernel
theorem dL_packet_515 : decode cL_packet 515 = .ok (.iload 17, 2) := by decide +kernel
theorem dL_packet_517 : decode cL_packet 517 = .ok (.iaload, 1) := by decide +kernel
theorem dL_packet_518 : decode cL_packet 518 = .ok (.sipush 128, 3) := by decide +kernel
theorem dL_packet_521 : decode cL_packet 521 = .ok (.idiv, 1) := by decide +kernel
theorem dL_packet_522 : decode cL_packet 522 = .ok (.bipush 16, 2) := by decide +kernel
theorem dL_packet_524 : decode cL_packet 524 = .ok (.irem, 1) := by decide +kernel
theorem dL_packet_525 : decode cL_packet 525 = .ok (.iadd, 1) := by decide +kernel
theorem dL_packet_526 : decode cL_packet 526 = .ok (.istore 16, 2) := by decide +kernel
theorem dL_packet_528 : decode cL_packet 528 = .ok (.iinc 17 1, 3) := by decide +kernel
theorem dL_packet_531 : decode cL_packet 531 = .ok (.goto (-127), 3) := by decide +kernel
theorem dL_packet_534 : decode cL_packet 534 = .ok (.iload 14, 2) := by decide +kernel
theorem dL_packet_536 : decode cL_packet 536 = .ok (.iconst 4, 1) := by decide +kernel
theorem dL_packet_537 : decode cL_packet 537 = .ok (.if_icmp .ne 6, 3) := by decide +kernel
theorem dL_packet_540 : decode cL_packet 540 = .ok (.bipush (-3), 2) := by decide +kernel
theorem dL_packet_542 : decode cL_packet 542 = .ok (.ireturn, 1) := by decide +kernel
theorem dL_packet_543 : decode cL_packet 543 = .ok (.iconst (-1), 1) := by decide +kernel
theorem dL_packet_544 : decode cL_packet 544 = .ok (.istore 17, 2) := by decide +kernel
theorem dL_packet_546 : decode cL_packet 546 = .ok (.iconst 0, 1) := by decide +kernel
theorem dL_packet_547 : decode cL_packet 547 = .ok (.istore 18, 2) := by decide +kernel
theorem dL_packet_549 : decode cL_packet 549 = .ok (.iconst 4, 1) := by decide +kernel
theorem dL_packet_550 : decode cL_packet 550 = .ok (.iload 13, 2) := by decide +kernel
theorem dL_packet_552 : decode cL_packet 552 = .ok (.imul, 1) := by decide +kernel
theorem dL_packet_553 : decode cL_packet 553 = .ok (.iconst 3, 1) := by decide +kernel
theorem dL_packet_554 : decode cL_packet 554 = .ok (.iadd, 1) := by decide +kernel
theorem dL_packet_555 : decode cL_packet 555 = .ok (.istore 19, 2) := by decide +kernel
theorem dL_packet_557 : decode cL_packet 557 = .ok (.iload 19, 2) := by decide +kernel
theorem dL_packet_559 : decode cL_packet 559 = .ok (.iconst 4, 1) := by decide +kernel
theorem dL_packet_560 : decode cL_packet 560 = .ok (.iload 13, 2) := by decide +kernel
theorem dL_packet_562 : decode cL_packet 562 = .ok (.imul, 1) := by decide +kernel
theorem dL_packet_563 : decode cL_packet 563 = .ok (.if_icmp .lt 108, 3) := by decide +kernel
theorem dL_packet_566 : decode cL_packet 566 = .ok (.aload 10, 2) := by decide +kernel
theorem dL_packet_568 : decode cL_packet 568 = .ok (.iload 19, 2) := by decide +kernel
theorem dL_packet_570 : decode cL_packet 570 = .ok (.iaload, 1) := by decide +kernel
theorem dL_packet_571 : decode cL_packet 571 = .ok (.ifCond .eq 94, 3) := by decide +kernel
theorem dL_packet_574 : decode cL_packet 574 = .ok (.aload 11, 2) := by decide +kernel
theorem dL_packet_576 : decode cL_packet 576 = .ok (.iload_n 1, 1) := by decide +kernel
theorem dL_packet_577 : decode cL_packet 577 = .ok (.iaload, 1) := by decide +kernel
theorem dL_packet_578 : decode cL_packet 578 = .ok (.aload 10, 2) := by decide +kernel
theorem dL_packet_580 : decode cL_packet 580 = .ok (.iload 19, 2) := by decide +kernel
theorem dL_packet_582 : decode cL_packet 582 = .ok (.iaload, 1) := by decide +kernel
theorem dL_packet_583 : decode cL_packet 583 = .ok (.bipush 32, 2) := by decide +kernel
theorem dL_packet_585 : decode cL_packet 585 = .ok (.irem, 1) := by decide +kernel
theorem dL_packet_586 : decode cL_packet 586 = .ok (.ishr, 1) := by decide +kernel
theorem dL_packet_587 : decode cL_packet 587 = .ok (.iconst 1, 1) := by decide +kernel
theorem dL_packet_588 : decode cL_packet 588 = .ok (.iand, 1) := by decide +kernel
theorem dL_packet_589 : decode cL_packet 589 = .ok (.iconst 1, 1) := by decide +kernel
theorem dL_packet_590 : decode cL_packet 590 = .ok (.if_icmp .eq 75, 3) := by decide +kernel
theorem dL_packet_593 : decode cL_packet 593 = .ok (.aload 10, 2) := by decide +kernel
theorem dL_packet_595 : decode cL_packet 595 = .ok (.iload 19, 2) := by decide +kernel
theorem dL_packet_597 : decode cL_packet 597 = .ok (.iaload, 1) := by decide +kernel
theorem dL_packet_598 : decode cL_packet 598 = .ok (.iconst 5, 1) := by decide +kernel
theorem dL_packet_599 : decode cL_packet 599 = .ok (.ishr, 1) := by decide +kernel
theorem dL_packet_600 : decode cL_packet 600 = .ok (.iconst 3, 1) := by decide +kernel
theorem dL_packet_601 : decode cL_packet 601 = .ok (.iand, 1) := by decide +kernel
theorem dL_packet_602 : decode cL_packet 602 = .ok (.iload 14, 2) := by decide +kernel
theorem dL_packet_604 : decode cL_packet 604 = .ok (.if_icmp .eq 6, 3) := by decide +kernel
theorem dL_packet_607 : decode cL_packet 607 = .ok (.goto 58, 3) := by decide +kernel
theorem dL_packet_610 : decode cL_packet 610 = .ok (.aload 10, 2) := by decide +kernel
theorem dL_packet_612 : decode cL_packet 612 = .ok (.iload 19, 2) := by decide +kernel
theorem dL_packet_614 : decode cL_packet 614 = .ok (.iaload, 1) := by decide +kernel
theorem dL_packet_615 : decode cL_packet 615 = .ok (.sipush 128, 3) := by decide +kernel
theorem dL_packet_618 : decode cL_packet 618 = .ok (.idiv, 1) := by decide +kernel
theorem dL_packet_619 : decode cL_packet 619 = .ok (.bipush 16, 2) := by decide +kernel
theorem dL_packet_621 : decode cL_packet 621 = .ok (.irem, 1) := by decide +kernel
theorem dL_packet_622 : decode cL_packet 622 = .ok (.iload 15, 2) := by decide +kernel
theorem dL_packet_624 : decode cL_packet 624 = .ok (.iconst 1, 1) := by decide +kernel
theorem dL_packet_625 : decode cL_packet 625 = .ok (.iadd, 1) := by decide +kernel
theorem dL_packet_626 : decode cL_packet 626 = .ok (.imul, 1) := by decide +kernel
theorem dL_packet_627 : decode cL_packet 627 = .ok (.iload 16, 2) := by decide +kernel
theorem dL_packet_629 : decode cL_packet 629 = .ok (.aload 10, 2) := by decide +kernel
theorem dL_packet_631 : decode cL_packet 631 = .ok (.iload 19, 2) := by decide +kernel
theorem dL_packet_633 : decode cL_packet 633 = .ok (.iaload, 1) := by decide +kernel
theorem dL_packet_634 : decode cL_packet 634 = .ok (.sipush 2048, 3) := by decide +kernel
theorem dL_packet_637 : decode cL_packet 637 = .ok (.idiv, 1) := by decide +kernel
theorem dL_packet_638 : decode cL_packet 638 = .ok (.imul, 1) := by decide +kernel
theorem dL_packet_639 : decode cL_packet 639 = .ok (.isub, 1) := by decide +kernel
theorem dL_packet_640 : decode cL_packet 640 = .ok (.istore 20, 2) := by decide +kernel
theorem dL_packet_642 : decode cL_packet 642 = .ok (.iload 17, 2) := by decide +kernel
theorem dL_packet_644 : decode cL_packet 644 = .ok (.ifCond .lt 13, 3) := by decide +kernel
theorem dL_packet_647 : decode cL_packet 647 = .ok (.iload 20, 2) := by decide +kernel
theorem dL_packet_649 : decode cL_packet 649 = .ok (.iload 18, 2) := by decide +kernel
theorem dL_packet_651 : decode cL_packet 651 = .ok (.if_icmp .ge 6, 3) := by decide +kernel
theorem dL_packet_654 : decode cL_packet 654 = .ok (.goto 11, 3) := by decide +kernel
theorem dL_packet_657 : decode cL_packet 657 = .ok (.iload 20, 2) := by decide +kernel
theorem dL_packet_659 : decode cL_packet 659 = .ok (.istore 18, 2) := by decide +kernel
theorem dL_packet_661 : decode cL_packet 661 = .ok (.iload 19, 2) := by decide +kernel
theorem dL_packet_663 : decode cL_packet 663 = .ok (.istore 17, 2) := by decide +kernel
theorem dL_packet_665 : decode cL_packet 665 = .ok (.iinc 19 (-1), 3) := by decide +kernel
theorem dL_packet_668 : decode cL_packet 668 = .ok (.goto (-111), 3) := by decide +kernel
theorem dL_packet_671 : decode cL_packet 671 = .ok (.aload 10, 2) := by decide +kernel
theorem dL_packet_673 : decode cL_packet 673 = .ok (.iload 17, 2) := by decide +kernel
theorem dL_packet_675 : decode cL_packet 675 = .ok (.dup2, 1) := by decide +kernel
theorem dL_packet_676 : decode cL_packet 676 = .ok (.iaload, 1) := by decide +kernel
theorem dL_packet_677 : decode cL_packet 677 = .ok (.sipush 2048, 3) := by decide +kernel
theorem dL_packet_680 : decode cL_packet 680 = .ok (.iadd, 1) := by decide +kernel
theorem dL_packet_681 : decode cL_packet 681 = .ok (.iastore, 1) := by decide +kernel
theorem dL_packet_682 : decode cL_packet 682 = .ok (.aload 10, 2) := by decide +kernel
theorem dL_packet_684 : decode cL_packet 684 = .ok (.iload 17, 2) := by decide +kernel
theorem dL_packet_686 : decode cL_packet 686 = .ok (.iaload, 1) := by decide +kernel
theorem dL_packet_687 : decode cL_packet 687 = .ok (.bipush 32, 2) := by decide +kernel
theorem dL_packet_689 : decode cL_packet 689 = .ok (.irem, 1) := by decide +kernel
theorem dL_packet_690 : decode cL_packet 690 = .ok (.ireturn, 1) := by decide +kernel
theorem dL_routes_0 : decode cL_routes 0 = .ok (.iload_n 2, 1) := by decide +kernel
theorem dL_routes_1 : decode cL_routes 1 = .ok (.iconst 2, 1) := by decide +kernel
theorem dL_routes_2 : decode cL_routes 2 = .ok (.invokestatic 85, 3) := by decide +kernel
theorem dL_routes_5 : decode cL_routes 5 = .ok (.istore 15, 2) := by decide +kernel
theorem dL_routes_7 : decode cL_routes 7 = .ok (.iload_n 1, 1) := by decide +kernel
theorem dL_routes_8 : decode cL_routes 8 = .ok (.bipush 11, 2) := by decide +kernel
theorem dL_routes_10 : decode cL_routes 10 = .ok (.if_icmp .ge 112, 3) := by decide +kernel
theorem dL_routes_13 : decode cL_routes 13 = .ok (.iload_n 3, 1) := by decide +kernel
theorem dL_routes_14 : decode cL_routes 14 = .ok (.invokestatic 89, 3) := by decide +kernel
theorem dL_routes_17 : decode cL_routes 17 = .ok (.istore 16, 2) := by decide +kernel
theorem dL_routes_19 : decode cL_routes 19 = .ok (.iload 16, 2) := by decide +kernel
theorem dL_routes_21 : decode cL_routes 21 = .ok (.iload 15, 2) := by decide +kernel
theorem dL_routes_23 : decode cL_routes 23 = .ok (.aload 4, 2) := by decide +kernel
theorem dL_routes_25 : decode cL_routes 25 = .ok (.aload 5, 2) := by decide +kernel
theorem dL_routes_27 : decode cL_routes 27 = .ok (.aload 6, 2) := by decide +kernel
theorem dL_routes_29 : decode cL_routes 29 = .ok (.aload 7, 2) := by decide +kernel
theorem dL_routes_31 : decode cL_routes 31 = .ok (.aload 8, 2) := by decide +kernel
theorem dL_routes_33 : decode cL_routes 33 = .ok (.aload 9, 2) := by decide +kernel
theorem dL_routes_35 : decode cL_routes 35 = .ok (.aload 10, 2) := by decide +kernel
theorem dL_routes_37 : decode cL_routes 37 = .ok (.aload 11, 2) := by decide +kernel
theorem dL_routes_39 : decode cL_routes 39 = .ok (.aload 12, 2) := by decide +kernel
theorem dL_routes_41 : decode cL_routes 41 = .ok (.aload 13, 2) := by decide +kernel
theorem dL_routes_43 : decode cL_routes 43 = .ok (.aload 14, 2) := by decide +kernel
theorem dL_routes_45 : decode cL_routes 45 = .ok (.invokestatic 133, 3) := by decide +kernel
theorem dL_routes_48 : decode cL_routes 48 = .ok (.istore 17, 2) := by decide +kernel
theorem dL_routes_50 : decode cL_routes 50 = .ok (.aload_n 0, 1) := by decide +kernel
theorem dL_routes_51 : decode cL_routes 51 = .ok (.iconst 3, 1) := by decide +kernel
theorem dL_routes_52 : decode cL_routes 52 = .ok (.iconst (-1), 1) := by decide +kernel
theorem dL_routes_53 : decode cL_routes 53 = .ok (.invokestatic 137, 3) := by decide +kernel
theorem dL_routes_56 : decode cL_routes 56 = .ok (.bipush (-71), 2) := by decide +kernel
theorem dL_routes_58 : decode cL_routes 58 = .ok (.if_icmp .ne 62, 3) := by decide +kernel
theorem dL_routes_61 : decode cL_routes 61 = .ok (.aload_n 0, 1) := by decide +kernel
theorem dL_routes_62 : decode cL_routes 62 = .ok (.iconst 2, 1) := by decide +kernel
theorem dL_routes_63 : decode cL_routes 63 = .ok (.iload 15, 2) := by decide +kernel
theorem dL_routes_65 : decode cL_routes 65 = .ok (.imul, 1) := by decide +kernel
theorem dL_routes_66 : decode cL_routes 66 = .ok (.ldc 88, 2) := by decide +kernel
theorem dL_routes_68 : decode cL_routes 68 = .ok (.invokestatic 137, 3) := by decide +kernel
theorem dL_routes_71 : decode cL_routes 71 = .ok (.bipush (-72), 2) := by decide +kernel
theorem dL_routes_73 : decode cL_routes 73 = .ok (.if_icmp .ne 47, 3) := by decide +kernel
theorem dL_routes_76 : decode cL_routes 76 = .ok (.aload_n 0, 1) := by decide +kernel
theorem dL_routes_77 : decode cL_routes 77 = .ok (.iconst (-1), 1) := by decide +kernel
theorem dL_routes_78 : decode cL_routes 78 = .ok (.iconst 0, 1) := by decide +kernel
theorem dL_routes_79 : decode cL_routes 79 = .ok (.invokestatic 137, 3) := by decide +kernel
theorem dL_routes_82 : decode cL_routes 82 = .ok (.bipush (-71), 2) := by decide +kernel
theorem dL_routes_84 : decode cL_routes 84 = .ok (.if_icmp .ne 36, 3) := by decide +kernel
theorem dL_routes_87 : decode cL_routes 87 = .ok (.aload_n 0, 1) := by decide +kernel
theorem dL_routes_88 : decode cL_routes 88 = .ok (.iconst 2, 1) := by decide +kernel
theorem dL_routes_89 : decode cL_routes 89 = .ok (.iload 15, 2) := by decide +kernel
theorem dL_routes_91 : decode cL_routes 91 = .ok (.imul, 1) := by decide +kernel
theorem dL_routes_92 : decode cL_routes 92 = .ok (.iconst (-1), 1) := by decide +kernel
theorem dL_routes_93 : decode cL_routes 93 = .ok (.invokestatic 137, 3) := by decide +kernel
theorem dL_routes_96 : decode cL_routes 96 = .ok (.bipush (-72), 2) := by decide +kernel
theorem dL_routes_98 : decode cL_routes 98 = .ok (.if_icmp .ne 22, 3) := by decide +kernel
theorem dL_routes_101 : decode cL_routes 101 = .ok (.aload_n 0, 1) := by decide +kernel
theorem dL_routes_102 : decode cL_routes 102 = .ok (.iconst 2, 1) := by decide +kernel
theorem dL_routes_103 : decode cL_routes 103 = .ok (.iload 15, 2) := by decide +kernel
theorem dL_routes_105 : decode cL_routes 105 = .ok (.imul, 1) := by decide +kernel
theorem dL_routes_106 : decode cL_routes 106 = .ok (.iload 16, 2) := by decide +kernel
theorem dL_routes_108 : decode cL_routes 108 = .ok (.invokestatic 137, 3) := by decide +kernel
theorem dL_routes_111 : decode cL_routes 111 = .ok (.iload 17, 2) := by decide +kernel
theorem dL_routes_113 : decode cL_routes 113 = .ok (.if_icmp .ne 7, 3) := by decide +kernel
theorem dL_routes_116 : decode cL_routes 116 = .ok (.iconst 1, 1) := by decide +kernel
theorem dL_routes_117 : decode cL_routes 117 = .ok (.goto 4, 3) := by decide +kernel
theorem dL_routes_120 : decode cL_routes 120 = .ok (.iconst 0, 1) := by decide +kernel
theorem dL_routes_121 : decode cL_routes 121 = .ok (.ireturn, 1) := by decide +kernel
theorem dL_routes_122 : decode cL_routes 122 = .ok (.iload_n 1, 1) := by decide +kernel
theorem dL_routes_123 : decode cL_routes 123 = .ok (.bipush 13, 2) := by decide +kernel
theorem dL_routes_125 : decode cL_routes 125 = .ok (.if_icmp .ge 166, 3) := by decide +kernel
theorem dL_routes_128 : decode cL_routes 128 = .ok (.iload_n 2, 1) := by decide +kernel
theorem dL_routes_129 : decode cL_routes 129 = .ok (.iconst 2, 1) := by decide +kernel
theorem dL_routes_130 : decode cL_routes 130 = .ok (.ishr, 1) := by decide +kernel
theorem dL_routes_131 : decode cL_routes 131 = .ok (.bipush 6, 2) := by decide +kernel
theorem dL_routes_133 : decode cL_routes 133 = .ok (.invokestatic 85, 3) := by decide +kernel
theorem dL_routes_136 : decode cL_routes 136 = .ok (.istore 16, 2) := by decide +kernel
theorem dL_routes_138 : decode cL_routes 138 = .ok (.iload_n 3, 1) := by decide +kernel
theorem dL_routes_139 : decode cL_routes 139 = .ok (.bipush 6, 2) := by decide +kernel
theorem dL_routes_141 : decode cL_routes 141 = .ok (.iand, 1) := by decide +kernel
theorem dL_routes_142 : decode cL_routes 142 = .ok (.ifCond .le 7, 3) := by decide +kernel
theorem dL_routes_145 : decode cL_routes 145 = .ok (.iconst 1, 1) := by decide +kernel
theorem dL_routes_146 : decode cL_routes 146 = .ok (.goto 4, 3) := by decide +kernel
theorem dL_routes_149 : decode cL_routes 149 = .ok (.iconst 0, 1) := by decide +kernel
theorem dL_routes_150 : decode cL_routes 150 = .ok (.istore 17, 2) := by decide +kernel
theorem dL_routes_152 : decode cL_routes 152 = .ok (.aload 13, 2) := by decide +kernel
theorem dL_routes_154 : decode cL_routes 154 = .ok (.iload 15, 2) := by decide +kernel
theorem dL_routes_156 : decode cL_routes 156 = .ok (.iload 17, 2) := by decide +kernel
theorem dL_routes_158 : decode cL_routes 158 = .ok (.ifCond .eq 18, 3) := by decide +kernel
theorem dL_routes_161 : decode cL_routes 161 = .ok (.aload 13, 2) := by decide +kernel
theorem dL_routes_163 : decode cL_routes 163 = .ok (.iload 15, 2) := by decide +kernel
theorem dL_routes_165 : decode cL_routes 165 = .ok (.iaload, 1) := by decide +kernel
theorem dL_routes_166 : decode cL_routes 166 = .ok (.iconst 1, 1) := by decide +kernel
theorem dL_routes_167 : decode cL_routes 167 = .ok (.iload 16, 2) := by decide +kernel
theorem dL_routes_169 : decode cL_routes 169 = .ok (.ishl, 1) := by decide +kernel
theorem dL_routes_170 : decode cL_routes 170 = .ok (.iconst (-1), 1) := by decide +kernel
theorem dL_routes_171 : decode cL_routes 171 = .ok (.ixor, 1) := by decide +kernel
theorem dL_routes_172 : decode cL_routes 172 = .ok (.iand, 1) := by decide +kernel
theorem dL_routes_173 : decode cL_routes 173 = .ok (.goto 13, 3) := by decide +kernel
theorem dL_routes_176 : decode cL_routes 176 = .ok (.aload 13, 2) := by decide +kernel
theorem dL_routes_178 : decode cL_routes 178 = .ok (.iload 15, 2) := by decide +kernel
theorem dL_routes_180 : decode cL_routes 180 = .ok (.iaload, 1) := by decide +kernel
theorem dL_routes_181 : decode cL_routes 181 = .ok (.iconst 1, 1) := by decide +kernel
theorem dL_routes_182 : decode cL_routes 182 = .ok (.iload 16, 2) := by decide +kernel
theorem dL_routes_184 : decode cL_routes 184 = .ok (.ishl, 1) := by decide +kernel
theorem dL_routes_185 : decode cL_routes 185 = .ok (.ior, 1) := by decide +kernel
theorem dL_routes_186 : decode cL_routes 186 = .ok (.iastore, 1) := by decide +kernel
theorem dL_routes_187 : decode cL_routes 187 = .ok (.iconst 0, 1) := by decide +kernel
theorem dL_routes_188 : decode cL_routes 188 = .ok (.istore 18, 2) := by decide +kernel
theorem dL_routes_190 : decode cL_routes 190 = .ok (.iconst 0, 1) := by decide +kernel
theorem dL_routes_191 : decode cL_routes 191 = .ok (.istore 19, 2) := by decide +kernel
theorem dL_routes_193 : decode cL_routes 193 = .ok (.iload 19, 2) := by decide +kernel
theorem dL_routes_195 : decode cL_routes 195 = .ok (.bipush 32, 2) := by decide +kernel
theorem dL_routes_197 : decode cL_routes 197 = .ok (.if_icmp .ge 24, 3) := by decide +kernel
theorem dL_routes_200 : decode cL_routes 200 = .ok (.iload 18, 2) := by decide +kernel
theorem dL_routes_202 : decode cL_routes 202 = .ok (.aload 13, 2) := by decide +kernel
theorem dL_routes_204 : decode cL_routes 204 = .ok (.iload 15, 2) := by decide +kernel
theorem dL_routes_206 : decode cL_routes 206 = .ok (.iaload, 1) := by decide +kernel
theorem dL_routes_207 : decode cL_routes 207 = .ok (.iload 19, 2) := by decide +kernel
theorem dL_routes_209 : decode cL_routes 209 = .ok (.ishr, 1) := by decide +kernel
theorem dL_routes_210 : decode cL_routes 210 = .ok (.iconst 1, 1) := by decide +kernel
theorem dL_routes_211 : decode cL_routes 211 = .ok (.iand, 1) := by decide +kernel
theorem dL_routes_212 : decode cL_routes 212 = .ok (.iadd, 1) := by decide +kernel
theorem dL_routes_213 : decode cL_routes 213 = .ok (.istore 18, 2) := by decide +kernel
theorem dL_routes_215 : decode cL_routes 215 = .ok (.iinc 19 1, 3) := by decide +kernel
theorem dL_routes_218 : decode cL_routes 218 = .ok (.goto (-25), 3) := by decide +kernel
theorem dL_routes_221 : decode cL_routes 221 = .ok (.aload_n 0, 1) := by decide +kernel
theorem dL_routes_222 : decode cL_routes 222 = .ok (.iconst 3, 1) := by decide +kernel
theorem dL_routes_223 : decode cL_routes 223 = .ok (.bipush 32, 2) := by decide +kernel
theorem dL_routes_225 : decode cL_routes 225 = .ok (.iload 17, 2) := by decide +kernel
theorem dL_routes_227 : decode cL_routes 227 = .ok (.invokestatic 139, 3) := by decide +kernel
theorem dL_routes_230 : decode cL_routes 230 = .ok (.bipush (-71), 2) := by decide +kernel
theorem dL_routes_232 : decode cL_routes 232 = .ok (.if_icmp .ne 57, 3) := by decide +kernel
theorem dL_routes_235 : decode cL_routes 235 = .ok (.aload_n 0, 1) := by decide +kernel
theorem dL_routes_236 : decode cL_routes 236 = .ok (.iconst 2, 1) := by decide +kernel
theorem dL_routes_237 : decode cL_routes 237 = .ok (.iload 15, 2) := by decide +kernel
theorem dL_routes_239 : decode cL_routes 239 = .ok (.imul, 1) := by decide +kernel
theorem dL_routes_240 : decode cL_routes 240 = .ok (.bipush 32, 2) := by decide +kernel
theorem dL_routes_242 : decode cL_routes 242 = .ok (.iload 17, 2) := by decide +kernel
theorem dL_routes_244 : decode cL_routes 244 = .ok (.invokestatic 139, 3) := by decide +kernel
theorem dL_routes_247 : decode cL_routes 247 = .ok (.bipush (-72), 2) := by decide +kernel
theorem dL_routes_249 : decode cL_routes 249 = .ok (.if_icmp .ne 40, 3) := by decide +kernel
theorem dL_routes_252 : decode cL_routes 252 = .ok (.aload_n 0, 1) := by decide +kernel
theorem dL_routes_253 : decode cL_routes 253 = .ok (.iconst 2, 1) := by decide +kernel
theorem dL_routes_254 : decode cL_routes 254 = .ok (.iload 15, 2) := by decide +kernel
theorem dL_routes_256 : decode cL_routes 256 = .ok (.imul, 1) := by decide +kernel
theorem dL_routes_257 : decode cL_routes 257 = .ok (.iconst (-1), 1) := by decide +kernel
theorem dL_routes_258 : decode cL_routes 258 = .ok (.iload 17, 2) := by decide +kernel
theorem dL_routes_260 : decode cL_routes 260 = .ok (.invokestatic 139, 3) := by decide +kernel
theorem dL_routes_263 : decode cL_routes 263 = .ok (.bipush (-72), 2) := by decide +kernel
theorem dL_routes_265 : decode cL_routes 265 = .ok (.if_icmp .ne 24, 3) := by decide +kernel
theorem dL_routes_268 : decode cL_routes 268 = .ok (.aload_n 0, 1) := by decide +kernel
theorem dL_routes_269 : decode cL_routes 269 = .ok (.iconst 2, 1) := by decide +kernel
theorem dL_routes_270 : decode cL_routes 270 = .ok (.iload 15, 2) := by decide +kernel
theorem dL_routes_272 : decode cL_routes 272 = .ok (.imul, 1) := by decide +kernel
theorem dL_routes_273 : decode cL_routes 273 = .ok (.iload 16, 2) := by decide +kernel
theorem dL_routes_275 : decode cL_routes 275 = .ok (.iload 17, 2) := by decide +kernel
theorem dL_routes_277 : decode cL_routes 277 = .ok (.invokestatic 139, 3) := by decide +kernel
theorem dL_routes_280 : decode cL_routes 280 = .ok (.iload 18, 2) := by decide +kernel
theorem dL_routes_282 : decode cL_routes 282 = .ok (.if_icmp .ne 7, 3) := by decide +kernel
theorem dL_routes_285 : decode cL_routes 285 = .ok (.iconst 1, 1) := by decide +kernel
theorem dL_routes_286 : decode cL_routes 286 = .ok (.goto 4, 3) := by decide +kernel
theorem dL_routes_289 : decode cL_routes 289 = .ok (.iconst 0, 1) := by decide +kernel
theorem dL_routes_290 : decode cL_routes 290 = .ok (.ireturn, 1) := by decide +kernel
theorem dL_routes_291 : decode cL_routes 291 = .ok (.iload_n 1, 1) := by decide +kernel
theorem dL_routes_292 : decode cL_routes 292 = .ok (.bipush 15, 2) := by decide +kernel
theorem dL_routes_294 : decode cL_routes 294 = .ok (.if_icmp .ge 204, 3) := by decide +kernel
theorem dL_routes_297 : decode cL_routes 297 = .ok (.iload_n 2, 1) := by decide +kernel
theorem dL_routes_298 : decode cL_routes 298 = .ok (.iload_n 3, 1) := by decide +kernel
theorem dL_routes_299 : decode cL_routes 299 = .ok (.invokestatic 92, 3) := by decide +kernel
theorem dL_routes_302 : decode cL_routes 302 = .ok (.istore 16, 2) := by decide +kernel
theorem dL_routes_304 : decode cL_routes 304 = .ok (.iload_n 2, 1) := by decide +kernel
theorem dL_routes_305 : decode cL_routes 305 = .ok (.bipush 12, 2) := by decide +kernel
theorem dL_routes_307 : decode cL_routes 307 = .ok (.ishr, 1) := by decide +kernel
theorem dL_routes_308 : decode cL_routes 308 = .ok (.iconst 4, 1) := by decide +kernel
theorem dL_routes_309 : decode cL_routes 309 = .ok (.invokestatic 85, 3) := by decide +kernel
theorem dL_routes_312 : decode cL_routes 312 = .ok (.istore 17, 2) := by decide +kernel
theorem dL_routes_314 : decode cL_routes 314 = .ok (.aload_n 0, 1) := by decide +kernel
theorem dL_routes_315 : decode cL_routes 315 = .ok (.iconst 1, 1) := by decide +kernel
theorem dL_routes_316 : decode cL_routes 316 = .ok (.iconst 0, 1) := by decide +kernel
theorem dL_routes_317 : decode cL_routes 317 = .ok (.iconst 4, 1) := by decide +kernel
theorem dL_routes_318 : decode cL_routes 318 = .ok (.invokestatic 142, 3) := by decide +kernel
theorem dL_routes_321 : decode cL_routes 321 = .ok (.bipush (-71), 2) := by decide +kernel
theorem dL_routes_323 : decode cL_routes 323 = .ok (.if_icmp .ne 30, 3) := by decide +kernel
theorem dL_routes_326 : decode cL_routes 326 = .ok (.aload_n 0, 1) := by decide +kernel
theorem dL_routes_327 : decode cL_routes 327 = .ok (.iconst 1, 1) := by decide +kernel
theorem dL_routes_328 : decode cL_routes 328 = .ok (.iconst 0, 1) := by decide +kernel
theorem dL_routes_329 : decode cL_routes 329 = .ok (.iload 17, 2) := by decide +kernel
theorem dL_routes_331 : decode cL_routes 331 = .ok (.invokestatic 142, 3) := by decide +kernel
theorem dL_routes_334 : decode cL_routes 334 = .ok (.bipush (-72), 2) := by decide +kernel
theorem dL_routes_336 : decode cL_routes 336 = .ok (.if_icmp .ne 17, 3) := by decide +kernel
theorem dL_routes_339 : decode cL_routes 339 = .ok (.aload_n 0, 1) := by decide +kernel
theorem dL_routes_340 : decode cL_routes 340 = .ok (.iconst 0, 1) := by decide +kernel
theorem dL_routes_341 : decode cL_routes 341 = .ok (.bipush 17, 2) := by decide +kernel
theorem dL_routes_343 : decode cL_routes 343 = .ok (.iload 17, 2) := by decide +kernel
theorem dL_routes_345 : decode cL_routes 345 = .ok (.invokestatic 142, 3) := by decide +kernel
theorem dL_routes_348 : decode cL_routes 348 = .ok (.bipush (-72), 2) := by decide +kernel
theorem dL_routes_350 : decode cL_routes 350 = .ok (.if_icmp .eq 5, 3) := by decide +kernel
theorem dL_routes_353 : decode cL_routes 353 = .ok (.iconst 0, 1) := by decide +kernel
theorem dL_routes_354 : decode cL_routes 354 = .ok (.ireturn, 1) := by decide +kernel
theorem dL_routes_355 : decode cL_routes 355 = .ok (.aload 14, 2) := by decide +kernel
theorem dL_routes_357 : decode cL_routes 357 = .ok (.iconst 4, 1) := by decide +kernel
theorem dL_routes_358 : decode cL_routes 358 = .ok (.iaload, 1) := by decide +kernel
theorem dL_routes_359 : decode cL_routes 359 = .ok (.istore 18, 2) := by decide +kernel
theorem dL_routes_361 : decode cL_routes 361 = .ok (.iconst 0, 1) := by decide +kernel
theorem dL_routes_362 : decode cL_routes 362 = .ok (.istore 19, 2) := by decide +kernel
theorem dL_routes_364 : decode cL_routes 364 = .ok (.iload 19, 2) := by decide +kernel
theorem dL_routes_366 : decode cL_routes 366 = .ok (.aload 14, 2) := by decide +kernel
theorem dL_routes_368 : decode cL_routes 368 = .ok (.iconst 4, 1) := by decide +kernel
theorem dL_routes_369 : decode cL_routes 369 = .ok (.iaload, 1) := by decide +kernel
theorem dL_routes_370 : decode cL_routes 370 = .ok (.if_icmp .ge 31, 3) := by decide +kernel
theorem dL_routes_373 : decode cL_routes 373 = .ok (.aload 7, 2) := by decide +kernel
theorem dL_routes_375 : decode cL_routes 375 = .ok (.iload 19, 2) := by decide +kernel
theorem dL_routes_377 : decode cL_routes 377 = .ok (.iaload, 1) := by decide +kernel
theorem dL_routes_378 : decode cL_routes 378 = .ok (.ldc 116, 2) := by decide +kernel
theorem dL_routes_380 : decode cL_routes 380 = .ok (.iand, 1) := by decide +kernel
theorem dL_routes_381 : decode cL_routes 381 = .ok (.iload 16, 2) := by decide +kernel
theorem dL_routes_383 : decode cL_routes 383 = .ok (.if_icmp .ne 8, 3) := by decide +kernel
theorem dL_routes_386 : decode cL_routes 386 = .ok (.iload 19, 2) := by decide +kernel
theorem dL_routes_388 : decode cL_routes 388 = .ok (.goto 5, 3) := by decide +kernel
theorem dL_routes_391 : decode cL_routes 391 = .ok (.iload 18, 2) := by decide +kernel
theorem dL_routes_393 : decode cL_routes 393 = .ok (.istore 18, 2) := by decide +kernel
theorem dL_routes_395 : decode cL_routes 395 = .ok (.iinc 19 1, 3) := by decide +kernel
theorem dL_routes_398 : decode cL_routes 398 = .ok (.goto (-34), 3) := by decide +kernel
theorem dL_routes_401 : decode cL_routes 401 = .ok (.iload 18, 2) := by decide +kernel
theorem dL_routes_403 : decode cL_routes 403 = .ok (.bipush 12, 2) := by decide +kernel
theorem dL_routes_405 : decode cL_routes 405 = .ok (.if_icmp .ne 30, 3) := by decide +kernel
theorem dL_routes_408 : decode cL_routes 408 = .ok (.aload_n 0, 1) := by decide +kernel
theorem dL_routes_409 : decode cL_routes 409 = .ok (.iload 16, 2) := by decide +kernel
theorem dL_routes_411 : decode cL_routes 411 = .ok (.bipush 32, 2) := by decide +kernel
theorem dL_routes_413 : decode cL_routes 413 = .ok (.idiv, 1) := by decide +kernel
theorem dL_routes_414 : decode cL_routes 414 = .ok (.iload 16, 2) := by decide +kernel
theorem dL_routes_416 : decode cL_routes 416 = .ok (.bipush 32, 2) := by decide +kernel
theorem dL_routes_418 : decode cL_routes 418 = .ok (.irem, 1) := by decide +kernel
theorem dL_routes_419 : decode cL_routes 419 = .ok (.iload 17, 2) := by decide +kernel
theorem dL_routes_421 : decode cL_routes 421 = .ok (.invokestatic 142, 3) := by decide +kernel
theorem dL_routes_424 : decode cL_routes 424 = .ok (.bipush (-73), 2) := by decide +kernel
theorem dL_routes_426 : decode cL_routes 426 = .ok (.if_icmp .ne 7, 3) := by decide +kernel
theorem dL_routes_429 : decode cL_routes 429 = .ok (.iconst 1, 1) := by decide +kernel
theorem dL_routes_430 : decode cL_routes 430 = .ok (.goto 4, 3) := by decide +kernel
theorem dL_routes_433 : decode cL_routes 433 = .ok (.iconst 0, 1) := by decide +kernel
theorem dL_routes_434 : decode cL_routes 434 = .ok (.ireturn, 1) := by decide +kernel
theorem dL_routes_435 : decode cL_routes 435 = .ok (.aload 7, 2) := by decide +kernel
theorem dL_routes_437 : decode cL_routes 437 = .ok (.iload 18, 2) := by decide +kernel
theorem dL_routes_439 : decode cL_routes 439 = .ok (.iload 16, 2) := by decide +kernel
theorem dL_routes_441 : decode cL_routes 441 = .ok (.iload 17, 2) := by decide +kernel
theorem dL_routes_443 : decode cL_routes 443 = .ok (.bipush 22, 2) := by decide +kernel
theorem dL_routes_445 : decode cL_routes 445 = .ok (.ishl, 1) := by decide +kernel
theorem dL_routes_446 : decode cL_routes 446 = .ok (.iadd, 1) := by decide +kernel
theorem dL_routes_447 : decode cL_routes 447 = .ok (.iastore, 1) := by decide +kernel
theorem dL_routes_448 : decode cL_routes 448 = .ok (.aload 14, 2) := by decide +kernel
theorem dL_routes_450 : decode cL_routes 450 = .ok (.iconst 4, 1) := by decide +kernel
theorem dL_routes_451 : decode cL_routes 451 = .ok (.dup2, 1) := by decide +kernel
theorem dL_routes_452 : decode cL_routes 452 = .ok (.iaload, 1) := by decide +kernel
theorem dL_routes_453 : decode cL_routes 453 = .ok (.iload 18, 2) := by decide +kernel
theorem dL_routes_455 : decode cL_routes 455 = .ok (.aload 14, 2) := by decide +kernel
theorem dL_routes_457 : decode cL_routes 457 = .ok (.iconst 4, 1) := by decide +kernel
theorem dL_routes_458 : decode cL_routes 458 = .ok (.iaload, 1) := by decide +kernel
theorem dL_routes_459 : decode cL_routes 459 = .ok (.if_icmp .ne 7, 3) := by decide +kernel
theorem dL_routes_462 : decode cL_routes 462 = .ok (.iconst 1, 1) := by decide +kernel
theorem dL_routes_463 : decode cL_routes 463 = .ok (.goto 4, 3) := by decide +kernel
theorem dL_routes_466 : decode cL_routes 466 = .ok (.iconst 0, 1) := by decide +kernel
theorem dL_routes_467 : decode cL_routes 467 = .ok (.iadd, 1) := by decide +kernel
theorem dL_routes_468 : decode cL_routes 468 = .ok (.iastore, 1) := by decide +kernel
theorem dL_routes_469 : decode cL_routes 469 = .ok (.aload_n 0, 1) := by decide +kernel
theorem dL_routes_470 : decode cL_routes 470 = .ok (.iload 16, 2) := by decide +kernel
theorem dL_routes_472 : decode cL_routes 472 = .ok (.bipush 32, 2) := by decide +kernel
theorem dL_routes_474 : decode cL_routes 474 = .ok (.idiv, 1) := by decide +kernel
theorem dL_routes_475 : decode cL_routes 475 = .ok (.iload 16, 2) := by decide +kernel
theorem dL_routes_477 : decode cL_routes 477 = .ok (.bipush 32, 2) := by decide +kernel
theorem dL_routes_479 : decode cL_routes 479 = .ok (.irem, 1) := by decide +kernel
theorem dL_routes_480 : decode cL_routes 480 = .ok (.iload 17, 2) := by decide +kernel
theorem dL_routes_482 : decode cL_routes 482 = .ok (.invokestatic 142, 3) := by decide +kernel
theorem dL_routes_485 : decode cL_routes 485 = .ok (.aload 14, 2) := by decide +kernel
theorem dL_routes_487 : decode cL_routes 487 = .ok (.iconst 4, 1) := by decide +kernel
theorem dL_routes_488 : decode cL_routes 488 = .ok (.iaload, 1) := by decide +kernel
theorem dL_routes_489 : decode cL_routes 489 = .ok (.if_icmp .ne 7, 3) := by decide +kernel
theorem dL_routes_492 : decode cL_routes 492 = .ok (.iconst 1, 1) := by decide +kernel
theorem dL_routes_493 : decode cL_routes 493 = .ok (.goto 4, 3) := by decide +kernel
theorem dL_routes_496 : decode cL_routes 496 = .ok (.iconst 0, 1) := by decide +kernel
theorem dL_routes_497 : decode cL_routes 497 = .ok (.ireturn, 1) := by decide +kernel
theorem dL_routes_498 : decode cL_routes 498 = .ok (.iload_n 1, 1) := by decide +kernel
theorem dL_routes_499 : decode cL_routes 499 = .ok (.bipush 15, 2) := by decide +kernel
