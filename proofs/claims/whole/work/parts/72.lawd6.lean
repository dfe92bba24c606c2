/-! The law's own instructions, 660 on -/
theorem d_W_1056 : decode code 1056 = .ok (.aload_n 3, 1) := by decide +kernel
theorem d_W_1057 : decode code 1057 = .ok (.invokestatic 119, 3) := by decide +kernel
theorem d_W_1060 : decode code 1060 = .ok (.istore 5, 2) := by decide +kernel
theorem d_W_1062 : decode code 1062 = .ok (.aload_n 2, 1) := by decide +kernel
theorem d_W_1063 : decode code 1063 = .ok (.aload_n 0, 1) := by decide +kernel
theorem d_W_1064 : decode code 1064 = .ok (.iload 4, 2) := by decide +kernel
theorem d_W_1066 : decode code 1066 = .ok (.iconst 1, 1) := by decide +kernel
theorem d_W_1067 : decode code 1067 = .ok (.iadd, 1) := by decide +kernel
theorem d_W_1068 : decode code 1068 = .ok (.iaload, 1) := by decide +kernel
theorem d_W_1069 : decode code 1069 = .ok (.invokevirtual 122, 3) := by decide +kernel
theorem d_W_1072 : decode code 1072 = .ok (.istore 6, 2) := by decide +kernel
theorem d_W_1074 : decode code 1074 = .ok (.aload_n 2, 1) := by decide +kernel
theorem d_W_1075 : decode code 1075 = .ok (.invokevirtual 72, 3) := by decide +kernel
theorem d_W_1078 : decode code 1078 = .ok (.iload 5, 2) := by decide +kernel
theorem d_W_1080 : decode code 1080 = .ok (.if_icmp .eq 5, 3) := by decide +kernel
theorem d_W_1083 : decode code 1083 = .ok (.iconst 0, 1) := by decide +kernel
theorem d_W_1084 : decode code 1084 = .ok (.ireturn, 1) := by decide +kernel
theorem d_W_1085 : decode code 1085 = .ok (.iload 5, 2) := by decide +kernel
theorem d_W_1087 : decode code 1087 = .ok (.ifCond .ne 15, 3) := by decide +kernel
theorem d_W_1090 : decode code 1090 = .ok (.aload_n 3, 1) := by decide +kernel
theorem d_W_1091 : decode code 1091 = .ok (.iconst 0, 1) := by decide +kernel
theorem d_W_1092 : decode code 1092 = .ok (.laload, 1) := by decide +kernel
theorem d_W_1093 : decode code 1093 = .ok (.iload 6, 2) := by decide +kernel
theorem d_W_1095 : decode code 1095 = .ok (.i2l, 1) := by decide +kernel
theorem d_W_1096 : decode code 1096 = .ok (.lcmp, 1) := by decide +kernel
theorem d_W_1097 : decode code 1097 = .ok (.ifCond .eq 5, 3) := by decide +kernel
theorem d_W_1100 : decode code 1100 = .ok (.iconst 0, 1) := by decide +kernel
theorem d_W_1101 : decode code 1101 = .ok (.ireturn, 1) := by decide +kernel
theorem d_W_1102 : decode code 1102 = .ok (.goto 3, 3) := by decide +kernel
theorem d_W_1105 : decode code 1105 = .ok (.iinc 4 5, 3) := by decide +kernel
theorem d_W_1108 : decode code 1108 = .ok (.goto (-1085), 3) := by decide +kernel
theorem d_W_1111 : decode code 1111 = .ok (.iconst 1, 1) := by decide +kernel
theorem d_W_1112 : decode code 1112 = .ok (.ireturn, 1) := by decide +kernel
