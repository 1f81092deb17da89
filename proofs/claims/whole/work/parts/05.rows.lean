/-! a row an instruction -/
theorem k0_0 : icode MCl 0 0 = some (.aload_n 0, 1, 0, 0, 0) := by decide +kernel
theorem k0_1 : icode MCl 0 1 = some (.invokespecial 3, 4, 9999, 74, 0) := by decide +kernel
theorem k0_4 : icode MCl 0 4 = some (.aload_n 0, 5, 0, 0, 0) := by decide +kernel
theorem k0_5 : icode MCl 0 5 = some (.sipush 200, 8, 0, 0, 200) := by decide +kernel
theorem k0_8 : icode MCl 0 8 = some (.newarray .int, 10, 0, 0, 0) := by decide +kernel
theorem k0_10 : icode MCl 0 10 = some (.putfield 9, 13, 0, 75, 1) := by decide +kernel
theorem k0_13 : icode MCl 0 13 = some (.return_, 14, 0, 0, 0) := by decide +kernel
theorem k1_0 : icode MCl 1 0 = some (.aload_n 0, 1, 0, 0, 0) := by decide +kernel
theorem k1_1 : icode MCl 1 1 = some (.invokespecial 3, 4, 9999, 88, 0) := by decide +kernel
theorem k1_4 : icode MCl 1 4 = some (.aload_n 0, 5, 0, 0, 0) := by decide +kernel
theorem k1_5 : icode MCl 1 5 = some (.bipush 9, 7, 0, 0, 9) := by decide +kernel
theorem k1_7 : icode MCl 1 7 = some (.newarray .int, 9, 0, 0, 0) := by decide +kernel
theorem k1_9 : icode MCl 1 9 = some (.putfield 9, 12, 600, 89, 1) := by decide +kernel
theorem k1_12 : icode MCl 1 12 = some (.aload_n 0, 13, 0, 0, 0) := by decide +kernel
theorem k1_13 : icode MCl 1 13 = some (.bipush 9, 15, 0, 0, 9) := by decide +kernel
theorem k1_15 : icode MCl 1 15 = some (.newarray .int, 17, 0, 0, 0) := by decide +kernel
theorem k1_17 : icode MCl 1 17 = some (.putfield 15, 20, 601, 90, 1) := by decide +kernel
theorem k1_20 : icode MCl 1 20 = some (.aload_n 0, 21, 0, 0, 0) := by decide +kernel
theorem k1_21 : icode MCl 1 21 = some (.bipush 9, 23, 0, 0, 9) := by decide +kernel
theorem k1_23 : icode MCl 1 23 = some (.newarray .int, 25, 0, 0, 0) := by decide +kernel
theorem k1_25 : icode MCl 1 25 = some (.putfield 18, 28, 602, 91, 1) := by decide +kernel
theorem k1_28 : icode MCl 1 28 = some (.return_, 29, 0, 0, 0) := by decide +kernel
theorem k2_0 : icode MCl 2 0 = some (.aload_n 0, 1, 0, 0, 0) := by decide +kernel
theorem k2_1 : icode MCl 2 1 = some (.invokespecial 3, 4, 9999, 114, 0) := by decide +kernel
theorem k2_4 : icode MCl 2 4 = some (.return_, 5, 0, 0, 0) := by decide +kernel
theorem k3_0 : icode MCl 3 0 = some (.aload_n 0, 1, 0, 0, 0) := by decide +kernel
theorem k3_1 : icode MCl 3 1 = some (.invokespecial 3, 4, 9999, 107, 0) := by decide +kernel
theorem k3_4 : icode MCl 3 4 = some (.aload_n 0, 5, 0, 0, 0) := by decide +kernel
theorem k3_5 : icode MCl 3 5 = some (.bipush 6, 7, 0, 0, 6) := by decide +kernel
theorem k3_7 : icode MCl 3 7 = some (.anewarray 9, 10, 21, 108, 0) := by decide +kernel
theorem k3_10 : icode MCl 3 10 = some (.putfield 11, 13, 200, 143, 1) := by decide +kernel
theorem k3_13 : icode MCl 3 13 = some (.aload_n 0, 14, 0, 0, 0) := by decide +kernel
theorem k3_14 : icode MCl 3 14 = some (.new 9, 17, 1, 108, 0) := by decide +kernel
theorem k3_17 : icode MCl 3 17 = some (.dup, 18, 0, 0, 0) := by decide +kernel
theorem k3_18 : icode MCl 3 18 = some (.invokespecial 17, 21, 2, 111, 1) := by decide +kernel
theorem k3_21 : icode MCl 3 21 = some (.putfield 18, 24, 201, 144, 1) := by decide +kernel
theorem k3_24 : icode MCl 3 24 = some (.iconst 0, 25, 0, 0, 0) := by decide +kernel
theorem k3_25 : icode MCl 3 25 = some (.istore_n 1, 26, 0, 0, 0) := by decide +kernel
theorem k3_26 : icode MCl 3 26 = some (.iload_n 1, 27, 0, 0, 0) := by decide +kernel
theorem k3_27 : icode MCl 3 27 = some (.aload_n 0, 28, 0, 0, 0) := by decide +kernel
theorem k3_28 : icode MCl 3 28 = some (.getfield 11, 31, 200, 143, 1) := by decide +kernel
theorem k3_31 : icode MCl 3 31 = some (.arraylength, 32, 0, 0, 0) := by decide +kernel
theorem k3_32 : icode MCl 3 32 = some (.if_icmp .ge 22, 35, 54, 0, 0) := by decide +kernel
theorem k3_35 : icode MCl 3 35 = some (.aload_n 0, 36, 0, 0, 0) := by decide +kernel
theorem k3_36 : icode MCl 3 36 = some (.getfield 11, 39, 200, 143, 1) := by decide +kernel
theorem k3_39 : icode MCl 3 39 = some (.iload_n 1, 40, 0, 0, 0) := by decide +kernel
theorem k3_40 : icode MCl 3 40 = some (.new 9, 43, 1, 108, 0) := by decide +kernel
theorem k3_43 : icode MCl 3 43 = some (.dup, 44, 0, 0, 0) := by decide +kernel
theorem k3_44 : icode MCl 3 44 = some (.invokespecial 17, 47, 2, 111, 1) := by decide +kernel
theorem k3_47 : icode MCl 3 47 = some (.aastore, 48, 0, 0, 0) := by decide +kernel
theorem k3_48 : icode MCl 3 48 = some (.iinc 1 1, 51, 0, 0, 1) := by decide +kernel
theorem k3_51 : icode MCl 3 51 = some (.goto (-25), 54, 26, 0, 0) := by decide +kernel
theorem k3_54 : icode MCl 3 54 = some (.return_, 55, 0, 0, 0) := by decide +kernel
theorem k4_0 : icode MCl 4 0 = some (.aload_n 0, 1, 0, 0, 0) := by decide +kernel
theorem k4_1 : icode MCl 4 1 = some (.invokespecial 3, 4, 9999, 68, 0) := by decide +kernel
theorem k4_4 : icode MCl 4 4 = some (.aload_n 0, 5, 0, 0, 0) := by decide +kernel
theorem k4_5 : icode MCl 4 5 = some (.new 9, 8, 0, 69, 0) := by decide +kernel
theorem k4_8 : icode MCl 4 8 = some (.dup, 9, 0, 0, 0) := by decide +kernel
theorem k4_9 : icode MCl 4 9 = some (.invokespecial 11, 12, 0, 71, 1) := by decide +kernel
theorem k4_12 : icode MCl 4 12 = some (.putfield 12, 15, 400, 159, 1) := by decide +kernel
theorem k4_15 : icode MCl 4 15 = some (.aload_n 0, 16, 0, 0, 0) := by decide +kernel
theorem k4_16 : icode MCl 4 16 = some (.new 18, 19, 6, 83, 0) := by decide +kernel
theorem k4_19 : icode MCl 4 19 = some (.dup, 20, 0, 0, 0) := by decide +kernel
theorem k4_20 : icode MCl 4 20 = some (.invokespecial 20, 23, 1, 85, 1) := by decide +kernel
theorem k4_23 : icode MCl 4 23 = some (.putfield 21, 26, 401, 161, 1) := by decide +kernel
theorem k4_26 : icode MCl 4 26 = some (.aload_n 0, 27, 0, 0, 0) := by decide +kernel
theorem k4_27 : icode MCl 4 27 = some (.new 25, 30, 2, 102, 0) := by decide +kernel
theorem k4_30 : icode MCl 4 30 = some (.dup, 31, 0, 0, 0) := by decide +kernel
theorem k4_31 : icode MCl 4 31 = some (.invokespecial 27, 34, 3, 104, 0) := by decide +kernel
theorem k4_34 : icode MCl 4 34 = some (.putfield 28, 37, 402, 163, 1) := by decide +kernel
theorem k4_37 : icode MCl 4 37 = some (.return_, 38, 0, 0, 0) := by decide +kernel
theorem k5_0 : icode MCl 5 0 = some (.iload_n 0, 1, 0, 0, 0) := by decide +kernel
theorem k5_1 : icode MCl 5 1 = some (.iload_n 1, 2, 0, 0, 0) := by decide +kernel
theorem k5_2 : icode MCl 5 2 = some (.if_icmp .lt 7, 5, 9, 0, 0) := by decide +kernel
theorem k5_5 : icode MCl 5 5 = some (.iload_n 0, 6, 0, 0, 0) := by decide +kernel
theorem k5_6 : icode MCl 5 6 = some (.goto 4, 9, 10, 0, 0) := by decide +kernel
theorem k5_9 : icode MCl 5 9 = some (.iload_n 1, 10, 0, 0, 0) := by decide +kernel
theorem k5_10 : icode MCl 5 10 = some (.ireturn, 11, 0, 0, 0) := by decide +kernel
theorem k6_0 : icode MCl 6 0 = some (.aload_n 0, 1, 0, 0, 0) := by decide +kernel
theorem k6_1 : icode MCl 6 1 = some (.invokespecial 1, 4, 9999, 184, 0) := by decide +kernel
theorem k6_4 : icode MCl 6 4 = some (.aload_n 0, 5, 0, 0, 0) := by decide +kernel
theorem k6_5 : icode MCl 6 5 = some (.iload_n 1, 6, 0, 0, 0) := by decide +kernel
theorem k6_6 : icode MCl 6 6 = some (.iconst 0, 7, 0, 0, 0) := by decide +kernel
theorem k6_7 : icode MCl 6 7 = some (.invokestatic 7, 10, 9997, 185, 0) := by decide +kernel
theorem k6_10 : icode MCl 6 10 = some (.anewarray 13, 13, 22, 188, 0) := by decide +kernel
theorem k6_13 : icode MCl 6 13 = some (.putfield 15, 16, 300, 191, 1) := by decide +kernel
theorem k6_16 : icode MCl 6 16 = some (.iconst 0, 17, 0, 0, 0) := by decide +kernel
theorem k6_17 : icode MCl 6 17 = some (.istore_n 2, 18, 0, 0, 0) := by decide +kernel
theorem k6_18 : icode MCl 6 18 = some (.iload_n 2, 19, 0, 0, 0) := by decide +kernel
theorem k6_19 : icode MCl 6 19 = some (.aload_n 0, 20, 0, 0, 0) := by decide +kernel
theorem k6_20 : icode MCl 6 20 = some (.getfield 15, 23, 300, 191, 1) := by decide +kernel
theorem k6_23 : icode MCl 6 23 = some (.arraylength, 24, 0, 0, 0) := by decide +kernel
theorem k6_24 : icode MCl 6 24 = some (.if_icmp .ge 22, 27, 46, 0, 0) := by decide +kernel
theorem k6_27 : icode MCl 6 27 = some (.aload_n 0, 28, 0, 0, 0) := by decide +kernel
theorem k6_28 : icode MCl 6 28 = some (.getfield 15, 31, 300, 191, 1) := by decide +kernel
theorem k6_31 : icode MCl 6 31 = some (.iload_n 2, 32, 0, 0, 0) := by decide +kernel
theorem k6_32 : icode MCl 6 32 = some (.new 13, 35, 2, 188, 0) := by decide +kernel
theorem k6_35 : icode MCl 6 35 = some (.dup, 36, 0, 0, 0) := by decide +kernel
theorem k6_36 : icode MCl 6 36 = some (.invokespecial 21, 39, 3, 190, 0) := by decide +kernel
theorem k6_39 : icode MCl 6 39 = some (.aastore, 40, 0, 0, 0) := by decide +kernel
theorem k6_40 : icode MCl 6 40 = some (.iinc 2 1, 43, 0, 0, 1) := by decide +kernel
theorem k6_43 : icode MCl 6 43 = some (.goto (-25), 46, 18, 0, 0) := by decide +kernel
theorem k6_46 : icode MCl 6 46 = some (.return_, 47, 0, 0, 0) := by decide +kernel
theorem k7_0 : icode MCl 7 0 = some (.aload_n 0, 1, 0, 0, 0) := by decide +kernel
theorem k7_1 : icode MCl 7 1 = some (.invokespecial 3, 4, 9999, 203, 0) := by decide +kernel
theorem k7_4 : icode MCl 7 4 = some (.aload_n 0, 5, 0, 0, 0) := by decide +kernel
theorem k7_5 : icode MCl 7 5 = some (.bipush 6, 7, 0, 0, 6) := by decide +kernel
theorem k7_7 : icode MCl 7 7 = some (.newarray .int, 9, 0, 0, 0) := by decide +kernel
theorem k7_9 : icode MCl 7 9 = some (.putfield 9, 12, 500, 204, 1) := by decide +kernel
theorem k7_12 : icode MCl 7 12 = some (.aload_n 0, 13, 0, 0, 0) := by decide +kernel
theorem k7_13 : icode MCl 7 13 = some (.bipush 6, 15, 0, 0, 6) := by decide +kernel
theorem k7_15 : icode MCl 7 15 = some (.newarray .int, 17, 0, 0, 0) := by decide +kernel
theorem k7_17 : icode MCl 7 17 = some (.putfield 15, 20, 501, 205, 1) := by decide +kernel
theorem k7_20 : icode MCl 7 20 = some (.aload_n 0, 21, 0, 0, 0) := by decide +kernel
theorem k7_21 : icode MCl 7 21 = some (.bipush 6, 23, 0, 0, 6) := by decide +kernel
theorem k7_23 : icode MCl 7 23 = some (.newarray .int, 25, 0, 0, 0) := by decide +kernel
theorem k7_25 : icode MCl 7 25 = some (.putfield 18, 28, 502, 206, 1) := by decide +kernel
theorem k7_28 : icode MCl 7 28 = some (.return_, 29, 0, 0, 0) := by decide +kernel
theorem k8_0 : icode MCl 8 0 = some (.getstatic 38, 3, 0, 226, 0) := by decide +kernel
theorem k8_3 : icode MCl 8 3 = some (.ifCond .eq 10, 6, 13, 0, 0) := by decide +kernel
theorem k8_6 : icode MCl 8 6 = some (.aload_n 0, 7, 0, 0, 0) := by decide +kernel
theorem k8_7 : icode MCl 8 7 = some (.getfield 15, 10, 9001, 1087, 0) := by decide +kernel
theorem k8_10 : icode MCl 8 10 = some (.goto 4, 13, 14, 0, 0) := by decide +kernel
theorem k8_13 : icode MCl 8 13 = some (.iconst 1, 14, 0, 0, 1) := by decide +kernel
theorem k8_14 : icode MCl 8 14 = some (.ireturn, 15, 0, 0, 0) := by decide +kernel
theorem k9_0 : icode MCl 9 0 = some (.aload_n 0, 1, 0, 0, 0) := by decide +kernel
theorem k9_1 : icode MCl 9 1 = some (.getfield 9, 4, 9000, 1086, 0) := by decide +kernel
theorem k9_4 : icode MCl 9 4 = some (.arraylength, 5, 0, 0, 0) := by decide +kernel
theorem k9_5 : icode MCl 9 5 = some (.aload_n 0, 6, 0, 0, 0) := by decide +kernel
theorem k9_6 : icode MCl 9 6 = some (.invokevirtual 335, 9, 8, 222, 0) := by decide +kernel
theorem k9_9 : icode MCl 9 9 = some (.ishr, 10, 0, 0, 0) := by decide +kernel
theorem k9_10 : icode MCl 9 10 = some (.ireturn, 11, 0, 0, 0) := by decide +kernel
theorem k10_0 : icode MCl 10 0 = some (.getstatic 38, 3, 0, 226, 0) := by decide +kernel
theorem k10_3 : icode MCl 10 3 = some (.ifCond .eq 14, 6, 17, 0, 0) := by decide +kernel
theorem k10_6 : icode MCl 10 6 = some (.aload_n 0, 7, 0, 0, 0) := by decide +kernel
theorem k10_7 : icode MCl 10 7 = some (.getfield 15, 10, 9001, 1087, 0) := by decide +kernel
theorem k10_10 : icode MCl 10 10 = some (.ifCond .ne 7, 13, 17, 0, 0) := by decide +kernel
theorem k10_13 : icode MCl 10 13 = some (.iconst 1, 14, 0, 0, 1) := by decide +kernel
theorem k10_14 : icode MCl 10 14 = some (.goto 4, 17, 18, 0, 0) := by decide +kernel
theorem k10_17 : icode MCl 10 17 = some (.iconst 0, 18, 0, 0, 0) := by decide +kernel
theorem k10_18 : icode MCl 10 18 = some (.ireturn, 19, 0, 0, 0) := by decide +kernel
theorem k11_0 : icode MCl 11 0 = some (.iload_n 0, 1, 0, 0, 0) := by decide +kernel
theorem k11_1 : icode MCl 11 1 = some (.ifCond .lt 8, 4, 9, 0, 0) := by decide +kernel
theorem k11_4 : icode MCl 11 4 = some (.iload_n 0, 5, 0, 0, 0) := by decide +kernel
theorem k11_5 : icode MCl 11 5 = some (.iload_n 1, 6, 0, 0, 0) := by decide +kernel
theorem k11_6 : icode MCl 11 6 = some (.if_icmp .lt 10, 9, 16, 0, 0) := by decide +kernel
theorem k11_9 : icode MCl 11 9 = some (.aload_n 2, 10, 0, 0, 0) := by decide +kernel
theorem k11_10 : icode MCl 11 10 = some (.iload_n 0, 11, 0, 0, 0) := by decide +kernel
theorem k11_11 : icode MCl 11 11 = some (.iload_n 1, 12, 0, 0, 0) := by decide +kernel
theorem k11_12 : icode MCl 11 12 = some (.invokestatic 95, 15, 9998, 0, 0) := by decide +kernel
theorem k11_15 : icode MCl 11 15 = some (.athrow, 16, 0, 0, 0) := by decide +kernel
theorem k11_16 : icode MCl 11 16 = some (.iload_n 0, 17, 0, 0, 0) := by decide +kernel
theorem k11_17 : icode MCl 11 17 = some (.ireturn, 18, 0, 0, 0) := by decide +kernel
theorem k12_0 : icode MCl 12 0 = some (.iload_n 0, 1, 0, 0, 0) := by decide +kernel
theorem k12_1 : icode MCl 12 1 = some (.iload_n 1, 2, 0, 0, 0) := by decide +kernel
theorem k12_2 : icode MCl 12 2 = some (.getstatic 1053, 5, 1, 242, 0) := by decide +kernel
theorem k12_5 : icode MCl 12 5 = some (.invokestatic 1059, 8, 11, 244, 0) := by decide +kernel
theorem k12_8 : icode MCl 12 8 = some (.pop, 9, 0, 0, 0) := by decide +kernel
theorem k12_9 : icode MCl 12 9 = some (.return_, 10, 0, 0, 0) := by decide +kernel
theorem k13_0 : icode MCl 13 0 = some (.iload_n 1, 1, 0, 0, 0) := by decide +kernel
theorem k13_1 : icode MCl 13 1 = some (.aload_n 0, 2, 0, 0, 0) := by decide +kernel
theorem k13_2 : icode MCl 13 2 = some (.arraylength, 3, 0, 0, 0) := by decide +kernel
theorem k13_3 : icode MCl 13 3 = some (.invokestatic 9, 6, 12, 239, 0) := by decide +kernel
theorem k13_6 : icode MCl 13 6 = some (.aload_n 0, 7, 0, 0, 0) := by decide +kernel
theorem k13_7 : icode MCl 13 7 = some (.iload_n 1, 8, 0, 0, 0) := by decide +kernel
theorem k13_8 : icode MCl 13 8 = some (.baload, 9, 0, 0, 0) := by decide +kernel
theorem k13_9 : icode MCl 13 9 = some (.sipush 255, 12, 0, 0, 255) := by decide +kernel
theorem k13_12 : icode MCl 13 12 = some (.iand, 13, 0, 0, 0) := by decide +kernel
theorem k13_13 : icode MCl 13 13 = some (.i2c, 14, 0, 0, 0) := by decide +kernel
theorem k13_14 : icode MCl 13 14 = some (.ireturn, 15, 0, 0, 0) := by decide +kernel
theorem k14_0 : icode MCl 14 0 = some (.aload_n 0, 1, 0, 0, 0) := by decide +kernel
theorem k14_1 : icode MCl 14 1 = some (.invokevirtual 492, 4, 10, 232, 0) := by decide +kernel
theorem k14_4 : icode MCl 14 4 = some (.ifCond .eq 12, 7, 16, 0, 0) := by decide +kernel
theorem k14_7 : icode MCl 14 7 = some (.aload_n 0, 8, 0, 0, 0) := by decide +kernel
theorem k14_8 : icode MCl 14 8 = some (.getfield 9, 11, 9000, 1086, 0) := by decide +kernel
theorem k14_11 : icode MCl 14 11 = some (.iload_n 1, 12, 0, 0, 0) := by decide +kernel
theorem k14_12 : icode MCl 14 12 = some (.invokestatic 495, 15, 13, 236, 0) := by decide +kernel
theorem k14_15 : icode MCl 14 15 = some (.ireturn, 16, 0, 0, 0) := by decide +kernel
theorem k14_16 : icode MCl 14 16 = some (.aload_n 0, 17, 0, 0, 0) := by decide +kernel
theorem k14_17 : icode MCl 14 17 = some (.getfield 9, 20, 9000, 1086, 0) := by decide +kernel
theorem k14_20 : icode MCl 14 20 = some (.iload_n 1, 21, 0, 0, 0) := by decide +kernel
theorem k14_21 : icode MCl 14 21 = some (.invokestatic 498, 24, 9998, 0, 0) := by decide +kernel
theorem k14_24 : icode MCl 14 24 = some (.ireturn, 25, 0, 0, 0) := by decide +kernel
theorem k15_0 : icode MCl 15 0 = some (.iload_n 1, 1, 0, 0, 0) := by decide +kernel
theorem k15_1 : icode MCl 15 1 = some (.ifCond .lt 13, 4, 14, 0, 0) := by decide +kernel
theorem k15_4 : icode MCl 15 4 = some (.iload_n 1, 5, 0, 0, 0) := by decide +kernel
theorem k15_5 : icode MCl 15 5 = some (.aload_n 0, 6, 0, 0, 0) := by decide +kernel
theorem k15_6 : icode MCl 15 6 = some (.arraylength, 7, 0, 0, 0) := by decide +kernel
theorem k15_7 : icode MCl 15 7 = some (.if_icmp .ge 7, 10, 14, 0, 0) := by decide +kernel
theorem k15_10 : icode MCl 15 10 = some (.aload_n 0, 11, 0, 0, 0) := by decide +kernel
theorem k15_11 : icode MCl 15 11 = some (.iload_n 1, 12, 0, 0, 0) := by decide +kernel
theorem k15_12 : icode MCl 15 12 = some (.iload_n 2, 13, 0, 0, 0) := by decide +kernel
theorem k15_13 : icode MCl 15 13 = some (.iastore, 14, 0, 0, 0) := by decide +kernel
theorem k15_14 : icode MCl 15 14 = some (.return_, 15, 0, 0, 0) := by decide +kernel
theorem k16_0 : icode MCl 16 0 = some (.aload_n 0, 1, 0, 0, 0) := by decide +kernel
theorem k16_1 : icode MCl 16 1 = some (.getfield 15, 4, 1, 76, 0) := by decide +kernel
theorem k16_4 : icode MCl 16 4 = some (.sipush 200, 7, 0, 0, 200) := by decide +kernel
theorem k16_7 : icode MCl 16 7 = some (.if_icmp .lt 5, 10, 12, 0, 0) := by decide +kernel
theorem k16_10 : icode MCl 16 10 = some (.iconst 0, 11, 0, 0, 0) := by decide +kernel
theorem k16_11 : icode MCl 16 11 = some (.ireturn, 12, 0, 0, 0) := by decide +kernel
theorem k16_12 : icode MCl 16 12 = some (.aload_n 0, 13, 0, 0, 0) := by decide +kernel
theorem k16_13 : icode MCl 16 13 = some (.getfield 9, 16, 0, 75, 1) := by decide +kernel
theorem k16_16 : icode MCl 16 16 = some (.aload_n 0, 17, 0, 0, 0) := by decide +kernel
theorem k16_17 : icode MCl 16 17 = some (.getfield 15, 20, 1, 76, 0) := by decide +kernel
theorem k16_20 : icode MCl 16 20 = some (.iload_n 1, 21, 0, 0, 0) := by decide +kernel
theorem k16_21 : icode MCl 16 21 = some (.invokestatic 19, 24, 15, 270, 1) := by decide +kernel
theorem k16_24 : icode MCl 16 24 = some (.aload_n 0, 25, 0, 0, 0) := by decide +kernel
theorem k16_25 : icode MCl 16 25 = some (.dup, 26, 0, 0, 0) := by decide +kernel
theorem k16_26 : icode MCl 16 26 = some (.getfield 15, 29, 1, 76, 0) := by decide +kernel
theorem k16_29 : icode MCl 16 29 = some (.iconst 1, 30, 0, 0, 1) := by decide +kernel
theorem k16_30 : icode MCl 16 30 = some (.iadd, 31, 0, 0, 0) := by decide +kernel
theorem k16_31 : icode MCl 16 31 = some (.putfield 15, 34, 1, 76, 0) := by decide +kernel
theorem k16_34 : icode MCl 16 34 = some (.iconst 1, 35, 0, 0, 1) := by decide +kernel
theorem k16_35 : icode MCl 16 35 = some (.ireturn, 36, 0, 0, 0) := by decide +kernel
theorem k17_0 : icode MCl 17 0 = some (.aload_n 0, 1, 0, 0, 0) := by decide +kernel
theorem k17_1 : icode MCl 17 1 = some (.iconst 0, 2, 0, 0, 0) := by decide +kernel
theorem k17_2 : icode MCl 17 2 = some (.putfield 21, 5, 603, 92, 0) := by decide +kernel
theorem k17_5 : icode MCl 17 5 = some (.return_, 6, 0, 0, 0) := by decide +kernel
theorem k18_0 : icode MCl 18 0 = some (.aload_n 0, 1, 0, 0, 0) := by decide +kernel
theorem k18_1 : icode MCl 18 1 = some (.iconst 0, 2, 0, 0, 0) := by decide +kernel
theorem k18_2 : icode MCl 18 2 = some (.putfield 22, 5, 202, 145, 0) := by decide +kernel
theorem k18_5 : icode MCl 18 5 = some (.aload_n 0, 6, 0, 0, 0) := by decide +kernel
theorem k18_6 : icode MCl 18 6 = some (.iconst 0, 7, 0, 0, 0) := by decide +kernel
theorem k18_7 : icode MCl 18 7 = some (.putfield 26, 10, 203, 146, 0) := by decide +kernel
theorem k18_10 : icode MCl 18 10 = some (.aload_n 0, 11, 0, 0, 0) := by decide +kernel
theorem k18_11 : icode MCl 18 11 = some (.iconst 0, 12, 0, 0, 0) := by decide +kernel
theorem k18_12 : icode MCl 18 12 = some (.putfield 29, 15, 204, 147, 0) := by decide +kernel
theorem k18_15 : icode MCl 18 15 = some (.return_, 16, 0, 0, 0) := by decide +kernel
theorem k19_0 : icode MCl 19 0 = some (.aload_n 0, 1, 0, 0, 0) := by decide +kernel
theorem k19_1 : icode MCl 19 1 = some (.getfield 15, 4, 1, 76, 0) := by decide +kernel
theorem k19_4 : icode MCl 19 4 = some (.ireturn, 5, 0, 0, 0) := by decide +kernel
theorem k20_0 : icode MCl 20 0 = some (.iload_n 1, 1, 0, 0, 0) := by decide +kernel
theorem k20_1 : icode MCl 20 1 = some (.ifCond .lt 29, 4, 30, 0, 0) := by decide +kernel
theorem k20_4 : icode MCl 20 4 = some (.iload_n 1, 5, 0, 0, 0) := by decide +kernel
theorem k20_5 : icode MCl 20 5 = some (.aload_n 0, 6, 0, 0, 0) := by decide +kernel
theorem k20_6 : icode MCl 20 6 = some (.getfield 15, 9, 1, 76, 0) := by decide +kernel
theorem k20_9 : icode MCl 20 9 = some (.if_icmp .ge 21, 12, 30, 0, 0) := by decide +kernel
theorem k20_12 : icode MCl 20 12 = some (.iload_n 1, 13, 0, 0, 0) := by decide +kernel
theorem k20_13 : icode MCl 20 13 = some (.aload_n 0, 14, 0, 0, 0) := by decide +kernel
theorem k20_14 : icode MCl 20 14 = some (.getfield 9, 17, 0, 75, 1) := by decide +kernel
theorem k20_17 : icode MCl 20 17 = some (.arraylength, 18, 0, 0, 0) := by decide +kernel
theorem k20_18 : icode MCl 20 18 = some (.if_icmp .ge 12, 21, 30, 0, 0) := by decide +kernel
theorem k20_21 : icode MCl 20 21 = some (.aload_n 0, 22, 0, 0, 0) := by decide +kernel
theorem k20_22 : icode MCl 20 22 = some (.getfield 9, 25, 0, 75, 1) := by decide +kernel
theorem k20_25 : icode MCl 20 25 = some (.iload_n 1, 26, 0, 0, 0) := by decide +kernel
theorem k20_26 : icode MCl 20 26 = some (.iaload, 27, 0, 0, 0) := by decide +kernel
theorem k20_27 : icode MCl 20 27 = some (.goto 4, 30, 31, 0, 0) := by decide +kernel
theorem k20_30 : icode MCl 20 30 = some (.iconst 0, 31, 0, 0, 0) := by decide +kernel
theorem k20_31 : icode MCl 20 31 = some (.ireturn, 32, 0, 0, 0) := by decide +kernel
theorem k21_0 : icode MCl 21 0 = some (.aload_n 0, 1, 0, 0, 0) := by decide +kernel
theorem k21_1 : icode MCl 21 1 = some (.getfield 12, 4, 400, 159, 1) := by decide +kernel
theorem k21_4 : icode MCl 21 4 = some (.aload_n 0, 5, 0, 0, 0) := by decide +kernel
theorem k21_5 : icode MCl 21 5 = some (.getfield 36, 8, 403, 165, 0) := by decide +kernel
theorem k21_8 : icode MCl 21 8 = some (.invokevirtual 82, 11, 20, 297, 0) := by decide +kernel
theorem k21_11 : icode MCl 21 11 = some (.iload_n 1, 12, 0, 0, 0) := by decide +kernel
theorem k21_12 : icode MCl 21 12 = some (.if_icmp .eq 5, 15, 17, 0, 0) := by decide +kernel
theorem k21_15 : icode MCl 21 15 = some (.iconst 0, 16, 0, 0, 0) := by decide +kernel
theorem k21_16 : icode MCl 21 16 = some (.ireturn, 17, 0, 0, 0) := by decide +kernel
theorem k21_17 : icode MCl 21 17 = some (.aload_n 0, 18, 0, 0, 0) := by decide +kernel
theorem k21_18 : icode MCl 21 18 = some (.dup, 19, 0, 0, 0) := by decide +kernel
theorem k21_19 : icode MCl 21 19 = some (.getfield 36, 22, 403, 165, 0) := by decide +kernel
theorem k21_22 : icode MCl 21 22 = some (.iconst 1, 23, 0, 0, 1) := by decide +kernel
theorem k21_23 : icode MCl 21 23 = some (.iadd, 24, 0, 0, 0) := by decide +kernel
theorem k21_24 : icode MCl 21 24 = some (.putfield 36, 27, 403, 165, 0) := by decide +kernel
theorem k21_27 : icode MCl 21 27 = some (.iconst 1, 28, 0, 0, 1) := by decide +kernel
theorem k21_28 : icode MCl 21 28 = some (.ireturn, 29, 0, 0, 0) := by decide +kernel
theorem k22_0 : icode MCl 22 0 = some (.iload_n 0, 1, 0, 0, 0) := by decide +kernel
theorem k22_1 : icode MCl 22 1 = some (.iload_n 1, 2, 0, 0, 0) := by decide +kernel
theorem k22_2 : icode MCl 22 2 = some (.if_icmp .lt 12, 5, 14, 0, 0) := by decide +kernel
theorem k22_5 : icode MCl 22 5 = some (.iload_n 0, 6, 0, 0, 0) := by decide +kernel
theorem k22_6 : icode MCl 22 6 = some (.iload_n 2, 7, 0, 0, 0) := by decide +kernel
theorem k22_7 : icode MCl 22 7 = some (.if_icmp .gt 7, 10, 14, 0, 0) := by decide +kernel
theorem k22_10 : icode MCl 22 10 = some (.iconst 1, 11, 0, 0, 1) := by decide +kernel
theorem k22_11 : icode MCl 22 11 = some (.goto 4, 14, 15, 0, 0) := by decide +kernel
theorem k22_14 : icode MCl 22 14 = some (.iconst 0, 15, 0, 0, 0) := by decide +kernel
theorem k22_15 : icode MCl 22 15 = some (.ireturn, 16, 0, 0, 0) := by decide +kernel
theorem k23_0 : icode MCl 23 0 = some (.aload_n 0, 1, 0, 0, 0) := by decide +kernel
theorem k23_1 : icode MCl 23 1 = some (.getfield 12, 4, 400, 159, 1) := by decide +kernel
theorem k23_4 : icode MCl 23 4 = some (.aload_n 0, 5, 0, 0, 0) := by decide +kernel
theorem k23_5 : icode MCl 23 5 = some (.getfield 36, 8, 403, 165, 0) := by decide +kernel
theorem k23_8 : icode MCl 23 8 = some (.invokevirtual 82, 11, 20, 297, 0) := by decide +kernel
theorem k23_11 : icode MCl 23 11 = some (.istore_n 1, 12, 0, 0, 0) := by decide +kernel
theorem k23_12 : icode MCl 23 12 = some (.iload_n 1, 13, 0, 0, 0) := by decide +kernel
theorem k23_13 : icode MCl 23 13 = some (.bipush 48, 15, 0, 0, 48) := by decide +kernel
theorem k23_15 : icode MCl 23 15 = some (.bipush 57, 17, 0, 0, 57) := by decide +kernel
theorem k23_17 : icode MCl 23 17 = some (.invokestatic 89, 20, 22, 313, 1) := by decide +kernel
theorem k23_20 : icode MCl 23 20 = some (.ifCond .ne 5, 23, 25, 0, 0) := by decide +kernel
theorem k23_23 : icode MCl 23 23 = some (.iconst (-1), 24, 0, 0, (-1)) := by decide +kernel
theorem k23_24 : icode MCl 23 24 = some (.ireturn, 25, 0, 0, 0) := by decide +kernel
theorem k23_25 : icode MCl 23 25 = some (.aload_n 0, 26, 0, 0, 0) := by decide +kernel
theorem k23_26 : icode MCl 23 26 = some (.dup, 27, 0, 0, 0) := by decide +kernel
theorem k23_27 : icode MCl 23 27 = some (.getfield 36, 30, 403, 165, 0) := by decide +kernel
theorem k23_30 : icode MCl 23 30 = some (.iconst 1, 31, 0, 0, 1) := by decide +kernel
theorem k23_31 : icode MCl 23 31 = some (.iadd, 32, 0, 0, 0) := by decide +kernel
theorem k23_32 : icode MCl 23 32 = some (.putfield 36, 35, 403, 165, 0) := by decide +kernel
theorem k23_35 : icode MCl 23 35 = some (.iload_n 1, 36, 0, 0, 0) := by decide +kernel
theorem k23_36 : icode MCl 23 36 = some (.bipush 48, 38, 0, 0, 48) := by decide +kernel
theorem k23_38 : icode MCl 23 38 = some (.isub, 39, 0, 0, 0) := by decide +kernel
theorem k23_39 : icode MCl 23 39 = some (.ireturn, 40, 0, 0, 0) := by decide +kernel
theorem k24_0 : icode MCl 24 0 = some (.aload_n 0, 1, 0, 0, 0) := by decide +kernel
theorem k24_1 : icode MCl 24 1 = some (.invokevirtual 86, 4, 23, 309, 0) := by decide +kernel
theorem k24_4 : icode MCl 24 4 = some (.istore_n 1, 5, 0, 0, 0) := by decide +kernel
theorem k24_5 : icode MCl 24 5 = some (.iload_n 1, 6, 0, 0, 0) := by decide +kernel
theorem k24_6 : icode MCl 24 6 = some (.ifCond .ge 5, 9, 11, 0, 0) := by decide +kernel
theorem k24_9 : icode MCl 24 9 = some (.iconst (-1), 10, 0, 0, (-1)) := by decide +kernel
theorem k24_10 : icode MCl 24 10 = some (.ireturn, 11, 0, 0, 0) := by decide +kernel
theorem k24_11 : icode MCl 24 11 = some (.aload_n 0, 12, 0, 0, 0) := by decide +kernel
theorem k24_12 : icode MCl 24 12 = some (.invokevirtual 86, 15, 23, 309, 0) := by decide +kernel
theorem k24_15 : icode MCl 24 15 = some (.istore_n 2, 16, 0, 0, 0) := by decide +kernel
theorem k24_16 : icode MCl 24 16 = some (.iload_n 2, 17, 0, 0, 0) := by decide +kernel
theorem k24_17 : icode MCl 24 17 = some (.ifCond .ge 7, 20, 24, 0, 0) := by decide +kernel
theorem k24_20 : icode MCl 24 20 = some (.iload_n 1, 21, 0, 0, 0) := by decide +kernel
theorem k24_21 : icode MCl 24 21 = some (.goto 9, 24, 30, 0, 0) := by decide +kernel
theorem k24_24 : icode MCl 24 24 = some (.iload_n 1, 25, 0, 0, 0) := by decide +kernel
theorem k24_25 : icode MCl 24 25 = some (.bipush 10, 27, 0, 0, 10) := by decide +kernel
theorem k24_27 : icode MCl 24 27 = some (.imul, 28, 0, 0, 0) := by decide +kernel
theorem k24_28 : icode MCl 24 28 = some (.iload_n 2, 29, 0, 0, 0) := by decide +kernel
theorem k24_29 : icode MCl 24 29 = some (.iadd, 30, 0, 0, 0) := by decide +kernel
theorem k24_30 : icode MCl 24 30 = some (.ireturn, 31, 0, 0, 0) := by decide +kernel
theorem k25_0 : icode MCl 25 0 = some (.aload_n 0, 1, 0, 0, 0) := by decide +kernel
theorem k25_1 : icode MCl 25 1 = some (.getfield 21, 4, 603, 92, 0) := by decide +kernel
theorem k25_4 : icode MCl 25 4 = some (.bipush 9, 6, 0, 0, 9) := by decide +kernel
theorem k25_6 : icode MCl 25 6 = some (.if_icmp .ge 34, 9, 40, 0, 0) := by decide +kernel
theorem k25_9 : icode MCl 25 9 = some (.iload_n 1, 10, 0, 0, 0) := by decide +kernel
theorem k25_10 : icode MCl 25 10 = some (.iconst 0, 11, 0, 0, 0) := by decide +kernel
theorem k25_11 : icode MCl 25 11 = some (.iconst 4, 12, 0, 0, 4) := by decide +kernel
theorem k25_12 : icode MCl 25 12 = some (.invokestatic 33, 15, 22, 320, 1) := by decide +kernel
theorem k25_15 : icode MCl 25 15 = some (.ifCond .eq 25, 18, 40, 0, 0) := by decide +kernel
theorem k25_18 : icode MCl 25 18 = some (.iload_n 2, 19, 0, 0, 0) := by decide +kernel
theorem k25_19 : icode MCl 25 19 = some (.iconst 1, 20, 0, 0, 1) := by decide +kernel
theorem k25_20 : icode MCl 25 20 = some (.bipush 20, 22, 0, 0, 20) := by decide +kernel
theorem k25_22 : icode MCl 25 22 = some (.invokestatic 33, 25, 22, 320, 1) := by decide +kernel
theorem k25_25 : icode MCl 25 25 = some (.ifCond .eq 15, 28, 40, 0, 0) := by decide +kernel
theorem k25_28 : icode MCl 25 28 = some (.iload_n 3, 29, 0, 0, 0) := by decide +kernel
theorem k25_29 : icode MCl 25 29 = some (.iconst 0, 30, 0, 0, 0) := by decide +kernel
theorem k25_30 : icode MCl 25 30 = some (.aload_n 0, 31, 0, 0, 0) := by decide +kernel
theorem k25_31 : icode MCl 25 31 = some (.getfield 21, 34, 603, 92, 0) := by decide +kernel
theorem k25_34 : icode MCl 25 34 = some (.invokestatic 33, 37, 22, 320, 1) := by decide +kernel
theorem k25_37 : icode MCl 25 37 = some (.ifCond .ne 5, 40, 42, 0, 0) := by decide +kernel
theorem k25_40 : icode MCl 25 40 = some (.iconst 0, 41, 0, 0, 0) := by decide +kernel
theorem k25_41 : icode MCl 25 41 = some (.ireturn, 42, 0, 0, 0) := by decide +kernel
theorem k25_42 : icode MCl 25 42 = some (.aload_n 0, 43, 0, 0, 0) := by decide +kernel
theorem k25_43 : icode MCl 25 43 = some (.getfield 9, 46, 600, 89, 1) := by decide +kernel
theorem k25_46 : icode MCl 25 46 = some (.aload_n 0, 47, 0, 0, 0) := by decide +kernel
theorem k25_47 : icode MCl 25 47 = some (.getfield 21, 50, 603, 92, 0) := by decide +kernel
theorem k25_50 : icode MCl 25 50 = some (.iload_n 1, 51, 0, 0, 0) := by decide +kernel
theorem k25_51 : icode MCl 25 51 = some (.invokestatic 37, 54, 15, 321, 1) := by decide +kernel
theorem k25_54 : icode MCl 25 54 = some (.aload_n 0, 55, 0, 0, 0) := by decide +kernel
theorem k25_55 : icode MCl 25 55 = some (.getfield 15, 58, 601, 90, 1) := by decide +kernel
theorem k25_58 : icode MCl 25 58 = some (.aload_n 0, 59, 0, 0, 0) := by decide +kernel
theorem k25_59 : icode MCl 25 59 = some (.getfield 21, 62, 603, 92, 0) := by decide +kernel
theorem k25_62 : icode MCl 25 62 = some (.iload_n 2, 63, 0, 0, 0) := by decide +kernel
theorem k25_63 : icode MCl 25 63 = some (.invokestatic 37, 66, 15, 321, 1) := by decide +kernel
theorem k25_66 : icode MCl 25 66 = some (.aload_n 0, 67, 0, 0, 0) := by decide +kernel
theorem k25_67 : icode MCl 25 67 = some (.getfield 18, 70, 602, 91, 1) := by decide +kernel
theorem k25_70 : icode MCl 25 70 = some (.aload_n 0, 71, 0, 0, 0) := by decide +kernel
theorem k25_71 : icode MCl 25 71 = some (.getfield 21, 74, 603, 92, 0) := by decide +kernel
theorem k25_74 : icode MCl 25 74 = some (.iload_n 3, 75, 0, 0, 0) := by decide +kernel
theorem k25_75 : icode MCl 25 75 = some (.invokestatic 37, 78, 15, 321, 1) := by decide +kernel
theorem k25_78 : icode MCl 25 78 = some (.aload_n 0, 79, 0, 0, 0) := by decide +kernel
theorem k25_79 : icode MCl 25 79 = some (.dup, 80, 0, 0, 0) := by decide +kernel
theorem k25_80 : icode MCl 25 80 = some (.getfield 21, 83, 603, 92, 0) := by decide +kernel
theorem k25_83 : icode MCl 25 83 = some (.iconst 1, 84, 0, 0, 1) := by decide +kernel
theorem k25_84 : icode MCl 25 84 = some (.iadd, 85, 0, 0, 0) := by decide +kernel
theorem k25_85 : icode MCl 25 85 = some (.putfield 21, 88, 603, 92, 0) := by decide +kernel
theorem k25_88 : icode MCl 25 88 = some (.iconst 1, 89, 0, 0, 1) := by decide +kernel
theorem k25_89 : icode MCl 25 89 = some (.ireturn, 90, 0, 0, 0) := by decide +kernel
theorem k26_0 : icode MCl 26 0 = some (.aload_n 0, 1, 0, 0, 0) := by decide +kernel
theorem k26_1 : icode MCl 26 1 = some (.invokevirtual 61, 4, 24, 305, 0) := by decide +kernel
theorem k26_4 : icode MCl 26 4 = some (.istore_n 1, 5, 0, 0, 0) := by decide +kernel
theorem k26_5 : icode MCl 26 5 = some (.iload_n 1, 6, 0, 0, 0) := by decide +kernel
theorem k26_6 : icode MCl 26 6 = some (.ifCond .lt 12, 9, 18, 0, 0) := by decide +kernel
theorem k26_9 : icode MCl 26 9 = some (.aload_n 0, 10, 0, 0, 0) := by decide +kernel
theorem k26_10 : icode MCl 26 10 = some (.bipush 44, 12, 0, 0, 44) := by decide +kernel
theorem k26_12 : icode MCl 26 12 = some (.invokevirtual 48, 15, 21, 293, 0) := by decide +kernel
theorem k26_15 : icode MCl 26 15 = some (.ifCond .ne 5, 18, 20, 0, 0) := by decide +kernel
theorem k26_18 : icode MCl 26 18 = some (.iconst 0, 19, 0, 0, 0) := by decide +kernel
theorem k26_19 : icode MCl 26 19 = some (.ireturn, 20, 0, 0, 0) := by decide +kernel
theorem k26_20 : icode MCl 26 20 = some (.aload_n 0, 21, 0, 0, 0) := by decide +kernel
theorem k26_21 : icode MCl 26 21 = some (.invokevirtual 61, 24, 24, 305, 0) := by decide +kernel
theorem k26_24 : icode MCl 26 24 = some (.istore_n 2, 25, 0, 0, 0) := by decide +kernel
theorem k26_25 : icode MCl 26 25 = some (.iload_n 2, 26, 0, 0, 0) := by decide +kernel
theorem k26_26 : icode MCl 26 26 = some (.ifCond .lt 12, 29, 38, 0, 0) := by decide +kernel
theorem k26_29 : icode MCl 26 29 = some (.aload_n 0, 30, 0, 0, 0) := by decide +kernel
theorem k26_30 : icode MCl 26 30 = some (.bipush 44, 32, 0, 0, 44) := by decide +kernel
theorem k26_32 : icode MCl 26 32 = some (.invokevirtual 48, 35, 21, 293, 0) := by decide +kernel
theorem k26_35 : icode MCl 26 35 = some (.ifCond .ne 5, 38, 40, 0, 0) := by decide +kernel
theorem k26_38 : icode MCl 26 38 = some (.iconst 0, 39, 0, 0, 0) := by decide +kernel
theorem k26_39 : icode MCl 26 39 = some (.ireturn, 40, 0, 0, 0) := by decide +kernel
theorem k26_40 : icode MCl 26 40 = some (.aload_n 0, 41, 0, 0, 0) := by decide +kernel
theorem k26_41 : icode MCl 26 41 = some (.invokevirtual 61, 44, 24, 305, 0) := by decide +kernel
theorem k26_44 : icode MCl 26 44 = some (.istore_n 3, 45, 0, 0, 0) := by decide +kernel
theorem k26_45 : icode MCl 26 45 = some (.iload_n 3, 46, 0, 0, 0) := by decide +kernel
theorem k26_46 : icode MCl 26 46 = some (.ifCond .lt 29, 49, 75, 0, 0) := by decide +kernel
theorem k26_49 : icode MCl 26 49 = some (.aload_n 0, 50, 0, 0, 0) := by decide +kernel
theorem k26_50 : icode MCl 26 50 = some (.bipush 59, 52, 0, 0, 59) := by decide +kernel
theorem k26_52 : icode MCl 26 52 = some (.invokevirtual 48, 55, 21, 293, 0) := by decide +kernel
theorem k26_55 : icode MCl 26 55 = some (.ifCond .eq 20, 58, 75, 0, 0) := by decide +kernel
theorem k26_58 : icode MCl 26 58 = some (.aload_n 0, 59, 0, 0, 0) := by decide +kernel
theorem k26_59 : icode MCl 26 59 = some (.getfield 21, 62, 401, 161, 1) := by decide +kernel
theorem k26_62 : icode MCl 26 62 = some (.iload_n 1, 63, 0, 0, 0) := by decide +kernel
theorem k26_63 : icode MCl 26 63 = some (.iload_n 2, 64, 0, 0, 0) := by decide +kernel
theorem k26_64 : icode MCl 26 64 = some (.iload_n 3, 65, 0, 0, 0) := by decide +kernel
theorem k26_65 : icode MCl 26 65 = some (.invokevirtual 64, 68, 25, 316, 0) := by decide +kernel
theorem k26_68 : icode MCl 26 68 = some (.ifCond .eq 7, 71, 75, 0, 0) := by decide +kernel
theorem k26_71 : icode MCl 26 71 = some (.iconst 1, 72, 0, 0, 1) := by decide +kernel
theorem k26_72 : icode MCl 26 72 = some (.goto 4, 75, 76, 0, 0) := by decide +kernel
theorem k26_75 : icode MCl 26 75 = some (.iconst 0, 76, 0, 0, 0) := by decide +kernel
theorem k26_76 : icode MCl 26 76 = some (.ireturn, 77, 0, 0, 0) := by decide +kernel
theorem k27_0 : icode MCl 27 0 = some (.iload_n 0, 1, 0, 0, 0) := by decide +kernel
theorem k27_1 : icode MCl 27 1 = some (.iconst 4, 2, 0, 0, 4) := by decide +kernel
theorem k27_2 : icode MCl 27 2 = some (.imul, 3, 0, 0, 0) := by decide +kernel
theorem k27_3 : icode MCl 27 3 = some (.iload_n 1, 4, 0, 0, 0) := by decide +kernel
theorem k27_4 : icode MCl 27 4 = some (.iadd, 5, 0, 0, 0) := by decide +kernel
theorem k27_5 : icode MCl 27 5 = some (.ireturn, 6, 0, 0, 0) := by decide +kernel
theorem k28_0 : icode MCl 28 0 = some (.iconst 0, 1, 0, 0, 0) := by decide +kernel
theorem k28_1 : icode MCl 28 1 = some (.istore_n 1, 2, 0, 0, 0) := by decide +kernel
theorem k28_2 : icode MCl 28 2 = some (.iconst 0, 3, 0, 0, 0) := by decide +kernel
theorem k28_3 : icode MCl 28 3 = some (.istore_n 2, 4, 0, 0, 0) := by decide +kernel
theorem k28_4 : icode MCl 28 4 = some (.iload_n 2, 5, 0, 0, 0) := by decide +kernel
theorem k28_5 : icode MCl 28 5 = some (.bipush 8, 7, 0, 0, 8) := by decide +kernel
theorem k28_7 : icode MCl 28 7 = some (.if_icmp .ge 62, 10, 69, 0, 0) := by decide +kernel
theorem k28_10 : icode MCl 28 10 = some (.aload_n 0, 11, 0, 0, 0) := by decide +kernel
theorem k28_11 : icode MCl 28 11 = some (.bipush 112, 13, 0, 0, 112) := by decide +kernel
theorem k28_13 : icode MCl 28 13 = some (.invokevirtual 48, 16, 21, 293, 0) := by decide +kernel
theorem k28_16 : icode MCl 28 16 = some (.ifCond .eq 7, 19, 23, 0, 0) := by decide +kernel
theorem k28_19 : icode MCl 28 19 = some (.iconst 1, 20, 0, 0, 1) := by decide +kernel
theorem k28_20 : icode MCl 28 20 = some (.goto 30, 23, 50, 0, 0) := by decide +kernel
theorem k28_23 : icode MCl 28 23 = some (.aload_n 0, 24, 0, 0, 0) := by decide +kernel
theorem k28_24 : icode MCl 28 24 = some (.bipush 117, 26, 0, 0, 117) := by decide +kernel
theorem k28_26 : icode MCl 28 26 = some (.invokevirtual 48, 29, 21, 293, 0) := by decide +kernel
theorem k28_29 : icode MCl 28 29 = some (.ifCond .eq 7, 32, 36, 0, 0) := by decide +kernel
theorem k28_32 : icode MCl 28 32 = some (.iconst 2, 33, 0, 0, 2) := by decide +kernel
theorem k28_33 : icode MCl 28 33 = some (.goto 17, 36, 50, 0, 0) := by decide +kernel
theorem k28_36 : icode MCl 28 36 = some (.aload_n 0, 37, 0, 0, 0) := by decide +kernel
theorem k28_37 : icode MCl 28 37 = some (.bipush 115, 39, 0, 0, 115) := by decide +kernel
theorem k28_39 : icode MCl 28 39 = some (.invokevirtual 48, 42, 21, 293, 0) := by decide +kernel
theorem k28_42 : icode MCl 28 42 = some (.ifCond .eq 7, 45, 49, 0, 0) := by decide +kernel
theorem k28_45 : icode MCl 28 45 = some (.iconst 3, 46, 0, 0, 3) := by decide +kernel
theorem k28_46 : icode MCl 28 46 = some (.goto 4, 49, 50, 0, 0) := by decide +kernel
theorem k28_49 : icode MCl 28 49 = some (.iconst 0, 50, 0, 0, 0) := by decide +kernel
theorem k28_50 : icode MCl 28 50 = some (.istore_n 3, 51, 0, 0, 0) := by decide +kernel
theorem k28_51 : icode MCl 28 51 = some (.iload_n 3, 52, 0, 0, 0) := by decide +kernel
theorem k28_52 : icode MCl 28 52 = some (.ifCond .ne 5, 55, 57, 0, 0) := by decide +kernel
theorem k28_55 : icode MCl 28 55 = some (.iload_n 1, 56, 0, 0, 0) := by decide +kernel
theorem k28_56 : icode MCl 28 56 = some (.ireturn, 57, 0, 0, 0) := by decide +kernel
theorem k28_57 : icode MCl 28 57 = some (.iload_n 1, 58, 0, 0, 0) := by decide +kernel
theorem k28_58 : icode MCl 28 58 = some (.iload_n 3, 59, 0, 0, 0) := by decide +kernel
theorem k28_59 : icode MCl 28 59 = some (.invokestatic 92, 62, 27, 330, 0) := by decide +kernel
theorem k28_62 : icode MCl 28 62 = some (.istore_n 1, 63, 0, 0, 0) := by decide +kernel
theorem k28_63 : icode MCl 28 63 = some (.iinc 2 1, 66, 0, 0, 1) := by decide +kernel
theorem k28_66 : icode MCl 28 66 = some (.goto (-62), 69, 4, 0, 0) := by decide +kernel
theorem k28_69 : icode MCl 28 69 = some (.iload_n 1, 70, 0, 0, 0) := by decide +kernel
theorem k28_70 : icode MCl 28 70 = some (.ireturn, 71, 0, 0, 0) := by decide +kernel
theorem k29_0 : icode MCl 29 0 = some (.iload_n 1, 1, 0, 0, 0) := by decide +kernel
theorem k29_1 : icode MCl 29 1 = some (.ifCond .lt 15, 4, 16, 0, 0) := by decide +kernel
theorem k29_4 : icode MCl 29 4 = some (.iload_n 1, 5, 0, 0, 0) := by decide +kernel
theorem k29_5 : icode MCl 29 5 = some (.aload_n 0, 6, 0, 0, 0) := by decide +kernel
theorem k29_6 : icode MCl 29 6 = some (.getfield 21, 9, 603, 92, 0) := by decide +kernel
theorem k29_9 : icode MCl 29 9 = some (.if_icmp .ge 7, 12, 16, 0, 0) := by decide +kernel
theorem k29_12 : icode MCl 29 12 = some (.iconst 1, 13, 0, 0, 1) := by decide +kernel
theorem k29_13 : icode MCl 29 13 = some (.goto 4, 16, 17, 0, 0) := by decide +kernel
theorem k29_16 : icode MCl 29 16 = some (.iconst 0, 17, 0, 0, 0) := by decide +kernel
theorem k29_17 : icode MCl 29 17 = some (.ireturn, 18, 0, 0, 0) := by decide +kernel
theorem k30_0 : icode MCl 30 0 = some (.iload_n 1, 1, 0, 0, 0) := by decide +kernel
theorem k30_1 : icode MCl 30 1 = some (.ifCond .lt 21, 4, 22, 0, 0) := by decide +kernel
theorem k30_4 : icode MCl 30 4 = some (.iload_n 1, 5, 0, 0, 0) := by decide +kernel
theorem k30_5 : icode MCl 30 5 = some (.aload_n 0, 6, 0, 0, 0) := by decide +kernel
theorem k30_6 : icode MCl 30 6 = some (.getfield 11, 9, 200, 143, 1) := by decide +kernel
theorem k30_9 : icode MCl 30 9 = some (.arraylength, 10, 0, 0, 0) := by decide +kernel
theorem k30_10 : icode MCl 30 10 = some (.if_icmp .ge 12, 13, 22, 0, 0) := by decide +kernel
theorem k30_13 : icode MCl 30 13 = some (.aload_n 0, 14, 0, 0, 0) := by decide +kernel
theorem k30_14 : icode MCl 30 14 = some (.getfield 11, 17, 200, 143, 1) := by decide +kernel
theorem k30_17 : icode MCl 30 17 = some (.iload_n 1, 18, 0, 0, 0) := by decide +kernel
theorem k30_18 : icode MCl 30 18 = some (.aaload, 19, 0, 0, 0) := by decide +kernel
theorem k30_19 : icode MCl 30 19 = some (.goto 4, 22, 23, 0, 0) := by decide +kernel
theorem k30_22 : icode MCl 30 22 = some (.aconst_null, 23, 0, 0, 0) := by decide +kernel
theorem k30_23 : icode MCl 30 23 = some (.astore_n 2, 24, 0, 0, 0) := by decide +kernel
theorem k30_24 : icode MCl 30 24 = some (.aload_n 2, 25, 0, 0, 0) := by decide +kernel
theorem k30_25 : icode MCl 30 25 = some (.ifnonnull 10, 28, 35, 0, 0) := by decide +kernel
theorem k30_28 : icode MCl 30 28 = some (.aload_n 0, 29, 0, 0, 0) := by decide +kernel
theorem k30_29 : icode MCl 30 29 = some (.getfield 18, 32, 201, 144, 1) := by decide +kernel
theorem k30_32 : icode MCl 30 32 = some (.goto 4, 35, 36, 0, 0) := by decide +kernel
theorem k30_35 : icode MCl 30 35 = some (.aload_n 2, 36, 0, 0, 0) := by decide +kernel
theorem k30_36 : icode MCl 30 36 = some (.areturn, 37, 0, 0, 0) := by decide +kernel
theorem k31_0 : icode MCl 31 0 = some (.aload_n 0, 1, 0, 0, 0) := by decide +kernel
theorem k31_1 : icode MCl 31 1 = some (.iload_n 2, 2, 0, 0, 0) := by decide +kernel
theorem k31_2 : icode MCl 31 2 = some (.putfield 9, 5, 100, 115, 0) := by decide +kernel
theorem k31_5 : icode MCl 31 5 = some (.aload_n 0, 6, 0, 0, 0) := by decide +kernel
theorem k31_6 : icode MCl 31 6 = some (.iconst 0, 7, 0, 0, 0) := by decide +kernel
theorem k31_7 : icode MCl 31 7 = some (.putfield 15, 10, 101, 117, 0) := by decide +kernel
theorem k31_10 : icode MCl 31 10 = some (.aload_n 0, 11, 0, 0, 0) := by decide +kernel
theorem k31_11 : icode MCl 31 11 = some (.iload_n 1, 12, 0, 0, 0) := by decide +kernel
theorem k31_12 : icode MCl 31 12 = some (.putfield 18, 15, 102, 120, 0) := by decide +kernel
theorem k31_15 : icode MCl 31 15 = some (.aload_n 0, 16, 0, 0, 0) := by decide +kernel
theorem k31_16 : icode MCl 31 16 = some (.iload_n 3, 17, 0, 0, 0) := by decide +kernel
theorem k31_17 : icode MCl 31 17 = some (.putfield 21, 20, 103, 123, 0) := by decide +kernel
theorem k31_20 : icode MCl 31 20 = some (.aload_n 0, 21, 0, 0, 0) := by decide +kernel
theorem k31_21 : icode MCl 31 21 = some (.iconst 0, 22, 0, 0, 0) := by decide +kernel
theorem k31_22 : icode MCl 31 22 = some (.putfield 24, 25, 104, 126, 0) := by decide +kernel
theorem k31_25 : icode MCl 31 25 = some (.aload_n 0, 26, 0, 0, 0) := by decide +kernel
theorem k31_26 : icode MCl 31 26 = some (.iconst 0, 27, 0, 0, 0) := by decide +kernel
theorem k31_27 : icode MCl 31 27 = some (.putfield 27, 30, 105, 128, 0) := by decide +kernel
theorem k31_30 : icode MCl 31 30 = some (.return_, 31, 0, 0, 0) := by decide +kernel
theorem k32_0 : icode MCl 32 0 = some (.aload_n 0, 1, 0, 0, 0) := by decide +kernel
theorem k32_1 : icode MCl 32 1 = some (.getfield 22, 4, 202, 145, 0) := by decide +kernel
theorem k32_4 : icode MCl 32 4 = some (.bipush 6, 6, 0, 0, 6) := by decide +kernel
theorem k32_6 : icode MCl 32 6 = some (.if_icmp .lt 5, 9, 11, 0, 0) := by decide +kernel
theorem k32_9 : icode MCl 32 9 = some (.iconst 0, 10, 0, 0, 0) := by decide +kernel
theorem k32_10 : icode MCl 32 10 = some (.ireturn, 11, 0, 0, 0) := by decide +kernel
theorem k32_11 : icode MCl 32 11 = some (.aload_n 0, 12, 0, 0, 0) := by decide +kernel
theorem k32_12 : icode MCl 32 12 = some (.aload_n 0, 13, 0, 0, 0) := by decide +kernel
theorem k32_13 : icode MCl 32 13 = some (.getfield 22, 16, 202, 145, 0) := by decide +kernel
theorem k32_16 : icode MCl 32 16 = some (.invokevirtual 32, 19, 30, 341, 0) := by decide +kernel
theorem k32_19 : icode MCl 32 19 = some (.iload_n 1, 20, 0, 0, 0) := by decide +kernel
theorem k32_20 : icode MCl 32 20 = some (.iload_n 2, 21, 0, 0, 0) := by decide +kernel
theorem k32_21 : icode MCl 32 21 = some (.iload_n 3, 22, 0, 0, 0) := by decide +kernel
theorem k32_22 : icode MCl 32 22 = some (.invokevirtual 40, 25, 31, 345, 0) := by decide +kernel
theorem k32_25 : icode MCl 32 25 = some (.aload_n 0, 26, 0, 0, 0) := by decide +kernel
theorem k32_26 : icode MCl 32 26 = some (.dup, 27, 0, 0, 0) := by decide +kernel
theorem k32_27 : icode MCl 32 27 = some (.getfield 22, 30, 202, 145, 0) := by decide +kernel
theorem k32_30 : icode MCl 32 30 = some (.iconst 1, 31, 0, 0, 1) := by decide +kernel
theorem k32_31 : icode MCl 32 31 = some (.iadd, 32, 0, 0, 0) := by decide +kernel
theorem k32_32 : icode MCl 32 32 = some (.putfield 22, 35, 202, 145, 0) := by decide +kernel
theorem k32_35 : icode MCl 32 35 = some (.iconst 1, 36, 0, 0, 1) := by decide +kernel
theorem k32_36 : icode MCl 32 36 = some (.ireturn, 37, 0, 0, 0) := by decide +kernel
theorem k33_0 : icode MCl 33 0 = some (.aload_n 0, 1, 0, 0, 0) := by decide +kernel
theorem k33_1 : icode MCl 33 1 = some (.invokevirtual 61, 4, 24, 305, 0) := by decide +kernel
theorem k33_4 : icode MCl 33 4 = some (.istore_n 1, 5, 0, 0, 0) := by decide +kernel
theorem k33_5 : icode MCl 33 5 = some (.iload_n 1, 6, 0, 0, 0) := by decide +kernel
theorem k33_6 : icode MCl 33 6 = some (.ifCond .lt 12, 9, 18, 0, 0) := by decide +kernel
theorem k33_9 : icode MCl 33 9 = some (.aload_n 0, 10, 0, 0, 0) := by decide +kernel
theorem k33_10 : icode MCl 33 10 = some (.bipush 44, 12, 0, 0, 44) := by decide +kernel
theorem k33_12 : icode MCl 33 12 = some (.invokevirtual 48, 15, 21, 293, 0) := by decide +kernel
theorem k33_15 : icode MCl 33 15 = some (.ifCond .ne 5, 18, 20, 0, 0) := by decide +kernel
theorem k33_18 : icode MCl 33 18 = some (.iconst 0, 19, 0, 0, 0) := by decide +kernel
theorem k33_19 : icode MCl 33 19 = some (.ireturn, 20, 0, 0, 0) := by decide +kernel
theorem k33_20 : icode MCl 33 20 = some (.aload_n 0, 21, 0, 0, 0) := by decide +kernel
theorem k33_21 : icode MCl 33 21 = some (.invokevirtual 61, 24, 24, 305, 0) := by decide +kernel
theorem k33_24 : icode MCl 33 24 = some (.istore_n 2, 25, 0, 0, 0) := by decide +kernel
theorem k33_25 : icode MCl 33 25 = some (.iload_n 2, 26, 0, 0, 0) := by decide +kernel
theorem k33_26 : icode MCl 33 26 = some (.ifCond .lt 12, 29, 38, 0, 0) := by decide +kernel
theorem k33_29 : icode MCl 33 29 = some (.aload_n 0, 30, 0, 0, 0) := by decide +kernel
theorem k33_30 : icode MCl 33 30 = some (.bipush 44, 32, 0, 0, 44) := by decide +kernel
theorem k33_32 : icode MCl 33 32 = some (.invokevirtual 48, 35, 21, 293, 0) := by decide +kernel
theorem k33_35 : icode MCl 33 35 = some (.ifCond .ne 5, 38, 40, 0, 0) := by decide +kernel
theorem k33_38 : icode MCl 33 38 = some (.iconst 0, 39, 0, 0, 0) := by decide +kernel
theorem k33_39 : icode MCl 33 39 = some (.ireturn, 40, 0, 0, 0) := by decide +kernel
theorem k33_40 : icode MCl 33 40 = some (.aload_n 0, 41, 0, 0, 0) := by decide +kernel
theorem k33_41 : icode MCl 33 41 = some (.invokevirtual 68, 44, 28, 326, 0) := by decide +kernel
theorem k33_44 : icode MCl 33 44 = some (.istore_n 3, 45, 0, 0, 0) := by decide +kernel
theorem k33_45 : icode MCl 33 45 = some (.iload_n 3, 46, 0, 0, 0) := by decide +kernel
theorem k33_46 : icode MCl 33 46 = some (.ifCond .le 40, 49, 86, 0, 0) := by decide +kernel
theorem k33_49 : icode MCl 33 49 = some (.aload_n 0, 50, 0, 0, 0) := by decide +kernel
theorem k33_50 : icode MCl 33 50 = some (.bipush 59, 52, 0, 0, 59) := by decide +kernel
theorem k33_52 : icode MCl 33 52 = some (.invokevirtual 48, 55, 21, 293, 0) := by decide +kernel
theorem k33_55 : icode MCl 33 55 = some (.ifCond .eq 31, 58, 86, 0, 0) := by decide +kernel
theorem k33_58 : icode MCl 33 58 = some (.aload_n 0, 59, 0, 0, 0) := by decide +kernel
theorem k33_59 : icode MCl 33 59 = some (.getfield 21, 62, 401, 161, 1) := by decide +kernel
theorem k33_62 : icode MCl 33 62 = some (.iload_n 1, 63, 0, 0, 0) := by decide +kernel
theorem k33_63 : icode MCl 33 63 = some (.invokevirtual 71, 66, 29, 333, 0) := by decide +kernel
theorem k33_66 : icode MCl 33 66 = some (.ifCond .eq 20, 69, 86, 0, 0) := by decide +kernel
theorem k33_69 : icode MCl 33 69 = some (.aload_n 0, 70, 0, 0, 0) := by decide +kernel
theorem k33_70 : icode MCl 33 70 = some (.getfield 28, 73, 402, 163, 1) := by decide +kernel
theorem k33_73 : icode MCl 33 73 = some (.iload_n 1, 74, 0, 0, 0) := by decide +kernel
theorem k33_74 : icode MCl 33 74 = some (.iload_n 2, 75, 0, 0, 0) := by decide +kernel
theorem k33_75 : icode MCl 33 75 = some (.iload_n 3, 76, 0, 0, 0) := by decide +kernel
theorem k33_76 : icode MCl 33 76 = some (.invokevirtual 74, 79, 32, 337, 0) := by decide +kernel
theorem k33_79 : icode MCl 33 79 = some (.ifCond .eq 7, 82, 86, 0, 0) := by decide +kernel
theorem k33_82 : icode MCl 33 82 = some (.iconst 1, 83, 0, 0, 1) := by decide +kernel
theorem k33_83 : icode MCl 33 83 = some (.goto 4, 86, 87, 0, 0) := by decide +kernel
theorem k33_86 : icode MCl 33 86 = some (.iconst 0, 87, 0, 0, 0) := by decide +kernel
theorem k33_87 : icode MCl 33 87 = some (.ireturn, 88, 0, 0, 0) := by decide +kernel
theorem k34_0 : icode MCl 34 0 = some (.iload_n 0, 1, 0, 0, 0) := by decide +kernel
theorem k34_1 : icode MCl 34 1 = some (.iload_n 1, 2, 0, 0, 0) := by decide +kernel
theorem k34_2 : icode MCl 34 2 = some (.ishr, 3, 0, 0, 0) := by decide +kernel
theorem k34_3 : icode MCl 34 3 = some (.iconst 1, 4, 0, 0, 1) := by decide +kernel
theorem k34_4 : icode MCl 34 4 = some (.iand, 5, 0, 0, 0) := by decide +kernel
theorem k34_5 : icode MCl 34 5 = some (.iconst 1, 6, 0, 0, 1) := by decide +kernel
theorem k34_6 : icode MCl 34 6 = some (.if_icmp .ne 7, 9, 13, 0, 0) := by decide +kernel
theorem k34_9 : icode MCl 34 9 = some (.iconst 1, 10, 0, 0, 1) := by decide +kernel
theorem k34_10 : icode MCl 34 10 = some (.goto 4, 13, 14, 0, 0) := by decide +kernel
theorem k34_13 : icode MCl 34 13 = some (.iconst 0, 14, 0, 0, 0) := by decide +kernel
theorem k34_14 : icode MCl 34 14 = some (.ireturn, 15, 0, 0, 0) := by decide +kernel
theorem k35_0 : icode MCl 35 0 = some (.aload_n 0, 1, 0, 0, 0) := by decide +kernel
theorem k35_1 : icode MCl 35 1 = some (.getfield 29, 4, 204, 147, 0) := by decide +kernel
theorem k35_4 : icode MCl 35 4 = some (.iload_n 1, 5, 0, 0, 0) := by decide +kernel
theorem k35_5 : icode MCl 35 5 = some (.invokestatic 44, 8, 34, 357, 1) := by decide +kernel
theorem k35_8 : icode MCl 35 8 = some (.ireturn, 9, 0, 0, 0) := by decide +kernel
theorem k36_0 : icode MCl 36 0 = some (.aload_n 0, 1, 0, 0, 0) := by decide +kernel
theorem k36_1 : icode MCl 36 1 = some (.dup, 2, 0, 0, 0) := by decide +kernel
theorem k36_2 : icode MCl 36 2 = some (.getfield 29, 5, 204, 147, 0) := by decide +kernel
theorem k36_5 : icode MCl 36 5 = some (.iconst 1, 6, 0, 0, 1) := by decide +kernel
theorem k36_6 : icode MCl 36 6 = some (.iload_n 1, 7, 0, 0, 0) := by decide +kernel
theorem k36_7 : icode MCl 36 7 = some (.ishl, 8, 0, 0, 0) := by decide +kernel
theorem k36_8 : icode MCl 36 8 = some (.ixor, 9, 0, 0, 0) := by decide +kernel
theorem k36_9 : icode MCl 36 9 = some (.putfield 29, 12, 204, 147, 0) := by decide +kernel
theorem k36_12 : icode MCl 36 12 = some (.return_, 13, 0, 0, 0) := by decide +kernel
theorem k37_0 : icode MCl 37 0 = some (.aload_n 0, 1, 0, 0, 0) := by decide +kernel
theorem k37_1 : icode MCl 37 1 = some (.invokevirtual 61, 4, 24, 305, 0) := by decide +kernel
theorem k37_4 : icode MCl 37 4 = some (.istore_n 1, 5, 0, 0, 0) := by decide +kernel
theorem k37_5 : icode MCl 37 5 = some (.iload_n 1, 6, 0, 0, 0) := by decide +kernel
theorem k37_6 : icode MCl 37 6 = some (.ifCond .lt 23, 9, 29, 0, 0) := by decide +kernel
theorem k37_9 : icode MCl 37 9 = some (.aload_n 0, 10, 0, 0, 0) := by decide +kernel
theorem k37_10 : icode MCl 37 10 = some (.bipush 59, 12, 0, 0, 59) := by decide +kernel
theorem k37_12 : icode MCl 37 12 = some (.invokevirtual 48, 15, 21, 293, 0) := by decide +kernel
theorem k37_15 : icode MCl 37 15 = some (.ifCond .eq 14, 18, 29, 0, 0) := by decide +kernel
theorem k37_18 : icode MCl 37 18 = some (.aload_n 0, 19, 0, 0, 0) := by decide +kernel
theorem k37_19 : icode MCl 37 19 = some (.getfield 21, 22, 401, 161, 1) := by decide +kernel
theorem k37_22 : icode MCl 37 22 = some (.iload_n 1, 23, 0, 0, 0) := by decide +kernel
theorem k37_23 : icode MCl 37 23 = some (.invokevirtual 71, 26, 29, 333, 0) := by decide +kernel
theorem k37_26 : icode MCl 37 26 = some (.ifCond .ne 5, 29, 31, 0, 0) := by decide +kernel
theorem k37_29 : icode MCl 37 29 = some (.iconst 0, 30, 0, 0, 0) := by decide +kernel
theorem k37_30 : icode MCl 37 30 = some (.ireturn, 31, 0, 0, 0) := by decide +kernel
theorem k37_31 : icode MCl 37 31 = some (.aload_n 0, 32, 0, 0, 0) := by decide +kernel
theorem k37_32 : icode MCl 37 32 = some (.getfield 28, 35, 402, 163, 1) := by decide +kernel
theorem k37_35 : icode MCl 37 35 = some (.iload_n 1, 36, 0, 0, 0) := by decide +kernel
theorem k37_36 : icode MCl 37 36 = some (.invokevirtual 75, 39, 35, 353, 0) := by decide +kernel
theorem k37_39 : icode MCl 37 39 = some (.ifCond .ne 11, 42, 50, 0, 0) := by decide +kernel
theorem k37_42 : icode MCl 37 42 = some (.aload_n 0, 43, 0, 0, 0) := by decide +kernel
theorem k37_43 : icode MCl 37 43 = some (.getfield 28, 46, 402, 163, 1) := by decide +kernel
theorem k37_46 : icode MCl 37 46 = some (.iload_n 1, 47, 0, 0, 0) := by decide +kernel
theorem k37_47 : icode MCl 37 47 = some (.invokevirtual 78, 50, 36, 360, 0) := by decide +kernel
theorem k37_50 : icode MCl 37 50 = some (.iconst 1, 51, 0, 0, 1) := by decide +kernel
theorem k37_51 : icode MCl 37 51 = some (.ireturn, 52, 0, 0, 0) := by decide +kernel
theorem k38_0 : icode MCl 38 0 = some (.aload_n 0, 1, 0, 0, 0) := by decide +kernel
theorem k38_1 : icode MCl 38 1 = some (.bipush 99, 3, 0, 0, 99) := by decide +kernel
theorem k38_3 : icode MCl 38 3 = some (.invokevirtual 48, 6, 21, 293, 0) := by decide +kernel
theorem k38_6 : icode MCl 38 6 = some (.ifCond .eq 8, 9, 14, 0, 0) := by decide +kernel
theorem k38_9 : icode MCl 38 9 = some (.aload_n 0, 10, 0, 0, 0) := by decide +kernel
theorem k38_10 : icode MCl 38 10 = some (.invokevirtual 52, 13, 26, 301, 0) := by decide +kernel
theorem k38_13 : icode MCl 38 13 = some (.ireturn, 14, 0, 0, 0) := by decide +kernel
theorem k38_14 : icode MCl 38 14 = some (.aload_n 0, 15, 0, 0, 0) := by decide +kernel
theorem k38_15 : icode MCl 38 15 = some (.bipush 109, 17, 0, 0, 109) := by decide +kernel
theorem k38_17 : icode MCl 38 17 = some (.invokevirtual 48, 20, 21, 293, 0) := by decide +kernel
theorem k38_20 : icode MCl 38 20 = some (.ifCond .eq 8, 23, 28, 0, 0) := by decide +kernel
theorem k38_23 : icode MCl 38 23 = some (.aload_n 0, 24, 0, 0, 0) := by decide +kernel
theorem k38_24 : icode MCl 38 24 = some (.invokevirtual 55, 27, 33, 322, 0) := by decide +kernel
theorem k38_27 : icode MCl 38 27 = some (.ireturn, 28, 0, 0, 0) := by decide +kernel
theorem k38_28 : icode MCl 38 28 = some (.aload_n 0, 29, 0, 0, 0) := by decide +kernel
theorem k38_29 : icode MCl 38 29 = some (.bipush 105, 31, 0, 0, 105) := by decide +kernel
theorem k38_31 : icode MCl 38 31 = some (.invokevirtual 48, 34, 21, 293, 0) := by decide +kernel
theorem k38_34 : icode MCl 38 34 = some (.ifCond .eq 8, 37, 42, 0, 0) := by decide +kernel
theorem k38_37 : icode MCl 38 37 = some (.aload_n 0, 38, 0, 0, 0) := by decide +kernel
theorem k38_38 : icode MCl 38 38 = some (.invokevirtual 58, 41, 37, 349, 0) := by decide +kernel
theorem k38_41 : icode MCl 38 41 = some (.ireturn, 42, 0, 0, 0) := by decide +kernel
theorem k38_42 : icode MCl 38 42 = some (.iconst 0, 43, 0, 0, 0) := by decide +kernel
theorem k38_43 : icode MCl 38 43 = some (.ireturn, 44, 0, 0, 0) := by decide +kernel
theorem k39_0 : icode MCl 39 0 = some (.aload_n 0, 1, 0, 0, 0) := by decide +kernel
theorem k39_1 : icode MCl 39 1 = some (.getfield 21, 4, 401, 161, 1) := by decide +kernel
theorem k39_4 : icode MCl 39 4 = some (.invokevirtual 32, 7, 17, 277, 0) := by decide +kernel
theorem k39_7 : icode MCl 39 7 = some (.aload_n 0, 8, 0, 0, 0) := by decide +kernel
theorem k39_8 : icode MCl 39 8 = some (.getfield 28, 11, 402, 163, 1) := by decide +kernel
theorem k39_11 : icode MCl 39 11 = some (.invokevirtual 35, 14, 18, 281, 0) := by decide +kernel
theorem k39_14 : icode MCl 39 14 = some (.aload_n 0, 15, 0, 0, 0) := by decide +kernel
theorem k39_15 : icode MCl 39 15 = some (.iconst 0, 16, 0, 0, 0) := by decide +kernel
theorem k39_16 : icode MCl 39 16 = some (.putfield 36, 19, 403, 165, 0) := by decide +kernel
theorem k39_19 : icode MCl 39 19 = some (.iconst 0, 20, 0, 0, 0) := by decide +kernel
theorem k39_20 : icode MCl 39 20 = some (.istore_n 1, 21, 0, 0, 0) := by decide +kernel
theorem k39_21 : icode MCl 39 21 = some (.iload_n 1, 22, 0, 0, 0) := by decide +kernel
theorem k39_22 : icode MCl 39 22 = some (.sipush 200, 25, 0, 0, 200) := by decide +kernel
theorem k39_25 : icode MCl 39 25 = some (.if_icmp .ge 37, 28, 62, 0, 0) := by decide +kernel
theorem k39_28 : icode MCl 39 28 = some (.aload_n 0, 29, 0, 0, 0) := by decide +kernel
theorem k39_29 : icode MCl 39 29 = some (.getfield 36, 32, 403, 165, 0) := by decide +kernel
theorem k39_32 : icode MCl 39 32 = some (.aload_n 0, 33, 0, 0, 0) := by decide +kernel
theorem k39_33 : icode MCl 39 33 = some (.getfield 12, 36, 400, 159, 1) := by decide +kernel
theorem k39_36 : icode MCl 39 36 = some (.invokevirtual 40, 39, 19, 285, 0) := by decide +kernel
theorem k39_39 : icode MCl 39 39 = some (.if_icmp .ge 23, 42, 62, 0, 0) := by decide +kernel
theorem k39_42 : icode MCl 39 42 = some (.aload_n 0, 43, 0, 0, 0) := by decide +kernel
theorem k39_43 : icode MCl 39 43 = some (.getfield 36, 46, 403, 165, 0) := by decide +kernel
theorem k39_46 : icode MCl 39 46 = some (.istore_n 2, 47, 0, 0, 0) := by decide +kernel
theorem k39_47 : icode MCl 39 47 = some (.aload_n 0, 48, 0, 0, 0) := by decide +kernel
theorem k39_48 : icode MCl 39 48 = some (.invokevirtual 44, 51, 38, 289, 0) := by decide +kernel
theorem k39_51 : icode MCl 39 51 = some (.ifCond .ne 5, 54, 56, 0, 0) := by decide +kernel
theorem k39_54 : icode MCl 39 54 = some (.iload_n 2, 55, 0, 0, 0) := by decide +kernel
theorem k39_55 : icode MCl 39 55 = some (.ireturn, 56, 0, 0, 0) := by decide +kernel
theorem k39_56 : icode MCl 39 56 = some (.iinc 1 1, 59, 0, 0, 1) := by decide +kernel
theorem k39_59 : icode MCl 39 59 = some (.goto (-38), 62, 21, 0, 0) := by decide +kernel
theorem k39_62 : icode MCl 39 62 = some (.bipush (-4), 64, 0, 0, (-4)) := by decide +kernel
theorem k39_64 : icode MCl 39 64 = some (.ireturn, 65, 0, 0, 0) := by decide +kernel
theorem k40_0 : icode MCl 40 0 = some (.iload_n 1, 1, 0, 0, 0) := by decide +kernel
theorem k40_1 : icode MCl 40 1 = some (.ifCond .lt 15, 4, 16, 0, 0) := by decide +kernel
theorem k40_4 : icode MCl 40 4 = some (.iload_n 1, 5, 0, 0, 0) := by decide +kernel
theorem k40_5 : icode MCl 40 5 = some (.aload_n 0, 6, 0, 0, 0) := by decide +kernel
theorem k40_6 : icode MCl 40 6 = some (.arraylength, 7, 0, 0, 0) := by decide +kernel
theorem k40_7 : icode MCl 40 7 = some (.if_icmp .ge 9, 10, 16, 0, 0) := by decide +kernel
theorem k40_10 : icode MCl 40 10 = some (.aload_n 0, 11, 0, 0, 0) := by decide +kernel
theorem k40_11 : icode MCl 40 11 = some (.iload_n 1, 12, 0, 0, 0) := by decide +kernel
theorem k40_12 : icode MCl 40 12 = some (.iaload, 13, 0, 0, 0) := by decide +kernel
theorem k40_13 : icode MCl 40 13 = some (.goto 4, 16, 17, 0, 0) := by decide +kernel
theorem k40_16 : icode MCl 40 16 = some (.iconst 0, 17, 0, 0, 0) := by decide +kernel
theorem k40_17 : icode MCl 40 17 = some (.ireturn, 18, 0, 0, 0) := by decide +kernel
theorem k41_0 : icode MCl 41 0 = some (.aload_n 0, 1, 0, 0, 0) := by decide +kernel
theorem k41_1 : icode MCl 41 1 = some (.getfield 9, 4, 600, 89, 1) := by decide +kernel
theorem k41_4 : icode MCl 41 4 = some (.iload_n 1, 5, 0, 0, 0) := by decide +kernel
theorem k41_5 : icode MCl 41 5 = some (.invokestatic 25, 8, 40, 377, 1) := by decide +kernel
theorem k41_8 : icode MCl 41 8 = some (.ireturn, 9, 0, 0, 0) := by decide +kernel
theorem k42_0 : icode MCl 42 0 = some (.aload_n 0, 1, 0, 0, 0) := by decide +kernel
theorem k42_1 : icode MCl 42 1 = some (.getfield 15, 4, 601, 90, 1) := by decide +kernel
theorem k42_4 : icode MCl 42 4 = some (.iload_n 1, 5, 0, 0, 0) := by decide +kernel
theorem k42_5 : icode MCl 42 5 = some (.invokestatic 25, 8, 40, 377, 1) := by decide +kernel
theorem k42_8 : icode MCl 42 8 = some (.ireturn, 9, 0, 0, 0) := by decide +kernel
theorem k43_0 : icode MCl 43 0 = some (.aload_n 0, 1, 0, 0, 0) := by decide +kernel
theorem k43_1 : icode MCl 43 1 = some (.getfield 18, 4, 602, 91, 1) := by decide +kernel
theorem k43_4 : icode MCl 43 4 = some (.iload_n 1, 5, 0, 0, 0) := by decide +kernel
theorem k43_5 : icode MCl 43 5 = some (.invokestatic 25, 8, 40, 377, 1) := by decide +kernel
theorem k43_8 : icode MCl 43 8 = some (.ireturn, 9, 0, 0, 0) := by decide +kernel
theorem k44_0 : icode MCl 44 0 = some (.aload_n 0, 1, 0, 0, 0) := by decide +kernel
theorem k44_1 : icode MCl 44 1 = some (.invokevirtual 41, 4, 17, 372, 0) := by decide +kernel
theorem k44_4 : icode MCl 44 4 = some (.iconst 0, 5, 0, 0, 0) := by decide +kernel
theorem k44_5 : icode MCl 44 5 = some (.istore_n 2, 6, 0, 0, 0) := by decide +kernel
theorem k44_6 : icode MCl 44 6 = some (.iload_n 2, 7, 0, 0, 0) := by decide +kernel
theorem k44_7 : icode MCl 44 7 = some (.aload_n 1, 8, 0, 0, 0) := by decide +kernel
theorem k44_8 : icode MCl 44 8 = some (.getfield 21, 11, 603, 92, 0) := by decide +kernel
theorem k44_11 : icode MCl 44 11 = some (.if_icmp .ge 29, 14, 40, 0, 0) := by decide +kernel
theorem k44_14 : icode MCl 44 14 = some (.aload_n 0, 15, 0, 0, 0) := by decide +kernel
theorem k44_15 : icode MCl 44 15 = some (.aload_n 1, 16, 0, 0, 0) := by decide +kernel
theorem k44_16 : icode MCl 44 16 = some (.iload_n 2, 17, 0, 0, 0) := by decide +kernel
theorem k44_17 : icode MCl 44 17 = some (.invokevirtual 44, 20, 41, 373, 0) := by decide +kernel
theorem k44_20 : icode MCl 44 20 = some (.aload_n 1, 21, 0, 0, 0) := by decide +kernel
theorem k44_21 : icode MCl 44 21 = some (.iload_n 2, 22, 0, 0, 0) := by decide +kernel
theorem k44_22 : icode MCl 44 22 = some (.invokevirtual 47, 25, 42, 380, 0) := by decide +kernel
theorem k44_25 : icode MCl 44 25 = some (.aload_n 1, 26, 0, 0, 0) := by decide +kernel
theorem k44_26 : icode MCl 44 26 = some (.iload_n 2, 27, 0, 0, 0) := by decide +kernel
theorem k44_27 : icode MCl 44 27 = some (.invokevirtual 29, 30, 43, 384, 0) := by decide +kernel
theorem k44_30 : icode MCl 44 30 = some (.invokevirtual 50, 33, 25, 388, 0) := by decide +kernel
theorem k44_33 : icode MCl 44 33 = some (.pop, 34, 0, 0, 0) := by decide +kernel
theorem k44_34 : icode MCl 44 34 = some (.iinc 2 1, 37, 0, 0, 1) := by decide +kernel
theorem k44_37 : icode MCl 44 37 = some (.goto (-31), 40, 6, 0, 0) := by decide +kernel
theorem k44_40 : icode MCl 44 40 = some (.return_, 41, 0, 0, 0) := by decide +kernel
theorem k45_0 : icode MCl 45 0 = some (.aload_n 0, 1, 0, 0, 0) := by decide +kernel
theorem k45_1 : icode MCl 45 1 = some (.aload_n 1, 2, 0, 0, 0) := by decide +kernel
theorem k45_2 : icode MCl 45 2 = some (.getfield 9, 5, 100, 115, 0) := by decide +kernel
theorem k45_5 : icode MCl 45 5 = some (.putfield 9, 8, 100, 115, 0) := by decide +kernel
theorem k45_8 : icode MCl 45 8 = some (.aload_n 0, 9, 0, 0, 0) := by decide +kernel
theorem k45_9 : icode MCl 45 9 = some (.aload_n 1, 10, 0, 0, 0) := by decide +kernel
theorem k45_10 : icode MCl 45 10 = some (.getfield 15, 13, 101, 117, 0) := by decide +kernel
theorem k45_13 : icode MCl 45 13 = some (.putfield 15, 16, 101, 117, 0) := by decide +kernel
theorem k45_16 : icode MCl 45 16 = some (.aload_n 0, 17, 0, 0, 0) := by decide +kernel
theorem k45_17 : icode MCl 45 17 = some (.aload_n 1, 18, 0, 0, 0) := by decide +kernel
theorem k45_18 : icode MCl 45 18 = some (.getfield 18, 21, 102, 120, 0) := by decide +kernel
theorem k45_21 : icode MCl 45 21 = some (.putfield 18, 24, 102, 120, 0) := by decide +kernel
theorem k45_24 : icode MCl 45 24 = some (.aload_n 0, 25, 0, 0, 0) := by decide +kernel
theorem k45_25 : icode MCl 45 25 = some (.aload_n 1, 26, 0, 0, 0) := by decide +kernel
theorem k45_26 : icode MCl 45 26 = some (.getfield 21, 29, 103, 123, 0) := by decide +kernel
theorem k45_29 : icode MCl 45 29 = some (.putfield 21, 32, 103, 123, 0) := by decide +kernel
theorem k45_32 : icode MCl 45 32 = some (.aload_n 0, 33, 0, 0, 0) := by decide +kernel
theorem k45_33 : icode MCl 45 33 = some (.aload_n 1, 34, 0, 0, 0) := by decide +kernel
theorem k45_34 : icode MCl 45 34 = some (.getfield 24, 37, 104, 126, 0) := by decide +kernel
theorem k45_37 : icode MCl 45 37 = some (.putfield 24, 40, 104, 126, 0) := by decide +kernel
theorem k45_40 : icode MCl 45 40 = some (.aload_n 0, 41, 0, 0, 0) := by decide +kernel
theorem k45_41 : icode MCl 45 41 = some (.aload_n 1, 42, 0, 0, 0) := by decide +kernel
theorem k45_42 : icode MCl 45 42 = some (.getfield 27, 45, 105, 128, 0) := by decide +kernel
theorem k45_45 : icode MCl 45 45 = some (.putfield 27, 48, 105, 128, 0) := by decide +kernel
theorem k45_48 : icode MCl 45 48 = some (.return_, 49, 0, 0, 0) := by decide +kernel
theorem k46_0 : icode MCl 46 0 = some (.aload_n 0, 1, 0, 0, 0) := by decide +kernel
theorem k46_1 : icode MCl 46 1 = some (.aload_n 1, 2, 0, 0, 0) := by decide +kernel
theorem k46_2 : icode MCl 46 2 = some (.getfield 22, 5, 202, 145, 0) := by decide +kernel
theorem k46_5 : icode MCl 46 5 = some (.putfield 22, 8, 202, 145, 0) := by decide +kernel
theorem k46_8 : icode MCl 46 8 = some (.aload_n 0, 9, 0, 0, 0) := by decide +kernel
theorem k46_9 : icode MCl 46 9 = some (.aload_n 1, 10, 0, 0, 0) := by decide +kernel
theorem k46_10 : icode MCl 46 10 = some (.getfield 26, 13, 203, 146, 0) := by decide +kernel
theorem k46_13 : icode MCl 46 13 = some (.putfield 26, 16, 203, 146, 0) := by decide +kernel
theorem k46_16 : icode MCl 46 16 = some (.aload_n 0, 17, 0, 0, 0) := by decide +kernel
theorem k46_17 : icode MCl 46 17 = some (.aload_n 1, 18, 0, 0, 0) := by decide +kernel
theorem k46_18 : icode MCl 46 18 = some (.getfield 29, 21, 204, 147, 0) := by decide +kernel
theorem k46_21 : icode MCl 46 21 = some (.putfield 29, 24, 204, 147, 0) := by decide +kernel
theorem k46_24 : icode MCl 46 24 = some (.iconst 0, 25, 0, 0, 0) := by decide +kernel
theorem k46_25 : icode MCl 46 25 = some (.istore_n 2, 26, 0, 0, 0) := by decide +kernel
theorem k46_26 : icode MCl 46 26 = some (.iload_n 2, 27, 0, 0, 0) := by decide +kernel
theorem k46_27 : icode MCl 46 27 = some (.aload_n 0, 28, 0, 0, 0) := by decide +kernel
theorem k46_28 : icode MCl 46 28 = some (.getfield 22, 31, 202, 145, 0) := by decide +kernel
theorem k46_31 : icode MCl 46 31 = some (.if_icmp .ge 22, 34, 53, 0, 0) := by decide +kernel
theorem k46_34 : icode MCl 46 34 = some (.aload_n 0, 35, 0, 0, 0) := by decide +kernel
theorem k46_35 : icode MCl 46 35 = some (.iload_n 2, 36, 0, 0, 0) := by decide +kernel
theorem k46_36 : icode MCl 46 36 = some (.invokevirtual 32, 39, 30, 341, 0) := by decide +kernel
theorem k46_39 : icode MCl 46 39 = some (.aload_n 1, 40, 0, 0, 0) := by decide +kernel
theorem k46_40 : icode MCl 46 40 = some (.iload_n 2, 41, 0, 0, 0) := by decide +kernel
theorem k46_41 : icode MCl 46 41 = some (.invokevirtual 32, 44, 30, 341, 0) := by decide +kernel
theorem k46_44 : icode MCl 46 44 = some (.invokevirtual 36, 47, 45, 393, 0) := by decide +kernel
theorem k46_47 : icode MCl 46 47 = some (.iinc 2 1, 50, 0, 0, 1) := by decide +kernel
theorem k46_50 : icode MCl 46 50 = some (.goto (-24), 53, 26, 0, 0) := by decide +kernel
theorem k46_53 : icode MCl 46 53 = some (.return_, 54, 0, 0, 0) := by decide +kernel
theorem k47_0 : icode MCl 47 0 = some (.aload_n 0, 1, 0, 0, 0) := by decide +kernel
theorem k47_1 : icode MCl 47 1 = some (.iconst 0, 2, 0, 0, 0) := by decide +kernel
theorem k47_2 : icode MCl 47 2 = some (.putfield 21, 5, 503, 207, 0) := by decide +kernel
theorem k47_5 : icode MCl 47 5 = some (.return_, 6, 0, 0, 0) := by decide +kernel
theorem k48_0 : icode MCl 48 0 = some (.aload_n 0, 1, 0, 0, 0) := by decide +kernel
theorem k48_1 : icode MCl 48 1 = some (.iconst 0, 2, 0, 0, 0) := by decide +kernel
theorem k48_2 : icode MCl 48 2 = some (.putfield 22, 5, 301, 192, 0) := by decide +kernel
theorem k48_5 : icode MCl 48 5 = some (.return_, 6, 0, 0, 0) := by decide +kernel
theorem k49_0 : icode MCl 49 0 = some (.aload_n 0, 1, 0, 0, 0) := by decide +kernel
theorem k49_1 : icode MCl 49 1 = some (.getfield 24, 4, 702, 411, 1) := by decide +kernel
theorem k49_4 : icode MCl 49 4 = some (.aload_n 0, 5, 0, 0, 0) := by decide +kernel
theorem k49_5 : icode MCl 49 5 = some (.getfield 10, 8, 700, 409, 1) := by decide +kernel
theorem k49_8 : icode MCl 49 8 = some (.getfield 89, 11, 401, 162, 1) := by decide +kernel
theorem k49_11 : icode MCl 49 11 = some (.invokevirtual 239, 14, 44, 368, 0) := by decide +kernel
theorem k49_14 : icode MCl 49 14 = some (.aload_n 0, 15, 0, 0, 0) := by decide +kernel
theorem k49_15 : icode MCl 49 15 = some (.getfield 31, 18, 703, 412, 1) := by decide +kernel
theorem k49_18 : icode MCl 49 18 = some (.aload_n 0, 19, 0, 0, 0) := by decide +kernel
theorem k49_19 : icode MCl 49 19 = some (.getfield 10, 22, 700, 409, 1) := by decide +kernel
theorem k49_22 : icode MCl 49 22 = some (.getfield 241, 25, 402, 164, 1) := by decide +kernel
theorem k49_25 : icode MCl 49 25 = some (.invokevirtual 193, 28, 46, 389, 0) := by decide +kernel
theorem k49_28 : icode MCl 49 28 = some (.aload_n 0, 29, 0, 0, 0) := by decide +kernel
theorem k49_29 : icode MCl 49 29 = some (.getfield 53, 32, 707, 416, 1) := by decide +kernel
theorem k49_32 : icode MCl 49 32 = some (.invokevirtual 205, 35, 47, 397, 0) := by decide +kernel
theorem k49_35 : icode MCl 49 35 = some (.aload_n 0, 36, 0, 0, 0) := by decide +kernel
theorem k49_36 : icode MCl 49 36 = some (.getfield 43, 39, 705, 414, 1) := by decide +kernel
theorem k49_39 : icode MCl 49 39 = some (.invokevirtual 235, 42, 48, 401, 0) := by decide +kernel
theorem k49_42 : icode MCl 49 42 = some (.aload_n 0, 43, 0, 0, 0) := by decide +kernel
theorem k49_43 : icode MCl 49 43 = some (.getfield 47, 46, 706, 415, 1) := by decide +kernel
theorem k49_46 : icode MCl 49 46 = some (.invokevirtual 235, 49, 48, 401, 0) := by decide +kernel
theorem k49_49 : icode MCl 49 49 = some (.return_, 50, 0, 0, 0) := by decide +kernel
theorem k50_0 : icode MCl 50 0 = some (.aload_n 0, 1, 0, 0, 0) := by decide +kernel
theorem k50_1 : icode MCl 50 1 = some (.iconst 0, 2, 0, 0, 0) := by decide +kernel
theorem k50_2 : icode MCl 50 2 = some (.putfield 15, 5, 1, 76, 0) := by decide +kernel
theorem k50_5 : icode MCl 50 5 = some (.return_, 6, 0, 0, 0) := by decide +kernel
theorem k51_0 : icode MCl 51 0 = some (.aload_n 0, 1, 0, 0, 0) := by decide +kernel
theorem k51_1 : icode MCl 51 1 = some (.invokespecial 1, 4, 9999, 60, 0) := by decide +kernel
theorem k51_4 : icode MCl 51 4 = some (.aload_n 0, 5, 0, 0, 0) := by decide +kernel
theorem k51_5 : icode MCl 51 5 = some (.new 7, 8, 4, 63, 0) := by decide +kernel
theorem k51_8 : icode MCl 51 8 = some (.dup, 9, 0, 0, 0) := by decide +kernel
theorem k51_9 : icode MCl 51 9 = some (.invokespecial 9, 12, 4, 65, 1) := by decide +kernel
theorem k51_12 : icode MCl 51 12 = some (.putfield 10, 15, 700, 409, 1) := by decide +kernel
theorem k51_15 : icode MCl 51 15 = some (.aload_n 0, 16, 0, 0, 0) := by decide +kernel
theorem k51_16 : icode MCl 51 16 = some (.aload_n 0, 17, 0, 0, 0) := by decide +kernel
theorem k51_17 : icode MCl 51 17 = some (.getfield 10, 20, 700, 409, 1) := by decide +kernel
theorem k51_20 : icode MCl 51 20 = some (.getfield 16, 23, 400, 160, 1) := by decide +kernel
theorem k51_23 : icode MCl 51 23 = some (.putfield 20, 26, 701, 410, 1) := by decide +kernel
theorem k51_26 : icode MCl 51 26 = some (.aload_n 0, 27, 0, 0, 0) := by decide +kernel
theorem k51_27 : icode MCl 51 27 = some (.new 21, 30, 6, 175, 0) := by decide +kernel
theorem k51_30 : icode MCl 51 30 = some (.dup, 31, 0, 0, 0) := by decide +kernel
theorem k51_31 : icode MCl 51 31 = some (.invokespecial 23, 34, 1, 176, 1) := by decide +kernel
theorem k51_34 : icode MCl 51 34 = some (.putfield 24, 37, 702, 411, 1) := by decide +kernel
theorem k51_37 : icode MCl 51 37 = some (.aload_n 0, 38, 0, 0, 0) := by decide +kernel
theorem k51_38 : icode MCl 51 38 = some (.new 28, 41, 2, 177, 0) := by decide +kernel
theorem k51_41 : icode MCl 51 41 = some (.dup, 42, 0, 0, 0) := by decide +kernel
theorem k51_42 : icode MCl 51 42 = some (.invokespecial 30, 45, 3, 178, 0) := by decide +kernel
theorem k51_45 : icode MCl 51 45 = some (.putfield 31, 48, 703, 412, 1) := by decide +kernel
theorem k51_48 : icode MCl 51 48 = some (.aload_n 0, 49, 0, 0, 0) := by decide +kernel
theorem k51_49 : icode MCl 51 49 = some (.new 28, 52, 2, 177, 0) := by decide +kernel
theorem k51_52 : icode MCl 51 52 = some (.dup, 53, 0, 0, 0) := by decide +kernel
theorem k51_53 : icode MCl 51 53 = some (.invokespecial 30, 56, 3, 178, 0) := by decide +kernel
theorem k51_56 : icode MCl 51 56 = some (.putfield 35, 59, 704, 413, 1) := by decide +kernel
theorem k51_59 : icode MCl 51 59 = some (.aload_n 0, 60, 0, 0, 0) := by decide +kernel
theorem k51_60 : icode MCl 51 60 = some (.new 38, 63, 3, 179, 0) := by decide +kernel
theorem k51_63 : icode MCl 51 63 = some (.dup, 64, 0, 0, 0) := by decide +kernel
theorem k51_64 : icode MCl 51 64 = some (.bipush 8, 66, 0, 0, 8) := by decide +kernel
theorem k51_66 : icode MCl 51 66 = some (.invokespecial 40, 69, 6, 181, 0) := by decide +kernel
theorem k51_69 : icode MCl 51 69 = some (.putfield 43, 72, 705, 414, 1) := by decide +kernel
theorem k51_72 : icode MCl 51 72 = some (.aload_n 0, 73, 0, 0, 0) := by decide +kernel
theorem k51_73 : icode MCl 51 73 = some (.new 38, 76, 3, 179, 0) := by decide +kernel
theorem k51_76 : icode MCl 51 76 = some (.dup, 77, 0, 0, 0) := by decide +kernel
theorem k51_77 : icode MCl 51 77 = some (.iconst 2, 78, 0, 0, 2) := by decide +kernel
theorem k51_78 : icode MCl 51 78 = some (.invokespecial 40, 81, 6, 181, 0) := by decide +kernel
theorem k51_81 : icode MCl 51 81 = some (.putfield 47, 84, 706, 415, 1) := by decide +kernel
theorem k51_84 : icode MCl 51 84 = some (.aload_n 0, 85, 0, 0, 0) := by decide +kernel
theorem k51_85 : icode MCl 51 85 = some (.new 50, 88, 5, 198, 0) := by decide +kernel
theorem k51_88 : icode MCl 51 88 = some (.dup, 89, 0, 0, 0) := by decide +kernel
theorem k51_89 : icode MCl 51 89 = some (.invokespecial 52, 92, 7, 200, 1) := by decide +kernel
theorem k51_92 : icode MCl 51 92 = some (.putfield 53, 95, 707, 416, 1) := by decide +kernel
theorem k51_95 : icode MCl 51 95 = some (.iconst 0, 96, 0, 0, 0) := by decide +kernel
theorem k51_96 : icode MCl 51 96 = some (.istore_n 1, 97, 0, 0, 0) := by decide +kernel
theorem k51_97 : icode MCl 51 97 = some (.iload_n 1, 98, 0, 0, 0) := by decide +kernel
theorem k51_98 : icode MCl 51 98 = some (.ldc 57, 100, 1, 217, 0) := by decide +kernel
theorem k51_100 : icode MCl 51 100 = some (.invokevirtual 59, 103, 9, 218, 0) := by decide +kernel
theorem k51_103 : icode MCl 51 103 = some (.if_icmp .ge 23, 106, 126, 0, 0) := by decide +kernel
theorem k51_106 : icode MCl 51 106 = some (.aload_n 0, 107, 0, 0, 0) := by decide +kernel
theorem k51_107 : icode MCl 51 107 = some (.getfield 20, 110, 701, 410, 1) := by decide +kernel
theorem k51_110 : icode MCl 51 110 = some (.ldc 57, 112, 1, 217, 0) := by decide +kernel
theorem k51_112 : icode MCl 51 112 = some (.iload_n 1, 113, 0, 0, 0) := by decide +kernel
theorem k51_113 : icode MCl 51 113 = some (.invokevirtual 65, 116, 14, 228, 0) := by decide +kernel
theorem k51_116 : icode MCl 51 116 = some (.invokevirtual 69, 119, 16, 266, 0) := by decide +kernel
theorem k51_119 : icode MCl 51 119 = some (.pop, 120, 0, 0, 0) := by decide +kernel
theorem k51_120 : icode MCl 51 120 = some (.iinc 1 1, 123, 0, 0, 1) := by decide +kernel
theorem k51_123 : icode MCl 51 123 = some (.goto (-26), 126, 97, 0, 0) := by decide +kernel
theorem k51_126 : icode MCl 51 126 = some (.aload_n 0, 127, 0, 0, 0) := by decide +kernel
theorem k51_127 : icode MCl 51 127 = some (.getfield 10, 130, 700, 409, 1) := by decide +kernel
theorem k51_130 : icode MCl 51 130 = some (.invokevirtual 75, 133, 39, 273, 0) := by decide +kernel
theorem k51_133 : icode MCl 51 133 = some (.bipush (-4), 135, 0, 0, (-4)) := by decide +kernel
theorem k51_135 : icode MCl 51 135 = some (.if_icmp .ne 7, 138, 142, 0, 0) := by decide +kernel
theorem k51_138 : icode MCl 51 138 = some (.aload_n 0, 139, 0, 0, 0) := by decide +kernel
theorem k51_139 : icode MCl 51 139 = some (.invokevirtual 78, 142, 49, 364, 0) := by decide +kernel
theorem k51_142 : icode MCl 51 142 = some (.aload_n 0, 143, 0, 0, 0) := by decide +kernel
theorem k51_143 : icode MCl 51 143 = some (.getfield 20, 146, 701, 410, 1) := by decide +kernel
theorem k51_146 : icode MCl 51 146 = some (.invokevirtual 81, 149, 50, 405, 0) := by decide +kernel
theorem k51_149 : icode MCl 51 149 = some (.return_, 150, 0, 0, 0) := by decide +kernel
theorem k52_0 : icode MCl 52 0 = some (.aload_n 0, 1, 0, 0, 0) := by decide +kernel
theorem k52_1 : icode MCl 52 1 = some (.iconst 0, 2, 0, 0, 0) := by decide +kernel
theorem k52_2 : icode MCl 52 2 = some (.putfield 84, 5, 803, 777, 0) := by decide +kernel
theorem k52_5 : icode MCl 52 5 = some (.aload_n 0, 6, 0, 0, 0) := by decide +kernel
theorem k52_6 : icode MCl 52 6 = some (.iconst 0, 7, 0, 0, 0) := by decide +kernel
theorem k52_7 : icode MCl 52 7 = some (.putfield 87, 10, 804, 778, 0) := by decide +kernel
theorem k52_10 : icode MCl 52 10 = some (.aload_n 0, 11, 0, 0, 0) := by decide +kernel
theorem k52_11 : icode MCl 52 11 = some (.iconst 0, 12, 0, 0, 0) := by decide +kernel
theorem k52_12 : icode MCl 52 12 = some (.putfield 65, 15, 805, 779, 0) := by decide +kernel
theorem k52_15 : icode MCl 52 15 = some (.return_, 16, 0, 0, 0) := by decide +kernel
theorem k53_0 : icode MCl 53 0 = some (.aload_n 0, 1, 0, 0, 0) := by decide +kernel
theorem k53_1 : icode MCl 53 1 = some (.getfield 13, 4, 806, 780, 1) := by decide +kernel
theorem k53_4 : icode MCl 53 4 = some (.aload_n 0, 5, 0, 0, 0) := by decide +kernel
theorem k53_5 : icode MCl 53 5 = some (.getfield 84, 8, 803, 777, 0) := by decide +kernel
theorem k53_8 : icode MCl 53 8 = some (.iload_n 1, 9, 0, 0, 0) := by decide +kernel
theorem k53_9 : icode MCl 53 9 = some (.iastore, 10, 0, 0, 0) := by decide +kernel
theorem k53_10 : icode MCl 53 10 = some (.aload_n 0, 11, 0, 0, 0) := by decide +kernel
theorem k53_11 : icode MCl 53 11 = some (.getfield 16, 14, 807, 781, 1) := by decide +kernel
theorem k53_14 : icode MCl 53 14 = some (.aload_n 0, 15, 0, 0, 0) := by decide +kernel
theorem k53_15 : icode MCl 53 15 = some (.getfield 84, 18, 803, 777, 0) := by decide +kernel
theorem k53_18 : icode MCl 53 18 = some (.iload_n 2, 19, 0, 0, 0) := by decide +kernel
theorem k53_19 : icode MCl 53 19 = some (.iastore, 20, 0, 0, 0) := by decide +kernel
theorem k53_20 : icode MCl 53 20 = some (.aload_n 0, 21, 0, 0, 0) := by decide +kernel
theorem k53_21 : icode MCl 53 21 = some (.getfield 19, 24, 808, 782, 1) := by decide +kernel
theorem k53_24 : icode MCl 53 24 = some (.aload_n 0, 25, 0, 0, 0) := by decide +kernel
theorem k53_25 : icode MCl 53 25 = some (.getfield 84, 28, 803, 777, 0) := by decide +kernel
theorem k53_28 : icode MCl 53 28 = some (.iload_n 3, 29, 0, 0, 0) := by decide +kernel
theorem k53_29 : icode MCl 53 29 = some (.iastore, 30, 0, 0, 0) := by decide +kernel
theorem k53_30 : icode MCl 53 30 = some (.aload_n 0, 31, 0, 0, 0) := by decide +kernel
theorem k53_31 : icode MCl 53 31 = some (.dup, 32, 0, 0, 0) := by decide +kernel
theorem k53_32 : icode MCl 53 32 = some (.getfield 84, 35, 803, 777, 0) := by decide +kernel
theorem k53_35 : icode MCl 53 35 = some (.iconst 1, 36, 0, 0, 1) := by decide +kernel
theorem k53_36 : icode MCl 53 36 = some (.iadd, 37, 0, 0, 0) := by decide +kernel
theorem k53_37 : icode MCl 53 37 = some (.putfield 84, 40, 803, 777, 0) := by decide +kernel
theorem k53_40 : icode MCl 53 40 = some (.return_, 41, 0, 0, 0) := by decide +kernel
theorem k54_0 : icode MCl 54 0 = some (.aload_n 0, 1, 0, 0, 0) := by decide +kernel
theorem k54_1 : icode MCl 54 1 = some (.getfield 22, 4, 809, 783, 1) := by decide +kernel
theorem k54_4 : icode MCl 54 4 = some (.aload_n 0, 5, 0, 0, 0) := by decide +kernel
theorem k54_5 : icode MCl 54 5 = some (.getfield 87, 8, 804, 778, 0) := by decide +kernel
theorem k54_8 : icode MCl 54 8 = some (.iload_n 1, 9, 0, 0, 0) := by decide +kernel
theorem k54_9 : icode MCl 54 9 = some (.iastore, 10, 0, 0, 0) := by decide +kernel
theorem k54_10 : icode MCl 54 10 = some (.aload_n 0, 11, 0, 0, 0) := by decide +kernel
theorem k54_11 : icode MCl 54 11 = some (.getfield 25, 14, 810, 784, 1) := by decide +kernel
theorem k54_14 : icode MCl 54 14 = some (.aload_n 0, 15, 0, 0, 0) := by decide +kernel
theorem k54_15 : icode MCl 54 15 = some (.getfield 87, 18, 804, 778, 0) := by decide +kernel
theorem k54_18 : icode MCl 54 18 = some (.iload_n 2, 19, 0, 0, 0) := by decide +kernel
theorem k54_19 : icode MCl 54 19 = some (.iastore, 20, 0, 0, 0) := by decide +kernel
theorem k54_20 : icode MCl 54 20 = some (.aload_n 0, 21, 0, 0, 0) := by decide +kernel
theorem k54_21 : icode MCl 54 21 = some (.getfield 28, 24, 811, 785, 1) := by decide +kernel
theorem k54_24 : icode MCl 54 24 = some (.aload_n 0, 25, 0, 0, 0) := by decide +kernel
theorem k54_25 : icode MCl 54 25 = some (.getfield 87, 28, 804, 778, 0) := by decide +kernel
theorem k54_28 : icode MCl 54 28 = some (.iload_n 3, 29, 0, 0, 0) := by decide +kernel
theorem k54_29 : icode MCl 54 29 = some (.iastore, 30, 0, 0, 0) := by decide +kernel
theorem k54_30 : icode MCl 54 30 = some (.aload_n 0, 31, 0, 0, 0) := by decide +kernel
theorem k54_31 : icode MCl 54 31 = some (.dup, 32, 0, 0, 0) := by decide +kernel
theorem k54_32 : icode MCl 54 32 = some (.getfield 87, 35, 804, 778, 0) := by decide +kernel
theorem k54_35 : icode MCl 54 35 = some (.iconst 1, 36, 0, 0, 1) := by decide +kernel
theorem k54_36 : icode MCl 54 36 = some (.iadd, 37, 0, 0, 0) := by decide +kernel
theorem k54_37 : icode MCl 54 37 = some (.putfield 87, 40, 804, 778, 0) := by decide +kernel
theorem k54_40 : icode MCl 54 40 = some (.return_, 41, 0, 0, 0) := by decide +kernel
theorem k55_0 : icode MCl 55 0 = some (.iconst 3, 1, 0, 0, 3) := by decide +kernel
theorem k55_1 : icode MCl 55 1 = some (.bipush 6, 3, 0, 0, 6) := by decide +kernel
theorem k55_3 : icode MCl 55 3 = some (.aload_n 0, 4, 0, 0, 0) := by decide +kernel
theorem k55_4 : icode MCl 55 4 = some (.iconst 2, 5, 0, 0, 2) := by decide +kernel
theorem k55_5 : icode MCl 55 5 = some (.iaload, 6, 0, 0, 0) := by decide +kernel
theorem k55_6 : icode MCl 55 6 = some (.imul, 7, 0, 0, 0) := by decide +kernel
theorem k55_7 : icode MCl 55 7 = some (.iadd, 8, 0, 0, 0) := by decide +kernel
theorem k55_8 : icode MCl 55 8 = some (.istore 4, 10, 0, 0, 0) := by decide +kernel
theorem k55_10 : icode MCl 55 10 = some (.aload_n 0, 11, 0, 0, 0) := by decide +kernel
theorem k55_11 : icode MCl 55 11 = some (.iload 4, 13, 0, 0, 0) := by decide +kernel
theorem k55_13 : icode MCl 55 13 = some (.iconst 0, 14, 0, 0, 0) := by decide +kernel
theorem k55_14 : icode MCl 55 14 = some (.iadd, 15, 0, 0, 0) := by decide +kernel
theorem k55_15 : icode MCl 55 15 = some (.iload_n 2, 16, 0, 0, 0) := by decide +kernel
theorem k55_16 : icode MCl 55 16 = some (.iastore, 17, 0, 0, 0) := by decide +kernel
theorem k55_17 : icode MCl 55 17 = some (.aload_n 0, 18, 0, 0, 0) := by decide +kernel
theorem k55_18 : icode MCl 55 18 = some (.iload 4, 20, 0, 0, 0) := by decide +kernel
theorem k55_20 : icode MCl 55 20 = some (.iconst 1, 21, 0, 0, 1) := by decide +kernel
theorem k55_21 : icode MCl 55 21 = some (.iadd, 22, 0, 0, 0) := by decide +kernel
theorem k55_22 : icode MCl 55 22 = some (.iconst 0, 23, 0, 0, 0) := by decide +kernel
theorem k55_23 : icode MCl 55 23 = some (.iastore, 24, 0, 0, 0) := by decide +kernel
theorem k55_24 : icode MCl 55 24 = some (.aload_n 0, 25, 0, 0, 0) := by decide +kernel
theorem k55_25 : icode MCl 55 25 = some (.iload 4, 27, 0, 0, 0) := by decide +kernel
theorem k55_27 : icode MCl 55 27 = some (.iconst 2, 28, 0, 0, 2) := by decide +kernel
theorem k55_28 : icode MCl 55 28 = some (.iadd, 29, 0, 0, 0) := by decide +kernel
theorem k55_29 : icode MCl 55 29 = some (.iload_n 1, 30, 0, 0, 0) := by decide +kernel
theorem k55_30 : icode MCl 55 30 = some (.iastore, 31, 0, 0, 0) := by decide +kernel
theorem k55_31 : icode MCl 55 31 = some (.aload_n 0, 32, 0, 0, 0) := by decide +kernel
theorem k55_32 : icode MCl 55 32 = some (.iload 4, 34, 0, 0, 0) := by decide +kernel
theorem k55_34 : icode MCl 55 34 = some (.iconst 3, 35, 0, 0, 3) := by decide +kernel
theorem k55_35 : icode MCl 55 35 = some (.iadd, 36, 0, 0, 0) := by decide +kernel
theorem k55_36 : icode MCl 55 36 = some (.iload_n 3, 37, 0, 0, 0) := by decide +kernel
theorem k55_37 : icode MCl 55 37 = some (.iastore, 38, 0, 0, 0) := by decide +kernel
theorem k55_38 : icode MCl 55 38 = some (.aload_n 0, 39, 0, 0, 0) := by decide +kernel
theorem k55_39 : icode MCl 55 39 = some (.iload 4, 41, 0, 0, 0) := by decide +kernel
theorem k55_41 : icode MCl 55 41 = some (.iconst 4, 42, 0, 0, 4) := by decide +kernel
theorem k55_42 : icode MCl 55 42 = some (.iadd, 43, 0, 0, 0) := by decide +kernel
theorem k55_43 : icode MCl 55 43 = some (.iconst 0, 44, 0, 0, 0) := by decide +kernel
theorem k55_44 : icode MCl 55 44 = some (.iastore, 45, 0, 0, 0) := by decide +kernel
theorem k55_45 : icode MCl 55 45 = some (.aload_n 0, 46, 0, 0, 0) := by decide +kernel
theorem k55_46 : icode MCl 55 46 = some (.iload 4, 48, 0, 0, 0) := by decide +kernel
theorem k55_48 : icode MCl 55 48 = some (.iconst 5, 49, 0, 0, 5) := by decide +kernel
theorem k55_49 : icode MCl 55 49 = some (.iadd, 50, 0, 0, 0) := by decide +kernel
theorem k55_50 : icode MCl 55 50 = some (.bipush (-4), 52, 0, 0, (-4)) := by decide +kernel
theorem k55_52 : icode MCl 55 52 = some (.iastore, 53, 0, 0, 0) := by decide +kernel
theorem k55_53 : icode MCl 55 53 = some (.aload_n 0, 54, 0, 0, 0) := by decide +kernel
theorem k55_54 : icode MCl 55 54 = some (.iconst 2, 55, 0, 0, 2) := by decide +kernel
theorem k55_55 : icode MCl 55 55 = some (.dup2, 56, 0, 0, 0) := by decide +kernel
theorem k55_56 : icode MCl 55 56 = some (.iaload, 57, 0, 0, 0) := by decide +kernel
theorem k55_57 : icode MCl 55 57 = some (.iconst 1, 58, 0, 0, 1) := by decide +kernel
theorem k55_58 : icode MCl 55 58 = some (.iadd, 59, 0, 0, 0) := by decide +kernel
theorem k55_59 : icode MCl 55 59 = some (.iastore, 60, 0, 0, 0) := by decide +kernel
theorem k55_60 : icode MCl 55 60 = some (.return_, 61, 0, 0, 0) := by decide +kernel
theorem k56_0 : icode MCl 56 0 = some (.aload_n 0, 1, 0, 0, 0) := by decide +kernel
theorem k56_1 : icode MCl 56 1 = some (.aload_n 0, 2, 0, 0, 0) := by decide +kernel
theorem k56_2 : icode MCl 56 2 = some (.getfield 84, 5, 803, 777, 0) := by decide +kernel
theorem k56_5 : icode MCl 56 5 = some (.putfield 119, 8, 812, 786, 0) := by decide +kernel
theorem k56_8 : icode MCl 56 8 = some (.iconst 0, 9, 0, 0, 0) := by decide +kernel
theorem k56_9 : icode MCl 56 9 = some (.istore_n 1, 10, 0, 0, 0) := by decide +kernel
theorem k56_10 : icode MCl 56 10 = some (.iload_n 1, 11, 0, 0, 0) := by decide +kernel
theorem k56_11 : icode MCl 56 11 = some (.bipush 9, 13, 0, 0, 9) := by decide +kernel
theorem k56_13 : icode MCl 56 13 = some (.if_icmp .ge 45, 16, 58, 0, 0) := by decide +kernel
theorem k56_16 : icode MCl 56 16 = some (.aload_n 0, 17, 0, 0, 0) := by decide +kernel
theorem k56_17 : icode MCl 56 17 = some (.getfield 31, 20, 813, 787, 1) := by decide +kernel
theorem k56_20 : icode MCl 56 20 = some (.iload_n 1, 21, 0, 0, 0) := by decide +kernel
theorem k56_21 : icode MCl 56 21 = some (.aload_n 0, 22, 0, 0, 0) := by decide +kernel
theorem k56_22 : icode MCl 56 22 = some (.getfield 13, 25, 806, 780, 1) := by decide +kernel
theorem k56_25 : icode MCl 56 25 = some (.iload_n 1, 26, 0, 0, 0) := by decide +kernel
theorem k56_26 : icode MCl 56 26 = some (.iaload, 27, 0, 0, 0) := by decide +kernel
theorem k56_27 : icode MCl 56 27 = some (.iastore, 28, 0, 0, 0) := by decide +kernel
theorem k56_28 : icode MCl 56 28 = some (.aload_n 0, 29, 0, 0, 0) := by decide +kernel
theorem k56_29 : icode MCl 56 29 = some (.getfield 34, 32, 814, 788, 1) := by decide +kernel
theorem k56_32 : icode MCl 56 32 = some (.iload_n 1, 33, 0, 0, 0) := by decide +kernel
theorem k56_33 : icode MCl 56 33 = some (.aload_n 0, 34, 0, 0, 0) := by decide +kernel
theorem k56_34 : icode MCl 56 34 = some (.getfield 16, 37, 807, 781, 1) := by decide +kernel
theorem k56_37 : icode MCl 56 37 = some (.iload_n 1, 38, 0, 0, 0) := by decide +kernel
theorem k56_38 : icode MCl 56 38 = some (.iaload, 39, 0, 0, 0) := by decide +kernel
theorem k56_39 : icode MCl 56 39 = some (.iastore, 40, 0, 0, 0) := by decide +kernel
theorem k56_40 : icode MCl 56 40 = some (.aload_n 0, 41, 0, 0, 0) := by decide +kernel
theorem k56_41 : icode MCl 56 41 = some (.getfield 37, 44, 815, 789, 1) := by decide +kernel
theorem k56_44 : icode MCl 56 44 = some (.iload_n 1, 45, 0, 0, 0) := by decide +kernel
theorem k56_45 : icode MCl 56 45 = some (.aload_n 0, 46, 0, 0, 0) := by decide +kernel
theorem k56_46 : icode MCl 56 46 = some (.getfield 19, 49, 808, 782, 1) := by decide +kernel
theorem k56_49 : icode MCl 56 49 = some (.iload_n 1, 50, 0, 0, 0) := by decide +kernel
theorem k56_50 : icode MCl 56 50 = some (.iaload, 51, 0, 0, 0) := by decide +kernel
theorem k56_51 : icode MCl 56 51 = some (.iastore, 52, 0, 0, 0) := by decide +kernel
theorem k56_52 : icode MCl 56 52 = some (.iinc 1 1, 55, 0, 0, 1) := by decide +kernel
theorem k56_55 : icode MCl 56 55 = some (.goto (-45), 58, 10, 0, 0) := by decide +kernel
theorem k56_58 : icode MCl 56 58 = some (.iconst 0, 59, 0, 0, 0) := by decide +kernel
theorem k56_59 : icode MCl 56 59 = some (.istore_n 1, 60, 0, 0, 0) := by decide +kernel
theorem k56_60 : icode MCl 56 60 = some (.iload_n 1, 61, 0, 0, 0) := by decide +kernel
theorem k56_61 : icode MCl 56 61 = some (.bipush 39, 63, 0, 0, 39) := by decide +kernel
theorem k56_63 : icode MCl 56 63 = some (.if_icmp .ge 16, 66, 79, 0, 0) := by decide +kernel
theorem k56_66 : icode MCl 56 66 = some (.aload_n 0, 67, 0, 0, 0) := by decide +kernel
theorem k56_67 : icode MCl 56 67 = some (.getfield 40, 70, 816, 790, 1) := by decide +kernel
theorem k56_70 : icode MCl 56 70 = some (.iload_n 1, 71, 0, 0, 0) := by decide +kernel
theorem k56_71 : icode MCl 56 71 = some (.iconst 0, 72, 0, 0, 0) := by decide +kernel
theorem k56_72 : icode MCl 56 72 = some (.iastore, 73, 0, 0, 0) := by decide +kernel
theorem k56_73 : icode MCl 56 73 = some (.iinc 1 1, 76, 0, 0, 1) := by decide +kernel
theorem k56_76 : icode MCl 56 76 = some (.goto (-16), 79, 60, 0, 0) := by decide +kernel
theorem k56_79 : icode MCl 56 79 = some (.aload_n 0, 80, 0, 0, 0) := by decide +kernel
theorem k56_80 : icode MCl 56 80 = some (.getfield 40, 83, 816, 790, 1) := by decide +kernel
theorem k56_83 : icode MCl 56 83 = some (.iconst 1, 84, 0, 0, 1) := by decide +kernel
theorem k56_84 : icode MCl 56 84 = some (.aload_n 0, 85, 0, 0, 0) := by decide +kernel
theorem k56_85 : icode MCl 56 85 = some (.getfield 65, 88, 805, 779, 0) := by decide +kernel
theorem k56_88 : icode MCl 56 88 = some (.iastore, 89, 0, 0, 0) := by decide +kernel
theorem k56_89 : icode MCl 56 89 = some (.iconst 0, 90, 0, 0, 0) := by decide +kernel
theorem k56_90 : icode MCl 56 90 = some (.istore_n 1, 91, 0, 0, 0) := by decide +kernel
theorem k56_91 : icode MCl 56 91 = some (.iload_n 1, 92, 0, 0, 0) := by decide +kernel
theorem k56_92 : icode MCl 56 92 = some (.aload_n 0, 93, 0, 0, 0) := by decide +kernel
theorem k56_93 : icode MCl 56 93 = some (.getfield 87, 96, 804, 778, 0) := by decide +kernel
theorem k56_96 : icode MCl 56 96 = some (.if_icmp .ge 34, 99, 130, 0, 0) := by decide +kernel
theorem k56_99 : icode MCl 56 99 = some (.aload_n 0, 100, 0, 0, 0) := by decide +kernel
theorem k56_100 : icode MCl 56 100 = some (.getfield 40, 103, 816, 790, 1) := by decide +kernel
theorem k56_103 : icode MCl 56 103 = some (.aload_n 0, 104, 0, 0, 0) := by decide +kernel
theorem k56_104 : icode MCl 56 104 = some (.getfield 22, 107, 809, 783, 1) := by decide +kernel
theorem k56_107 : icode MCl 56 107 = some (.iload_n 1, 108, 0, 0, 0) := by decide +kernel
theorem k56_108 : icode MCl 56 108 = some (.iaload, 109, 0, 0, 0) := by decide +kernel
theorem k56_109 : icode MCl 56 109 = some (.aload_n 0, 110, 0, 0, 0) := by decide +kernel
theorem k56_110 : icode MCl 56 110 = some (.getfield 25, 113, 810, 784, 1) := by decide +kernel
theorem k56_113 : icode MCl 56 113 = some (.iload_n 1, 114, 0, 0, 0) := by decide +kernel
theorem k56_114 : icode MCl 56 114 = some (.iaload, 115, 0, 0, 0) := by decide +kernel
theorem k56_115 : icode MCl 56 115 = some (.aload_n 0, 116, 0, 0, 0) := by decide +kernel
theorem k56_116 : icode MCl 56 116 = some (.getfield 28, 119, 811, 785, 1) := by decide +kernel
theorem k56_119 : icode MCl 56 119 = some (.iload_n 1, 120, 0, 0, 0) := by decide +kernel
theorem k56_120 : icode MCl 56 120 = some (.iaload, 121, 0, 0, 0) := by decide +kernel
theorem k56_121 : icode MCl 56 121 = some (.invokestatic 122, 124, 55, 771, 0) := by decide +kernel
theorem k56_124 : icode MCl 56 124 = some (.iinc 1 1, 127, 0, 0, 1) := by decide +kernel
theorem k56_127 : icode MCl 56 127 = some (.goto (-36), 130, 91, 0, 0) := by decide +kernel
theorem k56_130 : icode MCl 56 130 = some (.aload_n 0, 131, 0, 0, 0) := by decide +kernel
theorem k56_131 : icode MCl 56 131 = some (.iconst 0, 132, 0, 0, 0) := by decide +kernel
theorem k56_132 : icode MCl 56 132 = some (.putfield 126, 135, 818, 792, 0) := by decide +kernel
theorem k56_135 : icode MCl 56 135 = some (.aload_n 0, 136, 0, 0, 0) := by decide +kernel
theorem k56_136 : icode MCl 56 136 = some (.iconst 0, 137, 0, 0, 0) := by decide +kernel
theorem k56_137 : icode MCl 56 137 = some (.putfield 129, 140, 823, 797, 0) := by decide +kernel
theorem k56_140 : icode MCl 56 140 = some (.aload_n 0, 141, 0, 0, 0) := by decide +kernel
theorem k56_141 : icode MCl 56 141 = some (.iconst 0, 142, 0, 0, 0) := by decide +kernel
theorem k56_142 : icode MCl 56 142 = some (.putfield 132, 145, 821, 795, 0) := by decide +kernel
theorem k56_145 : icode MCl 56 145 = some (.return_, 146, 0, 0, 0) := by decide +kernel
theorem k57_0 : icode MCl 57 0 = some (.aload_n 0, 1, 0, 0, 0) := by decide +kernel
theorem k57_1 : icode MCl 57 1 = some (.invokespecial 1, 4, 9999, 754, 0) := by decide +kernel
theorem k57_4 : icode MCl 57 4 = some (.aload_n 0, 5, 0, 0, 0) := by decide +kernel
theorem k57_5 : icode MCl 57 5 = some (.sipush 200, 8, 0, 0, 200) := by decide +kernel
theorem k57_8 : icode MCl 57 8 = some (.newarray .int, 10, 0, 0, 0) := by decide +kernel
theorem k57_10 : icode MCl 57 10 = some (.putfield 7, 13, 801, 775, 1) := by decide +kernel
theorem k57_13 : icode MCl 57 13 = some (.aload_n 0, 14, 0, 0, 0) := by decide +kernel
theorem k57_14 : icode MCl 57 14 = some (.bipush 9, 16, 0, 0, 9) := by decide +kernel
theorem k57_16 : icode MCl 57 16 = some (.newarray .int, 18, 0, 0, 0) := by decide +kernel
theorem k57_18 : icode MCl 57 18 = some (.putfield 13, 21, 806, 780, 1) := by decide +kernel
theorem k57_21 : icode MCl 57 21 = some (.aload_n 0, 22, 0, 0, 0) := by decide +kernel
theorem k57_22 : icode MCl 57 22 = some (.bipush 9, 24, 0, 0, 9) := by decide +kernel
theorem k57_24 : icode MCl 57 24 = some (.newarray .int, 26, 0, 0, 0) := by decide +kernel
theorem k57_26 : icode MCl 57 26 = some (.putfield 16, 29, 807, 781, 1) := by decide +kernel
theorem k57_29 : icode MCl 57 29 = some (.aload_n 0, 30, 0, 0, 0) := by decide +kernel
theorem k57_30 : icode MCl 57 30 = some (.bipush 9, 32, 0, 0, 9) := by decide +kernel
theorem k57_32 : icode MCl 57 32 = some (.newarray .int, 34, 0, 0, 0) := by decide +kernel
theorem k57_34 : icode MCl 57 34 = some (.putfield 19, 37, 808, 782, 1) := by decide +kernel
theorem k57_37 : icode MCl 57 37 = some (.aload_n 0, 38, 0, 0, 0) := by decide +kernel
theorem k57_38 : icode MCl 57 38 = some (.bipush 6, 40, 0, 0, 6) := by decide +kernel
theorem k57_40 : icode MCl 57 40 = some (.newarray .int, 42, 0, 0, 0) := by decide +kernel
theorem k57_42 : icode MCl 57 42 = some (.putfield 22, 45, 809, 783, 1) := by decide +kernel
theorem k57_45 : icode MCl 57 45 = some (.aload_n 0, 46, 0, 0, 0) := by decide +kernel
theorem k57_46 : icode MCl 57 46 = some (.bipush 6, 48, 0, 0, 6) := by decide +kernel
theorem k57_48 : icode MCl 57 48 = some (.newarray .int, 50, 0, 0, 0) := by decide +kernel
theorem k57_50 : icode MCl 57 50 = some (.putfield 25, 53, 810, 784, 1) := by decide +kernel
theorem k57_53 : icode MCl 57 53 = some (.aload_n 0, 54, 0, 0, 0) := by decide +kernel
theorem k57_54 : icode MCl 57 54 = some (.bipush 6, 56, 0, 0, 6) := by decide +kernel
theorem k57_56 : icode MCl 57 56 = some (.newarray .int, 58, 0, 0, 0) := by decide +kernel
theorem k57_58 : icode MCl 57 58 = some (.putfield 28, 61, 811, 785, 1) := by decide +kernel
theorem k57_61 : icode MCl 57 61 = some (.aload_n 0, 62, 0, 0, 0) := by decide +kernel
theorem k57_62 : icode MCl 57 62 = some (.bipush 9, 64, 0, 0, 9) := by decide +kernel
theorem k57_64 : icode MCl 57 64 = some (.newarray .int, 66, 0, 0, 0) := by decide +kernel
theorem k57_66 : icode MCl 57 66 = some (.putfield 31, 69, 813, 787, 1) := by decide +kernel
theorem k57_69 : icode MCl 57 69 = some (.aload_n 0, 70, 0, 0, 0) := by decide +kernel
theorem k57_70 : icode MCl 57 70 = some (.bipush 9, 72, 0, 0, 9) := by decide +kernel
theorem k57_72 : icode MCl 57 72 = some (.newarray .int, 74, 0, 0, 0) := by decide +kernel
theorem k57_74 : icode MCl 57 74 = some (.putfield 34, 77, 814, 788, 1) := by decide +kernel
theorem k57_77 : icode MCl 57 77 = some (.aload_n 0, 78, 0, 0, 0) := by decide +kernel
theorem k57_78 : icode MCl 57 78 = some (.bipush 9, 80, 0, 0, 9) := by decide +kernel
theorem k57_80 : icode MCl 57 80 = some (.newarray .int, 82, 0, 0, 0) := by decide +kernel
theorem k57_82 : icode MCl 57 82 = some (.putfield 37, 85, 815, 789, 1) := by decide +kernel
theorem k57_85 : icode MCl 57 85 = some (.aload_n 0, 86, 0, 0, 0) := by decide +kernel
theorem k57_86 : icode MCl 57 86 = some (.bipush 39, 88, 0, 0, 39) := by decide +kernel
theorem k57_88 : icode MCl 57 88 = some (.newarray .int, 90, 0, 0, 0) := by decide +kernel
theorem k57_90 : icode MCl 57 90 = some (.putfield 40, 93, 816, 790, 1) := by decide +kernel
theorem k57_93 : icode MCl 57 93 = some (.aload_n 0, 94, 0, 0, 0) := by decide +kernel
theorem k57_94 : icode MCl 57 94 = some (.bipush 39, 96, 0, 0, 39) := by decide +kernel
theorem k57_96 : icode MCl 57 96 = some (.newarray .int, 98, 0, 0, 0) := by decide +kernel
theorem k57_98 : icode MCl 57 98 = some (.putfield 43, 101, 817, 791, 1) := by decide +kernel
theorem k57_101 : icode MCl 57 101 = some (.aload_n 0, 102, 0, 0, 0) := by decide +kernel
theorem k57_102 : icode MCl 57 102 = some (.sipush 312, 105, 0, 0, 312) := by decide +kernel
theorem k57_105 : icode MCl 57 105 = some (.newarray .int, 107, 0, 0, 0) := by decide +kernel
theorem k57_107 : icode MCl 57 107 = some (.putfield 46, 110, 820, 794, 1) := by decide +kernel
theorem k57_110 : icode MCl 57 110 = some (.aload_n 0, 111, 0, 0, 0) := by decide +kernel
theorem k57_111 : icode MCl 57 111 = some (.bipush 18, 113, 0, 0, 18) := by decide +kernel
theorem k57_113 : icode MCl 57 113 = some (.newarray .int, 115, 0, 0, 0) := by decide +kernel
theorem k57_115 : icode MCl 57 115 = some (.putfield 49, 118, 822, 796, 1) := by decide +kernel
theorem k57_118 : icode MCl 57 118 = some (.aload_n 0, 119, 0, 0, 0) := by decide +kernel
theorem k57_119 : icode MCl 57 119 = some (.bipush 78, 121, 0, 0, 78) := by decide +kernel
theorem k57_121 : icode MCl 57 121 = some (.newarray .int, 123, 0, 0, 0) := by decide +kernel
theorem k57_123 : icode MCl 57 123 = some (.putfield 52, 126, 824, 798, 1) := by decide +kernel
theorem k57_126 : icode MCl 57 126 = some (.aload_n 0, 127, 0, 0, 0) := by decide +kernel
theorem k57_127 : icode MCl 57 127 = some (.invokevirtual 55, 130, 52, 755, 0) := by decide +kernel
theorem k57_130 : icode MCl 57 130 = some (.aload_n 0, 131, 0, 0, 0) := by decide +kernel
theorem k57_131 : icode MCl 57 131 = some (.iconst 0, 132, 0, 0, 0) := by decide +kernel
theorem k57_132 : icode MCl 57 132 = some (.iconst 3, 133, 0, 0, 3) := by decide +kernel
theorem k57_133 : icode MCl 57 133 = some (.iconst 0, 134, 0, 0, 0) := by decide +kernel
theorem k57_134 : icode MCl 57 134 = some (.invokevirtual 58, 137, 53, 759, 0) := by decide +kernel
theorem k57_137 : icode MCl 57 137 = some (.aload_n 0, 138, 0, 0, 0) := by decide +kernel
theorem k57_138 : icode MCl 57 138 = some (.iconst 1, 139, 0, 0, 1) := by decide +kernel
theorem k57_139 : icode MCl 57 139 = some (.iconst 2, 140, 0, 0, 2) := by decide +kernel
theorem k57_140 : icode MCl 57 140 = some (.iconst 0, 141, 0, 0, 0) := by decide +kernel
theorem k57_141 : icode MCl 57 141 = some (.invokevirtual 58, 144, 53, 759, 0) := by decide +kernel
theorem k57_144 : icode MCl 57 144 = some (.aload_n 0, 145, 0, 0, 0) := by decide +kernel
theorem k57_145 : icode MCl 57 145 = some (.iconst 2, 146, 0, 0, 2) := by decide +kernel
theorem k57_146 : icode MCl 57 146 = some (.iconst 4, 147, 0, 0, 4) := by decide +kernel
theorem k57_147 : icode MCl 57 147 = some (.iconst 1, 148, 0, 0, 1) := by decide +kernel
theorem k57_148 : icode MCl 57 148 = some (.invokevirtual 58, 151, 53, 759, 0) := by decide +kernel
theorem k57_151 : icode MCl 57 151 = some (.aload_n 0, 152, 0, 0, 0) := by decide +kernel
theorem k57_152 : icode MCl 57 152 = some (.iconst 3, 153, 0, 0, 3) := by decide +kernel
theorem k57_153 : icode MCl 57 153 = some (.iconst 5, 154, 0, 0, 5) := by decide +kernel
theorem k57_154 : icode MCl 57 154 = some (.iconst 1, 155, 0, 0, 1) := by decide +kernel
theorem k57_155 : icode MCl 57 155 = some (.invokevirtual 58, 158, 53, 759, 0) := by decide +kernel
theorem k57_158 : icode MCl 57 158 = some (.aload_n 0, 159, 0, 0, 0) := by decide +kernel
theorem k57_159 : icode MCl 57 159 = some (.iconst 0, 160, 0, 0, 0) := by decide +kernel
theorem k57_160 : icode MCl 57 160 = some (.iconst 1, 161, 0, 0, 1) := by decide +kernel
theorem k57_161 : icode MCl 57 161 = some (.iconst 2, 162, 0, 0, 2) := by decide +kernel
theorem k57_162 : icode MCl 57 162 = some (.invokevirtual 58, 165, 53, 759, 0) := by decide +kernel
theorem k57_165 : icode MCl 57 165 = some (.aload_n 0, 166, 0, 0, 0) := by decide +kernel
theorem k57_166 : icode MCl 57 166 = some (.iconst 4, 167, 0, 0, 4) := by decide +kernel
theorem k57_167 : icode MCl 57 167 = some (.bipush 6, 169, 0, 0, 6) := by decide +kernel
theorem k57_169 : icode MCl 57 169 = some (.iconst 3, 170, 0, 0, 3) := by decide +kernel
theorem k57_170 : icode MCl 57 170 = some (.invokevirtual 58, 173, 53, 759, 0) := by decide +kernel
theorem k57_173 : icode MCl 57 173 = some (.aload_n 0, 174, 0, 0, 0) := by decide +kernel
theorem k57_174 : icode MCl 57 174 = some (.iconst 2, 175, 0, 0, 2) := by decide +kernel
theorem k57_175 : icode MCl 57 175 = some (.iconst 2, 176, 0, 0, 2) := by decide +kernel
theorem k57_176 : icode MCl 57 176 = some (.iconst 5, 177, 0, 0, 5) := by decide +kernel
theorem k57_177 : icode MCl 57 177 = some (.invokevirtual 58, 180, 53, 759, 0) := by decide +kernel
theorem k57_180 : icode MCl 57 180 = some (.aload_n 0, 181, 0, 0, 0) := by decide +kernel
theorem k57_181 : icode MCl 57 181 = some (.iconst 0, 182, 0, 0, 0) := by decide +kernel
theorem k57_182 : icode MCl 57 182 = some (.bipush 7, 184, 0, 0, 7) := by decide +kernel
theorem k57_184 : icode MCl 57 184 = some (.bipush 7, 186, 0, 0, 7) := by decide +kernel
theorem k57_186 : icode MCl 57 186 = some (.invokevirtual 58, 189, 53, 759, 0) := by decide +kernel
theorem k57_189 : icode MCl 57 189 = some (.aload_n 0, 190, 0, 0, 0) := by decide +kernel
theorem k57_190 : icode MCl 57 190 = some (.iconst 4, 191, 0, 0, 4) := by decide +kernel
theorem k57_191 : icode MCl 57 191 = some (.iconst 0, 192, 0, 0, 0) := by decide +kernel
theorem k57_192 : icode MCl 57 192 = some (.bipush 102, 194, 0, 0, 102) := by decide +kernel
theorem k57_194 : icode MCl 57 194 = some (.invokevirtual 62, 197, 54, 763, 0) := by decide +kernel
theorem k57_197 : icode MCl 57 197 = some (.aload_n 0, 198, 0, 0, 0) := by decide +kernel
theorem k57_198 : icode MCl 57 198 = some (.bipush 6, 200, 0, 0, 6) := by decide +kernel
theorem k57_200 : icode MCl 57 200 = some (.iconst 2, 201, 0, 0, 2) := by decide +kernel
theorem k57_201 : icode MCl 57 201 = some (.sipush 985, 204, 0, 0, 985) := by decide +kernel
theorem k57_204 : icode MCl 57 204 = some (.invokevirtual 62, 207, 54, 763, 0) := by decide +kernel
theorem k57_207 : icode MCl 57 207 = some (.aload_n 0, 208, 0, 0, 0) := by decide +kernel
theorem k57_208 : icode MCl 57 208 = some (.bipush 7, 210, 0, 0, 7) := by decide +kernel
theorem k57_210 : icode MCl 57 210 = some (.iconst 5, 211, 0, 0, 5) := by decide +kernel
theorem k57_211 : icode MCl 57 211 = some (.iconst 2, 212, 0, 0, 2) := by decide +kernel
theorem k57_212 : icode MCl 57 212 = some (.invokevirtual 62, 215, 54, 763, 0) := by decide +kernel
theorem k57_215 : icode MCl 57 215 = some (.aload_n 0, 216, 0, 0, 0) := by decide +kernel
theorem k57_216 : icode MCl 57 216 = some (.iconst 5, 217, 0, 0, 5) := by decide +kernel
theorem k57_217 : icode MCl 57 217 = some (.bipush 9, 219, 0, 0, 9) := by decide +kernel
theorem k57_219 : icode MCl 57 219 = some (.sipush 1407, 222, 0, 0, 1407) := by decide +kernel
theorem k57_222 : icode MCl 57 222 = some (.invokevirtual 62, 225, 54, 763, 0) := by decide +kernel
theorem k57_225 : icode MCl 57 225 = some (.aload_n 0, 226, 0, 0, 0) := by decide +kernel
theorem k57_226 : icode MCl 57 226 = some (.bipush 8, 228, 0, 0, 8) := by decide +kernel
theorem k57_228 : icode MCl 57 228 = some (.putfield 65, 231, 805, 779, 0) := by decide +kernel
theorem k57_231 : icode MCl 57 231 = some (.aload_n 0, 232, 0, 0, 0) := by decide +kernel
theorem k57_232 : icode MCl 57 232 = some (.invokevirtual 69, 235, 56, 767, 0) := by decide +kernel
theorem k57_235 : icode MCl 57 235 = some (.return_, 236, 0, 0, 0) := by decide +kernel
theorem k58_0 : icode MCl 58 0 = some (.iload_n 1, 1, 0, 0, 0) := by decide +kernel
theorem k58_1 : icode MCl 58 1 = some (.bipush 32, 3, 0, 0, 32) := by decide +kernel
theorem k58_3 : icode MCl 58 3 = some (.bipush 126, 5, 0, 0, 126) := by decide +kernel
theorem k58_5 : icode MCl 58 5 = some (.invokestatic 84, 8, 22, 439, 0) := by decide +kernel
theorem k58_8 : icode MCl 58 8 = some (.ifCond .ne 5, 11, 13, 0, 0) := by decide +kernel
theorem k58_11 : icode MCl 58 11 = some (.iconst (-1), 12, 0, 0, (-1)) := by decide +kernel
theorem k58_12 : icode MCl 58 12 = some (.ireturn, 13, 0, 0, 0) := by decide +kernel
theorem k58_13 : icode MCl 58 13 = some (.aload_n 0, 14, 0, 0, 0) := by decide +kernel
theorem k58_14 : icode MCl 58 14 = some (.getfield 20, 17, 701, 410, 1) := by decide +kernel
theorem k58_17 : icode MCl 58 17 = some (.iload_n 1, 18, 0, 0, 0) := by decide +kernel
theorem k58_18 : icode MCl 58 18 = some (.invokevirtual 69, 21, 16, 266, 0) := by decide +kernel
theorem k58_21 : icode MCl 58 21 = some (.ifCond .eq 13, 24, 34, 0, 0) := by decide +kernel
theorem k58_24 : icode MCl 58 24 = some (.aload_n 0, 25, 0, 0, 0) := by decide +kernel
theorem k58_25 : icode MCl 58 25 = some (.getfield 20, 28, 701, 410, 1) := by decide +kernel
theorem k58_28 : icode MCl 58 28 = some (.invokevirtual 88, 31, 19, 440, 0) := by decide +kernel
theorem k58_31 : icode MCl 58 31 = some (.goto 5, 34, 36, 0, 0) := by decide +kernel
theorem k58_34 : icode MCl 58 34 = some (.bipush (-3), 36, 0, 0, (-3)) := by decide +kernel
theorem k58_36 : icode MCl 58 36 = some (.ireturn, 37, 0, 0, 0) := by decide +kernel
theorem k59_0 : icode MCl 59 0 = some (.iload_n 0, 1, 0, 0, 0) := by decide +kernel
theorem k59_1 : icode MCl 59 1 = some (.iload_n 1, 2, 0, 0, 0) := by decide +kernel
theorem k59_2 : icode MCl 59 2 = some (.if_icmp .lt 12, 5, 14, 0, 0) := by decide +kernel
theorem k59_5 : icode MCl 59 5 = some (.iload_n 0, 6, 0, 0, 0) := by decide +kernel
theorem k59_6 : icode MCl 59 6 = some (.iload_n 2, 7, 0, 0, 0) := by decide +kernel
theorem k59_7 : icode MCl 59 7 = some (.if_icmp .gt 7, 10, 14, 0, 0) := by decide +kernel
theorem k59_10 : icode MCl 59 10 = some (.iconst 1, 11, 0, 0, 1) := by decide +kernel
theorem k59_11 : icode MCl 59 11 = some (.goto 4, 14, 15, 0, 0) := by decide +kernel
theorem k59_14 : icode MCl 59 14 = some (.iconst 0, 15, 0, 0, 0) := by decide +kernel
theorem k59_15 : icode MCl 59 15 = some (.ireturn, 16, 0, 0, 0) := by decide +kernel
theorem k60_0 : icode MCl 60 0 = some (.iload_n 1, 1, 0, 0, 0) := by decide +kernel
theorem k60_1 : icode MCl 60 1 = some (.bipush 32, 3, 0, 0, 32) := by decide +kernel
theorem k60_3 : icode MCl 60 3 = some (.bipush 126, 5, 0, 0, 126) := by decide +kernel
theorem k60_5 : icode MCl 60 5 = some (.invokestatic 73, 8, 59, 854, 0) := by decide +kernel
theorem k60_8 : icode MCl 60 8 = some (.ifCond .ne 5, 11, 13, 0, 0) := by decide +kernel
theorem k60_11 : icode MCl 60 11 = some (.iconst (-1), 12, 0, 0, (-1)) := by decide +kernel
theorem k60_12 : icode MCl 60 12 = some (.ireturn, 13, 0, 0, 0) := by decide +kernel
theorem k60_13 : icode MCl 60 13 = some (.aload_n 0, 14, 0, 0, 0) := by decide +kernel
theorem k60_14 : icode MCl 60 14 = some (.getfield 90, 17, 800, 774, 0) := by decide +kernel
theorem k60_17 : icode MCl 60 17 = some (.sipush 200, 20, 0, 0, 200) := by decide +kernel
theorem k60_20 : icode MCl 60 20 = some (.if_icmp .ne 6, 23, 26, 0, 0) := by decide +kernel
theorem k60_23 : icode MCl 60 23 = some (.bipush (-3), 25, 0, 0, (-3)) := by decide +kernel
theorem k60_25 : icode MCl 60 25 = some (.ireturn, 26, 0, 0, 0) := by decide +kernel
theorem k60_26 : icode MCl 60 26 = some (.aload_n 0, 27, 0, 0, 0) := by decide +kernel
theorem k60_27 : icode MCl 60 27 = some (.getfield 7, 30, 801, 775, 1) := by decide +kernel
theorem k60_30 : icode MCl 60 30 = some (.aload_n 0, 31, 0, 0, 0) := by decide +kernel
theorem k60_31 : icode MCl 60 31 = some (.getfield 90, 34, 800, 774, 0) := by decide +kernel
theorem k60_34 : icode MCl 60 34 = some (.iload_n 1, 35, 0, 0, 0) := by decide +kernel
theorem k60_35 : icode MCl 60 35 = some (.iastore, 36, 0, 0, 0) := by decide +kernel
theorem k60_36 : icode MCl 60 36 = some (.aload_n 0, 37, 0, 0, 0) := by decide +kernel
theorem k60_37 : icode MCl 60 37 = some (.dup, 38, 0, 0, 0) := by decide +kernel
theorem k60_38 : icode MCl 60 38 = some (.getfield 90, 41, 800, 774, 0) := by decide +kernel
theorem k60_41 : icode MCl 60 41 = some (.iconst 1, 42, 0, 0, 1) := by decide +kernel
theorem k60_42 : icode MCl 60 42 = some (.iadd, 43, 0, 0, 0) := by decide +kernel
theorem k60_43 : icode MCl 60 43 = some (.putfield 90, 46, 800, 774, 0) := by decide +kernel
theorem k60_46 : icode MCl 60 46 = some (.aload_n 0, 47, 0, 0, 0) := by decide +kernel
theorem k60_47 : icode MCl 60 47 = some (.getfield 90, 50, 800, 774, 0) := by decide +kernel
theorem k60_50 : icode MCl 60 50 = some (.ireturn, 51, 0, 0, 0) := by decide +kernel
theorem k61_0 : icode MCl 61 0 = some (.aload_n 0, 1, 0, 0, 0) := by decide +kernel
theorem k61_1 : icode MCl 61 1 = some (.getfield 20, 4, 701, 410, 1) := by decide +kernel
theorem k61_4 : icode MCl 61 4 = some (.invokevirtual 88, 7, 19, 440, 0) := by decide +kernel
theorem k61_7 : icode MCl 61 7 = some (.istore_n 1, 8, 0, 0, 0) := by decide +kernel
theorem k61_8 : icode MCl 61 8 = some (.aload_n 0, 9, 0, 0, 0) := by decide +kernel
theorem k61_9 : icode MCl 61 9 = some (.getfield 20, 12, 701, 410, 1) := by decide +kernel
theorem k61_12 : icode MCl 61 12 = some (.invokevirtual 81, 15, 50, 405, 0) := by decide +kernel
theorem k61_15 : icode MCl 61 15 = some (.iload_n 1, 16, 0, 0, 0) := by decide +kernel
theorem k61_16 : icode MCl 61 16 = some (.ireturn, 17, 0, 0, 0) := by decide +kernel
theorem k62_0 : icode MCl 62 0 = some (.aload_n 0, 1, 0, 0, 0) := by decide +kernel
theorem k62_1 : icode MCl 62 1 = some (.getfield 90, 4, 800, 774, 0) := by decide +kernel
theorem k62_4 : icode MCl 62 4 = some (.istore_n 1, 5, 0, 0, 0) := by decide +kernel
theorem k62_5 : icode MCl 62 5 = some (.aload_n 0, 6, 0, 0, 0) := by decide +kernel
theorem k62_6 : icode MCl 62 6 = some (.iconst 0, 7, 0, 0, 0) := by decide +kernel
theorem k62_7 : icode MCl 62 7 = some (.putfield 90, 10, 800, 774, 0) := by decide +kernel
theorem k62_10 : icode MCl 62 10 = some (.iload_n 1, 11, 0, 0, 0) := by decide +kernel
theorem k62_11 : icode MCl 62 11 = some (.ireturn, 12, 0, 0, 0) := by decide +kernel
theorem k63_0 : icode MCl 63 0 = some (.aload_n 0, 1, 0, 0, 0) := by decide +kernel
theorem k63_1 : icode MCl 63 1 = some (.getfield 10, 4, 700, 409, 1) := by decide +kernel
theorem k63_4 : icode MCl 63 4 = some (.invokevirtual 75, 7, 39, 273, 0) := by decide +kernel
theorem k63_7 : icode MCl 63 7 = some (.ireturn, 8, 0, 0, 0) := by decide +kernel
theorem k64_0 : icode MCl 64 0 = some (.aload_n 0, 1, 0, 0, 0) := by decide +kernel
theorem k64_1 : icode MCl 64 1 = some (.getfield 93, 4, 802, 776, 0) := by decide +kernel
theorem k64_4 : icode MCl 64 4 = some (.aload_n 0, 5, 0, 0, 0) := by decide +kernel
theorem k64_5 : icode MCl 64 5 = some (.getfield 90, 8, 800, 774, 0) := by decide +kernel
theorem k64_8 : icode MCl 64 8 = some (.if_icmp .ge 15, 11, 23, 0, 0) := by decide +kernel
theorem k64_11 : icode MCl 64 11 = some (.aload_n 0, 12, 0, 0, 0) := by decide +kernel
theorem k64_12 : icode MCl 64 12 = some (.getfield 7, 15, 801, 775, 1) := by decide +kernel
theorem k64_15 : icode MCl 64 15 = some (.aload_n 0, 16, 0, 0, 0) := by decide +kernel
theorem k64_16 : icode MCl 64 16 = some (.getfield 93, 19, 802, 776, 0) := by decide +kernel
theorem k64_19 : icode MCl 64 19 = some (.iaload, 20, 0, 0, 0) := by decide +kernel
theorem k64_20 : icode MCl 64 20 = some (.goto 4, 23, 24, 0, 0) := by decide +kernel
theorem k64_23 : icode MCl 64 23 = some (.iconst 0, 24, 0, 0, 0) := by decide +kernel
theorem k64_24 : icode MCl 64 24 = some (.ireturn, 25, 0, 0, 0) := by decide +kernel
theorem k65_0 : icode MCl 65 0 = some (.aload_n 0, 1, 0, 0, 0) := by decide +kernel
theorem k65_1 : icode MCl 65 1 = some (.invokevirtual 96, 4, 64, 873, 0) := by decide +kernel
theorem k65_4 : icode MCl 65 4 = some (.bipush 48, 6, 0, 0, 48) := by decide +kernel
theorem k65_6 : icode MCl 65 6 = some (.bipush 57, 8, 0, 0, 57) := by decide +kernel
theorem k65_8 : icode MCl 65 8 = some (.invokestatic 73, 11, 59, 854, 0) := by decide +kernel
theorem k65_11 : icode MCl 65 11 = some (.ifCond .ne 5, 14, 16, 0, 0) := by decide +kernel
theorem k65_14 : icode MCl 65 14 = some (.iconst (-1), 15, 0, 0, (-1)) := by decide +kernel
theorem k65_15 : icode MCl 65 15 = some (.ireturn, 16, 0, 0, 0) := by decide +kernel
theorem k65_16 : icode MCl 65 16 = some (.aload_n 0, 17, 0, 0, 0) := by decide +kernel
theorem k65_17 : icode MCl 65 17 = some (.invokevirtual 96, 20, 64, 873, 0) := by decide +kernel
theorem k65_20 : icode MCl 65 20 = some (.bipush 48, 22, 0, 0, 48) := by decide +kernel
theorem k65_22 : icode MCl 65 22 = some (.isub, 23, 0, 0, 0) := by decide +kernel
theorem k65_23 : icode MCl 65 23 = some (.istore_n 2, 24, 0, 0, 0) := by decide +kernel
theorem k65_24 : icode MCl 65 24 = some (.aload_n 0, 25, 0, 0, 0) := by decide +kernel
theorem k65_25 : icode MCl 65 25 = some (.dup, 26, 0, 0, 0) := by decide +kernel
theorem k65_26 : icode MCl 65 26 = some (.getfield 93, 29, 802, 776, 0) := by decide +kernel
theorem k65_29 : icode MCl 65 29 = some (.iconst 1, 30, 0, 0, 1) := by decide +kernel
theorem k65_30 : icode MCl 65 30 = some (.iadd, 31, 0, 0, 0) := by decide +kernel
theorem k65_31 : icode MCl 65 31 = some (.putfield 93, 34, 802, 776, 0) := by decide +kernel
theorem k65_34 : icode MCl 65 34 = some (.aload_n 0, 35, 0, 0, 0) := by decide +kernel
theorem k65_35 : icode MCl 65 35 = some (.invokevirtual 96, 38, 64, 873, 0) := by decide +kernel
theorem k65_38 : icode MCl 65 38 = some (.bipush 48, 40, 0, 0, 48) := by decide +kernel
theorem k65_40 : icode MCl 65 40 = some (.bipush 57, 42, 0, 0, 57) := by decide +kernel
theorem k65_42 : icode MCl 65 42 = some (.invokestatic 73, 45, 59, 854, 0) := by decide +kernel
theorem k65_45 : icode MCl 65 45 = some (.ifCond .eq 26, 48, 71, 0, 0) := by decide +kernel
theorem k65_48 : icode MCl 65 48 = some (.bipush 10, 50, 0, 0, 10) := by decide +kernel
theorem k65_50 : icode MCl 65 50 = some (.iload_n 2, 51, 0, 0, 0) := by decide +kernel
theorem k65_51 : icode MCl 65 51 = some (.imul, 52, 0, 0, 0) := by decide +kernel
theorem k65_52 : icode MCl 65 52 = some (.aload_n 0, 53, 0, 0, 0) := by decide +kernel
theorem k65_53 : icode MCl 65 53 = some (.invokevirtual 96, 56, 64, 873, 0) := by decide +kernel
theorem k65_56 : icode MCl 65 56 = some (.iadd, 57, 0, 0, 0) := by decide +kernel
theorem k65_57 : icode MCl 65 57 = some (.bipush 48, 59, 0, 0, 48) := by decide +kernel
theorem k65_59 : icode MCl 65 59 = some (.isub, 60, 0, 0, 0) := by decide +kernel
theorem k65_60 : icode MCl 65 60 = some (.istore_n 2, 61, 0, 0, 0) := by decide +kernel
theorem k65_61 : icode MCl 65 61 = some (.aload_n 0, 62, 0, 0, 0) := by decide +kernel
theorem k65_62 : icode MCl 65 62 = some (.dup, 63, 0, 0, 0) := by decide +kernel
theorem k65_63 : icode MCl 65 63 = some (.getfield 93, 66, 802, 776, 0) := by decide +kernel
theorem k65_66 : icode MCl 65 66 = some (.iconst 1, 67, 0, 0, 1) := by decide +kernel
theorem k65_67 : icode MCl 65 67 = some (.iadd, 68, 0, 0, 0) := by decide +kernel
theorem k65_68 : icode MCl 65 68 = some (.putfield 93, 71, 802, 776, 0) := by decide +kernel
theorem k65_71 : icode MCl 65 71 = some (.aload_n 0, 72, 0, 0, 0) := by decide +kernel
theorem k65_72 : icode MCl 65 72 = some (.invokevirtual 96, 75, 64, 873, 0) := by decide +kernel
theorem k65_75 : icode MCl 65 75 = some (.iload_n 1, 76, 0, 0, 0) := by decide +kernel
theorem k65_76 : icode MCl 65 76 = some (.if_icmp .eq 5, 79, 81, 0, 0) := by decide +kernel
theorem k65_79 : icode MCl 65 79 = some (.iconst (-1), 80, 0, 0, (-1)) := by decide +kernel
theorem k65_80 : icode MCl 65 80 = some (.ireturn, 81, 0, 0, 0) := by decide +kernel
theorem k65_81 : icode MCl 65 81 = some (.aload_n 0, 82, 0, 0, 0) := by decide +kernel
theorem k65_82 : icode MCl 65 82 = some (.dup, 83, 0, 0, 0) := by decide +kernel
theorem k65_83 : icode MCl 65 83 = some (.getfield 93, 86, 802, 776, 0) := by decide +kernel
theorem k65_86 : icode MCl 65 86 = some (.iconst 1, 87, 0, 0, 1) := by decide +kernel
theorem k65_87 : icode MCl 65 87 = some (.iadd, 88, 0, 0, 0) := by decide +kernel
theorem k65_88 : icode MCl 65 88 = some (.putfield 93, 91, 802, 776, 0) := by decide +kernel
theorem k65_91 : icode MCl 65 91 = some (.iload_n 2, 92, 0, 0, 0) := by decide +kernel
theorem k65_92 : icode MCl 65 92 = some (.ireturn, 93, 0, 0, 0) := by decide +kernel
theorem k66_0 : icode MCl 66 0 = some (.aload_n 0, 1, 0, 0, 0) := by decide +kernel
theorem k66_1 : icode MCl 66 1 = some (.bipush 44, 3, 0, 0, 44) := by decide +kernel
theorem k66_3 : icode MCl 66 3 = some (.invokevirtual 100, 6, 65, 881, 0) := by decide +kernel
theorem k66_6 : icode MCl 66 6 = some (.istore_n 1, 7, 0, 0, 0) := by decide +kernel
theorem k66_7 : icode MCl 66 7 = some (.iload_n 1, 8, 0, 0, 0) := by decide +kernel
theorem k66_8 : icode MCl 66 8 = some (.ifCond .ge 7, 11, 15, 0, 0) := by decide +kernel
theorem k66_11 : icode MCl 66 11 = some (.iconst (-1), 12, 0, 0, (-1)) := by decide +kernel
theorem k66_12 : icode MCl 66 12 = some (.goto 9, 15, 21, 0, 0) := by decide +kernel
theorem k66_15 : icode MCl 66 15 = some (.aload_n 0, 16, 0, 0, 0) := by decide +kernel
theorem k66_16 : icode MCl 66 16 = some (.bipush 44, 18, 0, 0, 44) := by decide +kernel
theorem k66_18 : icode MCl 66 18 = some (.invokevirtual 100, 21, 65, 881, 0) := by decide +kernel
theorem k66_21 : icode MCl 66 21 = some (.istore_n 2, 22, 0, 0, 0) := by decide +kernel
theorem k66_22 : icode MCl 66 22 = some (.iload_n 2, 23, 0, 0, 0) := by decide +kernel
theorem k66_23 : icode MCl 66 23 = some (.ifCond .ge 7, 26, 30, 0, 0) := by decide +kernel
theorem k66_26 : icode MCl 66 26 = some (.iconst (-1), 27, 0, 0, (-1)) := by decide +kernel
theorem k66_27 : icode MCl 66 27 = some (.goto 9, 30, 36, 0, 0) := by decide +kernel
theorem k66_30 : icode MCl 66 30 = some (.aload_n 0, 31, 0, 0, 0) := by decide +kernel
theorem k66_31 : icode MCl 66 31 = some (.bipush 59, 33, 0, 0, 59) := by decide +kernel
theorem k66_33 : icode MCl 66 33 = some (.invokevirtual 100, 36, 65, 881, 0) := by decide +kernel
theorem k66_36 : icode MCl 66 36 = some (.istore_n 3, 37, 0, 0, 0) := by decide +kernel
theorem k66_37 : icode MCl 66 37 = some (.iload_n 3, 38, 0, 0, 0) := by decide +kernel
theorem k66_38 : icode MCl 66 38 = some (.ifCond .lt 35, 41, 73, 0, 0) := by decide +kernel
theorem k66_41 : icode MCl 66 41 = some (.iload_n 1, 42, 0, 0, 0) := by decide +kernel
theorem k66_42 : icode MCl 66 42 = some (.iconst 4, 43, 0, 0, 4) := by decide +kernel
theorem k66_43 : icode MCl 66 43 = some (.if_icmp .gt 30, 46, 73, 0, 0) := by decide +kernel
theorem k66_46 : icode MCl 66 46 = some (.iload_n 2, 47, 0, 0, 0) := by decide +kernel
theorem k66_47 : icode MCl 66 47 = some (.iconst 1, 48, 0, 0, 1) := by decide +kernel
theorem k66_48 : icode MCl 66 48 = some (.bipush 20, 50, 0, 0, 20) := by decide +kernel
theorem k66_50 : icode MCl 66 50 = some (.invokestatic 73, 53, 59, 854, 0) := by decide +kernel
theorem k66_53 : icode MCl 66 53 = some (.ifCond .eq 20, 56, 73, 0, 0) := by decide +kernel
theorem k66_56 : icode MCl 66 56 = some (.iload_n 3, 57, 0, 0, 0) := by decide +kernel
theorem k66_57 : icode MCl 66 57 = some (.aload_n 0, 58, 0, 0, 0) := by decide +kernel
theorem k66_58 : icode MCl 66 58 = some (.getfield 84, 61, 803, 777, 0) := by decide +kernel
theorem k66_61 : icode MCl 66 61 = some (.if_icmp .gt 12, 64, 73, 0, 0) := by decide +kernel
theorem k66_64 : icode MCl 66 64 = some (.aload_n 0, 65, 0, 0, 0) := by decide +kernel
theorem k66_65 : icode MCl 66 65 = some (.getfield 84, 68, 803, 777, 0) := by decide +kernel
theorem k66_68 : icode MCl 66 68 = some (.bipush 9, 70, 0, 0, 9) := by decide +kernel
theorem k66_70 : icode MCl 66 70 = some (.if_icmp .ne 5, 73, 75, 0, 0) := by decide +kernel
theorem k66_73 : icode MCl 66 73 = some (.iconst 0, 74, 0, 0, 0) := by decide +kernel
theorem k66_74 : icode MCl 66 74 = some (.ireturn, 75, 0, 0, 0) := by decide +kernel
theorem k66_75 : icode MCl 66 75 = some (.aload_n 0, 76, 0, 0, 0) := by decide +kernel
theorem k66_76 : icode MCl 66 76 = some (.iload_n 1, 77, 0, 0, 0) := by decide +kernel
theorem k66_77 : icode MCl 66 77 = some (.iload_n 2, 78, 0, 0, 0) := by decide +kernel
theorem k66_78 : icode MCl 66 78 = some (.iload_n 3, 79, 0, 0, 0) := by decide +kernel
theorem k66_79 : icode MCl 66 79 = some (.invokevirtual 58, 82, 53, 759, 0) := by decide +kernel
theorem k66_82 : icode MCl 66 82 = some (.iconst 1, 83, 0, 0, 1) := by decide +kernel
theorem k66_83 : icode MCl 66 83 = some (.ireturn, 84, 0, 0, 0) := by decide +kernel
theorem k67_0 : icode MCl 67 0 = some (.iconst 0, 1, 0, 0, 0) := by decide +kernel
theorem k67_1 : icode MCl 67 1 = some (.istore_n 1, 2, 0, 0, 0) := by decide +kernel
theorem k67_2 : icode MCl 67 2 = some (.iconst 0, 3, 0, 0, 0) := by decide +kernel
theorem k67_3 : icode MCl 67 3 = some (.istore_n 2, 4, 0, 0, 0) := by decide +kernel
theorem k67_4 : icode MCl 67 4 = some (.iconst 1, 5, 0, 0, 1) := by decide +kernel
theorem k67_5 : icode MCl 67 5 = some (.istore_n 3, 6, 0, 0, 0) := by decide +kernel
theorem k67_6 : icode MCl 67 6 = some (.iload_n 3, 7, 0, 0, 0) := by decide +kernel
theorem k67_7 : icode MCl 67 7 = some (.ifCond .eq 102, 10, 109, 0, 0) := by decide +kernel
theorem k67_10 : icode MCl 67 10 = some (.aload_n 0, 11, 0, 0, 0) := by decide +kernel
theorem k67_11 : icode MCl 67 11 = some (.invokevirtual 96, 14, 64, 873, 0) := by decide +kernel
theorem k67_14 : icode MCl 67 14 = some (.bipush 59, 16, 0, 0, 59) := by decide +kernel
theorem k67_16 : icode MCl 67 16 = some (.if_icmp .eq 93, 19, 109, 0, 0) := by decide +kernel
theorem k67_19 : icode MCl 67 19 = some (.aload_n 0, 20, 0, 0, 0) := by decide +kernel
theorem k67_20 : icode MCl 67 20 = some (.invokevirtual 96, 23, 64, 873, 0) := by decide +kernel
theorem k67_23 : icode MCl 67 23 = some (.bipush 112, 25, 0, 0, 112) := by decide +kernel
theorem k67_25 : icode MCl 67 25 = some (.if_icmp .ne 7, 28, 32, 0, 0) := by decide +kernel
theorem k67_28 : icode MCl 67 28 = some (.iconst 1, 29, 0, 0, 1) := by decide +kernel
theorem k67_29 : icode MCl 67 29 = some (.goto 30, 32, 59, 0, 0) := by decide +kernel
theorem k67_32 : icode MCl 67 32 = some (.aload_n 0, 33, 0, 0, 0) := by decide +kernel
theorem k67_33 : icode MCl 67 33 = some (.invokevirtual 96, 36, 64, 873, 0) := by decide +kernel
theorem k67_36 : icode MCl 67 36 = some (.bipush 117, 38, 0, 0, 117) := by decide +kernel
theorem k67_38 : icode MCl 67 38 = some (.if_icmp .ne 7, 41, 45, 0, 0) := by decide +kernel
theorem k67_41 : icode MCl 67 41 = some (.iconst 2, 42, 0, 0, 2) := by decide +kernel
theorem k67_42 : icode MCl 67 42 = some (.goto 17, 45, 59, 0, 0) := by decide +kernel
theorem k67_45 : icode MCl 67 45 = some (.aload_n 0, 46, 0, 0, 0) := by decide +kernel
theorem k67_46 : icode MCl 67 46 = some (.invokevirtual 96, 49, 64, 873, 0) := by decide +kernel
theorem k67_49 : icode MCl 67 49 = some (.bipush 115, 51, 0, 0, 115) := by decide +kernel
theorem k67_51 : icode MCl 67 51 = some (.if_icmp .ne 7, 54, 58, 0, 0) := by decide +kernel
theorem k67_54 : icode MCl 67 54 = some (.iconst 3, 55, 0, 0, 3) := by decide +kernel
theorem k67_55 : icode MCl 67 55 = some (.goto 4, 58, 59, 0, 0) := by decide +kernel
theorem k67_58 : icode MCl 67 58 = some (.iconst 0, 59, 0, 0, 0) := by decide +kernel
theorem k67_59 : icode MCl 67 59 = some (.istore 4, 61, 0, 0, 0) := by decide +kernel
theorem k67_61 : icode MCl 67 61 = some (.iload 4, 63, 0, 0, 0) := by decide +kernel
theorem k67_63 : icode MCl 67 63 = some (.ifCond .le 13, 66, 76, 0, 0) := by decide +kernel
theorem k67_66 : icode MCl 67 66 = some (.iload_n 2, 67, 0, 0, 0) := by decide +kernel
theorem k67_67 : icode MCl 67 67 = some (.bipush 8, 69, 0, 0, 8) := by decide +kernel
theorem k67_69 : icode MCl 67 69 = some (.if_icmp .ge 7, 72, 76, 0, 0) := by decide +kernel
theorem k67_72 : icode MCl 67 72 = some (.iconst 1, 73, 0, 0, 1) := by decide +kernel
theorem k67_73 : icode MCl 67 73 = some (.goto 4, 76, 77, 0, 0) := by decide +kernel
theorem k67_76 : icode MCl 67 76 = some (.iconst 0, 77, 0, 0, 0) := by decide +kernel
theorem k67_77 : icode MCl 67 77 = some (.istore_n 3, 78, 0, 0, 0) := by decide +kernel
theorem k67_78 : icode MCl 67 78 = some (.iload_n 3, 79, 0, 0, 0) := by decide +kernel
theorem k67_79 : icode MCl 67 79 = some (.ifCond .eq 12, 82, 91, 0, 0) := by decide +kernel
theorem k67_82 : icode MCl 67 82 = some (.iconst 4, 83, 0, 0, 4) := by decide +kernel
theorem k67_83 : icode MCl 67 83 = some (.iload_n 1, 84, 0, 0, 0) := by decide +kernel
theorem k67_84 : icode MCl 67 84 = some (.imul, 85, 0, 0, 0) := by decide +kernel
theorem k67_85 : icode MCl 67 85 = some (.iload 4, 87, 0, 0, 0) := by decide +kernel
theorem k67_87 : icode MCl 67 87 = some (.iadd, 88, 0, 0, 0) := by decide +kernel
theorem k67_88 : icode MCl 67 88 = some (.goto 4, 91, 92, 0, 0) := by decide +kernel
theorem k67_91 : icode MCl 67 91 = some (.iload_n 1, 92, 0, 0, 0) := by decide +kernel
theorem k67_92 : icode MCl 67 92 = some (.istore_n 1, 93, 0, 0, 0) := by decide +kernel
theorem k67_93 : icode MCl 67 93 = some (.iinc 2 1, 96, 0, 0, 1) := by decide +kernel
theorem k67_96 : icode MCl 67 96 = some (.aload_n 0, 97, 0, 0, 0) := by decide +kernel
theorem k67_97 : icode MCl 67 97 = some (.dup, 98, 0, 0, 0) := by decide +kernel
theorem k67_98 : icode MCl 67 98 = some (.getfield 93, 101, 802, 776, 0) := by decide +kernel
theorem k67_101 : icode MCl 67 101 = some (.iconst 1, 102, 0, 0, 1) := by decide +kernel
theorem k67_102 : icode MCl 67 102 = some (.iadd, 103, 0, 0, 0) := by decide +kernel
theorem k67_103 : icode MCl 67 103 = some (.putfield 93, 106, 802, 776, 0) := by decide +kernel
theorem k67_106 : icode MCl 67 106 = some (.goto (-100), 109, 6, 0, 0) := by decide +kernel
theorem k67_109 : icode MCl 67 109 = some (.iload_n 3, 110, 0, 0, 0) := by decide +kernel
theorem k67_110 : icode MCl 67 110 = some (.ifCond .eq 7, 113, 117, 0, 0) := by decide +kernel
theorem k67_113 : icode MCl 67 113 = some (.iload_n 2, 114, 0, 0, 0) := by decide +kernel
theorem k67_114 : icode MCl 67 114 = some (.ifCond .ne 5, 117, 119, 0, 0) := by decide +kernel
theorem k67_117 : icode MCl 67 117 = some (.iconst (-1), 118, 0, 0, (-1)) := by decide +kernel
theorem k67_118 : icode MCl 67 118 = some (.ireturn, 119, 0, 0, 0) := by decide +kernel
theorem k67_119 : icode MCl 67 119 = some (.aload_n 0, 120, 0, 0, 0) := by decide +kernel
theorem k67_120 : icode MCl 67 120 = some (.dup, 121, 0, 0, 0) := by decide +kernel
theorem k67_121 : icode MCl 67 121 = some (.getfield 93, 124, 802, 776, 0) := by decide +kernel
theorem k67_124 : icode MCl 67 124 = some (.iconst 1, 125, 0, 0, 1) := by decide +kernel
theorem k67_125 : icode MCl 67 125 = some (.iadd, 126, 0, 0, 0) := by decide +kernel
theorem k67_126 : icode MCl 67 126 = some (.putfield 93, 129, 802, 776, 0) := by decide +kernel
theorem k67_129 : icode MCl 67 129 = some (.iload_n 1, 130, 0, 0, 0) := by decide +kernel
theorem k67_130 : icode MCl 67 130 = some (.ireturn, 131, 0, 0, 0) := by decide +kernel
theorem k68_0 : icode MCl 68 0 = some (.aload_n 0, 1, 0, 0, 0) := by decide +kernel
theorem k68_1 : icode MCl 68 1 = some (.bipush 44, 3, 0, 0, 44) := by decide +kernel
theorem k68_3 : icode MCl 68 3 = some (.invokevirtual 100, 6, 65, 881, 0) := by decide +kernel
theorem k68_6 : icode MCl 68 6 = some (.istore_n 1, 7, 0, 0, 0) := by decide +kernel
theorem k68_7 : icode MCl 68 7 = some (.iload_n 1, 8, 0, 0, 0) := by decide +kernel
theorem k68_8 : icode MCl 68 8 = some (.ifCond .ge 7, 11, 15, 0, 0) := by decide +kernel
theorem k68_11 : icode MCl 68 11 = some (.iconst (-1), 12, 0, 0, (-1)) := by decide +kernel
theorem k68_12 : icode MCl 68 12 = some (.goto 9, 15, 21, 0, 0) := by decide +kernel
theorem k68_15 : icode MCl 68 15 = some (.aload_n 0, 16, 0, 0, 0) := by decide +kernel
theorem k68_16 : icode MCl 68 16 = some (.bipush 44, 18, 0, 0, 44) := by decide +kernel
theorem k68_18 : icode MCl 68 18 = some (.invokevirtual 100, 21, 65, 881, 0) := by decide +kernel
theorem k68_21 : icode MCl 68 21 = some (.istore_n 2, 22, 0, 0, 0) := by decide +kernel
theorem k68_22 : icode MCl 68 22 = some (.iload_n 2, 23, 0, 0, 0) := by decide +kernel
theorem k68_23 : icode MCl 68 23 = some (.ifCond .ge 7, 26, 30, 0, 0) := by decide +kernel
theorem k68_26 : icode MCl 68 26 = some (.iconst (-1), 27, 0, 0, (-1)) := by decide +kernel
theorem k68_27 : icode MCl 68 27 = some (.goto 7, 30, 34, 0, 0) := by decide +kernel
theorem k68_30 : icode MCl 68 30 = some (.aload_n 0, 31, 0, 0, 0) := by decide +kernel
theorem k68_31 : icode MCl 68 31 = some (.invokevirtual 103, 34, 67, 889, 0) := by decide +kernel
theorem k68_34 : icode MCl 68 34 = some (.istore_n 3, 35, 0, 0, 0) := by decide +kernel
theorem k68_35 : icode MCl 68 35 = some (.iload_n 3, 36, 0, 0, 0) := by decide +kernel
theorem k68_36 : icode MCl 68 36 = some (.ifCond .lt 20, 39, 56, 0, 0) := by decide +kernel
theorem k68_39 : icode MCl 68 39 = some (.iload_n 1, 40, 0, 0, 0) := by decide +kernel
theorem k68_40 : icode MCl 68 40 = some (.aload_n 0, 41, 0, 0, 0) := by decide +kernel
theorem k68_41 : icode MCl 68 41 = some (.getfield 84, 44, 803, 777, 0) := by decide +kernel
theorem k68_44 : icode MCl 68 44 = some (.if_icmp .ge 12, 47, 56, 0, 0) := by decide +kernel
theorem k68_47 : icode MCl 68 47 = some (.aload_n 0, 48, 0, 0, 0) := by decide +kernel
theorem k68_48 : icode MCl 68 48 = some (.getfield 87, 51, 804, 778, 0) := by decide +kernel
theorem k68_51 : icode MCl 68 51 = some (.bipush 6, 53, 0, 0, 6) := by decide +kernel
theorem k68_53 : icode MCl 68 53 = some (.if_icmp .ne 5, 56, 58, 0, 0) := by decide +kernel
theorem k68_56 : icode MCl 68 56 = some (.iconst 0, 57, 0, 0, 0) := by decide +kernel
theorem k68_57 : icode MCl 68 57 = some (.ireturn, 58, 0, 0, 0) := by decide +kernel
theorem k68_58 : icode MCl 68 58 = some (.aload_n 0, 59, 0, 0, 0) := by decide +kernel
theorem k68_59 : icode MCl 68 59 = some (.iload_n 1, 60, 0, 0, 0) := by decide +kernel
theorem k68_60 : icode MCl 68 60 = some (.iload_n 2, 61, 0, 0, 0) := by decide +kernel
theorem k68_61 : icode MCl 68 61 = some (.iload_n 3, 62, 0, 0, 0) := by decide +kernel
theorem k68_62 : icode MCl 68 62 = some (.invokevirtual 62, 65, 54, 763, 0) := by decide +kernel
theorem k68_65 : icode MCl 68 65 = some (.iconst 1, 66, 0, 0, 1) := by decide +kernel
theorem k68_66 : icode MCl 68 66 = some (.ireturn, 67, 0, 0, 0) := by decide +kernel
theorem k69_0 : icode MCl 69 0 = some (.aload_n 0, 1, 0, 0, 0) := by decide +kernel
theorem k69_1 : icode MCl 69 1 = some (.invokevirtual 96, 4, 64, 873, 0) := by decide +kernel
theorem k69_4 : icode MCl 69 4 = some (.istore_n 1, 5, 0, 0, 0) := by decide +kernel
theorem k69_5 : icode MCl 69 5 = some (.aload_n 0, 6, 0, 0, 0) := by decide +kernel
theorem k69_6 : icode MCl 69 6 = some (.dup, 7, 0, 0, 0) := by decide +kernel
theorem k69_7 : icode MCl 69 7 = some (.getfield 93, 10, 802, 776, 0) := by decide +kernel
theorem k69_10 : icode MCl 69 10 = some (.iconst 1, 11, 0, 0, 1) := by decide +kernel
theorem k69_11 : icode MCl 69 11 = some (.iadd, 12, 0, 0, 0) := by decide +kernel
theorem k69_12 : icode MCl 69 12 = some (.putfield 93, 15, 802, 776, 0) := by decide +kernel
theorem k69_15 : icode MCl 69 15 = some (.iload_n 1, 16, 0, 0, 0) := by decide +kernel
theorem k69_16 : icode MCl 69 16 = some (.bipush 99, 18, 0, 0, 99) := by decide +kernel
theorem k69_18 : icode MCl 69 18 = some (.if_icmp .ne 8, 21, 26, 0, 0) := by decide +kernel
theorem k69_21 : icode MCl 69 21 = some (.aload_n 0, 22, 0, 0, 0) := by decide +kernel
theorem k69_22 : icode MCl 69 22 = some (.invokevirtual 106, 25, 66, 877, 0) := by decide +kernel
theorem k69_25 : icode MCl 69 25 = some (.ireturn, 26, 0, 0, 0) := by decide +kernel
theorem k69_26 : icode MCl 69 26 = some (.iload_n 1, 27, 0, 0, 0) := by decide +kernel
theorem k69_27 : icode MCl 69 27 = some (.bipush 109, 29, 0, 0, 109) := by decide +kernel
theorem k69_29 : icode MCl 69 29 = some (.if_icmp .ne 8, 32, 37, 0, 0) := by decide +kernel
theorem k69_32 : icode MCl 69 32 = some (.aload_n 0, 33, 0, 0, 0) := by decide +kernel
theorem k69_33 : icode MCl 69 33 = some (.invokevirtual 110, 36, 68, 885, 0) := by decide +kernel
theorem k69_36 : icode MCl 69 36 = some (.ireturn, 37, 0, 0, 0) := by decide +kernel
theorem k69_37 : icode MCl 69 37 = some (.iload_n 1, 38, 0, 0, 0) := by decide +kernel
theorem k69_38 : icode MCl 69 38 = some (.bipush 105, 40, 0, 0, 105) := by decide +kernel
theorem k69_40 : icode MCl 69 40 = some (.if_icmp .ne 12, 43, 52, 0, 0) := by decide +kernel
theorem k69_43 : icode MCl 69 43 = some (.aload_n 0, 44, 0, 0, 0) := by decide +kernel
theorem k69_44 : icode MCl 69 44 = some (.bipush 59, 46, 0, 0, 59) := by decide +kernel
theorem k69_46 : icode MCl 69 46 = some (.invokevirtual 100, 49, 65, 881, 0) := by decide +kernel
theorem k69_49 : icode MCl 69 49 = some (.goto 4, 52, 53, 0, 0) := by decide +kernel
theorem k69_52 : icode MCl 69 52 = some (.iconst (-1), 53, 0, 0, (-1)) := by decide +kernel
theorem k69_53 : icode MCl 69 53 = some (.istore_n 2, 54, 0, 0, 0) := by decide +kernel
theorem k69_54 : icode MCl 69 54 = some (.aload_n 0, 55, 0, 0, 0) := by decide +kernel
theorem k69_55 : icode MCl 69 55 = some (.dup, 56, 0, 0, 0) := by decide +kernel
theorem k69_56 : icode MCl 69 56 = some (.getfield 65, 59, 805, 779, 0) := by decide +kernel
theorem k69_59 : icode MCl 69 59 = some (.iload_n 2, 60, 0, 0, 0) := by decide +kernel
theorem k69_60 : icode MCl 69 60 = some (.iconst 0, 61, 0, 0, 0) := by decide +kernel
theorem k69_61 : icode MCl 69 61 = some (.aload_n 0, 62, 0, 0, 0) := by decide +kernel
theorem k69_62 : icode MCl 69 62 = some (.getfield 84, 65, 803, 777, 0) := by decide +kernel
theorem k69_65 : icode MCl 69 65 = some (.iconst 1, 66, 0, 0, 1) := by decide +kernel
theorem k69_66 : icode MCl 69 66 = some (.isub, 67, 0, 0, 0) := by decide +kernel
theorem k69_67 : icode MCl 69 67 = some (.invokestatic 73, 70, 59, 854, 0) := by decide +kernel
theorem k69_70 : icode MCl 69 70 = some (.ifCond .eq 9, 73, 79, 0, 0) := by decide +kernel
theorem k69_73 : icode MCl 69 73 = some (.iconst 1, 74, 0, 0, 1) := by decide +kernel
theorem k69_74 : icode MCl 69 74 = some (.iload_n 2, 75, 0, 0, 0) := by decide +kernel
theorem k69_75 : icode MCl 69 75 = some (.ishl, 76, 0, 0, 0) := by decide +kernel
theorem k69_76 : icode MCl 69 76 = some (.goto 4, 79, 80, 0, 0) := by decide +kernel
theorem k69_79 : icode MCl 69 79 = some (.iconst 0, 80, 0, 0, 0) := by decide +kernel
theorem k69_80 : icode MCl 69 80 = some (.ior, 81, 0, 0, 0) := by decide +kernel
theorem k69_81 : icode MCl 69 81 = some (.putfield 65, 84, 805, 779, 0) := by decide +kernel
theorem k69_84 : icode MCl 69 84 = some (.iload_n 2, 85, 0, 0, 0) := by decide +kernel
theorem k69_85 : icode MCl 69 85 = some (.iconst 0, 86, 0, 0, 0) := by decide +kernel
theorem k69_86 : icode MCl 69 86 = some (.aload_n 0, 87, 0, 0, 0) := by decide +kernel
theorem k69_87 : icode MCl 69 87 = some (.getfield 84, 90, 803, 777, 0) := by decide +kernel
theorem k69_90 : icode MCl 69 90 = some (.iconst 1, 91, 0, 0, 1) := by decide +kernel
theorem k69_91 : icode MCl 69 91 = some (.isub, 92, 0, 0, 0) := by decide +kernel
theorem k69_92 : icode MCl 69 92 = some (.invokestatic 73, 95, 59, 854, 0) := by decide +kernel
theorem k69_95 : icode MCl 69 95 = some (.ireturn, 96, 0, 0, 0) := by decide +kernel
theorem k70_0 : icode MCl 70 0 = some (.aload_n 0, 1, 0, 0, 0) := by decide +kernel
theorem k70_1 : icode MCl 70 1 = some (.invokevirtual 55, 4, 52, 755, 0) := by decide +kernel
theorem k70_4 : icode MCl 70 4 = some (.aload_n 0, 5, 0, 0, 0) := by decide +kernel
theorem k70_5 : icode MCl 70 5 = some (.iconst 0, 6, 0, 0, 0) := by decide +kernel
theorem k70_6 : icode MCl 70 6 = some (.putfield 93, 9, 802, 776, 0) := by decide +kernel
theorem k70_9 : icode MCl 70 9 = some (.aload_n 0, 10, 0, 0, 0) := by decide +kernel
theorem k70_10 : icode MCl 70 10 = some (.getfield 93, 13, 802, 776, 0) := by decide +kernel
theorem k70_13 : icode MCl 70 13 = some (.aload_n 0, 14, 0, 0, 0) := by decide +kernel
theorem k70_14 : icode MCl 70 14 = some (.getfield 90, 17, 800, 774, 0) := by decide +kernel
theorem k70_17 : icode MCl 70 17 = some (.if_icmp .ge 20, 20, 37, 0, 0) := by decide +kernel
theorem k70_20 : icode MCl 70 20 = some (.aload_n 0, 21, 0, 0, 0) := by decide +kernel
theorem k70_21 : icode MCl 70 21 = some (.getfield 93, 24, 802, 776, 0) := by decide +kernel
theorem k70_24 : icode MCl 70 24 = some (.istore_n 1, 25, 0, 0, 0) := by decide +kernel
theorem k70_25 : icode MCl 70 25 = some (.aload_n 0, 26, 0, 0, 0) := by decide +kernel
theorem k70_26 : icode MCl 70 26 = some (.invokevirtual 113, 29, 69, 869, 0) := by decide +kernel
theorem k70_29 : icode MCl 70 29 = some (.ifCond .ne 5, 32, 34, 0, 0) := by decide +kernel
theorem k70_32 : icode MCl 70 32 = some (.iload_n 1, 33, 0, 0, 0) := by decide +kernel
theorem k70_33 : icode MCl 70 33 = some (.ireturn, 34, 0, 0, 0) := by decide +kernel
theorem k70_34 : icode MCl 70 34 = some (.goto (-25), 37, 9, 0, 0) := by decide +kernel
theorem k70_37 : icode MCl 70 37 = some (.bipush (-4), 39, 0, 0, (-4)) := by decide +kernel
theorem k70_39 : icode MCl 70 39 = some (.ireturn, 40, 0, 0, 0) := by decide +kernel
theorem k71_0 : icode MCl 71 0 = some (.aload_n 0, 1, 0, 0, 0) := by decide +kernel
theorem k71_1 : icode MCl 71 1 = some (.invokevirtual 116, 4, 70, 865, 0) := by decide +kernel
theorem k71_4 : icode MCl 71 4 = some (.ireturn, 5, 0, 0, 0) := by decide +kernel
theorem k72_0 : icode MCl 72 0 = some (.aload_n 0, 1, 0, 0, 0) := by decide +kernel
theorem k72_1 : icode MCl 72 1 = some (.getfield 21, 4, 603, 92, 0) := by decide +kernel
theorem k72_4 : icode MCl 72 4 = some (.ireturn, 5, 0, 0, 0) := by decide +kernel
theorem k73_0 : icode MCl 73 0 = some (.aload_n 0, 1, 0, 0, 0) := by decide +kernel
theorem k73_1 : icode MCl 73 1 = some (.getfield 10, 4, 700, 409, 1) := by decide +kernel
theorem k73_4 : icode MCl 73 4 = some (.invokevirtual 75, 7, 39, 273, 0) := by decide +kernel
theorem k73_7 : icode MCl 73 7 = some (.bipush (-4), 9, 0, 0, (-4)) := by decide +kernel
theorem k73_9 : icode MCl 73 9 = some (.if_icmp .ne 16, 12, 25, 0, 0) := by decide +kernel
theorem k73_12 : icode MCl 73 12 = some (.aload_n 0, 13, 0, 0, 0) := by decide +kernel
theorem k73_13 : icode MCl 73 13 = some (.getfield 10, 16, 700, 409, 1) := by decide +kernel
theorem k73_16 : icode MCl 73 16 = some (.getfield 89, 19, 401, 162, 1) := by decide +kernel
theorem k73_19 : icode MCl 73 19 = some (.invokevirtual 90, 22, 72, 453, 0) := by decide +kernel
theorem k73_22 : icode MCl 73 22 = some (.ifCond .ne 6, 25, 28, 0, 0) := by decide +kernel
theorem k73_25 : icode MCl 73 25 = some (.bipush (-2), 27, 0, 0, (-2)) := by decide +kernel
theorem k73_27 : icode MCl 73 27 = some (.ireturn, 28, 0, 0, 0) := by decide +kernel
theorem k73_28 : icode MCl 73 28 = some (.aload_n 0, 29, 0, 0, 0) := by decide +kernel
theorem k73_29 : icode MCl 73 29 = some (.invokevirtual 78, 32, 49, 364, 0) := by decide +kernel
theorem k73_32 : icode MCl 73 32 = some (.aload_n 0, 33, 0, 0, 0) := by decide +kernel
theorem k73_33 : icode MCl 73 33 = some (.getfield 24, 36, 702, 411, 1) := by decide +kernel
theorem k73_36 : icode MCl 73 36 = some (.invokevirtual 90, 39, 72, 453, 0) := by decide +kernel
theorem k73_39 : icode MCl 73 39 = some (.ireturn, 40, 0, 0, 0) := by decide +kernel
theorem k74_0 : icode MCl 74 0 = some (.aload_n 0, 1, 0, 0, 0) := by decide +kernel
theorem k74_1 : icode MCl 74 1 = some (.invokevirtual 116, 4, 70, 865, 0) := by decide +kernel
theorem k74_4 : icode MCl 74 4 = some (.bipush (-4), 6, 0, 0, (-4)) := by decide +kernel
theorem k74_6 : icode MCl 74 6 = some (.if_icmp .ne 10, 9, 16, 0, 0) := by decide +kernel
theorem k74_9 : icode MCl 74 9 = some (.aload_n 0, 10, 0, 0, 0) := by decide +kernel
theorem k74_10 : icode MCl 74 10 = some (.getfield 84, 13, 803, 777, 0) := by decide +kernel
theorem k74_13 : icode MCl 74 13 = some (.ifCond .ne 6, 16, 19, 0, 0) := by decide +kernel
theorem k74_16 : icode MCl 74 16 = some (.bipush (-2), 18, 0, 0, (-2)) := by decide +kernel
theorem k74_18 : icode MCl 74 18 = some (.ireturn, 19, 0, 0, 0) := by decide +kernel
theorem k74_19 : icode MCl 74 19 = some (.aload_n 0, 20, 0, 0, 0) := by decide +kernel
theorem k74_20 : icode MCl 74 20 = some (.invokevirtual 69, 23, 56, 767, 0) := by decide +kernel
theorem k74_23 : icode MCl 74 23 = some (.aload_n 0, 24, 0, 0, 0) := by decide +kernel
theorem k74_24 : icode MCl 74 24 = some (.getfield 119, 27, 812, 786, 0) := by decide +kernel
theorem k74_27 : icode MCl 74 27 = some (.ireturn, 28, 0, 0, 0) := by decide +kernel
theorem k75_0 : icode MCl 75 0 = some (.aload_n 0, 1, 0, 0, 0) := by decide +kernel
theorem k75_1 : icode MCl 75 1 = some (.getfield 15, 4, 101, 117, 0) := by decide +kernel
theorem k75_4 : icode MCl 75 4 = some (.iconst 1, 5, 0, 0, 1) := by decide +kernel
theorem k75_5 : icode MCl 75 5 = some (.if_icmp .ne 15, 8, 20, 0, 0) := by decide +kernel
theorem k75_8 : icode MCl 75 8 = some (.aload_n 0, 9, 0, 0, 0) := by decide +kernel
theorem k75_9 : icode MCl 75 9 = some (.getfield 18, 12, 102, 120, 0) := by decide +kernel
theorem k75_12 : icode MCl 75 12 = some (.iload_n 1, 13, 0, 0, 0) := by decide +kernel
theorem k75_13 : icode MCl 75 13 = some (.if_icmp .ne 7, 16, 20, 0, 0) := by decide +kernel
theorem k75_16 : icode MCl 75 16 = some (.iconst 1, 17, 0, 0, 1) := by decide +kernel
theorem k75_17 : icode MCl 75 17 = some (.goto 4, 20, 21, 0, 0) := by decide +kernel
theorem k75_20 : icode MCl 75 20 = some (.iconst 0, 21, 0, 0, 0) := by decide +kernel
theorem k75_21 : icode MCl 75 21 = some (.ireturn, 22, 0, 0, 0) := by decide +kernel
theorem k76_0 : icode MCl 76 0 = some (.iconst 0, 1, 0, 0, 0) := by decide +kernel
theorem k76_1 : icode MCl 76 1 = some (.istore_n 2, 2, 0, 0, 0) := by decide +kernel
theorem k76_2 : icode MCl 76 2 = some (.iconst 0, 3, 0, 0, 0) := by decide +kernel
theorem k76_3 : icode MCl 76 3 = some (.istore_n 3, 4, 0, 0, 0) := by decide +kernel
theorem k76_4 : icode MCl 76 4 = some (.iload_n 3, 5, 0, 0, 0) := by decide +kernel
theorem k76_5 : icode MCl 76 5 = some (.aload_n 0, 6, 0, 0, 0) := by decide +kernel
theorem k76_6 : icode MCl 76 6 = some (.getfield 22, 9, 202, 145, 0) := by decide +kernel
theorem k76_9 : icode MCl 76 9 = some (.if_icmp .ge 29, 12, 38, 0, 0) := by decide +kernel
theorem k76_12 : icode MCl 76 12 = some (.iload_n 2, 13, 0, 0, 0) := by decide +kernel
theorem k76_13 : icode MCl 76 13 = some (.aload_n 0, 14, 0, 0, 0) := by decide +kernel
theorem k76_14 : icode MCl 76 14 = some (.iload_n 3, 15, 0, 0, 0) := by decide +kernel
theorem k76_15 : icode MCl 76 15 = some (.invokevirtual 32, 18, 30, 341, 0) := by decide +kernel
theorem k76_18 : icode MCl 76 18 = some (.iload_n 1, 19, 0, 0, 0) := by decide +kernel
theorem k76_19 : icode MCl 76 19 = some (.invokevirtual 68, 22, 75, 470, 0) := by decide +kernel
theorem k76_22 : icode MCl 76 22 = some (.ifCond .eq 7, 25, 29, 0, 0) := by decide +kernel
theorem k76_25 : icode MCl 76 25 = some (.iconst 1, 26, 0, 0, 1) := by decide +kernel
theorem k76_26 : icode MCl 76 26 = some (.goto 4, 29, 30, 0, 0) := by decide +kernel
theorem k76_29 : icode MCl 76 29 = some (.iconst 0, 30, 0, 0, 0) := by decide +kernel
theorem k76_30 : icode MCl 76 30 = some (.iadd, 31, 0, 0, 0) := by decide +kernel
theorem k76_31 : icode MCl 76 31 = some (.istore_n 2, 32, 0, 0, 0) := by decide +kernel
theorem k76_32 : icode MCl 76 32 = some (.iinc 3 1, 35, 0, 0, 1) := by decide +kernel
theorem k76_35 : icode MCl 76 35 = some (.goto (-31), 38, 4, 0, 0) := by decide +kernel
theorem k76_38 : icode MCl 76 38 = some (.iload_n 2, 39, 0, 0, 0) := by decide +kernel
theorem k76_39 : icode MCl 76 39 = some (.ireturn, 40, 0, 0, 0) := by decide +kernel
theorem k77_0 : icode MCl 77 0 = some (.aload_n 0, 1, 0, 0, 0) := by decide +kernel
theorem k77_1 : icode MCl 77 1 = some (.getfield 24, 4, 702, 411, 1) := by decide +kernel
theorem k77_4 : icode MCl 77 4 = some (.iload_n 1, 5, 0, 0, 0) := by decide +kernel
theorem k77_5 : icode MCl 77 5 = some (.invokevirtual 93, 8, 29, 461, 0) := by decide +kernel
theorem k77_8 : icode MCl 77 8 = some (.ifCond .ne 5, 11, 13, 0, 0) := by decide +kernel
theorem k77_11 : icode MCl 77 11 = some (.iconst (-1), 12, 0, 0, (-1)) := by decide +kernel
theorem k77_12 : icode MCl 77 12 = some (.ireturn, 13, 0, 0, 0) := by decide +kernel
theorem k77_13 : icode MCl 77 13 = some (.iload_n 2, 14, 0, 0, 0) := by decide +kernel
theorem k77_14 : icode MCl 77 14 = some (.tableswitch 87 0 4 #[34, 43, 52, 61, 78], 48, 0, 0, 0) := by decide +kernel
theorem k77_48 : icode MCl 77 48 = some (.aload_n 0, 49, 0, 0, 0) := by decide +kernel
theorem k77_49 : icode MCl 77 49 = some (.getfield 24, 52, 702, 411, 1) := by decide +kernel
theorem k77_52 : icode MCl 77 52 = some (.iload_n 1, 53, 0, 0, 0) := by decide +kernel
theorem k77_53 : icode MCl 77 53 = some (.invokevirtual 96, 56, 41, 462, 0) := by decide +kernel
theorem k77_56 : icode MCl 77 56 = some (.ireturn, 57, 0, 0, 0) := by decide +kernel
theorem k77_57 : icode MCl 77 57 = some (.aload_n 0, 58, 0, 0, 0) := by decide +kernel
theorem k77_58 : icode MCl 77 58 = some (.getfield 24, 61, 702, 411, 1) := by decide +kernel
theorem k77_61 : icode MCl 77 61 = some (.iload_n 1, 62, 0, 0, 0) := by decide +kernel
theorem k77_62 : icode MCl 77 62 = some (.invokevirtual 100, 65, 42, 463, 0) := by decide +kernel
theorem k77_65 : icode MCl 77 65 = some (.ireturn, 66, 0, 0, 0) := by decide +kernel
theorem k77_66 : icode MCl 77 66 = some (.aload_n 0, 67, 0, 0, 0) := by decide +kernel
theorem k77_67 : icode MCl 77 67 = some (.getfield 24, 70, 702, 411, 1) := by decide +kernel
theorem k77_70 : icode MCl 77 70 = some (.iload_n 1, 71, 0, 0, 0) := by decide +kernel
theorem k77_71 : icode MCl 77 71 = some (.invokevirtual 103, 74, 43, 464, 0) := by decide +kernel
theorem k77_74 : icode MCl 77 74 = some (.ireturn, 75, 0, 0, 0) := by decide +kernel
theorem k77_75 : icode MCl 77 75 = some (.aload_n 0, 76, 0, 0, 0) := by decide +kernel
theorem k77_76 : icode MCl 77 76 = some (.getfield 31, 79, 703, 412, 1) := by decide +kernel
theorem k77_79 : icode MCl 77 79 = some (.iload_n 1, 80, 0, 0, 0) := by decide +kernel
theorem k77_80 : icode MCl 77 80 = some (.invokevirtual 106, 83, 35, 465, 0) := by decide +kernel
theorem k77_83 : icode MCl 77 83 = some (.ifCond .eq 7, 86, 90, 0, 0) := by decide +kernel
theorem k77_86 : icode MCl 77 86 = some (.iconst 1, 87, 0, 0, 1) := by decide +kernel
theorem k77_87 : icode MCl 77 87 = some (.goto 4, 90, 91, 0, 0) := by decide +kernel
theorem k77_90 : icode MCl 77 90 = some (.iconst 0, 91, 0, 0, 0) := by decide +kernel
theorem k77_91 : icode MCl 77 91 = some (.ireturn, 92, 0, 0, 0) := by decide +kernel
theorem k77_92 : icode MCl 77 92 = some (.aload_n 0, 93, 0, 0, 0) := by decide +kernel
theorem k77_93 : icode MCl 77 93 = some (.getfield 31, 96, 703, 412, 1) := by decide +kernel
theorem k77_96 : icode MCl 77 96 = some (.iload_n 1, 97, 0, 0, 0) := by decide +kernel
theorem k77_97 : icode MCl 77 97 = some (.invokevirtual 109, 100, 76, 466, 0) := by decide +kernel
theorem k77_100 : icode MCl 77 100 = some (.ireturn, 101, 0, 0, 0) := by decide +kernel
theorem k77_101 : icode MCl 77 101 = some (.iconst (-1), 102, 0, 0, (-1)) := by decide +kernel
theorem k77_102 : icode MCl 77 102 = some (.ireturn, 103, 0, 0, 0) := by decide +kernel
theorem k78_0 : icode MCl 78 0 = some (.iload_n 1, 1, 0, 0, 0) := by decide +kernel
theorem k78_1 : icode MCl 78 1 = some (.iconst 0, 2, 0, 0, 0) := by decide +kernel
theorem k78_2 : icode MCl 78 2 = some (.aload_n 0, 3, 0, 0, 0) := by decide +kernel
theorem k78_3 : icode MCl 78 3 = some (.getfield 119, 6, 812, 786, 0) := by decide +kernel
theorem k78_6 : icode MCl 78 6 = some (.iconst 1, 7, 0, 0, 1) := by decide +kernel
theorem k78_7 : icode MCl 78 7 = some (.isub, 8, 0, 0, 0) := by decide +kernel
theorem k78_8 : icode MCl 78 8 = some (.invokestatic 73, 11, 59, 854, 0) := by decide +kernel
theorem k78_11 : icode MCl 78 11 = some (.ireturn, 12, 0, 0, 0) := by decide +kernel
theorem k79_0 : icode MCl 79 0 = some (.aload_n 0, 1, 0, 0, 0) := by decide +kernel
theorem k79_1 : icode MCl 79 1 = some (.iconst 3, 2, 0, 0, 3) := by decide +kernel
theorem k79_2 : icode MCl 79 2 = some (.bipush 6, 4, 0, 0, 6) := by decide +kernel
theorem k79_4 : icode MCl 79 4 = some (.iload_n 1, 5, 0, 0, 0) := by decide +kernel
theorem k79_5 : icode MCl 79 5 = some (.imul, 6, 0, 0, 0) := by decide +kernel
theorem k79_6 : icode MCl 79 6 = some (.iadd, 7, 0, 0, 0) := by decide +kernel
theorem k79_7 : icode MCl 79 7 = some (.iload_n 2, 8, 0, 0, 0) := by decide +kernel
theorem k79_8 : icode MCl 79 8 = some (.iadd, 9, 0, 0, 0) := by decide +kernel
theorem k79_9 : icode MCl 79 9 = some (.iaload, 10, 0, 0, 0) := by decide +kernel
theorem k79_10 : icode MCl 79 10 = some (.ireturn, 11, 0, 0, 0) := by decide +kernel
theorem k80_0 : icode MCl 80 0 = some (.iconst 0, 1, 0, 0, 0) := by decide +kernel
theorem k80_1 : icode MCl 80 1 = some (.istore_n 2, 2, 0, 0, 0) := by decide +kernel
theorem k80_2 : icode MCl 80 2 = some (.iconst 0, 3, 0, 0, 0) := by decide +kernel
theorem k80_3 : icode MCl 80 3 = some (.istore_n 3, 4, 0, 0, 0) := by decide +kernel
theorem k80_4 : icode MCl 80 4 = some (.iload_n 3, 5, 0, 0, 0) := by decide +kernel
theorem k80_5 : icode MCl 80 5 = some (.aload_n 0, 6, 0, 0, 0) := by decide +kernel
theorem k80_6 : icode MCl 80 6 = some (.getfield 40, 9, 816, 790, 1) := by decide +kernel
theorem k80_9 : icode MCl 80 9 = some (.iconst 2, 10, 0, 0, 2) := by decide +kernel
theorem k80_10 : icode MCl 80 10 = some (.iaload, 11, 0, 0, 0) := by decide +kernel
theorem k80_11 : icode MCl 80 11 = some (.if_icmp .ge 43, 14, 54, 0, 0) := by decide +kernel
theorem k80_14 : icode MCl 80 14 = some (.iload_n 2, 15, 0, 0, 0) := by decide +kernel
theorem k80_15 : icode MCl 80 15 = some (.aload_n 0, 16, 0, 0, 0) := by decide +kernel
theorem k80_16 : icode MCl 80 16 = some (.getfield 40, 19, 816, 790, 1) := by decide +kernel
theorem k80_19 : icode MCl 80 19 = some (.iload_n 3, 20, 0, 0, 0) := by decide +kernel
theorem k80_20 : icode MCl 80 20 = some (.iconst 1, 21, 0, 0, 1) := by decide +kernel
theorem k80_21 : icode MCl 80 21 = some (.invokestatic 135, 24, 79, 909, 0) := by decide +kernel
theorem k80_24 : icode MCl 80 24 = some (.iconst 1, 25, 0, 0, 1) := by decide +kernel
theorem k80_25 : icode MCl 80 25 = some (.if_icmp .ne 20, 28, 45, 0, 0) := by decide +kernel
theorem k80_28 : icode MCl 80 28 = some (.aload_n 0, 29, 0, 0, 0) := by decide +kernel
theorem k80_29 : icode MCl 80 29 = some (.getfield 40, 32, 816, 790, 1) := by decide +kernel
theorem k80_32 : icode MCl 80 32 = some (.iload_n 3, 33, 0, 0, 0) := by decide +kernel
theorem k80_33 : icode MCl 80 33 = some (.iconst 2, 34, 0, 0, 2) := by decide +kernel
theorem k80_34 : icode MCl 80 34 = some (.invokestatic 135, 37, 79, 909, 0) := by decide +kernel
theorem k80_37 : icode MCl 80 37 = some (.iload_n 1, 38, 0, 0, 0) := by decide +kernel
theorem k80_38 : icode MCl 80 38 = some (.if_icmp .ne 7, 41, 45, 0, 0) := by decide +kernel
theorem k80_41 : icode MCl 80 41 = some (.iconst 1, 42, 0, 0, 1) := by decide +kernel
theorem k80_42 : icode MCl 80 42 = some (.goto 4, 45, 46, 0, 0) := by decide +kernel
theorem k80_45 : icode MCl 80 45 = some (.iconst 0, 46, 0, 0, 0) := by decide +kernel
theorem k80_46 : icode MCl 80 46 = some (.iadd, 47, 0, 0, 0) := by decide +kernel
theorem k80_47 : icode MCl 80 47 = some (.istore_n 2, 48, 0, 0, 0) := by decide +kernel
theorem k80_48 : icode MCl 80 48 = some (.iinc 3 1, 51, 0, 0, 1) := by decide +kernel
theorem k80_51 : icode MCl 80 51 = some (.goto (-47), 54, 4, 0, 0) := by decide +kernel
theorem k80_54 : icode MCl 80 54 = some (.iload_n 2, 55, 0, 0, 0) := by decide +kernel
theorem k80_55 : icode MCl 80 55 = some (.ireturn, 56, 0, 0, 0) := by decide +kernel
theorem k81_0 : icode MCl 81 0 = some (.aload_n 0, 1, 0, 0, 0) := by decide +kernel
theorem k81_1 : icode MCl 81 1 = some (.iload_n 1, 2, 0, 0, 0) := by decide +kernel
theorem k81_2 : icode MCl 81 2 = some (.invokevirtual 139, 5, 78, 901, 0) := by decide +kernel
theorem k81_5 : icode MCl 81 5 = some (.ifCond .ne 5, 8, 10, 0, 0) := by decide +kernel
theorem k81_8 : icode MCl 81 8 = some (.iconst (-1), 9, 0, 0, (-1)) := by decide +kernel
theorem k81_9 : icode MCl 81 9 = some (.ireturn, 10, 0, 0, 0) := by decide +kernel
theorem k81_10 : icode MCl 81 10 = some (.iload_n 2, 11, 0, 0, 0) := by decide +kernel
theorem k81_11 : icode MCl 81 11 = some (.tableswitch 71 0 4 #[33, 40, 47, 54, 65], 44, 0, 0, 0) := by decide +kernel
theorem k81_44 : icode MCl 81 44 = some (.aload_n 0, 45, 0, 0, 0) := by decide +kernel
theorem k81_45 : icode MCl 81 45 = some (.getfield 31, 48, 813, 787, 1) := by decide +kernel
theorem k81_48 : icode MCl 81 48 = some (.iload_n 1, 49, 0, 0, 0) := by decide +kernel
theorem k81_49 : icode MCl 81 49 = some (.iaload, 50, 0, 0, 0) := by decide +kernel
theorem k81_50 : icode MCl 81 50 = some (.ireturn, 51, 0, 0, 0) := by decide +kernel
theorem k81_51 : icode MCl 81 51 = some (.aload_n 0, 52, 0, 0, 0) := by decide +kernel
theorem k81_52 : icode MCl 81 52 = some (.getfield 34, 55, 814, 788, 1) := by decide +kernel
theorem k81_55 : icode MCl 81 55 = some (.iload_n 1, 56, 0, 0, 0) := by decide +kernel
theorem k81_56 : icode MCl 81 56 = some (.iaload, 57, 0, 0, 0) := by decide +kernel
theorem k81_57 : icode MCl 81 57 = some (.ireturn, 58, 0, 0, 0) := by decide +kernel
theorem k81_58 : icode MCl 81 58 = some (.aload_n 0, 59, 0, 0, 0) := by decide +kernel
theorem k81_59 : icode MCl 81 59 = some (.getfield 37, 62, 815, 789, 1) := by decide +kernel
theorem k81_62 : icode MCl 81 62 = some (.iload_n 1, 63, 0, 0, 0) := by decide +kernel
theorem k81_63 : icode MCl 81 63 = some (.iaload, 64, 0, 0, 0) := by decide +kernel
theorem k81_64 : icode MCl 81 64 = some (.ireturn, 65, 0, 0, 0) := by decide +kernel
theorem k81_65 : icode MCl 81 65 = some (.aload_n 0, 66, 0, 0, 0) := by decide +kernel
theorem k81_66 : icode MCl 81 66 = some (.getfield 40, 69, 816, 790, 1) := by decide +kernel
theorem k81_69 : icode MCl 81 69 = some (.iconst 1, 70, 0, 0, 1) := by decide +kernel
theorem k81_70 : icode MCl 81 70 = some (.iaload, 71, 0, 0, 0) := by decide +kernel
theorem k81_71 : icode MCl 81 71 = some (.iload_n 1, 72, 0, 0, 0) := by decide +kernel
theorem k81_72 : icode MCl 81 72 = some (.ishr, 73, 0, 0, 0) := by decide +kernel
theorem k81_73 : icode MCl 81 73 = some (.iconst 1, 74, 0, 0, 1) := by decide +kernel
theorem k81_74 : icode MCl 81 74 = some (.iand, 75, 0, 0, 0) := by decide +kernel
theorem k81_75 : icode MCl 81 75 = some (.ireturn, 76, 0, 0, 0) := by decide +kernel
theorem k81_76 : icode MCl 81 76 = some (.aload_n 0, 77, 0, 0, 0) := by decide +kernel
theorem k81_77 : icode MCl 81 77 = some (.iload_n 1, 78, 0, 0, 0) := by decide +kernel
theorem k81_78 : icode MCl 81 78 = some (.invokevirtual 143, 81, 80, 905, 0) := by decide +kernel
theorem k81_81 : icode MCl 81 81 = some (.ireturn, 82, 0, 0, 0) := by decide +kernel
theorem k81_82 : icode MCl 81 82 = some (.iconst (-1), 83, 0, 0, (-1)) := by decide +kernel
theorem k81_83 : icode MCl 81 83 = some (.ireturn, 84, 0, 0, 0) := by decide +kernel
theorem k82_0 : icode MCl 82 0 = some (.iload_n 1, 1, 0, 0, 0) := by decide +kernel
theorem k82_1 : icode MCl 82 1 = some (.ifCond .lt 15, 4, 16, 0, 0) := by decide +kernel
theorem k82_4 : icode MCl 82 4 = some (.iload_n 1, 5, 0, 0, 0) := by decide +kernel
theorem k82_5 : icode MCl 82 5 = some (.aload_n 0, 6, 0, 0, 0) := by decide +kernel
theorem k82_6 : icode MCl 82 6 = some (.getfield 22, 9, 202, 145, 0) := by decide +kernel
theorem k82_9 : icode MCl 82 9 = some (.if_icmp .ge 7, 12, 16, 0, 0) := by decide +kernel
theorem k82_12 : icode MCl 82 12 = some (.iconst 1, 13, 0, 0, 1) := by decide +kernel
theorem k82_13 : icode MCl 82 13 = some (.goto 4, 16, 17, 0, 0) := by decide +kernel
theorem k82_16 : icode MCl 82 16 = some (.iconst 0, 17, 0, 0, 0) := by decide +kernel
theorem k82_17 : icode MCl 82 17 = some (.ireturn, 18, 0, 0, 0) := by decide +kernel
theorem k83_0 : icode MCl 83 0 = some (.aload_n 0, 1, 0, 0, 0) := by decide +kernel
theorem k83_1 : icode MCl 83 1 = some (.getfield 31, 4, 703, 412, 1) := by decide +kernel
theorem k83_4 : icode MCl 83 4 = some (.iload_n 1, 5, 0, 0, 0) := by decide +kernel
theorem k83_5 : icode MCl 83 5 = some (.invokevirtual 112, 8, 82, 478, 0) := by decide +kernel
theorem k83_8 : icode MCl 83 8 = some (.ifCond .ne 5, 11, 13, 0, 0) := by decide +kernel
theorem k83_11 : icode MCl 83 11 = some (.iconst (-1), 12, 0, 0, (-1)) := by decide +kernel
theorem k83_12 : icode MCl 83 12 = some (.ireturn, 13, 0, 0, 0) := by decide +kernel
theorem k83_13 : icode MCl 83 13 = some (.aload_n 0, 14, 0, 0, 0) := by decide +kernel
theorem k83_14 : icode MCl 83 14 = some (.getfield 31, 17, 703, 412, 1) := by decide +kernel
theorem k83_17 : icode MCl 83 17 = some (.iload_n 1, 18, 0, 0, 0) := by decide +kernel
theorem k83_18 : icode MCl 83 18 = some (.invokevirtual 113, 21, 30, 482, 0) := by decide +kernel
theorem k83_21 : icode MCl 83 21 = some (.astore_n 3, 22, 0, 0, 0) := by decide +kernel
theorem k83_22 : icode MCl 83 22 = some (.iload_n 2, 23, 0, 0, 0) := by decide +kernel
theorem k83_23 : icode MCl 83 23 = some (.tableswitch 80 0 5 #[37, 42, 47, 52, 57, 62], 60, 0, 0, 0) := by decide +kernel
theorem k83_60 : icode MCl 83 60 = some (.aload_n 3, 61, 0, 0, 0) := by decide +kernel
theorem k83_61 : icode MCl 83 61 = some (.getfield 117, 64, 100, 116, 0) := by decide +kernel
theorem k83_64 : icode MCl 83 64 = some (.ireturn, 65, 0, 0, 0) := by decide +kernel
theorem k83_65 : icode MCl 83 65 = some (.aload_n 3, 66, 0, 0, 0) := by decide +kernel
theorem k83_66 : icode MCl 83 66 = some (.getfield 123, 69, 101, 118, 0) := by decide +kernel
theorem k83_69 : icode MCl 83 69 = some (.ireturn, 70, 0, 0, 0) := by decide +kernel
theorem k83_70 : icode MCl 83 70 = some (.aload_n 3, 71, 0, 0, 0) := by decide +kernel
theorem k83_71 : icode MCl 83 71 = some (.getfield 126, 74, 102, 121, 0) := by decide +kernel
theorem k83_74 : icode MCl 83 74 = some (.ireturn, 75, 0, 0, 0) := by decide +kernel
theorem k83_75 : icode MCl 83 75 = some (.aload_n 3, 76, 0, 0, 0) := by decide +kernel
theorem k83_76 : icode MCl 83 76 = some (.getfield 129, 79, 103, 124, 0) := by decide +kernel
theorem k83_79 : icode MCl 83 79 = some (.ireturn, 80, 0, 0, 0) := by decide +kernel
theorem k83_80 : icode MCl 83 80 = some (.aload_n 3, 81, 0, 0, 0) := by decide +kernel
theorem k83_81 : icode MCl 83 81 = some (.getfield 132, 84, 104, 127, 0) := by decide +kernel
theorem k83_84 : icode MCl 83 84 = some (.ireturn, 85, 0, 0, 0) := by decide +kernel
theorem k83_85 : icode MCl 83 85 = some (.aload_n 3, 86, 0, 0, 0) := by decide +kernel
theorem k83_86 : icode MCl 83 86 = some (.getfield 123, 89, 101, 118, 0) := by decide +kernel
theorem k83_89 : icode MCl 83 89 = some (.iconst 2, 90, 0, 0, 2) := by decide +kernel
theorem k83_90 : icode MCl 83 90 = some (.if_icmp .ne 10, 93, 100, 0, 0) := by decide +kernel
theorem k83_93 : icode MCl 83 93 = some (.aload_n 3, 94, 0, 0, 0) := by decide +kernel
theorem k83_94 : icode MCl 83 94 = some (.getfield 135, 97, 105, 129, 0) := by decide +kernel
theorem k83_97 : icode MCl 83 97 = some (.goto 5, 100, 102, 0, 0) := by decide +kernel
theorem k83_100 : icode MCl 83 100 = some (.bipush (-4), 102, 0, 0, (-4)) := by decide +kernel
theorem k83_102 : icode MCl 83 102 = some (.ireturn, 103, 0, 0, 0) := by decide +kernel
theorem k83_103 : icode MCl 83 103 = some (.iconst (-1), 104, 0, 0, (-1)) := by decide +kernel
theorem k83_104 : icode MCl 83 104 = some (.ireturn, 105, 0, 0, 0) := by decide +kernel
theorem k84_0 : icode MCl 84 0 = some (.iload_n 1, 1, 0, 0, 0) := by decide +kernel
theorem k84_1 : icode MCl 84 1 = some (.iconst 0, 2, 0, 0, 0) := by decide +kernel
theorem k84_2 : icode MCl 84 2 = some (.aload_n 0, 3, 0, 0, 0) := by decide +kernel
theorem k84_3 : icode MCl 84 3 = some (.getfield 40, 6, 816, 790, 1) := by decide +kernel
theorem k84_6 : icode MCl 84 6 = some (.iconst 2, 7, 0, 0, 2) := by decide +kernel
theorem k84_7 : icode MCl 84 7 = some (.iaload, 8, 0, 0, 0) := by decide +kernel
theorem k84_8 : icode MCl 84 8 = some (.iconst 1, 9, 0, 0, 1) := by decide +kernel
theorem k84_9 : icode MCl 84 9 = some (.isub, 10, 0, 0, 0) := by decide +kernel
theorem k84_10 : icode MCl 84 10 = some (.invokestatic 73, 13, 59, 854, 0) := by decide +kernel
theorem k84_13 : icode MCl 84 13 = some (.ireturn, 14, 0, 0, 0) := by decide +kernel
theorem k85_0 : icode MCl 85 0 = some (.aload_n 0, 1, 0, 0, 0) := by decide +kernel
theorem k85_1 : icode MCl 85 1 = some (.iload_n 1, 2, 0, 0, 0) := by decide +kernel
theorem k85_2 : icode MCl 85 2 = some (.invokevirtual 146, 5, 84, 916, 0) := by decide +kernel
theorem k85_5 : icode MCl 85 5 = some (.ifCond .eq 24, 8, 29, 0, 0) := by decide +kernel
theorem k85_8 : icode MCl 85 8 = some (.iload_n 2, 9, 0, 0, 0) := by decide +kernel
theorem k85_9 : icode MCl 85 9 = some (.iconst 0, 10, 0, 0, 0) := by decide +kernel
theorem k85_10 : icode MCl 85 10 = some (.iconst 5, 11, 0, 0, 5) := by decide +kernel
theorem k85_11 : icode MCl 85 11 = some (.invokestatic 73, 14, 59, 854, 0) := by decide +kernel
theorem k85_14 : icode MCl 85 14 = some (.ifCond .eq 15, 17, 29, 0, 0) := by decide +kernel
theorem k85_17 : icode MCl 85 17 = some (.aload_n 0, 18, 0, 0, 0) := by decide +kernel
theorem k85_18 : icode MCl 85 18 = some (.getfield 40, 21, 816, 790, 1) := by decide +kernel
theorem k85_21 : icode MCl 85 21 = some (.iload_n 1, 22, 0, 0, 0) := by decide +kernel
theorem k85_22 : icode MCl 85 22 = some (.iload_n 2, 23, 0, 0, 0) := by decide +kernel
theorem k85_23 : icode MCl 85 23 = some (.invokestatic 135, 26, 79, 909, 0) := by decide +kernel
theorem k85_26 : icode MCl 85 26 = some (.goto 4, 29, 30, 0, 0) := by decide +kernel
theorem k85_29 : icode MCl 85 29 = some (.iconst (-1), 30, 0, 0, (-1)) := by decide +kernel
theorem k85_30 : icode MCl 85 30 = some (.ireturn, 31, 0, 0, 0) := by decide +kernel
theorem k86_0 : icode MCl 86 0 = some (.iconst 0, 1, 0, 0, 0) := by decide +kernel
theorem k86_1 : icode MCl 86 1 = some (.istore_n 1, 2, 0, 0, 0) := by decide +kernel
theorem k86_2 : icode MCl 86 2 = some (.iload_n 1, 3, 0, 0, 0) := by decide +kernel
theorem k86_3 : icode MCl 86 3 = some (.bipush 8, 5, 0, 0, 8) := by decide +kernel
theorem k86_5 : icode MCl 86 5 = some (.if_icmp .ge 17, 8, 22, 0, 0) := by decide +kernel
theorem k86_8 : icode MCl 86 8 = some (.iload_n 0, 9, 0, 0, 0) := by decide +kernel
theorem k86_9 : icode MCl 86 9 = some (.iconst 2, 10, 0, 0, 2) := by decide +kernel
theorem k86_10 : icode MCl 86 10 = some (.iload_n 1, 11, 0, 0, 0) := by decide +kernel
theorem k86_11 : icode MCl 86 11 = some (.imul, 12, 0, 0, 0) := by decide +kernel
theorem k86_12 : icode MCl 86 12 = some (.ishr, 13, 0, 0, 0) := by decide +kernel
theorem k86_13 : icode MCl 86 13 = some (.ifCond .le 9, 16, 22, 0, 0) := by decide +kernel
theorem k86_16 : icode MCl 86 16 = some (.iinc 1 1, 19, 0, 0, 1) := by decide +kernel
theorem k86_19 : icode MCl 86 19 = some (.goto (-17), 22, 2, 0, 0) := by decide +kernel
theorem k86_22 : icode MCl 86 22 = some (.iload_n 1, 23, 0, 0, 0) := by decide +kernel
theorem k86_23 : icode MCl 86 23 = some (.ireturn, 24, 0, 0, 0) := by decide +kernel
theorem k87_0 : icode MCl 87 0 = some (.iload_n 0, 1, 0, 0, 0) := by decide +kernel
theorem k87_1 : icode MCl 87 1 = some (.iconst 2, 2, 0, 0, 2) := by decide +kernel
theorem k87_2 : icode MCl 87 2 = some (.iload_n 1, 3, 0, 0, 0) := by decide +kernel
theorem k87_3 : icode MCl 87 3 = some (.imul, 4, 0, 0, 0) := by decide +kernel
theorem k87_4 : icode MCl 87 4 = some (.ishr, 5, 0, 0, 0) := by decide +kernel
theorem k87_5 : icode MCl 87 5 = some (.iconst 3, 6, 0, 0, 3) := by decide +kernel
theorem k87_6 : icode MCl 87 6 = some (.iand, 7, 0, 0, 0) := by decide +kernel
theorem k87_7 : icode MCl 87 7 = some (.ireturn, 8, 0, 0, 0) := by decide +kernel
theorem k88_0 : icode MCl 88 0 = some (.iload_n 0, 1, 0, 0, 0) := by decide +kernel
theorem k88_1 : icode MCl 88 1 = some (.iconst 1, 2, 0, 0, 1) := by decide +kernel
theorem k88_2 : icode MCl 88 2 = some (.ldc 9, 4, 0, 493, 65535) := by decide +kernel
theorem k88_4 : icode MCl 88 4 = some (.invokestatic 10, 7, 22, 494, 1) := by decide +kernel
theorem k88_7 : icode MCl 88 7 = some (.ifCond .ne 5, 10, 12, 0, 0) := by decide +kernel
theorem k88_10 : icode MCl 88 10 = some (.iconst 0, 11, 0, 0, 0) := by decide +kernel
theorem k88_11 : icode MCl 88 11 = some (.ireturn, 12, 0, 0, 0) := by decide +kernel
theorem k88_12 : icode MCl 88 12 = some (.iload_n 0, 13, 0, 0, 0) := by decide +kernel
theorem k88_13 : icode MCl 88 13 = some (.invokestatic 14, 16, 86, 495, 0) := by decide +kernel
theorem k88_16 : icode MCl 88 16 = some (.iconst 1, 17, 0, 0, 1) := by decide +kernel
theorem k88_17 : icode MCl 88 17 = some (.isub, 18, 0, 0, 0) := by decide +kernel
theorem k88_18 : icode MCl 88 18 = some (.istore_n 1, 19, 0, 0, 0) := by decide +kernel
theorem k88_19 : icode MCl 88 19 = some (.iload_n 1, 20, 0, 0, 0) := by decide +kernel
theorem k88_20 : icode MCl 88 20 = some (.ifCond .lt 19, 23, 39, 0, 0) := by decide +kernel
theorem k88_23 : icode MCl 88 23 = some (.iload_n 0, 24, 0, 0, 0) := by decide +kernel
theorem k88_24 : icode MCl 88 24 = some (.iload_n 1, 25, 0, 0, 0) := by decide +kernel
theorem k88_25 : icode MCl 88 25 = some (.invokestatic 20, 28, 87, 498, 0) := by decide +kernel
theorem k88_28 : icode MCl 88 28 = some (.ifCond .ne 5, 31, 33, 0, 0) := by decide +kernel
theorem k88_31 : icode MCl 88 31 = some (.iconst 0, 32, 0, 0, 0) := by decide +kernel
theorem k88_32 : icode MCl 88 32 = some (.ireturn, 33, 0, 0, 0) := by decide +kernel
theorem k88_33 : icode MCl 88 33 = some (.iinc 1 (-1), 36, 0, 0, (-1)) := by decide +kernel
theorem k88_36 : icode MCl 88 36 = some (.goto (-17), 39, 19, 0, 0) := by decide +kernel
theorem k88_39 : icode MCl 88 39 = some (.iconst 1, 40, 0, 0, 1) := by decide +kernel
theorem k88_40 : icode MCl 88 40 = some (.ireturn, 41, 0, 0, 0) := by decide +kernel
theorem k89_0 : icode MCl 89 0 = some (.iload_n 0, 1, 0, 0, 0) := by decide +kernel
theorem k89_1 : icode MCl 89 1 = some (.ifCond .eq 10, 4, 11, 0, 0) := by decide +kernel
theorem k89_4 : icode MCl 89 4 = some (.iload_n 0, 5, 0, 0, 0) := by decide +kernel
theorem k89_5 : icode MCl 89 5 = some (.invokestatic 24, 8, 88, 490, 0) := by decide +kernel
theorem k89_8 : icode MCl 89 8 = some (.ifCond .eq 7, 11, 15, 0, 0) := by decide +kernel
theorem k89_11 : icode MCl 89 11 = some (.iconst 1, 12, 0, 0, 1) := by decide +kernel
theorem k89_12 : icode MCl 89 12 = some (.goto 4, 15, 16, 0, 0) := by decide +kernel
theorem k89_15 : icode MCl 89 15 = some (.iconst 0, 16, 0, 0, 0) := by decide +kernel
theorem k89_16 : icode MCl 89 16 = some (.ireturn, 17, 0, 0, 0) := by decide +kernel
theorem k90_0 : icode MCl 90 0 = some (.iload_n 0, 1, 0, 0, 0) := by decide +kernel
theorem k90_1 : icode MCl 90 1 = some (.invokestatic 14, 4, 86, 495, 0) := by decide +kernel
theorem k90_4 : icode MCl 90 4 = some (.istore_n 1, 5, 0, 0, 0) := by decide +kernel
theorem k90_5 : icode MCl 90 5 = some (.iconst 0, 6, 0, 0, 0) := by decide +kernel
theorem k90_6 : icode MCl 90 6 = some (.istore_n 2, 7, 0, 0, 0) := by decide +kernel
theorem k90_7 : icode MCl 90 7 = some (.iconst 1, 8, 0, 0, 1) := by decide +kernel
theorem k90_8 : icode MCl 90 8 = some (.istore_n 3, 9, 0, 0, 0) := by decide +kernel
theorem k90_9 : icode MCl 90 9 = some (.iload_n 3, 10, 0, 0, 0) := by decide +kernel
theorem k90_10 : icode MCl 90 10 = some (.iload_n 1, 11, 0, 0, 0) := by decide +kernel
theorem k90_11 : icode MCl 90 11 = some (.if_icmp .gt 27, 14, 38, 0, 0) := by decide +kernel
theorem k90_14 : icode MCl 90 14 = some (.iload_n 3, 15, 0, 0, 0) := by decide +kernel
theorem k90_15 : icode MCl 90 15 = some (.iconst 3, 16, 0, 0, 3) := by decide +kernel
theorem k90_16 : icode MCl 90 16 = some (.irem, 17, 0, 0, 0) := by decide +kernel
theorem k90_17 : icode MCl 90 17 = some (.ifCond .eq 15, 20, 32, 0, 0) := by decide +kernel
theorem k90_20 : icode MCl 90 20 = some (.iload_n 2, 21, 0, 0, 0) := by decide +kernel
theorem k90_21 : icode MCl 90 21 = some (.iload_n 0, 22, 0, 0, 0) := by decide +kernel
theorem k90_22 : icode MCl 90 22 = some (.iload_n 1, 23, 0, 0, 0) := by decide +kernel
theorem k90_23 : icode MCl 90 23 = some (.iload_n 3, 24, 0, 0, 0) := by decide +kernel
theorem k90_24 : icode MCl 90 24 = some (.isub, 25, 0, 0, 0) := by decide +kernel
theorem k90_25 : icode MCl 90 25 = some (.invokestatic 20, 28, 87, 498, 0) := by decide +kernel
theorem k90_28 : icode MCl 90 28 = some (.invokestatic 31, 31, 27, 507, 0) := by decide +kernel
theorem k90_31 : icode MCl 90 31 = some (.istore_n 2, 32, 0, 0, 0) := by decide +kernel
theorem k90_32 : icode MCl 90 32 = some (.iinc 3 1, 35, 0, 0, 1) := by decide +kernel
theorem k90_35 : icode MCl 90 35 = some (.goto (-26), 38, 9, 0, 0) := by decide +kernel
theorem k90_38 : icode MCl 90 38 = some (.iload_n 2, 39, 0, 0, 0) := by decide +kernel
theorem k90_39 : icode MCl 90 39 = some (.ireturn, 40, 0, 0, 0) := by decide +kernel
theorem k91_0 : icode MCl 91 0 = some (.iconst 0, 1, 0, 0, 0) := by decide +kernel
theorem k91_1 : icode MCl 91 1 = some (.istore_n 1, 2, 0, 0, 0) := by decide +kernel
theorem k91_2 : icode MCl 91 2 = some (.iload_n 0, 3, 0, 0, 0) := by decide +kernel
theorem k91_3 : icode MCl 91 3 = some (.invokestatic 14, 6, 86, 495, 0) := by decide +kernel
theorem k91_6 : icode MCl 91 6 = some (.iconst 1, 7, 0, 0, 1) := by decide +kernel
theorem k91_7 : icode MCl 91 7 = some (.isub, 8, 0, 0, 0) := by decide +kernel
theorem k91_8 : icode MCl 91 8 = some (.istore_n 2, 9, 0, 0, 0) := by decide +kernel
theorem k91_9 : icode MCl 91 9 = some (.iload_n 2, 10, 0, 0, 0) := by decide +kernel
theorem k91_10 : icode MCl 91 10 = some (.ifCond .lt 39, 13, 49, 0, 0) := by decide +kernel
theorem k91_13 : icode MCl 91 13 = some (.iload_n 0, 14, 0, 0, 0) := by decide +kernel
theorem k91_14 : icode MCl 91 14 = some (.iload_n 2, 15, 0, 0, 0) := by decide +kernel
theorem k91_15 : icode MCl 91 15 = some (.invokestatic 20, 18, 87, 498, 0) := by decide +kernel
theorem k91_18 : icode MCl 91 18 = some (.istore_n 3, 19, 0, 0, 0) := by decide +kernel
theorem k91_19 : icode MCl 91 19 = some (.iload_n 1, 20, 0, 0, 0) := by decide +kernel
theorem k91_20 : icode MCl 91 20 = some (.iload_n 3, 21, 0, 0, 0) := by decide +kernel
theorem k91_21 : icode MCl 91 21 = some (.iconst 1, 22, 0, 0, 1) := by decide +kernel
theorem k91_22 : icode MCl 91 22 = some (.if_icmp .ne 7, 25, 29, 0, 0) := by decide +kernel
theorem k91_25 : icode MCl 91 25 = some (.iconst 2, 26, 0, 0, 2) := by decide +kernel
theorem k91_26 : icode MCl 91 26 = some (.goto 13, 29, 39, 0, 0) := by decide +kernel
theorem k91_29 : icode MCl 91 29 = some (.iload_n 3, 30, 0, 0, 0) := by decide +kernel
theorem k91_30 : icode MCl 91 30 = some (.iconst 2, 31, 0, 0, 2) := by decide +kernel
theorem k91_31 : icode MCl 91 31 = some (.if_icmp .ne 7, 34, 38, 0, 0) := by decide +kernel
theorem k91_34 : icode MCl 91 34 = some (.iconst 1, 35, 0, 0, 1) := by decide +kernel
theorem k91_35 : icode MCl 91 35 = some (.goto 4, 38, 39, 0, 0) := by decide +kernel
theorem k91_38 : icode MCl 91 38 = some (.iload_n 3, 39, 0, 0, 0) := by decide +kernel
theorem k91_39 : icode MCl 91 39 = some (.invokestatic 31, 42, 27, 507, 0) := by decide +kernel
theorem k91_42 : icode MCl 91 42 = some (.istore_n 1, 43, 0, 0, 0) := by decide +kernel
theorem k91_43 : icode MCl 91 43 = some (.iinc 2 (-1), 46, 0, 0, (-1)) := by decide +kernel
theorem k91_46 : icode MCl 91 46 = some (.goto (-37), 49, 9, 0, 0) := by decide +kernel
theorem k91_49 : icode MCl 91 49 = some (.iload_n 1, 50, 0, 0, 0) := by decide +kernel
theorem k91_50 : icode MCl 91 50 = some (.ireturn, 51, 0, 0, 0) := by decide +kernel
theorem k92_0 : icode MCl 92 0 = some (.iload_n 0, 1, 0, 0, 0) := by decide +kernel
theorem k92_1 : icode MCl 92 1 = some (.tableswitch 76 1 4 #[31, 36, 55, 60], 32, 0, 0, 0) := by decide +kernel
theorem k92_32 : icode MCl 92 32 = some (.iload_n 1, 33, 0, 0, 0) := by decide +kernel
theorem k92_33 : icode MCl 92 33 = some (.invokestatic 28, 36, 90, 504, 0) := by decide +kernel
theorem k92_36 : icode MCl 92 36 = some (.ireturn, 37, 0, 0, 0) := by decide +kernel
theorem k92_37 : icode MCl 92 37 = some (.iload_n 1, 38, 0, 0, 0) := by decide +kernel
theorem k92_38 : icode MCl 92 38 = some (.invokestatic 14, 41, 86, 495, 0) := by decide +kernel
theorem k92_41 : icode MCl 92 41 = some (.bipush 8, 43, 0, 0, 8) := by decide +kernel
theorem k92_43 : icode MCl 92 43 = some (.if_icmp .ge 11, 46, 54, 0, 0) := by decide +kernel
theorem k92_46 : icode MCl 92 46 = some (.iload_n 1, 47, 0, 0, 0) := by decide +kernel
theorem k92_47 : icode MCl 92 47 = some (.iconst 2, 48, 0, 0, 2) := by decide +kernel
theorem k92_48 : icode MCl 92 48 = some (.invokestatic 31, 51, 27, 507, 0) := by decide +kernel
theorem k92_51 : icode MCl 92 51 = some (.goto 4, 54, 55, 0, 0) := by decide +kernel
theorem k92_54 : icode MCl 92 54 = some (.iload_n 1, 55, 0, 0, 0) := by decide +kernel
theorem k92_55 : icode MCl 92 55 = some (.ireturn, 56, 0, 0, 0) := by decide +kernel
theorem k92_56 : icode MCl 92 56 = some (.iload_n 1, 57, 0, 0, 0) := by decide +kernel
theorem k92_57 : icode MCl 92 57 = some (.invokestatic 34, 60, 91, 508, 0) := by decide +kernel
theorem k92_60 : icode MCl 92 60 = some (.ireturn, 61, 0, 0, 0) := by decide +kernel
theorem k92_61 : icode MCl 92 61 = some (.iload_n 1, 62, 0, 0, 0) := by decide +kernel
theorem k92_62 : icode MCl 92 62 = some (.ifCond .ne 7, 65, 69, 0, 0) := by decide +kernel
theorem k92_65 : icode MCl 92 65 = some (.iconst 0, 66, 0, 0, 0) := by decide +kernel
theorem k92_66 : icode MCl 92 66 = some (.goto 10, 69, 76, 0, 0) := by decide +kernel
theorem k92_69 : icode MCl 92 69 = some (.iload_n 1, 70, 0, 0, 0) := by decide +kernel
theorem k92_70 : icode MCl 92 70 = some (.iconst 4, 71, 0, 0, 4) := by decide +kernel
theorem k92_71 : icode MCl 92 71 = some (.idiv, 72, 0, 0, 0) := by decide +kernel
theorem k92_72 : icode MCl 92 72 = some (.iconst 3, 73, 0, 0, 3) := by decide +kernel
theorem k92_73 : icode MCl 92 73 = some (.invokestatic 31, 76, 27, 507, 0) := by decide +kernel
theorem k92_76 : icode MCl 92 76 = some (.ireturn, 77, 0, 0, 0) := by decide +kernel
theorem k92_77 : icode MCl 92 77 = some (.iload_n 1, 78, 0, 0, 0) := by decide +kernel
theorem k92_78 : icode MCl 92 78 = some (.ireturn, 79, 0, 0, 0) := by decide +kernel
theorem k93_0 : icode MCl 93 0 = some (.aload_n 0, 1, 0, 0, 0) := by decide +kernel
theorem k93_1 : icode MCl 93 1 = some (.getfield 24, 4, 702, 411, 1) := by decide +kernel
theorem k93_4 : icode MCl 93 4 = some (.iload_n 1, 5, 0, 0, 0) := by decide +kernel
theorem k93_5 : icode MCl 93 5 = some (.invokevirtual 93, 8, 29, 461, 0) := by decide +kernel
theorem k93_8 : icode MCl 93 8 = some (.ifCond .eq 10, 11, 18, 0, 0) := by decide +kernel
theorem k93_11 : icode MCl 93 11 = some (.iload_n 2, 12, 0, 0, 0) := by decide +kernel
theorem k93_12 : icode MCl 93 12 = some (.invokestatic 138, 15, 89, 487, 0) := by decide +kernel
theorem k93_15 : icode MCl 93 15 = some (.ifCond .ne 5, 18, 20, 0, 0) := by decide +kernel
theorem k93_18 : icode MCl 93 18 = some (.iconst (-1), 19, 0, 0, (-1)) := by decide +kernel
theorem k93_19 : icode MCl 93 19 = some (.ireturn, 20, 0, 0, 0) := by decide +kernel
theorem k93_20 : icode MCl 93 20 = some (.aload_n 0, 21, 0, 0, 0) := by decide +kernel
theorem k93_21 : icode MCl 93 21 = some (.getfield 24, 24, 702, 411, 1) := by decide +kernel
theorem k93_24 : icode MCl 93 24 = some (.iload_n 1, 25, 0, 0, 0) := by decide +kernel
theorem k93_25 : icode MCl 93 25 = some (.invokevirtual 96, 28, 41, 462, 0) := by decide +kernel
theorem k93_28 : icode MCl 93 28 = some (.iload_n 2, 29, 0, 0, 0) := by decide +kernel
theorem k93_29 : icode MCl 93 29 = some (.invokestatic 143, 32, 92, 501, 0) := by decide +kernel
theorem k93_32 : icode MCl 93 32 = some (.ireturn, 33, 0, 0, 0) := by decide +kernel
theorem k94_0 : icode MCl 94 0 = some (.iload_n 0, 1, 0, 0, 0) := by decide +kernel
theorem k94_1 : icode MCl 94 1 = some (.iconst 1, 2, 0, 0, 1) := by decide +kernel
theorem k94_2 : icode MCl 94 2 = some (.ldc 72, 4, 0, 927, 65535) := by decide +kernel
theorem k94_4 : icode MCl 94 4 = some (.invokestatic 73, 7, 59, 854, 0) := by decide +kernel
theorem k94_7 : icode MCl 94 7 = some (.istore_n 1, 8, 0, 0, 0) := by decide +kernel
theorem k94_8 : icode MCl 94 8 = some (.iload_n 0, 9, 0, 0, 0) := by decide +kernel
theorem k94_9 : icode MCl 94 9 = some (.istore_n 2, 10, 0, 0, 0) := by decide +kernel
theorem k94_10 : icode MCl 94 10 = some (.iload_n 2, 11, 0, 0, 0) := by decide +kernel
theorem k94_11 : icode MCl 94 11 = some (.ifCond .le 26, 14, 37, 0, 0) := by decide +kernel
theorem k94_14 : icode MCl 94 14 = some (.iload_n 1, 15, 0, 0, 0) := by decide +kernel
theorem k94_15 : icode MCl 94 15 = some (.ifCond .eq 22, 18, 37, 0, 0) := by decide +kernel
theorem k94_18 : icode MCl 94 18 = some (.iload_n 2, 19, 0, 0, 0) := by decide +kernel
theorem k94_19 : icode MCl 94 19 = some (.iconst 4, 20, 0, 0, 4) := by decide +kernel
theorem k94_20 : icode MCl 94 20 = some (.irem, 21, 0, 0, 0) := by decide +kernel
theorem k94_21 : icode MCl 94 21 = some (.ifCond .le 7, 24, 28, 0, 0) := by decide +kernel
theorem k94_24 : icode MCl 94 24 = some (.iconst 1, 25, 0, 0, 1) := by decide +kernel
theorem k94_25 : icode MCl 94 25 = some (.goto 4, 28, 29, 0, 0) := by decide +kernel
theorem k94_28 : icode MCl 94 28 = some (.iconst 0, 29, 0, 0, 0) := by decide +kernel
theorem k94_29 : icode MCl 94 29 = some (.istore_n 1, 30, 0, 0, 0) := by decide +kernel
theorem k94_30 : icode MCl 94 30 = some (.iload_n 2, 31, 0, 0, 0) := by decide +kernel
theorem k94_31 : icode MCl 94 31 = some (.iconst 4, 32, 0, 0, 4) := by decide +kernel
theorem k94_32 : icode MCl 94 32 = some (.idiv, 33, 0, 0, 0) := by decide +kernel
theorem k94_33 : icode MCl 94 33 = some (.istore_n 2, 34, 0, 0, 0) := by decide +kernel
theorem k94_34 : icode MCl 94 34 = some (.goto (-24), 37, 10, 0, 0) := by decide +kernel
theorem k94_37 : icode MCl 94 37 = some (.iload_n 1, 38, 0, 0, 0) := by decide +kernel
theorem k94_38 : icode MCl 94 38 = some (.ireturn, 39, 0, 0, 0) := by decide +kernel
theorem k95_0 : icode MCl 95 0 = some (.iconst 0, 1, 0, 0, 0) := by decide +kernel
theorem k95_1 : icode MCl 95 1 = some (.istore_n 1, 2, 0, 0, 0) := by decide +kernel
theorem k95_2 : icode MCl 95 2 = some (.iload_n 0, 3, 0, 0, 0) := by decide +kernel
theorem k95_3 : icode MCl 95 3 = some (.istore_n 2, 4, 0, 0, 0) := by decide +kernel
theorem k95_4 : icode MCl 95 4 = some (.iload_n 2, 5, 0, 0, 0) := by decide +kernel
theorem k95_5 : icode MCl 95 5 = some (.ifCond .le 13, 8, 18, 0, 0) := by decide +kernel
theorem k95_8 : icode MCl 95 8 = some (.iinc 1 1, 11, 0, 0, 1) := by decide +kernel
theorem k95_11 : icode MCl 95 11 = some (.iload_n 2, 12, 0, 0, 0) := by decide +kernel
theorem k95_12 : icode MCl 95 12 = some (.iconst 4, 13, 0, 0, 4) := by decide +kernel
theorem k95_13 : icode MCl 95 13 = some (.idiv, 14, 0, 0, 0) := by decide +kernel
theorem k95_14 : icode MCl 95 14 = some (.istore_n 2, 15, 0, 0, 0) := by decide +kernel
theorem k95_15 : icode MCl 95 15 = some (.goto (-11), 18, 4, 0, 0) := by decide +kernel
theorem k95_18 : icode MCl 95 18 = some (.iload_n 1, 19, 0, 0, 0) := by decide +kernel
theorem k95_19 : icode MCl 95 19 = some (.ireturn, 20, 0, 0, 0) := by decide +kernel
theorem k96_0 : icode MCl 96 0 = some (.iconst 1, 1, 0, 0, 1) := by decide +kernel
theorem k96_1 : icode MCl 96 1 = some (.istore_n 1, 2, 0, 0, 0) := by decide +kernel
theorem k96_2 : icode MCl 96 2 = some (.iconst 0, 3, 0, 0, 0) := by decide +kernel
theorem k96_3 : icode MCl 96 3 = some (.istore_n 2, 4, 0, 0, 0) := by decide +kernel
theorem k96_4 : icode MCl 96 4 = some (.iload_n 2, 5, 0, 0, 0) := by decide +kernel
theorem k96_5 : icode MCl 96 5 = some (.iload_n 0, 6, 0, 0, 0) := by decide +kernel
theorem k96_6 : icode MCl 96 6 = some (.if_icmp .ge 13, 9, 19, 0, 0) := by decide +kernel
theorem k96_9 : icode MCl 96 9 = some (.iload_n 1, 10, 0, 0, 0) := by decide +kernel
theorem k96_10 : icode MCl 96 10 = some (.iconst 4, 11, 0, 0, 4) := by decide +kernel
theorem k96_11 : icode MCl 96 11 = some (.imul, 12, 0, 0, 0) := by decide +kernel
theorem k96_12 : icode MCl 96 12 = some (.istore_n 1, 13, 0, 0, 0) := by decide +kernel
theorem k96_13 : icode MCl 96 13 = some (.iinc 2 1, 16, 0, 0, 1) := by decide +kernel
theorem k96_16 : icode MCl 96 16 = some (.goto (-12), 19, 4, 0, 0) := by decide +kernel
theorem k96_19 : icode MCl 96 19 = some (.iload_n 1, 20, 0, 0, 0) := by decide +kernel
theorem k96_20 : icode MCl 96 20 = some (.ireturn, 21, 0, 0, 0) := by decide +kernel
theorem k97_0 : icode MCl 97 0 = some (.iload_n 1, 1, 0, 0, 0) := by decide +kernel
theorem k97_1 : icode MCl 97 1 = some (.invokestatic 77, 4, 95, 931, 0) := by decide +kernel
theorem k97_4 : icode MCl 97 4 = some (.istore_n 2, 5, 0, 0, 0) := by decide +kernel
theorem k97_5 : icode MCl 97 5 = some (.iload_n 0, 6, 0, 0, 0) := by decide +kernel
theorem k97_6 : icode MCl 97 6 = some (.tableswitch 168 1 4 #[30, 79, 95, 152], 36, 0, 0, 0) := by decide +kernel
theorem k97_36 : icode MCl 97 36 = some (.iconst 0, 37, 0, 0, 0) := by decide +kernel
theorem k97_37 : icode MCl 97 37 = some (.istore_n 3, 38, 0, 0, 0) := by decide +kernel
theorem k97_38 : icode MCl 97 38 = some (.iconst 0, 39, 0, 0, 0) := by decide +kernel
theorem k97_39 : icode MCl 97 39 = some (.istore 4, 41, 0, 0, 0) := by decide +kernel
theorem k97_41 : icode MCl 97 41 = some (.iload 4, 43, 0, 0, 0) := by decide +kernel
theorem k97_43 : icode MCl 97 43 = some (.iload_n 2, 44, 0, 0, 0) := by decide +kernel
theorem k97_44 : icode MCl 97 44 = some (.if_icmp .ge 39, 47, 83, 0, 0) := by decide +kernel
theorem k97_47 : icode MCl 97 47 = some (.iload 4, 49, 0, 0, 0) := by decide +kernel
theorem k97_49 : icode MCl 97 49 = some (.iconst 3, 50, 0, 0, 3) := by decide +kernel
theorem k97_50 : icode MCl 97 50 = some (.irem, 51, 0, 0, 0) := by decide +kernel
theorem k97_51 : icode MCl 97 51 = some (.iconst 2, 52, 0, 0, 2) := by decide +kernel
theorem k97_52 : icode MCl 97 52 = some (.if_icmp .ne 7, 55, 59, 0, 0) := by decide +kernel
theorem k97_55 : icode MCl 97 55 = some (.iload_n 3, 56, 0, 0, 0) := by decide +kernel
theorem k97_56 : icode MCl 97 56 = some (.goto 20, 59, 76, 0, 0) := by decide +kernel
theorem k97_59 : icode MCl 97 59 = some (.iconst 4, 60, 0, 0, 4) := by decide +kernel
theorem k97_60 : icode MCl 97 60 = some (.iload_n 3, 61, 0, 0, 0) := by decide +kernel
theorem k97_61 : icode MCl 97 61 = some (.imul, 62, 0, 0, 0) := by decide +kernel
theorem k97_62 : icode MCl 97 62 = some (.iload_n 1, 63, 0, 0, 0) := by decide +kernel
theorem k97_63 : icode MCl 97 63 = some (.iload_n 2, 64, 0, 0, 0) := by decide +kernel
theorem k97_64 : icode MCl 97 64 = some (.iconst 1, 65, 0, 0, 1) := by decide +kernel
theorem k97_65 : icode MCl 97 65 = some (.isub, 66, 0, 0, 0) := by decide +kernel
theorem k97_66 : icode MCl 97 66 = some (.iload 4, 68, 0, 0, 0) := by decide +kernel
theorem k97_68 : icode MCl 97 68 = some (.isub, 69, 0, 0, 0) := by decide +kernel
theorem k97_69 : icode MCl 97 69 = some (.invokestatic 81, 72, 96, 934, 0) := by decide +kernel
theorem k97_72 : icode MCl 97 72 = some (.idiv, 73, 0, 0, 0) := by decide +kernel
theorem k97_73 : icode MCl 97 73 = some (.iconst 4, 74, 0, 0, 4) := by decide +kernel
theorem k97_74 : icode MCl 97 74 = some (.irem, 75, 0, 0, 0) := by decide +kernel
theorem k97_75 : icode MCl 97 75 = some (.iadd, 76, 0, 0, 0) := by decide +kernel
theorem k97_76 : icode MCl 97 76 = some (.istore_n 3, 77, 0, 0, 0) := by decide +kernel
theorem k97_77 : icode MCl 97 77 = some (.iinc 4 1, 80, 0, 0, 1) := by decide +kernel
theorem k97_80 : icode MCl 97 80 = some (.goto (-39), 83, 41, 0, 0) := by decide +kernel
theorem k97_83 : icode MCl 97 83 = some (.iload_n 3, 84, 0, 0, 0) := by decide +kernel
theorem k97_84 : icode MCl 97 84 = some (.ireturn, 85, 0, 0, 0) := by decide +kernel
theorem k97_85 : icode MCl 97 85 = some (.iload_n 2, 86, 0, 0, 0) := by decide +kernel
theorem k97_86 : icode MCl 97 86 = some (.bipush 8, 88, 0, 0, 8) := by decide +kernel
theorem k97_88 : icode MCl 97 88 = some (.if_icmp .ge 11, 91, 99, 0, 0) := by decide +kernel
theorem k97_91 : icode MCl 97 91 = some (.iconst 4, 92, 0, 0, 4) := by decide +kernel
theorem k97_92 : icode MCl 97 92 = some (.iload_n 1, 93, 0, 0, 0) := by decide +kernel
theorem k97_93 : icode MCl 97 93 = some (.imul, 94, 0, 0, 0) := by decide +kernel
theorem k97_94 : icode MCl 97 94 = some (.iconst 2, 95, 0, 0, 2) := by decide +kernel
theorem k97_95 : icode MCl 97 95 = some (.iadd, 96, 0, 0, 0) := by decide +kernel
theorem k97_96 : icode MCl 97 96 = some (.goto 4, 99, 100, 0, 0) := by decide +kernel
theorem k97_99 : icode MCl 97 99 = some (.iload_n 1, 100, 0, 0, 0) := by decide +kernel
theorem k97_100 : icode MCl 97 100 = some (.ireturn, 101, 0, 0, 0) := by decide +kernel
theorem k97_101 : icode MCl 97 101 = some (.iconst 0, 102, 0, 0, 0) := by decide +kernel
theorem k97_102 : icode MCl 97 102 = some (.istore 4, 104, 0, 0, 0) := by decide +kernel
theorem k97_104 : icode MCl 97 104 = some (.iconst 0, 105, 0, 0, 0) := by decide +kernel
theorem k97_105 : icode MCl 97 105 = some (.istore 5, 107, 0, 0, 0) := by decide +kernel
theorem k97_107 : icode MCl 97 107 = some (.iload 5, 109, 0, 0, 0) := by decide +kernel
theorem k97_109 : icode MCl 97 109 = some (.iload_n 2, 110, 0, 0, 0) := by decide +kernel
theorem k97_110 : icode MCl 97 110 = some (.if_icmp .ge 45, 113, 155, 0, 0) := by decide +kernel
theorem k97_113 : icode MCl 97 113 = some (.iload_n 1, 114, 0, 0, 0) := by decide +kernel
theorem k97_114 : icode MCl 97 114 = some (.iload_n 2, 115, 0, 0, 0) := by decide +kernel
theorem k97_115 : icode MCl 97 115 = some (.iconst 1, 116, 0, 0, 1) := by decide +kernel
theorem k97_116 : icode MCl 97 116 = some (.isub, 117, 0, 0, 0) := by decide +kernel
theorem k97_117 : icode MCl 97 117 = some (.iload 5, 119, 0, 0, 0) := by decide +kernel
theorem k97_119 : icode MCl 97 119 = some (.isub, 120, 0, 0, 0) := by decide +kernel
theorem k97_120 : icode MCl 97 120 = some (.invokestatic 81, 123, 96, 934, 0) := by decide +kernel
theorem k97_123 : icode MCl 97 123 = some (.idiv, 124, 0, 0, 0) := by decide +kernel
theorem k97_124 : icode MCl 97 124 = some (.iconst 4, 125, 0, 0, 4) := by decide +kernel
theorem k97_125 : icode MCl 97 125 = some (.irem, 126, 0, 0, 0) := by decide +kernel
theorem k97_126 : icode MCl 97 126 = some (.istore 6, 128, 0, 0, 0) := by decide +kernel
theorem k97_128 : icode MCl 97 128 = some (.iconst 4, 129, 0, 0, 4) := by decide +kernel
theorem k97_129 : icode MCl 97 129 = some (.iload 4, 131, 0, 0, 0) := by decide +kernel
theorem k97_131 : icode MCl 97 131 = some (.imul, 132, 0, 0, 0) := by decide +kernel
theorem k97_132 : icode MCl 97 132 = some (.iload 6, 134, 0, 0, 0) := by decide +kernel
theorem k97_134 : icode MCl 97 134 = some (.iconst 3, 135, 0, 0, 3) := by decide +kernel
theorem k97_135 : icode MCl 97 135 = some (.if_icmp .ne 7, 138, 142, 0, 0) := by decide +kernel
theorem k97_138 : icode MCl 97 138 = some (.iconst 3, 139, 0, 0, 3) := by decide +kernel
theorem k97_139 : icode MCl 97 139 = some (.goto 7, 142, 146, 0, 0) := by decide +kernel
theorem k97_142 : icode MCl 97 142 = some (.iconst 3, 143, 0, 0, 3) := by decide +kernel
theorem k97_143 : icode MCl 97 143 = some (.iload 6, 145, 0, 0, 0) := by decide +kernel
theorem k97_145 : icode MCl 97 145 = some (.isub, 146, 0, 0, 0) := by decide +kernel
theorem k97_146 : icode MCl 97 146 = some (.iadd, 147, 0, 0, 0) := by decide +kernel
theorem k97_147 : icode MCl 97 147 = some (.istore 4, 149, 0, 0, 0) := by decide +kernel
theorem k97_149 : icode MCl 97 149 = some (.iinc 5 1, 152, 0, 0, 1) := by decide +kernel
theorem k97_152 : icode MCl 97 152 = some (.goto (-45), 155, 107, 0, 0) := by decide +kernel
theorem k97_155 : icode MCl 97 155 = some (.iload 4, 157, 0, 0, 0) := by decide +kernel
theorem k97_157 : icode MCl 97 157 = some (.ireturn, 158, 0, 0, 0) := by decide +kernel
theorem k97_158 : icode MCl 97 158 = some (.iload_n 2, 159, 0, 0, 0) := by decide +kernel
theorem k97_159 : icode MCl 97 159 = some (.ifCond .ne 7, 162, 166, 0, 0) := by decide +kernel
theorem k97_162 : icode MCl 97 162 = some (.iconst 0, 163, 0, 0, 0) := by decide +kernel
theorem k97_163 : icode MCl 97 163 = some (.goto 10, 166, 173, 0, 0) := by decide +kernel
theorem k97_166 : icode MCl 97 166 = some (.iload_n 1, 167, 0, 0, 0) := by decide +kernel
theorem k97_167 : icode MCl 97 167 = some (.iload_n 1, 168, 0, 0, 0) := by decide +kernel
theorem k97_168 : icode MCl 97 168 = some (.iconst 4, 169, 0, 0, 4) := by decide +kernel
theorem k97_169 : icode MCl 97 169 = some (.irem, 170, 0, 0, 0) := by decide +kernel
theorem k97_170 : icode MCl 97 170 = some (.isub, 171, 0, 0, 0) := by decide +kernel
theorem k97_171 : icode MCl 97 171 = some (.iconst 3, 172, 0, 0, 3) := by decide +kernel
theorem k97_172 : icode MCl 97 172 = some (.iadd, 173, 0, 0, 0) := by decide +kernel
theorem k97_173 : icode MCl 97 173 = some (.ireturn, 174, 0, 0, 0) := by decide +kernel
theorem k97_174 : icode MCl 97 174 = some (.iload_n 1, 175, 0, 0, 0) := by decide +kernel
theorem k97_175 : icode MCl 97 175 = some (.ireturn, 176, 0, 0, 0) := by decide +kernel
theorem k98_0 : icode MCl 98 0 = some (.aload_n 0, 1, 0, 0, 0) := by decide +kernel
theorem k98_1 : icode MCl 98 1 = some (.iload_n 1, 2, 0, 0, 0) := by decide +kernel
theorem k98_2 : icode MCl 98 2 = some (.invokevirtual 139, 5, 78, 901, 0) := by decide +kernel
theorem k98_5 : icode MCl 98 5 = some (.ifCond .eq 27, 8, 32, 0, 0) := by decide +kernel
theorem k98_8 : icode MCl 98 8 = some (.iload_n 2, 9, 0, 0, 0) := by decide +kernel
theorem k98_9 : icode MCl 98 9 = some (.ifCond .eq 10, 12, 19, 0, 0) := by decide +kernel
theorem k98_12 : icode MCl 98 12 = some (.iload_n 2, 13, 0, 0, 0) := by decide +kernel
theorem k98_13 : icode MCl 98 13 = some (.invokestatic 149, 16, 94, 924, 0) := by decide +kernel
theorem k98_16 : icode MCl 98 16 = some (.ifCond .eq 16, 19, 32, 0, 0) := by decide +kernel
theorem k98_19 : icode MCl 98 19 = some (.aload_n 0, 20, 0, 0, 0) := by decide +kernel
theorem k98_20 : icode MCl 98 20 = some (.getfield 31, 23, 813, 787, 1) := by decide +kernel
theorem k98_23 : icode MCl 98 23 = some (.iload_n 1, 24, 0, 0, 0) := by decide +kernel
theorem k98_24 : icode MCl 98 24 = some (.iaload, 25, 0, 0, 0) := by decide +kernel
theorem k98_25 : icode MCl 98 25 = some (.iload_n 2, 26, 0, 0, 0) := by decide +kernel
theorem k98_26 : icode MCl 98 26 = some (.invokestatic 152, 29, 97, 928, 0) := by decide +kernel
theorem k98_29 : icode MCl 98 29 = some (.goto 4, 32, 33, 0, 0) := by decide +kernel
theorem k98_32 : icode MCl 98 32 = some (.iconst (-1), 33, 0, 0, (-1)) := by decide +kernel
theorem k98_33 : icode MCl 98 33 = some (.ireturn, 34, 0, 0, 0) := by decide +kernel
theorem k99_0 : icode MCl 99 0 = some (.aload_n 0, 1, 0, 0, 0) := by decide +kernel
theorem k99_1 : icode MCl 99 1 = some (.getfield 15, 4, 300, 191, 1) := by decide +kernel
theorem k99_4 : icode MCl 99 4 = some (.arraylength, 5, 0, 0, 0) := by decide +kernel
theorem k99_5 : icode MCl 99 5 = some (.ifCond .ne 4, 8, 9, 0, 0) := by decide +kernel
theorem k99_8 : icode MCl 99 8 = some (.return_, 9, 0, 0, 0) := by decide +kernel
theorem k99_9 : icode MCl 99 9 = some (.aload_n 0, 10, 0, 0, 0) := by decide +kernel
theorem k99_10 : icode MCl 99 10 = some (.getfield 15, 13, 300, 191, 1) := by decide +kernel
theorem k99_13 : icode MCl 99 13 = some (.iconst 0, 14, 0, 0, 0) := by decide +kernel
theorem k99_14 : icode MCl 99 14 = some (.aaload, 15, 0, 0, 0) := by decide +kernel
theorem k99_15 : icode MCl 99 15 = some (.astore_n 1, 16, 0, 0, 0) := by decide +kernel
theorem k99_16 : icode MCl 99 16 = some (.iconst 1, 17, 0, 0, 1) := by decide +kernel
theorem k99_17 : icode MCl 99 17 = some (.istore_n 2, 18, 0, 0, 0) := by decide +kernel
theorem k99_18 : icode MCl 99 18 = some (.iload_n 2, 19, 0, 0, 0) := by decide +kernel
theorem k99_19 : icode MCl 99 19 = some (.aload_n 0, 20, 0, 0, 0) := by decide +kernel
theorem k99_20 : icode MCl 99 20 = some (.getfield 15, 23, 300, 191, 1) := by decide +kernel
theorem k99_23 : icode MCl 99 23 = some (.arraylength, 24, 0, 0, 0) := by decide +kernel
theorem k99_24 : icode MCl 99 24 = some (.if_icmp .ge 23, 27, 47, 0, 0) := by decide +kernel
theorem k99_27 : icode MCl 99 27 = some (.aload_n 0, 28, 0, 0, 0) := by decide +kernel
theorem k99_28 : icode MCl 99 28 = some (.getfield 15, 31, 300, 191, 1) := by decide +kernel
theorem k99_31 : icode MCl 99 31 = some (.iload_n 2, 32, 0, 0, 0) := by decide +kernel
theorem k99_32 : icode MCl 99 32 = some (.iconst 1, 33, 0, 0, 1) := by decide +kernel
theorem k99_33 : icode MCl 99 33 = some (.isub, 34, 0, 0, 0) := by decide +kernel
theorem k99_34 : icode MCl 99 34 = some (.aload_n 0, 35, 0, 0, 0) := by decide +kernel
theorem k99_35 : icode MCl 99 35 = some (.getfield 15, 38, 300, 191, 1) := by decide +kernel
theorem k99_38 : icode MCl 99 38 = some (.iload_n 2, 39, 0, 0, 0) := by decide +kernel
theorem k99_39 : icode MCl 99 39 = some (.aaload, 40, 0, 0, 0) := by decide +kernel
theorem k99_40 : icode MCl 99 40 = some (.aastore, 41, 0, 0, 0) := by decide +kernel
theorem k99_41 : icode MCl 99 41 = some (.iinc 2 1, 44, 0, 0, 1) := by decide +kernel
theorem k99_44 : icode MCl 99 44 = some (.goto (-26), 47, 18, 0, 0) := by decide +kernel
theorem k99_47 : icode MCl 99 47 = some (.aload_n 0, 48, 0, 0, 0) := by decide +kernel
theorem k99_48 : icode MCl 99 48 = some (.getfield 15, 51, 300, 191, 1) := by decide +kernel
theorem k99_51 : icode MCl 99 51 = some (.aload_n 0, 52, 0, 0, 0) := by decide +kernel
theorem k99_52 : icode MCl 99 52 = some (.getfield 15, 55, 300, 191, 1) := by decide +kernel
theorem k99_55 : icode MCl 99 55 = some (.arraylength, 56, 0, 0, 0) := by decide +kernel
theorem k99_56 : icode MCl 99 56 = some (.iconst 1, 57, 0, 0, 1) := by decide +kernel
theorem k99_57 : icode MCl 99 57 = some (.isub, 58, 0, 0, 0) := by decide +kernel
theorem k99_58 : icode MCl 99 58 = some (.aload_n 1, 59, 0, 0, 0) := by decide +kernel
theorem k99_59 : icode MCl 99 59 = some (.aastore, 60, 0, 0, 0) := by decide +kernel
theorem k99_60 : icode MCl 99 60 = some (.aload_n 0, 61, 0, 0, 0) := by decide +kernel
theorem k99_61 : icode MCl 99 61 = some (.aload_n 0, 62, 0, 0, 0) := by decide +kernel
theorem k99_62 : icode MCl 99 62 = some (.getfield 15, 65, 300, 191, 1) := by decide +kernel
theorem k99_65 : icode MCl 99 65 = some (.arraylength, 66, 0, 0, 0) := by decide +kernel
theorem k99_66 : icode MCl 99 66 = some (.iconst 1, 67, 0, 0, 1) := by decide +kernel
theorem k99_67 : icode MCl 99 67 = some (.isub, 68, 0, 0, 0) := by decide +kernel
theorem k99_68 : icode MCl 99 68 = some (.putfield 22, 71, 301, 192, 0) := by decide +kernel
theorem k99_71 : icode MCl 99 71 = some (.return_, 72, 0, 0, 0) := by decide +kernel
theorem k100_0 : icode MCl 100 0 = some (.aload_n 0, 1, 0, 0, 0) := by decide +kernel
theorem k100_1 : icode MCl 100 1 = some (.getfield 22, 4, 301, 192, 0) := by decide +kernel
theorem k100_4 : icode MCl 100 4 = some (.aload_n 0, 5, 0, 0, 0) := by decide +kernel
theorem k100_5 : icode MCl 100 5 = some (.getfield 15, 8, 300, 191, 1) := by decide +kernel
theorem k100_8 : icode MCl 100 8 = some (.arraylength, 9, 0, 0, 0) := by decide +kernel
theorem k100_9 : icode MCl 100 9 = some (.if_icmp .lt 7, 12, 16, 0, 0) := by decide +kernel
theorem k100_12 : icode MCl 100 12 = some (.aload_n 0, 13, 0, 0, 0) := by decide +kernel
theorem k100_13 : icode MCl 100 13 = some (.invokevirtual 26, 16, 99, 519, 0) := by decide +kernel
theorem k100_16 : icode MCl 100 16 = some (.aload_n 0, 17, 0, 0, 0) := by decide +kernel
theorem k100_17 : icode MCl 100 17 = some (.getfield 22, 20, 301, 192, 0) := by decide +kernel
theorem k100_20 : icode MCl 100 20 = some (.ifCond .lt 27, 23, 47, 0, 0) := by decide +kernel
theorem k100_23 : icode MCl 100 23 = some (.aload_n 0, 24, 0, 0, 0) := by decide +kernel
theorem k100_24 : icode MCl 100 24 = some (.getfield 22, 27, 301, 192, 0) := by decide +kernel
theorem k100_27 : icode MCl 100 27 = some (.aload_n 0, 28, 0, 0, 0) := by decide +kernel
theorem k100_28 : icode MCl 100 28 = some (.getfield 15, 31, 300, 191, 1) := by decide +kernel
theorem k100_31 : icode MCl 100 31 = some (.arraylength, 32, 0, 0, 0) := by decide +kernel
theorem k100_32 : icode MCl 100 32 = some (.if_icmp .ge 15, 35, 47, 0, 0) := by decide +kernel
theorem k100_35 : icode MCl 100 35 = some (.aload_n 0, 36, 0, 0, 0) := by decide +kernel
theorem k100_36 : icode MCl 100 36 = some (.getfield 15, 39, 300, 191, 1) := by decide +kernel
theorem k100_39 : icode MCl 100 39 = some (.aload_n 0, 40, 0, 0, 0) := by decide +kernel
theorem k100_40 : icode MCl 100 40 = some (.getfield 22, 43, 301, 192, 0) := by decide +kernel
theorem k100_43 : icode MCl 100 43 = some (.aaload, 44, 0, 0, 0) := by decide +kernel
theorem k100_44 : icode MCl 100 44 = some (.goto 4, 47, 48, 0, 0) := by decide +kernel
theorem k100_47 : icode MCl 100 47 = some (.aconst_null, 48, 0, 0, 0) := by decide +kernel
theorem k100_48 : icode MCl 100 48 = some (.astore_n 2, 49, 0, 0, 0) := by decide +kernel
theorem k100_49 : icode MCl 100 49 = some (.aload_n 2, 50, 0, 0, 0) := by decide +kernel
theorem k100_50 : icode MCl 100 50 = some (.ifnonnull 4, 53, 54, 0, 0) := by decide +kernel
theorem k100_53 : icode MCl 100 53 = some (.return_, 54, 0, 0, 0) := by decide +kernel
theorem k100_54 : icode MCl 100 54 = some (.aload_n 2, 55, 0, 0, 0) := by decide +kernel
theorem k100_55 : icode MCl 100 55 = some (.aload_n 1, 56, 0, 0, 0) := by decide +kernel
theorem k100_56 : icode MCl 100 56 = some (.invokevirtual 29, 59, 46, 523, 0) := by decide +kernel
theorem k100_59 : icode MCl 100 59 = some (.aload_n 0, 60, 0, 0, 0) := by decide +kernel
theorem k100_60 : icode MCl 100 60 = some (.dup, 61, 0, 0, 0) := by decide +kernel
theorem k100_61 : icode MCl 100 61 = some (.getfield 22, 64, 301, 192, 0) := by decide +kernel
theorem k100_64 : icode MCl 100 64 = some (.iconst 1, 65, 0, 0, 1) := by decide +kernel
theorem k100_65 : icode MCl 100 65 = some (.iadd, 66, 0, 0, 0) := by decide +kernel
theorem k100_66 : icode MCl 100 66 = some (.putfield 22, 69, 301, 192, 0) := by decide +kernel
theorem k100_69 : icode MCl 100 69 = some (.return_, 70, 0, 0, 0) := by decide +kernel
theorem k101_0 : icode MCl 101 0 = some (.aload_n 0, 1, 0, 0, 0) := by decide +kernel
theorem k101_1 : icode MCl 101 1 = some (.iload_n 1, 2, 0, 0, 0) := by decide +kernel
theorem k101_2 : icode MCl 101 2 = some (.invokevirtual 29, 5, 43, 384, 0) := by decide +kernel
theorem k101_5 : icode MCl 101 5 = some (.iload_n 1, 6, 0, 0, 0) := by decide +kernel
theorem k101_6 : icode MCl 101 6 = some (.if_icmp .ne 7, 9, 13, 0, 0) := by decide +kernel
theorem k101_9 : icode MCl 101 9 = some (.iconst 1, 10, 0, 0, 1) := by decide +kernel
theorem k101_10 : icode MCl 101 10 = some (.goto 4, 13, 14, 0, 0) := by decide +kernel
theorem k101_13 : icode MCl 101 13 = some (.iconst 0, 14, 0, 0, 0) := by decide +kernel
theorem k101_14 : icode MCl 101 14 = some (.ireturn, 15, 0, 0, 0) := by decide +kernel
theorem k102_0 : icode MCl 102 0 = some (.aload_n 0, 1, 0, 0, 0) := by decide +kernel
theorem k102_1 : icode MCl 102 1 = some (.aload_n 1, 2, 0, 0, 0) := by decide +kernel
theorem k102_2 : icode MCl 102 2 = some (.aload_n 0, 3, 0, 0, 0) := by decide +kernel
theorem k102_3 : icode MCl 102 3 = some (.getfield 18, 6, 102, 120, 0) := by decide +kernel
theorem k102_6 : icode MCl 102 6 = some (.invokevirtual 44, 9, 41, 538, 0) := by decide +kernel
theorem k102_9 : icode MCl 102 9 = some (.aload_n 0, 10, 0, 0, 0) := by decide +kernel
theorem k102_10 : icode MCl 102 10 = some (.getfield 21, 13, 103, 123, 0) := by decide +kernel
theorem k102_13 : icode MCl 102 13 = some (.invokestatic 47, 16, 92, 539, 0) := by decide +kernel
theorem k102_16 : icode MCl 102 16 = some (.putfield 21, 19, 103, 123, 0) := by decide +kernel
theorem k102_19 : icode MCl 102 19 = some (.aload_n 1, 20, 0, 0, 0) := by decide +kernel
theorem k102_20 : icode MCl 102 20 = some (.aload_n 0, 21, 0, 0, 0) := by decide +kernel
theorem k102_21 : icode MCl 102 21 = some (.getfield 18, 24, 102, 120, 0) := by decide +kernel
theorem k102_24 : icode MCl 102 24 = some (.invokevirtual 53, 27, 101, 540, 0) := by decide +kernel
theorem k102_27 : icode MCl 102 27 = some (.ifCond .eq 16, 30, 43, 0, 0) := by decide +kernel
theorem k102_30 : icode MCl 102 30 = some (.aload_n 0, 31, 0, 0, 0) := by decide +kernel
theorem k102_31 : icode MCl 102 31 = some (.iconst 2, 32, 0, 0, 2) := by decide +kernel
theorem k102_32 : icode MCl 102 32 = some (.putfield 15, 35, 101, 117, 0) := by decide +kernel
theorem k102_35 : icode MCl 102 35 = some (.aload_n 0, 36, 0, 0, 0) := by decide +kernel
theorem k102_36 : icode MCl 102 36 = some (.iload_n 2, 37, 0, 0, 0) := by decide +kernel
theorem k102_37 : icode MCl 102 37 = some (.putfield 27, 40, 105, 128, 0) := by decide +kernel
theorem k102_40 : icode MCl 102 40 = some (.goto 15, 43, 55, 0, 0) := by decide +kernel
theorem k102_43 : icode MCl 102 43 = some (.aload_n 0, 44, 0, 0, 0) := by decide +kernel
theorem k102_44 : icode MCl 102 44 = some (.aload_n 1, 45, 0, 0, 0) := by decide +kernel
theorem k102_45 : icode MCl 102 45 = some (.aload_n 0, 46, 0, 0, 0) := by decide +kernel
theorem k102_46 : icode MCl 102 46 = some (.getfield 18, 49, 102, 120, 0) := by decide +kernel
theorem k102_49 : icode MCl 102 49 = some (.invokevirtual 57, 52, 43, 544, 0) := by decide +kernel
theorem k102_52 : icode MCl 102 52 = some (.putfield 18, 55, 102, 120, 0) := by decide +kernel
theorem k102_55 : icode MCl 102 55 = some (.return_, 56, 0, 0, 0) := by decide +kernel
theorem k103_0 : icode MCl 103 0 = some (.aload_n 0, 1, 0, 0, 0) := by decide +kernel
theorem k103_1 : icode MCl 103 1 = some (.getfield 15, 4, 101, 117, 0) := by decide +kernel
theorem k103_4 : icode MCl 103 4 = some (.ifCond .ne 16, 7, 20, 0, 0) := by decide +kernel
theorem k103_7 : icode MCl 103 7 = some (.aload_n 0, 8, 0, 0, 0) := by decide +kernel
theorem k103_8 : icode MCl 103 8 = some (.getfield 9, 11, 100, 115, 0) := by decide +kernel
theorem k103_11 : icode MCl 103 11 = some (.iload_n 2, 12, 0, 0, 0) := by decide +kernel
theorem k103_12 : icode MCl 103 12 = some (.if_icmp .ne 8, 15, 20, 0, 0) := by decide +kernel
theorem k103_15 : icode MCl 103 15 = some (.aload_n 0, 16, 0, 0, 0) := by decide +kernel
theorem k103_16 : icode MCl 103 16 = some (.iconst 1, 17, 0, 0, 1) := by decide +kernel
theorem k103_17 : icode MCl 103 17 = some (.putfield 15, 20, 101, 117, 0) := by decide +kernel
theorem k103_20 : icode MCl 103 20 = some (.aload_n 0, 21, 0, 0, 0) := by decide +kernel
theorem k103_21 : icode MCl 103 21 = some (.getfield 15, 24, 101, 117, 0) := by decide +kernel
theorem k103_24 : icode MCl 103 24 = some (.iconst 1, 25, 0, 0, 1) := by decide +kernel
theorem k103_25 : icode MCl 103 25 = some (.if_icmp .eq 4, 28, 29, 0, 0) := by decide +kernel
theorem k103_28 : icode MCl 103 28 = some (.return_, 29, 0, 0, 0) := by decide +kernel
theorem k103_29 : icode MCl 103 29 = some (.aload_n 0, 30, 0, 0, 0) := by decide +kernel
theorem k103_30 : icode MCl 103 30 = some (.getfield 24, 33, 104, 126, 0) := by decide +kernel
theorem k103_33 : icode MCl 103 33 = some (.ifCond .ne 26, 36, 59, 0, 0) := by decide +kernel
theorem k103_36 : icode MCl 103 36 = some (.iload_n 3, 37, 0, 0, 0) := by decide +kernel
theorem k103_37 : icode MCl 103 37 = some (.aload_n 0, 38, 0, 0, 0) := by decide +kernel
theorem k103_38 : icode MCl 103 38 = some (.getfield 18, 41, 102, 120, 0) := by decide +kernel
theorem k103_41 : icode MCl 103 41 = some (.invokestatic 30, 44, 34, 532, 1) := by decide +kernel
theorem k103_44 : icode MCl 103 44 = some (.ifCond .ne 15, 47, 59, 0, 0) := by decide +kernel
theorem k103_47 : icode MCl 103 47 = some (.aload_n 0, 48, 0, 0, 0) := by decide +kernel
theorem k103_48 : icode MCl 103 48 = some (.aload_n 1, 49, 0, 0, 0) := by decide +kernel
theorem k103_49 : icode MCl 103 49 = some (.aload_n 0, 50, 0, 0, 0) := by decide +kernel
theorem k103_50 : icode MCl 103 50 = some (.getfield 18, 53, 102, 120, 0) := by decide +kernel
theorem k103_53 : icode MCl 103 53 = some (.invokevirtual 34, 56, 42, 533, 0) := by decide +kernel
theorem k103_56 : icode MCl 103 56 = some (.putfield 24, 59, 104, 126, 0) := by decide +kernel
theorem k103_59 : icode MCl 103 59 = some (.aload_n 0, 60, 0, 0, 0) := by decide +kernel
theorem k103_60 : icode MCl 103 60 = some (.getfield 24, 63, 104, 126, 0) := by decide +kernel
theorem k103_63 : icode MCl 103 63 = some (.ifCond .ne 4, 66, 67, 0, 0) := by decide +kernel
theorem k103_66 : icode MCl 103 66 = some (.return_, 67, 0, 0, 0) := by decide +kernel
theorem k103_67 : icode MCl 103 67 = some (.aload_n 0, 68, 0, 0, 0) := by decide +kernel
theorem k103_68 : icode MCl 103 68 = some (.dup, 69, 0, 0, 0) := by decide +kernel
theorem k103_69 : icode MCl 103 69 = some (.getfield 24, 72, 104, 126, 0) := by decide +kernel
theorem k103_72 : icode MCl 103 72 = some (.iconst 1, 73, 0, 0, 1) := by decide +kernel
theorem k103_73 : icode MCl 103 73 = some (.isub, 74, 0, 0, 0) := by decide +kernel
theorem k103_74 : icode MCl 103 74 = some (.putfield 24, 77, 104, 126, 0) := by decide +kernel
theorem k103_77 : icode MCl 103 77 = some (.aload_n 0, 78, 0, 0, 0) := by decide +kernel
theorem k103_78 : icode MCl 103 78 = some (.getfield 24, 81, 104, 126, 0) := by decide +kernel
theorem k103_81 : icode MCl 103 81 = some (.ifCond .ne 9, 84, 90, 0, 0) := by decide +kernel
theorem k103_84 : icode MCl 103 84 = some (.aload_n 0, 85, 0, 0, 0) := by decide +kernel
theorem k103_85 : icode MCl 103 85 = some (.aload_n 1, 86, 0, 0, 0) := by decide +kernel
theorem k103_86 : icode MCl 103 86 = some (.iload_n 2, 87, 0, 0, 0) := by decide +kernel
theorem k103_87 : icode MCl 103 87 = some (.invokevirtual 40, 90, 102, 534, 0) := by decide +kernel
theorem k103_90 : icode MCl 103 90 = some (.return_, 91, 0, 0, 0) := by decide +kernel
theorem k104_0 : icode MCl 104 0 = some (.iconst 0, 1, 0, 0, 0) := by decide +kernel
theorem k104_1 : icode MCl 104 1 = some (.istore_n 2, 2, 0, 0, 0) := by decide +kernel
theorem k104_2 : icode MCl 104 2 = some (.iload_n 2, 3, 0, 0, 0) := by decide +kernel
theorem k104_3 : icode MCl 104 3 = some (.aload_n 0, 4, 0, 0, 0) := by decide +kernel
theorem k104_4 : icode MCl 104 4 = some (.getfield 22, 7, 202, 145, 0) := by decide +kernel
theorem k104_7 : icode MCl 104 7 = some (.if_icmp .ge 26, 10, 33, 0, 0) := by decide +kernel
theorem k104_10 : icode MCl 104 10 = some (.aload_n 0, 11, 0, 0, 0) := by decide +kernel
theorem k104_11 : icode MCl 104 11 = some (.iload_n 2, 12, 0, 0, 0) := by decide +kernel
theorem k104_12 : icode MCl 104 12 = some (.invokevirtual 32, 15, 30, 341, 0) := by decide +kernel
theorem k104_15 : icode MCl 104 15 = some (.aload_n 1, 16, 0, 0, 0) := by decide +kernel
theorem k104_16 : icode MCl 104 16 = some (.aload_n 0, 17, 0, 0, 0) := by decide +kernel
theorem k104_17 : icode MCl 104 17 = some (.getfield 26, 20, 203, 146, 0) := by decide +kernel
theorem k104_20 : icode MCl 104 20 = some (.aload_n 0, 21, 0, 0, 0) := by decide +kernel
theorem k104_21 : icode MCl 104 21 = some (.getfield 29, 24, 204, 147, 0) := by decide +kernel
theorem k104_24 : icode MCl 104 24 = some (.invokevirtual 54, 27, 103, 528, 0) := by decide +kernel
theorem k104_27 : icode MCl 104 27 = some (.iinc 2 1, 30, 0, 0, 1) := by decide +kernel
theorem k104_30 : icode MCl 104 30 = some (.goto (-28), 33, 2, 0, 0) := by decide +kernel
theorem k104_33 : icode MCl 104 33 = some (.aload_n 0, 34, 0, 0, 0) := by decide +kernel
theorem k104_34 : icode MCl 104 34 = some (.dup, 35, 0, 0, 0) := by decide +kernel
theorem k104_35 : icode MCl 104 35 = some (.getfield 26, 38, 203, 146, 0) := by decide +kernel
theorem k104_38 : icode MCl 104 38 = some (.iconst 1, 39, 0, 0, 1) := by decide +kernel
theorem k104_39 : icode MCl 104 39 = some (.iadd, 40, 0, 0, 0) := by decide +kernel
theorem k104_40 : icode MCl 104 40 = some (.putfield 26, 43, 203, 146, 0) := by decide +kernel
theorem k104_43 : icode MCl 104 43 = some (.return_, 44, 0, 0, 0) := by decide +kernel
theorem k105_0 : icode MCl 105 0 = some (.iconst 0, 1, 0, 0, 0) := by decide +kernel
theorem k105_1 : icode MCl 105 1 = some (.istore_n 2, 2, 0, 0, 0) := by decide +kernel
theorem k105_2 : icode MCl 105 2 = some (.iconst 0, 3, 0, 0, 0) := by decide +kernel
theorem k105_3 : icode MCl 105 3 = some (.istore_n 3, 4, 0, 0, 0) := by decide +kernel
theorem k105_4 : icode MCl 105 4 = some (.iload_n 3, 5, 0, 0, 0) := by decide +kernel
theorem k105_5 : icode MCl 105 5 = some (.aload_n 0, 6, 0, 0, 0) := by decide +kernel
theorem k105_6 : icode MCl 105 6 = some (.getfield 22, 9, 202, 145, 0) := by decide +kernel
theorem k105_9 : icode MCl 105 9 = some (.if_icmp .ge 29, 12, 38, 0, 0) := by decide +kernel
theorem k105_12 : icode MCl 105 12 = some (.iload_n 2, 13, 0, 0, 0) := by decide +kernel
theorem k105_13 : icode MCl 105 13 = some (.aload_n 0, 14, 0, 0, 0) := by decide +kernel
theorem k105_14 : icode MCl 105 14 = some (.iload_n 3, 15, 0, 0, 0) := by decide +kernel
theorem k105_15 : icode MCl 105 15 = some (.invokevirtual 32, 18, 30, 341, 0) := by decide +kernel
theorem k105_18 : icode MCl 105 18 = some (.getfield 62, 21, 101, 119, 0) := by decide +kernel
theorem k105_21 : icode MCl 105 21 = some (.iload_n 1, 22, 0, 0, 0) := by decide +kernel
theorem k105_22 : icode MCl 105 22 = some (.if_icmp .ne 7, 25, 29, 0, 0) := by decide +kernel
theorem k105_25 : icode MCl 105 25 = some (.iconst 1, 26, 0, 0, 1) := by decide +kernel
theorem k105_26 : icode MCl 105 26 = some (.goto 4, 29, 30, 0, 0) := by decide +kernel
theorem k105_29 : icode MCl 105 29 = some (.iconst 0, 30, 0, 0, 0) := by decide +kernel
theorem k105_30 : icode MCl 105 30 = some (.iadd, 31, 0, 0, 0) := by decide +kernel
theorem k105_31 : icode MCl 105 31 = some (.istore_n 2, 32, 0, 0, 0) := by decide +kernel
theorem k105_32 : icode MCl 105 32 = some (.iinc 3 1, 35, 0, 0, 1) := by decide +kernel
theorem k105_35 : icode MCl 105 35 = some (.goto (-31), 38, 4, 0, 0) := by decide +kernel
theorem k105_38 : icode MCl 105 38 = some (.iload_n 2, 39, 0, 0, 0) := by decide +kernel
theorem k105_39 : icode MCl 105 39 = some (.ireturn, 40, 0, 0, 0) := by decide +kernel
theorem k106_0 : icode MCl 106 0 = some (.iload_n 1, 1, 0, 0, 0) := by decide +kernel
theorem k106_1 : icode MCl 106 1 = some (.iconst 1, 2, 0, 0, 1) := by decide +kernel
theorem k106_2 : icode MCl 106 2 = some (.bipush 60, 4, 0, 0, 60) := by decide +kernel
theorem k106_4 : icode MCl 106 4 = some (.invokestatic 84, 7, 22, 439, 0) := by decide +kernel
theorem k106_7 : icode MCl 106 7 = some (.ifCond .ne 5, 10, 12, 0, 0) := by decide +kernel
theorem k106_10 : icode MCl 106 10 = some (.iconst (-1), 11, 0, 0, (-1)) := by decide +kernel
theorem k106_11 : icode MCl 106 11 = some (.ireturn, 12, 0, 0, 0) := by decide +kernel
theorem k106_12 : icode MCl 106 12 = some (.aload_n 0, 13, 0, 0, 0) := by decide +kernel
theorem k106_13 : icode MCl 106 13 = some (.getfield 43, 16, 705, 414, 1) := by decide +kernel
theorem k106_16 : icode MCl 106 16 = some (.aload_n 0, 17, 0, 0, 0) := by decide +kernel
theorem k106_17 : icode MCl 106 17 = some (.getfield 31, 20, 703, 412, 1) := by decide +kernel
theorem k106_20 : icode MCl 106 20 = some (.invokevirtual 147, 23, 100, 515, 0) := by decide +kernel
theorem k106_23 : icode MCl 106 23 = some (.iconst 0, 24, 0, 0, 0) := by decide +kernel
theorem k106_24 : icode MCl 106 24 = some (.istore_n 2, 25, 0, 0, 0) := by decide +kernel
theorem k106_25 : icode MCl 106 25 = some (.iload_n 2, 26, 0, 0, 0) := by decide +kernel
theorem k106_26 : icode MCl 106 26 = some (.iload_n 1, 27, 0, 0, 0) := by decide +kernel
theorem k106_27 : icode MCl 106 27 = some (.if_icmp .ge 20, 30, 47, 0, 0) := by decide +kernel
theorem k106_30 : icode MCl 106 30 = some (.aload_n 0, 31, 0, 0, 0) := by decide +kernel
theorem k106_31 : icode MCl 106 31 = some (.getfield 31, 34, 703, 412, 1) := by decide +kernel
theorem k106_34 : icode MCl 106 34 = some (.aload_n 0, 35, 0, 0, 0) := by decide +kernel
theorem k106_35 : icode MCl 106 35 = some (.getfield 24, 38, 702, 411, 1) := by decide +kernel
theorem k106_38 : icode MCl 106 38 = some (.invokevirtual 151, 41, 104, 524, 0) := by decide +kernel
theorem k106_41 : icode MCl 106 41 = some (.iinc 2 1, 44, 0, 0, 1) := by decide +kernel
theorem k106_44 : icode MCl 106 44 = some (.goto (-19), 47, 25, 0, 0) := by decide +kernel
theorem k106_47 : icode MCl 106 47 = some (.aload_n 0, 48, 0, 0, 0) := by decide +kernel
theorem k106_48 : icode MCl 106 48 = some (.getfield 31, 51, 703, 412, 1) := by decide +kernel
theorem k106_51 : icode MCl 106 51 = some (.iconst 2, 52, 0, 0, 2) := by decide +kernel
theorem k106_52 : icode MCl 106 52 = some (.invokevirtual 155, 55, 105, 545, 0) := by decide +kernel
theorem k106_55 : icode MCl 106 55 = some (.ireturn, 56, 0, 0, 0) := by decide +kernel
theorem k107_0 : icode MCl 107 0 = some (.iconst 0, 1, 0, 0, 0) := by decide +kernel
theorem k107_1 : icode MCl 107 1 = some (.istore_n 1, 2, 0, 0, 0) := by decide +kernel
theorem k107_2 : icode MCl 107 2 = some (.iload_n 1, 3, 0, 0, 0) := by decide +kernel
theorem k107_3 : icode MCl 107 3 = some (.bipush 39, 5, 0, 0, 39) := by decide +kernel
theorem k107_5 : icode MCl 107 5 = some (.if_icmp .ge 29, 8, 34, 0, 0) := by decide +kernel
theorem k107_8 : icode MCl 107 8 = some (.aload_n 0, 9, 0, 0, 0) := by decide +kernel
theorem k107_9 : icode MCl 107 9 = some (.getfield 46, 12, 820, 794, 1) := by decide +kernel
theorem k107_12 : icode MCl 107 12 = some (.bipush 39, 14, 0, 0, 39) := by decide +kernel
theorem k107_14 : icode MCl 107 14 = some (.aload_n 0, 15, 0, 0, 0) := by decide +kernel
theorem k107_15 : icode MCl 107 15 = some (.getfield 164, 18, 819, 793, 0) := by decide +kernel
theorem k107_18 : icode MCl 107 18 = some (.imul, 19, 0, 0, 0) := by decide +kernel
theorem k107_19 : icode MCl 107 19 = some (.iload_n 1, 20, 0, 0, 0) := by decide +kernel
theorem k107_20 : icode MCl 107 20 = some (.iadd, 21, 0, 0, 0) := by decide +kernel
theorem k107_21 : icode MCl 107 21 = some (.aload_n 0, 22, 0, 0, 0) := by decide +kernel
theorem k107_22 : icode MCl 107 22 = some (.getfield 40, 25, 816, 790, 1) := by decide +kernel
theorem k107_25 : icode MCl 107 25 = some (.iload_n 1, 26, 0, 0, 0) := by decide +kernel
theorem k107_26 : icode MCl 107 26 = some (.iaload, 27, 0, 0, 0) := by decide +kernel
theorem k107_27 : icode MCl 107 27 = some (.iastore, 28, 0, 0, 0) := by decide +kernel
theorem k107_28 : icode MCl 107 28 = some (.iinc 1 1, 31, 0, 0, 1) := by decide +kernel
theorem k107_31 : icode MCl 107 31 = some (.goto (-29), 34, 2, 0, 0) := by decide +kernel
theorem k107_34 : icode MCl 107 34 = some (.aload_n 0, 35, 0, 0, 0) := by decide +kernel
theorem k107_35 : icode MCl 107 35 = some (.aload_n 0, 36, 0, 0, 0) := by decide +kernel
theorem k107_36 : icode MCl 107 36 = some (.getfield 164, 39, 819, 793, 0) := by decide +kernel
theorem k107_39 : icode MCl 107 39 = some (.iconst 1, 40, 0, 0, 1) := by decide +kernel
theorem k107_40 : icode MCl 107 40 = some (.iadd, 41, 0, 0, 0) := by decide +kernel
theorem k107_41 : icode MCl 107 41 = some (.bipush 8, 43, 0, 0, 8) := by decide +kernel
theorem k107_43 : icode MCl 107 43 = some (.irem, 44, 0, 0, 0) := by decide +kernel
theorem k107_44 : icode MCl 107 44 = some (.putfield 164, 47, 819, 793, 0) := by decide +kernel
theorem k107_47 : icode MCl 107 47 = some (.aload_n 0, 48, 0, 0, 0) := by decide +kernel
theorem k107_48 : icode MCl 107 48 = some (.dup, 49, 0, 0, 0) := by decide +kernel
theorem k107_49 : icode MCl 107 49 = some (.getfield 126, 52, 818, 792, 0) := by decide +kernel
theorem k107_52 : icode MCl 107 52 = some (.aload_n 0, 53, 0, 0, 0) := by decide +kernel
theorem k107_53 : icode MCl 107 53 = some (.getfield 126, 56, 818, 792, 0) := by decide +kernel
theorem k107_56 : icode MCl 107 56 = some (.bipush 8, 58, 0, 0, 8) := by decide +kernel
theorem k107_58 : icode MCl 107 58 = some (.if_icmp .ge 7, 61, 65, 0, 0) := by decide +kernel
theorem k107_61 : icode MCl 107 61 = some (.iconst 1, 62, 0, 0, 1) := by decide +kernel
theorem k107_62 : icode MCl 107 62 = some (.goto 4, 65, 66, 0, 0) := by decide +kernel
theorem k107_65 : icode MCl 107 65 = some (.iconst 0, 66, 0, 0, 0) := by decide +kernel
theorem k107_66 : icode MCl 107 66 = some (.iadd, 67, 0, 0, 0) := by decide +kernel
theorem k107_67 : icode MCl 107 67 = some (.putfield 126, 70, 818, 792, 0) := by decide +kernel
theorem k107_70 : icode MCl 107 70 = some (.return_, 71, 0, 0, 0) := by decide +kernel
theorem k108_0 : icode MCl 108 0 = some (.iload_n 0, 1, 0, 0, 0) := by decide +kernel
theorem k108_1 : icode MCl 108 1 = some (.iload_n 1, 2, 0, 0, 0) := by decide +kernel
theorem k108_2 : icode MCl 108 2 = some (.ishr, 3, 0, 0, 0) := by decide +kernel
theorem k108_3 : icode MCl 108 3 = some (.iconst 1, 4, 0, 0, 1) := by decide +kernel
theorem k108_4 : icode MCl 108 4 = some (.iand, 5, 0, 0, 0) := by decide +kernel
theorem k108_5 : icode MCl 108 5 = some (.iconst 1, 6, 0, 0, 1) := by decide +kernel
theorem k108_6 : icode MCl 108 6 = some (.if_icmp .ne 7, 9, 13, 0, 0) := by decide +kernel
theorem k108_9 : icode MCl 108 9 = some (.iconst 1, 10, 0, 0, 1) := by decide +kernel
theorem k108_10 : icode MCl 108 10 = some (.goto 4, 13, 14, 0, 0) := by decide +kernel
theorem k108_13 : icode MCl 108 13 = some (.iconst 0, 14, 0, 0, 0) := by decide +kernel
theorem k108_14 : icode MCl 108 14 = some (.ireturn, 15, 0, 0, 0) := by decide +kernel
theorem k109_0 : icode MCl 109 0 = some (.iconst 3, 1, 0, 0, 3) := by decide +kernel
theorem k109_1 : icode MCl 109 1 = some (.bipush 6, 3, 0, 0, 6) := by decide +kernel
theorem k109_3 : icode MCl 109 3 = some (.iload_n 2, 4, 0, 0, 0) := by decide +kernel
theorem k109_4 : icode MCl 109 4 = some (.imul, 5, 0, 0, 0) := by decide +kernel
theorem k109_5 : icode MCl 109 5 = some (.iadd, 6, 0, 0, 0) := by decide +kernel
theorem k109_6 : icode MCl 109 6 = some (.istore_n 3, 7, 0, 0, 0) := by decide +kernel
theorem k109_7 : icode MCl 109 7 = some (.aload_n 1, 8, 0, 0, 0) := by decide +kernel
theorem k109_8 : icode MCl 109 8 = some (.iload_n 3, 9, 0, 0, 0) := by decide +kernel
theorem k109_9 : icode MCl 109 9 = some (.iconst 1, 10, 0, 0, 1) := by decide +kernel
theorem k109_10 : icode MCl 109 10 = some (.iadd, 11, 0, 0, 0) := by decide +kernel
theorem k109_11 : icode MCl 109 11 = some (.iaload, 12, 0, 0, 0) := by decide +kernel
theorem k109_12 : icode MCl 109 12 = some (.ifCond .ne 20, 15, 32, 0, 0) := by decide +kernel
theorem k109_15 : icode MCl 109 15 = some (.aload_n 1, 16, 0, 0, 0) := by decide +kernel
theorem k109_16 : icode MCl 109 16 = some (.iload_n 3, 17, 0, 0, 0) := by decide +kernel
theorem k109_17 : icode MCl 109 17 = some (.iconst 0, 18, 0, 0, 0) := by decide +kernel
theorem k109_18 : icode MCl 109 18 = some (.iadd, 19, 0, 0, 0) := by decide +kernel
theorem k109_19 : icode MCl 109 19 = some (.iaload, 20, 0, 0, 0) := by decide +kernel
theorem k109_20 : icode MCl 109 20 = some (.aload_n 1, 21, 0, 0, 0) := by decide +kernel
theorem k109_21 : icode MCl 109 21 = some (.iconst 0, 22, 0, 0, 0) := by decide +kernel
theorem k109_22 : icode MCl 109 22 = some (.iaload, 23, 0, 0, 0) := by decide +kernel
theorem k109_23 : icode MCl 109 23 = some (.if_icmp .ne 9, 26, 32, 0, 0) := by decide +kernel
theorem k109_26 : icode MCl 109 26 = some (.aload_n 1, 27, 0, 0, 0) := by decide +kernel
theorem k109_27 : icode MCl 109 27 = some (.iload_n 3, 28, 0, 0, 0) := by decide +kernel
theorem k109_28 : icode MCl 109 28 = some (.iconst 1, 29, 0, 0, 1) := by decide +kernel
theorem k109_29 : icode MCl 109 29 = some (.iadd, 30, 0, 0, 0) := by decide +kernel
theorem k109_30 : icode MCl 109 30 = some (.iconst 1, 31, 0, 0, 1) := by decide +kernel
theorem k109_31 : icode MCl 109 31 = some (.iastore, 32, 0, 0, 0) := by decide +kernel
theorem k109_32 : icode MCl 109 32 = some (.aload_n 1, 33, 0, 0, 0) := by decide +kernel
theorem k109_33 : icode MCl 109 33 = some (.iload_n 3, 34, 0, 0, 0) := by decide +kernel
theorem k109_34 : icode MCl 109 34 = some (.iconst 2, 35, 0, 0, 2) := by decide +kernel
theorem k109_35 : icode MCl 109 35 = some (.iadd, 36, 0, 0, 0) := by decide +kernel
theorem k109_36 : icode MCl 109 36 = some (.iaload, 37, 0, 0, 0) := by decide +kernel
theorem k109_37 : icode MCl 109 37 = some (.istore 4, 39, 0, 0, 0) := by decide +kernel
theorem k109_39 : icode MCl 109 39 = some (.aload_n 1, 40, 0, 0, 0) := by decide +kernel
theorem k109_40 : icode MCl 109 40 = some (.iload_n 3, 41, 0, 0, 0) := by decide +kernel
theorem k109_41 : icode MCl 109 41 = some (.iconst 1, 42, 0, 0, 1) := by decide +kernel
theorem k109_42 : icode MCl 109 42 = some (.iadd, 43, 0, 0, 0) := by decide +kernel
theorem k109_43 : icode MCl 109 43 = some (.iaload, 44, 0, 0, 0) := by decide +kernel
theorem k109_44 : icode MCl 109 44 = some (.iconst 1, 45, 0, 0, 1) := by decide +kernel
theorem k109_45 : icode MCl 109 45 = some (.if_icmp .ne 34, 48, 79, 0, 0) := by decide +kernel
theorem k109_48 : icode MCl 109 48 = some (.aload_n 1, 49, 0, 0, 0) := by decide +kernel
theorem k109_49 : icode MCl 109 49 = some (.iload_n 3, 50, 0, 0, 0) := by decide +kernel
theorem k109_50 : icode MCl 109 50 = some (.iconst 4, 51, 0, 0, 4) := by decide +kernel
theorem k109_51 : icode MCl 109 51 = some (.iadd, 52, 0, 0, 0) := by decide +kernel
theorem k109_52 : icode MCl 109 52 = some (.iaload, 53, 0, 0, 0) := by decide +kernel
theorem k109_53 : icode MCl 109 53 = some (.ifCond .ne 26, 56, 79, 0, 0) := by decide +kernel
theorem k109_56 : icode MCl 109 56 = some (.aload_n 1, 57, 0, 0, 0) := by decide +kernel
theorem k109_57 : icode MCl 109 57 = some (.iconst 1, 58, 0, 0, 1) := by decide +kernel
theorem k109_58 : icode MCl 109 58 = some (.iaload, 59, 0, 0, 0) := by decide +kernel
theorem k109_59 : icode MCl 109 59 = some (.iload 4, 61, 0, 0, 0) := by decide +kernel
theorem k109_61 : icode MCl 109 61 = some (.invokestatic 156, 64, 108, 953, 0) := by decide +kernel
theorem k109_64 : icode MCl 109 64 = some (.ifCond .ne 15, 67, 79, 0, 0) := by decide +kernel
theorem k109_67 : icode MCl 109 67 = some (.aload_n 1, 68, 0, 0, 0) := by decide +kernel
theorem k109_68 : icode MCl 109 68 = some (.iload_n 3, 69, 0, 0, 0) := by decide +kernel
theorem k109_69 : icode MCl 109 69 = some (.iconst 4, 70, 0, 0, 4) := by decide +kernel
theorem k109_70 : icode MCl 109 70 = some (.iadd, 71, 0, 0, 0) := by decide +kernel
theorem k109_71 : icode MCl 109 71 = some (.aload_n 0, 72, 0, 0, 0) := by decide +kernel
theorem k109_72 : icode MCl 109 72 = some (.getfield 34, 75, 814, 788, 1) := by decide +kernel
theorem k109_75 : icode MCl 109 75 = some (.iload 4, 77, 0, 0, 0) := by decide +kernel
theorem k109_77 : icode MCl 109 77 = some (.iaload, 78, 0, 0, 0) := by decide +kernel
theorem k109_78 : icode MCl 109 78 = some (.iastore, 79, 0, 0, 0) := by decide +kernel
theorem k109_79 : icode MCl 109 79 = some (.aload_n 1, 80, 0, 0, 0) := by decide +kernel
theorem k109_80 : icode MCl 109 80 = some (.iload_n 3, 81, 0, 0, 0) := by decide +kernel
theorem k109_81 : icode MCl 109 81 = some (.iconst 1, 82, 0, 0, 1) := by decide +kernel
theorem k109_82 : icode MCl 109 82 = some (.iadd, 83, 0, 0, 0) := by decide +kernel
theorem k109_83 : icode MCl 109 83 = some (.iaload, 84, 0, 0, 0) := by decide +kernel
theorem k109_84 : icode MCl 109 84 = some (.iconst 1, 85, 0, 0, 1) := by decide +kernel
theorem k109_85 : icode MCl 109 85 = some (.if_icmp .ne 107, 88, 192, 0, 0) := by decide +kernel
theorem k109_88 : icode MCl 109 88 = some (.aload_n 1, 89, 0, 0, 0) := by decide +kernel
theorem k109_89 : icode MCl 109 89 = some (.iload_n 3, 90, 0, 0, 0) := by decide +kernel
theorem k109_90 : icode MCl 109 90 = some (.iconst 4, 91, 0, 0, 4) := by decide +kernel
theorem k109_91 : icode MCl 109 91 = some (.iadd, 92, 0, 0, 0) := by decide +kernel
theorem k109_92 : icode MCl 109 92 = some (.iaload, 93, 0, 0, 0) := by decide +kernel
theorem k109_93 : icode MCl 109 93 = some (.ifCond .le 99, 96, 192, 0, 0) := by decide +kernel
theorem k109_96 : icode MCl 109 96 = some (.aload_n 1, 97, 0, 0, 0) := by decide +kernel
theorem k109_97 : icode MCl 109 97 = some (.iload_n 3, 98, 0, 0, 0) := by decide +kernel
theorem k109_98 : icode MCl 109 98 = some (.iconst 4, 99, 0, 0, 4) := by decide +kernel
theorem k109_99 : icode MCl 109 99 = some (.iadd, 100, 0, 0, 0) := by decide +kernel
theorem k109_100 : icode MCl 109 100 = some (.dup2, 101, 0, 0, 0) := by decide +kernel
theorem k109_101 : icode MCl 109 101 = some (.iaload, 102, 0, 0, 0) := by decide +kernel
theorem k109_102 : icode MCl 109 102 = some (.iconst 1, 103, 0, 0, 1) := by decide +kernel
theorem k109_103 : icode MCl 109 103 = some (.isub, 104, 0, 0, 0) := by decide +kernel
theorem k109_104 : icode MCl 109 104 = some (.iastore, 105, 0, 0, 0) := by decide +kernel
theorem k109_105 : icode MCl 109 105 = some (.aload_n 1, 106, 0, 0, 0) := by decide +kernel
theorem k109_106 : icode MCl 109 106 = some (.iload_n 3, 107, 0, 0, 0) := by decide +kernel
theorem k109_107 : icode MCl 109 107 = some (.iconst 4, 108, 0, 0, 4) := by decide +kernel
theorem k109_108 : icode MCl 109 108 = some (.iadd, 109, 0, 0, 0) := by decide +kernel
theorem k109_109 : icode MCl 109 109 = some (.iaload, 110, 0, 0, 0) := by decide +kernel
theorem k109_110 : icode MCl 109 110 = some (.ifCond .ne 82, 113, 192, 0, 0) := by decide +kernel
theorem k109_113 : icode MCl 109 113 = some (.aload_n 1, 114, 0, 0, 0) := by decide +kernel
theorem k109_114 : icode MCl 109 114 = some (.iload_n 3, 115, 0, 0, 0) := by decide +kernel
theorem k109_115 : icode MCl 109 115 = some (.iconst 3, 116, 0, 0, 3) := by decide +kernel
theorem k109_116 : icode MCl 109 116 = some (.iadd, 117, 0, 0, 0) := by decide +kernel
theorem k109_117 : icode MCl 109 117 = some (.aload_n 0, 118, 0, 0, 0) := by decide +kernel
theorem k109_118 : icode MCl 109 118 = some (.getfield 31, 121, 813, 787, 1) := by decide +kernel
theorem k109_121 : icode MCl 109 121 = some (.iload 4, 123, 0, 0, 0) := by decide +kernel
theorem k109_123 : icode MCl 109 123 = some (.iaload, 124, 0, 0, 0) := by decide +kernel
theorem k109_124 : icode MCl 109 124 = some (.aload_n 1, 125, 0, 0, 0) := by decide +kernel
theorem k109_125 : icode MCl 109 125 = some (.iload_n 3, 126, 0, 0, 0) := by decide +kernel
theorem k109_126 : icode MCl 109 126 = some (.iconst 3, 127, 0, 0, 3) := by decide +kernel
theorem k109_127 : icode MCl 109 127 = some (.iadd, 128, 0, 0, 0) := by decide +kernel
theorem k109_128 : icode MCl 109 128 = some (.iaload, 129, 0, 0, 0) := by decide +kernel
theorem k109_129 : icode MCl 109 129 = some (.invokestatic 152, 132, 97, 928, 0) := by decide +kernel
theorem k109_132 : icode MCl 109 132 = some (.iastore, 133, 0, 0, 0) := by decide +kernel
theorem k109_133 : icode MCl 109 133 = some (.aload_n 1, 134, 0, 0, 0) := by decide +kernel
theorem k109_134 : icode MCl 109 134 = some (.iload_n 3, 135, 0, 0, 0) := by decide +kernel
theorem k109_135 : icode MCl 109 135 = some (.iconst 1, 136, 0, 0, 1) := by decide +kernel
theorem k109_136 : icode MCl 109 136 = some (.iadd, 137, 0, 0, 0) := by decide +kernel
theorem k109_137 : icode MCl 109 137 = some (.aload_n 0, 138, 0, 0, 0) := by decide +kernel
theorem k109_138 : icode MCl 109 138 = some (.getfield 37, 141, 815, 789, 1) := by decide +kernel
theorem k109_141 : icode MCl 109 141 = some (.iload 4, 143, 0, 0, 0) := by decide +kernel
theorem k109_143 : icode MCl 109 143 = some (.iaload, 144, 0, 0, 0) := by decide +kernel
theorem k109_144 : icode MCl 109 144 = some (.iload 4, 146, 0, 0, 0) := by decide +kernel
theorem k109_146 : icode MCl 109 146 = some (.if_icmp .ne 7, 149, 153, 0, 0) := by decide +kernel
theorem k109_149 : icode MCl 109 149 = some (.iconst 2, 150, 0, 0, 2) := by decide +kernel
theorem k109_150 : icode MCl 109 150 = some (.goto 4, 153, 154, 0, 0) := by decide +kernel
theorem k109_153 : icode MCl 109 153 = some (.iconst 1, 154, 0, 0, 1) := by decide +kernel
theorem k109_154 : icode MCl 109 154 = some (.iastore, 155, 0, 0, 0) := by decide +kernel
theorem k109_155 : icode MCl 109 155 = some (.aload_n 1, 156, 0, 0, 0) := by decide +kernel
theorem k109_156 : icode MCl 109 156 = some (.iload_n 3, 157, 0, 0, 0) := by decide +kernel
theorem k109_157 : icode MCl 109 157 = some (.iconst 2, 158, 0, 0, 2) := by decide +kernel
theorem k109_158 : icode MCl 109 158 = some (.iadd, 159, 0, 0, 0) := by decide +kernel
theorem k109_159 : icode MCl 109 159 = some (.aload_n 0, 160, 0, 0, 0) := by decide +kernel
theorem k109_160 : icode MCl 109 160 = some (.getfield 37, 163, 815, 789, 1) := by decide +kernel
theorem k109_163 : icode MCl 109 163 = some (.iload 4, 165, 0, 0, 0) := by decide +kernel
theorem k109_165 : icode MCl 109 165 = some (.iaload, 166, 0, 0, 0) := by decide +kernel
theorem k109_166 : icode MCl 109 166 = some (.iastore, 167, 0, 0, 0) := by decide +kernel
theorem k109_167 : icode MCl 109 167 = some (.aload_n 1, 168, 0, 0, 0) := by decide +kernel
theorem k109_168 : icode MCl 109 168 = some (.iload_n 3, 169, 0, 0, 0) := by decide +kernel
theorem k109_169 : icode MCl 109 169 = some (.iconst 5, 170, 0, 0, 5) := by decide +kernel
theorem k109_170 : icode MCl 109 170 = some (.iadd, 171, 0, 0, 0) := by decide +kernel
theorem k109_171 : icode MCl 109 171 = some (.aload_n 0, 172, 0, 0, 0) := by decide +kernel
theorem k109_172 : icode MCl 109 172 = some (.getfield 37, 175, 815, 789, 1) := by decide +kernel
theorem k109_175 : icode MCl 109 175 = some (.iload 4, 177, 0, 0, 0) := by decide +kernel
theorem k109_177 : icode MCl 109 177 = some (.iaload, 178, 0, 0, 0) := by decide +kernel
theorem k109_178 : icode MCl 109 178 = some (.iload 4, 180, 0, 0, 0) := by decide +kernel
theorem k109_180 : icode MCl 109 180 = some (.if_icmp .ne 9, 183, 189, 0, 0) := by decide +kernel
theorem k109_183 : icode MCl 109 183 = some (.aload_n 1, 184, 0, 0, 0) := by decide +kernel
theorem k109_184 : icode MCl 109 184 = some (.iconst 0, 185, 0, 0, 0) := by decide +kernel
theorem k109_185 : icode MCl 109 185 = some (.iaload, 186, 0, 0, 0) := by decide +kernel
theorem k109_186 : icode MCl 109 186 = some (.goto 5, 189, 191, 0, 0) := by decide +kernel
theorem k109_189 : icode MCl 109 189 = some (.bipush (-4), 191, 0, 0, (-4)) := by decide +kernel
theorem k109_191 : icode MCl 109 191 = some (.iastore, 192, 0, 0, 0) := by decide +kernel
theorem k109_192 : icode MCl 109 192 = some (.return_, 193, 0, 0, 0) := by decide +kernel
theorem k110_0 : icode MCl 110 0 = some (.iconst 0, 1, 0, 0, 0) := by decide +kernel
theorem k110_1 : icode MCl 110 1 = some (.istore_n 2, 2, 0, 0, 0) := by decide +kernel
theorem k110_2 : icode MCl 110 2 = some (.iload_n 2, 3, 0, 0, 0) := by decide +kernel
theorem k110_3 : icode MCl 110 3 = some (.aload_n 1, 4, 0, 0, 0) := by decide +kernel
theorem k110_4 : icode MCl 110 4 = some (.iconst 2, 5, 0, 0, 2) := by decide +kernel
theorem k110_5 : icode MCl 110 5 = some (.iaload, 6, 0, 0, 0) := by decide +kernel
theorem k110_6 : icode MCl 110 6 = some (.if_icmp .ge 15, 9, 21, 0, 0) := by decide +kernel
theorem k110_9 : icode MCl 110 9 = some (.aload_n 0, 10, 0, 0, 0) := by decide +kernel
theorem k110_10 : icode MCl 110 10 = some (.aload_n 1, 11, 0, 0, 0) := by decide +kernel
theorem k110_11 : icode MCl 110 11 = some (.iload_n 2, 12, 0, 0, 0) := by decide +kernel
theorem k110_12 : icode MCl 110 12 = some (.invokevirtual 160, 15, 109, 949, 0) := by decide +kernel
theorem k110_15 : icode MCl 110 15 = some (.iinc 2 1, 18, 0, 0, 1) := by decide +kernel
theorem k110_18 : icode MCl 110 18 = some (.goto (-16), 21, 2, 0, 0) := by decide +kernel
theorem k110_21 : icode MCl 110 21 = some (.aload_n 1, 22, 0, 0, 0) := by decide +kernel
theorem k110_22 : icode MCl 110 22 = some (.iconst 0, 23, 0, 0, 0) := by decide +kernel
theorem k110_23 : icode MCl 110 23 = some (.dup2, 24, 0, 0, 0) := by decide +kernel
theorem k110_24 : icode MCl 110 24 = some (.iaload, 25, 0, 0, 0) := by decide +kernel
theorem k110_25 : icode MCl 110 25 = some (.iconst 1, 26, 0, 0, 1) := by decide +kernel
theorem k110_26 : icode MCl 110 26 = some (.iadd, 27, 0, 0, 0) := by decide +kernel
theorem k110_27 : icode MCl 110 27 = some (.iastore, 28, 0, 0, 0) := by decide +kernel
theorem k110_28 : icode MCl 110 28 = some (.return_, 29, 0, 0, 0) := by decide +kernel
theorem k111_0 : icode MCl 111 0 = some (.iconst 0, 1, 0, 0, 0) := by decide +kernel
theorem k111_1 : icode MCl 111 1 = some (.istore_n 1, 2, 0, 0, 0) := by decide +kernel
theorem k111_2 : icode MCl 111 2 = some (.iconst 0, 3, 0, 0, 0) := by decide +kernel
theorem k111_3 : icode MCl 111 3 = some (.istore_n 2, 4, 0, 0, 0) := by decide +kernel
theorem k111_4 : icode MCl 111 4 = some (.iload_n 2, 5, 0, 0, 0) := by decide +kernel
theorem k111_5 : icode MCl 111 5 = some (.aload_n 0, 6, 0, 0, 0) := by decide +kernel
theorem k111_6 : icode MCl 111 6 = some (.iconst 2, 7, 0, 0, 2) := by decide +kernel
theorem k111_7 : icode MCl 111 7 = some (.iaload, 8, 0, 0, 0) := by decide +kernel
theorem k111_8 : icode MCl 111 8 = some (.if_icmp .ge 27, 11, 35, 0, 0) := by decide +kernel
theorem k111_11 : icode MCl 111 11 = some (.iload_n 1, 12, 0, 0, 0) := by decide +kernel
theorem k111_12 : icode MCl 111 12 = some (.aload_n 0, 13, 0, 0, 0) := by decide +kernel
theorem k111_13 : icode MCl 111 13 = some (.iload_n 2, 14, 0, 0, 0) := by decide +kernel
theorem k111_14 : icode MCl 111 14 = some (.iconst 1, 15, 0, 0, 1) := by decide +kernel
theorem k111_15 : icode MCl 111 15 = some (.invokestatic 135, 18, 79, 909, 0) := by decide +kernel
theorem k111_18 : icode MCl 111 18 = some (.iconst 2, 19, 0, 0, 2) := by decide +kernel
theorem k111_19 : icode MCl 111 19 = some (.if_icmp .ne 7, 22, 26, 0, 0) := by decide +kernel
theorem k111_22 : icode MCl 111 22 = some (.iconst 1, 23, 0, 0, 1) := by decide +kernel
theorem k111_23 : icode MCl 111 23 = some (.goto 4, 26, 27, 0, 0) := by decide +kernel
theorem k111_26 : icode MCl 111 26 = some (.iconst 0, 27, 0, 0, 0) := by decide +kernel
theorem k111_27 : icode MCl 111 27 = some (.iadd, 28, 0, 0, 0) := by decide +kernel
theorem k111_28 : icode MCl 111 28 = some (.istore_n 1, 29, 0, 0, 0) := by decide +kernel
theorem k111_29 : icode MCl 111 29 = some (.iinc 2 1, 32, 0, 0, 1) := by decide +kernel
theorem k111_32 : icode MCl 111 32 = some (.goto (-28), 35, 4, 0, 0) := by decide +kernel
theorem k111_35 : icode MCl 111 35 = some (.iload_n 1, 36, 0, 0, 0) := by decide +kernel
theorem k111_36 : icode MCl 111 36 = some (.ireturn, 37, 0, 0, 0) := by decide +kernel
theorem k112_0 : icode MCl 112 0 = some (.iload_n 1, 1, 0, 0, 0) := by decide +kernel
theorem k112_1 : icode MCl 112 1 = some (.iconst 1, 2, 0, 0, 1) := by decide +kernel
theorem k112_2 : icode MCl 112 2 = some (.bipush 60, 4, 0, 0, 60) := by decide +kernel
theorem k112_4 : icode MCl 112 4 = some (.invokestatic 73, 7, 59, 854, 0) := by decide +kernel
theorem k112_7 : icode MCl 112 7 = some (.ifCond .ne 5, 10, 12, 0, 0) := by decide +kernel
theorem k112_10 : icode MCl 112 10 = some (.iconst (-1), 11, 0, 0, (-1)) := by decide +kernel
theorem k112_11 : icode MCl 112 11 = some (.ireturn, 12, 0, 0, 0) := by decide +kernel
theorem k112_12 : icode MCl 112 12 = some (.aload_n 0, 13, 0, 0, 0) := by decide +kernel
theorem k112_13 : icode MCl 112 13 = some (.invokevirtual 167, 16, 107, 941, 0) := by decide +kernel
theorem k112_16 : icode MCl 112 16 = some (.iconst 0, 17, 0, 0, 0) := by decide +kernel
theorem k112_17 : icode MCl 112 17 = some (.istore_n 2, 18, 0, 0, 0) := by decide +kernel
theorem k112_18 : icode MCl 112 18 = some (.iload_n 2, 19, 0, 0, 0) := by decide +kernel
theorem k112_19 : icode MCl 112 19 = some (.iload_n 1, 20, 0, 0, 0) := by decide +kernel
theorem k112_20 : icode MCl 112 20 = some (.if_icmp .ge 17, 23, 37, 0, 0) := by decide +kernel
theorem k112_23 : icode MCl 112 23 = some (.aload_n 0, 24, 0, 0, 0) := by decide +kernel
theorem k112_24 : icode MCl 112 24 = some (.aload_n 0, 25, 0, 0, 0) := by decide +kernel
theorem k112_25 : icode MCl 112 25 = some (.getfield 40, 28, 816, 790, 1) := by decide +kernel
theorem k112_28 : icode MCl 112 28 = some (.invokevirtual 170, 31, 110, 945, 0) := by decide +kernel
theorem k112_31 : icode MCl 112 31 = some (.iinc 2 1, 34, 0, 0, 1) := by decide +kernel
theorem k112_34 : icode MCl 112 34 = some (.goto (-16), 37, 18, 0, 0) := by decide +kernel
theorem k112_37 : icode MCl 112 37 = some (.aload_n 0, 38, 0, 0, 0) := by decide +kernel
theorem k112_38 : icode MCl 112 38 = some (.getfield 40, 41, 816, 790, 1) := by decide +kernel
theorem k112_41 : icode MCl 112 41 = some (.invokestatic 174, 44, 111, 956, 0) := by decide +kernel
theorem k112_44 : icode MCl 112 44 = some (.ireturn, 45, 0, 0, 0) := by decide +kernel
theorem k113_0 : icode MCl 113 0 = some (.aload_n 0, 1, 0, 0, 0) := by decide +kernel
theorem k113_1 : icode MCl 113 1 = some (.getfield 24, 4, 702, 411, 1) := by decide +kernel
theorem k113_4 : icode MCl 113 4 = some (.iload_n 1, 5, 0, 0, 0) := by decide +kernel
theorem k113_5 : icode MCl 113 5 = some (.invokevirtual 93, 8, 29, 461, 0) := by decide +kernel
theorem k113_8 : icode MCl 113 8 = some (.ifCond .ne 5, 11, 13, 0, 0) := by decide +kernel
theorem k113_11 : icode MCl 113 11 = some (.iconst (-1), 12, 0, 0, (-1)) := by decide +kernel
theorem k113_12 : icode MCl 113 12 = some (.ireturn, 13, 0, 0, 0) := by decide +kernel
theorem k113_13 : icode MCl 113 13 = some (.aload_n 0, 14, 0, 0, 0) := by decide +kernel
theorem k113_14 : icode MCl 113 14 = some (.getfield 43, 17, 705, 414, 1) := by decide +kernel
theorem k113_17 : icode MCl 113 17 = some (.aload_n 0, 18, 0, 0, 0) := by decide +kernel
theorem k113_18 : icode MCl 113 18 = some (.getfield 31, 21, 703, 412, 1) := by decide +kernel
theorem k113_21 : icode MCl 113 21 = some (.invokevirtual 147, 24, 100, 515, 0) := by decide +kernel
theorem k113_24 : icode MCl 113 24 = some (.aload_n 0, 25, 0, 0, 0) := by decide +kernel
theorem k113_25 : icode MCl 113 25 = some (.getfield 31, 28, 703, 412, 1) := by decide +kernel
theorem k113_28 : icode MCl 113 28 = some (.iload_n 1, 29, 0, 0, 0) := by decide +kernel
theorem k113_29 : icode MCl 113 29 = some (.invokevirtual 158, 32, 36, 553, 0) := by decide +kernel
theorem k113_32 : icode MCl 113 32 = some (.aload_n 0, 33, 0, 0, 0) := by decide +kernel
theorem k113_33 : icode MCl 113 33 = some (.getfield 31, 36, 703, 412, 1) := by decide +kernel
theorem k113_36 : icode MCl 113 36 = some (.iload_n 1, 37, 0, 0, 0) := by decide +kernel
theorem k113_37 : icode MCl 113 37 = some (.invokevirtual 106, 40, 35, 465, 0) := by decide +kernel
theorem k113_40 : icode MCl 113 40 = some (.ifCond .eq 7, 43, 47, 0, 0) := by decide +kernel
theorem k113_43 : icode MCl 113 43 = some (.iconst 1, 44, 0, 0, 1) := by decide +kernel
theorem k113_44 : icode MCl 113 44 = some (.goto 4, 47, 48, 0, 0) := by decide +kernel
theorem k113_47 : icode MCl 113 47 = some (.iconst 0, 48, 0, 0, 0) := by decide +kernel
theorem k113_48 : icode MCl 113 48 = some (.ireturn, 49, 0, 0, 0) := by decide +kernel
theorem k114_0 : icode MCl 114 0 = some (.aload_n 0, 1, 0, 0, 0) := by decide +kernel
theorem k114_1 : icode MCl 114 1 = some (.iload_n 1, 2, 0, 0, 0) := by decide +kernel
theorem k114_2 : icode MCl 114 2 = some (.invokevirtual 139, 5, 78, 901, 0) := by decide +kernel
theorem k114_5 : icode MCl 114 5 = some (.ifCond .ne 5, 8, 10, 0, 0) := by decide +kernel
theorem k114_8 : icode MCl 114 8 = some (.iconst (-1), 9, 0, 0, (-1)) := by decide +kernel
theorem k114_9 : icode MCl 114 9 = some (.ireturn, 10, 0, 0, 0) := by decide +kernel
theorem k114_10 : icode MCl 114 10 = some (.aload_n 0, 11, 0, 0, 0) := by decide +kernel
theorem k114_11 : icode MCl 114 11 = some (.invokevirtual 167, 14, 107, 941, 0) := by decide +kernel
theorem k114_14 : icode MCl 114 14 = some (.aload_n 0, 15, 0, 0, 0) := by decide +kernel
theorem k114_15 : icode MCl 114 15 = some (.getfield 40, 18, 816, 790, 1) := by decide +kernel
theorem k114_18 : icode MCl 114 18 = some (.iconst 1, 19, 0, 0, 1) := by decide +kernel
theorem k114_19 : icode MCl 114 19 = some (.dup2, 20, 0, 0, 0) := by decide +kernel
theorem k114_20 : icode MCl 114 20 = some (.iaload, 21, 0, 0, 0) := by decide +kernel
theorem k114_21 : icode MCl 114 21 = some (.iconst 1, 22, 0, 0, 1) := by decide +kernel
theorem k114_22 : icode MCl 114 22 = some (.iload_n 1, 23, 0, 0, 0) := by decide +kernel
theorem k114_23 : icode MCl 114 23 = some (.ishl, 24, 0, 0, 0) := by decide +kernel
theorem k114_24 : icode MCl 114 24 = some (.ixor, 25, 0, 0, 0) := by decide +kernel
theorem k114_25 : icode MCl 114 25 = some (.iastore, 26, 0, 0, 0) := by decide +kernel
theorem k114_26 : icode MCl 114 26 = some (.aload_n 0, 27, 0, 0, 0) := by decide +kernel
theorem k114_27 : icode MCl 114 27 = some (.getfield 40, 30, 816, 790, 1) := by decide +kernel
theorem k114_30 : icode MCl 114 30 = some (.iconst 1, 31, 0, 0, 1) := by decide +kernel
theorem k114_31 : icode MCl 114 31 = some (.iaload, 32, 0, 0, 0) := by decide +kernel
theorem k114_32 : icode MCl 114 32 = some (.iload_n 1, 33, 0, 0, 0) := by decide +kernel
theorem k114_33 : icode MCl 114 33 = some (.ishr, 34, 0, 0, 0) := by decide +kernel
theorem k114_34 : icode MCl 114 34 = some (.iconst 1, 35, 0, 0, 1) := by decide +kernel
theorem k114_35 : icode MCl 114 35 = some (.iand, 36, 0, 0, 0) := by decide +kernel
theorem k114_36 : icode MCl 114 36 = some (.ireturn, 37, 0, 0, 0) := by decide +kernel
theorem k115_0 : icode MCl 115 0 = some (.aload_n 0, 1, 0, 0, 0) := by decide +kernel
theorem k115_1 : icode MCl 115 1 = some (.getfield 22, 4, 202, 145, 0) := by decide +kernel
theorem k115_4 : icode MCl 115 4 = some (.ireturn, 5, 0, 0, 0) := by decide +kernel
theorem k116_0 : icode MCl 116 0 = some (.aload_n 0, 1, 0, 0, 0) := by decide +kernel
theorem k116_1 : icode MCl 116 1 = some (.getfield 26, 4, 203, 146, 0) := by decide +kernel
theorem k116_4 : icode MCl 116 4 = some (.ireturn, 5, 0, 0, 0) := by decide +kernel
theorem k117_0 : icode MCl 117 0 = some (.aload_n 0, 1, 0, 0, 0) := by decide +kernel
theorem k117_1 : icode MCl 117 1 = some (.getfield 24, 4, 702, 411, 1) := by decide +kernel
theorem k117_4 : icode MCl 117 4 = some (.iload_n 1, 5, 0, 0, 0) := by decide +kernel
theorem k117_5 : icode MCl 117 5 = some (.invokevirtual 93, 8, 29, 461, 0) := by decide +kernel
theorem k117_8 : icode MCl 117 8 = some (.ifCond .eq 10, 11, 18, 0, 0) := by decide +kernel
theorem k117_11 : icode MCl 117 11 = some (.iload_n 2, 12, 0, 0, 0) := by decide +kernel
theorem k117_12 : icode MCl 117 12 = some (.invokestatic 161, 15, 88, 558, 0) := by decide +kernel
theorem k117_15 : icode MCl 117 15 = some (.ifCond .ne 5, 18, 20, 0, 0) := by decide +kernel
theorem k117_18 : icode MCl 117 18 = some (.iconst (-1), 19, 0, 0, (-1)) := by decide +kernel
theorem k117_19 : icode MCl 117 19 = some (.ireturn, 20, 0, 0, 0) := by decide +kernel
theorem k117_20 : icode MCl 117 20 = some (.aload_n 0, 21, 0, 0, 0) := by decide +kernel
theorem k117_21 : icode MCl 117 21 = some (.getfield 31, 24, 703, 412, 1) := by decide +kernel
theorem k117_24 : icode MCl 117 24 = some (.invokevirtual 164, 27, 115, 559, 0) := by decide +kernel
theorem k117_27 : icode MCl 117 27 = some (.bipush 6, 29, 0, 0, 6) := by decide +kernel
theorem k117_29 : icode MCl 117 29 = some (.if_icmp .lt 6, 32, 35, 0, 0) := by decide +kernel
theorem k117_32 : icode MCl 117 32 = some (.bipush (-3), 34, 0, 0, (-3)) := by decide +kernel
theorem k117_34 : icode MCl 117 34 = some (.ireturn, 35, 0, 0, 0) := by decide +kernel
theorem k117_35 : icode MCl 117 35 = some (.aload_n 0, 36, 0, 0, 0) := by decide +kernel
theorem k117_36 : icode MCl 117 36 = some (.getfield 43, 39, 705, 414, 1) := by decide +kernel
theorem k117_39 : icode MCl 117 39 = some (.aload_n 0, 40, 0, 0, 0) := by decide +kernel
theorem k117_40 : icode MCl 117 40 = some (.getfield 31, 43, 703, 412, 1) := by decide +kernel
theorem k117_43 : icode MCl 117 43 = some (.invokevirtual 147, 46, 100, 515, 0) := by decide +kernel
theorem k117_46 : icode MCl 117 46 = some (.aload_n 0, 47, 0, 0, 0) := by decide +kernel
theorem k117_47 : icode MCl 117 47 = some (.getfield 31, 50, 703, 412, 1) := by decide +kernel
theorem k117_50 : icode MCl 117 50 = some (.iload_n 1, 51, 0, 0, 0) := by decide +kernel
theorem k117_51 : icode MCl 117 51 = some (.aload_n 0, 52, 0, 0, 0) := by decide +kernel
theorem k117_52 : icode MCl 117 52 = some (.getfield 31, 55, 703, 412, 1) := by decide +kernel
theorem k117_55 : icode MCl 117 55 = some (.invokevirtual 165, 58, 116, 563, 0) := by decide +kernel
theorem k117_58 : icode MCl 117 58 = some (.iload_n 2, 59, 0, 0, 0) := by decide +kernel
theorem k117_59 : icode MCl 117 59 = some (.invokevirtual 168, 62, 32, 567, 0) := by decide +kernel
theorem k117_62 : icode MCl 117 62 = some (.pop, 63, 0, 0, 0) := by decide +kernel
theorem k117_63 : icode MCl 117 63 = some (.aload_n 0, 64, 0, 0, 0) := by decide +kernel
theorem k117_64 : icode MCl 117 64 = some (.getfield 31, 67, 703, 412, 1) := by decide +kernel
theorem k117_67 : icode MCl 117 67 = some (.invokevirtual 164, 70, 115, 559, 0) := by decide +kernel
theorem k117_70 : icode MCl 117 70 = some (.iconst 1, 71, 0, 0, 1) := by decide +kernel
theorem k117_71 : icode MCl 117 71 = some (.isub, 72, 0, 0, 0) := by decide +kernel
theorem k117_72 : icode MCl 117 72 = some (.ireturn, 73, 0, 0, 0) := by decide +kernel
theorem k118_0 : icode MCl 118 0 = some (.aload_n 0, 1, 0, 0, 0) := by decide +kernel
theorem k118_1 : icode MCl 118 1 = some (.iload_n 1, 2, 0, 0, 0) := by decide +kernel
theorem k118_2 : icode MCl 118 2 = some (.invokevirtual 139, 5, 78, 901, 0) := by decide +kernel
theorem k118_5 : icode MCl 118 5 = some (.ifCond .eq 10, 8, 15, 0, 0) := by decide +kernel
theorem k118_8 : icode MCl 118 8 = some (.iload_n 2, 9, 0, 0, 0) := by decide +kernel
theorem k118_9 : icode MCl 118 9 = some (.invokestatic 149, 12, 94, 924, 0) := by decide +kernel
theorem k118_12 : icode MCl 118 12 = some (.ifCond .ne 5, 15, 17, 0, 0) := by decide +kernel
theorem k118_15 : icode MCl 118 15 = some (.iconst (-1), 16, 0, 0, (-1)) := by decide +kernel
theorem k118_16 : icode MCl 118 16 = some (.ireturn, 17, 0, 0, 0) := by decide +kernel
theorem k118_17 : icode MCl 118 17 = some (.aload_n 0, 18, 0, 0, 0) := by decide +kernel
theorem k118_18 : icode MCl 118 18 = some (.getfield 40, 21, 816, 790, 1) := by decide +kernel
theorem k118_21 : icode MCl 118 21 = some (.iconst 2, 22, 0, 0, 2) := by decide +kernel
theorem k118_22 : icode MCl 118 22 = some (.iaload, 23, 0, 0, 0) := by decide +kernel
theorem k118_23 : icode MCl 118 23 = some (.bipush 6, 25, 0, 0, 6) := by decide +kernel
theorem k118_25 : icode MCl 118 25 = some (.if_icmp .ne 6, 28, 31, 0, 0) := by decide +kernel
theorem k118_28 : icode MCl 118 28 = some (.bipush (-3), 30, 0, 0, (-3)) := by decide +kernel
theorem k118_30 : icode MCl 118 30 = some (.ireturn, 31, 0, 0, 0) := by decide +kernel
theorem k118_31 : icode MCl 118 31 = some (.aload_n 0, 32, 0, 0, 0) := by decide +kernel
theorem k118_32 : icode MCl 118 32 = some (.invokevirtual 167, 35, 107, 941, 0) := by decide +kernel
theorem k118_35 : icode MCl 118 35 = some (.aload_n 0, 36, 0, 0, 0) := by decide +kernel
theorem k118_36 : icode MCl 118 36 = some (.getfield 40, 39, 816, 790, 1) := by decide +kernel
theorem k118_39 : icode MCl 118 39 = some (.iload_n 1, 40, 0, 0, 0) := by decide +kernel
theorem k118_40 : icode MCl 118 40 = some (.aload_n 0, 41, 0, 0, 0) := by decide +kernel
theorem k118_41 : icode MCl 118 41 = some (.getfield 40, 44, 816, 790, 1) := by decide +kernel
theorem k118_44 : icode MCl 118 44 = some (.iconst 0, 45, 0, 0, 0) := by decide +kernel
theorem k118_45 : icode MCl 118 45 = some (.iaload, 46, 0, 0, 0) := by decide +kernel
theorem k118_46 : icode MCl 118 46 = some (.iload_n 2, 47, 0, 0, 0) := by decide +kernel
theorem k118_47 : icode MCl 118 47 = some (.invokestatic 122, 50, 55, 771, 0) := by decide +kernel
theorem k118_50 : icode MCl 118 50 = some (.aload_n 0, 51, 0, 0, 0) := by decide +kernel
theorem k118_51 : icode MCl 118 51 = some (.getfield 40, 54, 816, 790, 1) := by decide +kernel
theorem k118_54 : icode MCl 118 54 = some (.iconst 2, 55, 0, 0, 2) := by decide +kernel
theorem k118_55 : icode MCl 118 55 = some (.iaload, 56, 0, 0, 0) := by decide +kernel
theorem k118_56 : icode MCl 118 56 = some (.iconst 1, 57, 0, 0, 1) := by decide +kernel
theorem k118_57 : icode MCl 118 57 = some (.isub, 58, 0, 0, 0) := by decide +kernel
theorem k118_58 : icode MCl 118 58 = some (.ireturn, 59, 0, 0, 0) := by decide +kernel
theorem k119_0 : icode MCl 119 0 = some (.aload_n 0, 1, 0, 0, 0) := by decide +kernel
theorem k119_1 : icode MCl 119 1 = some (.getfield 31, 4, 703, 412, 1) := by decide +kernel
theorem k119_4 : icode MCl 119 4 = some (.iload_n 1, 5, 0, 0, 0) := by decide +kernel
theorem k119_5 : icode MCl 119 5 = some (.invokevirtual 112, 8, 82, 478, 0) := by decide +kernel
theorem k119_8 : icode MCl 119 8 = some (.ifCond .eq 10, 11, 18, 0, 0) := by decide +kernel
theorem k119_11 : icode MCl 119 11 = some (.iload_n 2, 12, 0, 0, 0) := by decide +kernel
theorem k119_12 : icode MCl 119 12 = some (.invokestatic 161, 15, 88, 558, 0) := by decide +kernel
theorem k119_15 : icode MCl 119 15 = some (.ifCond .ne 5, 18, 20, 0, 0) := by decide +kernel
theorem k119_18 : icode MCl 119 18 = some (.iconst (-1), 19, 0, 0, (-1)) := by decide +kernel
theorem k119_19 : icode MCl 119 19 = some (.ireturn, 20, 0, 0, 0) := by decide +kernel
theorem k119_20 : icode MCl 119 20 = some (.aload_n 0, 21, 0, 0, 0) := by decide +kernel
theorem k119_21 : icode MCl 119 21 = some (.getfield 31, 24, 703, 412, 1) := by decide +kernel
theorem k119_24 : icode MCl 119 24 = some (.iload_n 1, 25, 0, 0, 0) := by decide +kernel
theorem k119_25 : icode MCl 119 25 = some (.invokevirtual 113, 28, 30, 482, 0) := by decide +kernel
theorem k119_28 : icode MCl 119 28 = some (.astore_n 3, 29, 0, 0, 0) := by decide +kernel
theorem k119_29 : icode MCl 119 29 = some (.aload_n 3, 30, 0, 0, 0) := by decide +kernel
theorem k119_30 : icode MCl 119 30 = some (.getfield 123, 33, 101, 118, 0) := by decide +kernel
theorem k119_33 : icode MCl 119 33 = some (.iconst 1, 34, 0, 0, 1) := by decide +kernel
theorem k119_34 : icode MCl 119 34 = some (.if_icmp .eq 6, 37, 40, 0, 0) := by decide +kernel
theorem k119_37 : icode MCl 119 37 = some (.bipush (-2), 39, 0, 0, (-2)) := by decide +kernel
theorem k119_39 : icode MCl 119 39 = some (.ireturn, 40, 0, 0, 0) := by decide +kernel
theorem k119_40 : icode MCl 119 40 = some (.aload_n 0, 41, 0, 0, 0) := by decide +kernel
theorem k119_41 : icode MCl 119 41 = some (.getfield 43, 44, 705, 414, 1) := by decide +kernel
theorem k119_44 : icode MCl 119 44 = some (.aload_n 0, 45, 0, 0, 0) := by decide +kernel
theorem k119_45 : icode MCl 119 45 = some (.getfield 31, 48, 703, 412, 1) := by decide +kernel
theorem k119_48 : icode MCl 119 48 = some (.invokevirtual 147, 51, 100, 515, 0) := by decide +kernel
theorem k119_51 : icode MCl 119 51 = some (.aload_n 3, 52, 0, 0, 0) := by decide +kernel
theorem k119_52 : icode MCl 119 52 = some (.getfield 129, 55, 103, 124, 0) := by decide +kernel
theorem k119_55 : icode MCl 119 55 = some (.istore 4, 57, 0, 0, 0) := by decide +kernel
theorem k119_57 : icode MCl 119 57 = some (.aload_n 3, 58, 0, 0, 0) := by decide +kernel
theorem k119_58 : icode MCl 119 58 = some (.iload_n 2, 59, 0, 0, 0) := by decide +kernel
theorem k119_59 : icode MCl 119 59 = some (.putfield 129, 62, 103, 124, 0) := by decide +kernel
theorem k119_62 : icode MCl 119 62 = some (.iload 4, 64, 0, 0, 0) := by decide +kernel
theorem k119_64 : icode MCl 119 64 = some (.ireturn, 65, 0, 0, 0) := by decide +kernel
theorem k120_0 : icode MCl 120 0 = some (.aload_n 0, 1, 0, 0, 0) := by decide +kernel
theorem k120_1 : icode MCl 120 1 = some (.iload_n 1, 2, 0, 0, 0) := by decide +kernel
theorem k120_2 : icode MCl 120 2 = some (.invokevirtual 146, 5, 84, 916, 0) := by decide +kernel
theorem k120_5 : icode MCl 120 5 = some (.ifCond .eq 10, 8, 15, 0, 0) := by decide +kernel
theorem k120_8 : icode MCl 120 8 = some (.iload_n 2, 9, 0, 0, 0) := by decide +kernel
theorem k120_9 : icode MCl 120 9 = some (.invokestatic 149, 12, 94, 924, 0) := by decide +kernel
theorem k120_12 : icode MCl 120 12 = some (.ifCond .ne 5, 15, 17, 0, 0) := by decide +kernel
theorem k120_15 : icode MCl 120 15 = some (.iconst (-1), 16, 0, 0, (-1)) := by decide +kernel
theorem k120_16 : icode MCl 120 16 = some (.ireturn, 17, 0, 0, 0) := by decide +kernel
theorem k120_17 : icode MCl 120 17 = some (.aload_n 0, 18, 0, 0, 0) := by decide +kernel
theorem k120_18 : icode MCl 120 18 = some (.getfield 40, 21, 816, 790, 1) := by decide +kernel
theorem k120_21 : icode MCl 120 21 = some (.iload_n 1, 22, 0, 0, 0) := by decide +kernel
theorem k120_22 : icode MCl 120 22 = some (.iconst 1, 23, 0, 0, 1) := by decide +kernel
theorem k120_23 : icode MCl 120 23 = some (.invokestatic 135, 26, 79, 909, 0) := by decide +kernel
theorem k120_26 : icode MCl 120 26 = some (.iconst 1, 27, 0, 0, 1) := by decide +kernel
theorem k120_27 : icode MCl 120 27 = some (.if_icmp .eq 6, 30, 33, 0, 0) := by decide +kernel
theorem k120_30 : icode MCl 120 30 = some (.bipush (-2), 32, 0, 0, (-2)) := by decide +kernel
theorem k120_32 : icode MCl 120 32 = some (.ireturn, 33, 0, 0, 0) := by decide +kernel
theorem k120_33 : icode MCl 120 33 = some (.aload_n 0, 34, 0, 0, 0) := by decide +kernel
theorem k120_34 : icode MCl 120 34 = some (.invokevirtual 167, 37, 107, 941, 0) := by decide +kernel
theorem k120_37 : icode MCl 120 37 = some (.aload_n 0, 38, 0, 0, 0) := by decide +kernel
theorem k120_38 : icode MCl 120 38 = some (.getfield 40, 41, 816, 790, 1) := by decide +kernel
theorem k120_41 : icode MCl 120 41 = some (.iload_n 1, 42, 0, 0, 0) := by decide +kernel
theorem k120_42 : icode MCl 120 42 = some (.iconst 3, 43, 0, 0, 3) := by decide +kernel
theorem k120_43 : icode MCl 120 43 = some (.invokestatic 135, 46, 79, 909, 0) := by decide +kernel
theorem k120_46 : icode MCl 120 46 = some (.istore_n 3, 47, 0, 0, 0) := by decide +kernel
theorem k120_47 : icode MCl 120 47 = some (.aload_n 0, 48, 0, 0, 0) := by decide +kernel
theorem k120_48 : icode MCl 120 48 = some (.getfield 40, 51, 816, 790, 1) := by decide +kernel
theorem k120_51 : icode MCl 120 51 = some (.iconst 3, 52, 0, 0, 3) := by decide +kernel
theorem k120_52 : icode MCl 120 52 = some (.bipush 6, 54, 0, 0, 6) := by decide +kernel
theorem k120_54 : icode MCl 120 54 = some (.iload_n 1, 55, 0, 0, 0) := by decide +kernel
theorem k120_55 : icode MCl 120 55 = some (.imul, 56, 0, 0, 0) := by decide +kernel
theorem k120_56 : icode MCl 120 56 = some (.iadd, 57, 0, 0, 0) := by decide +kernel
theorem k120_57 : icode MCl 120 57 = some (.iconst 3, 58, 0, 0, 3) := by decide +kernel
theorem k120_58 : icode MCl 120 58 = some (.iadd, 59, 0, 0, 0) := by decide +kernel
theorem k120_59 : icode MCl 120 59 = some (.iload_n 2, 60, 0, 0, 0) := by decide +kernel
theorem k120_60 : icode MCl 120 60 = some (.iastore, 61, 0, 0, 0) := by decide +kernel
theorem k120_61 : icode MCl 120 61 = some (.iload_n 3, 62, 0, 0, 0) := by decide +kernel
theorem k120_62 : icode MCl 120 62 = some (.ireturn, 63, 0, 0, 0) := by decide +kernel
theorem k121_0 : icode MCl 121 0 = some (.aload_n 0, 1, 0, 0, 0) := by decide +kernel
theorem k121_1 : icode MCl 121 1 = some (.getfield 22, 4, 301, 192, 0) := by decide +kernel
theorem k121_4 : icode MCl 121 4 = some (.iconst 1, 5, 0, 0, 1) := by decide +kernel
theorem k121_5 : icode MCl 121 5 = some (.isub, 6, 0, 0, 0) := by decide +kernel
theorem k121_6 : icode MCl 121 6 = some (.istore_n 2, 7, 0, 0, 0) := by decide +kernel
theorem k121_7 : icode MCl 121 7 = some (.iload_n 2, 8, 0, 0, 0) := by decide +kernel
theorem k121_8 : icode MCl 121 8 = some (.ifCond .lt 21, 11, 29, 0, 0) := by decide +kernel
theorem k121_11 : icode MCl 121 11 = some (.iload_n 2, 12, 0, 0, 0) := by decide +kernel
theorem k121_12 : icode MCl 121 12 = some (.aload_n 0, 13, 0, 0, 0) := by decide +kernel
theorem k121_13 : icode MCl 121 13 = some (.getfield 15, 16, 300, 191, 1) := by decide +kernel
theorem k121_16 : icode MCl 121 16 = some (.arraylength, 17, 0, 0, 0) := by decide +kernel
theorem k121_17 : icode MCl 121 17 = some (.if_icmp .ge 12, 20, 29, 0, 0) := by decide +kernel
theorem k121_20 : icode MCl 121 20 = some (.aload_n 0, 21, 0, 0, 0) := by decide +kernel
theorem k121_21 : icode MCl 121 21 = some (.getfield 15, 24, 300, 191, 1) := by decide +kernel
theorem k121_24 : icode MCl 121 24 = some (.iload_n 2, 25, 0, 0, 0) := by decide +kernel
theorem k121_25 : icode MCl 121 25 = some (.aaload, 26, 0, 0, 0) := by decide +kernel
theorem k121_26 : icode MCl 121 26 = some (.goto 4, 29, 30, 0, 0) := by decide +kernel
theorem k121_29 : icode MCl 121 29 = some (.aconst_null, 30, 0, 0, 0) := by decide +kernel
theorem k121_30 : icode MCl 121 30 = some (.astore_n 3, 31, 0, 0, 0) := by decide +kernel
theorem k121_31 : icode MCl 121 31 = some (.aload_n 3, 32, 0, 0, 0) := by decide +kernel
theorem k121_32 : icode MCl 121 32 = some (.ifnonnull 5, 35, 37, 0, 0) := by decide +kernel
theorem k121_35 : icode MCl 121 35 = some (.iconst 0, 36, 0, 0, 0) := by decide +kernel
theorem k121_36 : icode MCl 121 36 = some (.ireturn, 37, 0, 0, 0) := by decide +kernel
theorem k121_37 : icode MCl 121 37 = some (.aload_n 1, 38, 0, 0, 0) := by decide +kernel
theorem k121_38 : icode MCl 121 38 = some (.aload_n 3, 39, 0, 0, 0) := by decide +kernel
theorem k121_39 : icode MCl 121 39 = some (.invokevirtual 29, 42, 46, 523, 0) := by decide +kernel
theorem k121_42 : icode MCl 121 42 = some (.aload_n 0, 43, 0, 0, 0) := by decide +kernel
theorem k121_43 : icode MCl 121 43 = some (.iload_n 2, 44, 0, 0, 0) := by decide +kernel
theorem k121_44 : icode MCl 121 44 = some (.putfield 22, 47, 301, 192, 0) := by decide +kernel
theorem k121_47 : icode MCl 121 47 = some (.iconst 1, 48, 0, 0, 1) := by decide +kernel
theorem k121_48 : icode MCl 121 48 = some (.ireturn, 49, 0, 0, 0) := by decide +kernel
theorem k122_0 : icode MCl 122 0 = some (.aload_n 0, 1, 0, 0, 0) := by decide +kernel
theorem k122_1 : icode MCl 122 1 = some (.getfield 22, 4, 301, 192, 0) := by decide +kernel
theorem k122_4 : icode MCl 122 4 = some (.ireturn, 5, 0, 0, 0) := by decide +kernel
theorem k123_0 : icode MCl 123 0 = some (.aload_n 0, 1, 0, 0, 0) := by decide +kernel
theorem k123_1 : icode MCl 123 1 = some (.getfield 43, 4, 705, 414, 1) := by decide +kernel
theorem k123_4 : icode MCl 123 4 = some (.aload_n 0, 5, 0, 0, 0) := by decide +kernel
theorem k123_5 : icode MCl 123 5 = some (.getfield 31, 8, 703, 412, 1) := by decide +kernel
theorem k123_8 : icode MCl 123 8 = some (.invokevirtual 170, 11, 121, 576, 0) := by decide +kernel
theorem k123_11 : icode MCl 123 11 = some (.ifCond .eq 13, 14, 24, 0, 0) := by decide +kernel
theorem k123_14 : icode MCl 123 14 = some (.aload_n 0, 15, 0, 0, 0) := by decide +kernel
theorem k123_15 : icode MCl 123 15 = some (.getfield 43, 18, 705, 414, 1) := by decide +kernel
theorem k123_18 : icode MCl 123 18 = some (.invokevirtual 174, 21, 122, 580, 0) := by decide +kernel
theorem k123_21 : icode MCl 123 21 = some (.goto 5, 24, 26, 0, 0) := by decide +kernel
theorem k123_24 : icode MCl 123 24 = some (.bipush (-2), 26, 0, 0, (-2)) := by decide +kernel
theorem k123_26 : icode MCl 123 26 = some (.ireturn, 27, 0, 0, 0) := by decide +kernel
theorem k124_0 : icode MCl 124 0 = some (.aload_n 0, 1, 0, 0, 0) := by decide +kernel
theorem k124_1 : icode MCl 124 1 = some (.getfield 126, 4, 818, 792, 0) := by decide +kernel
theorem k124_4 : icode MCl 124 4 = some (.ifCond .ne 6, 7, 10, 0, 0) := by decide +kernel
theorem k124_7 : icode MCl 124 7 = some (.bipush (-2), 9, 0, 0, (-2)) := by decide +kernel
theorem k124_9 : icode MCl 124 9 = some (.ireturn, 10, 0, 0, 0) := by decide +kernel
theorem k124_10 : icode MCl 124 10 = some (.aload_n 0, 11, 0, 0, 0) := by decide +kernel
theorem k124_11 : icode MCl 124 11 = some (.aload_n 0, 12, 0, 0, 0) := by decide +kernel
theorem k124_12 : icode MCl 124 12 = some (.getfield 164, 15, 819, 793, 0) := by decide +kernel
theorem k124_15 : icode MCl 124 15 = some (.bipush 8, 17, 0, 0, 8) := by decide +kernel
theorem k124_17 : icode MCl 124 17 = some (.iadd, 18, 0, 0, 0) := by decide +kernel
theorem k124_18 : icode MCl 124 18 = some (.iconst 1, 19, 0, 0, 1) := by decide +kernel
theorem k124_19 : icode MCl 124 19 = some (.isub, 20, 0, 0, 0) := by decide +kernel
theorem k124_20 : icode MCl 124 20 = some (.bipush 8, 22, 0, 0, 8) := by decide +kernel
theorem k124_22 : icode MCl 124 22 = some (.irem, 23, 0, 0, 0) := by decide +kernel
theorem k124_23 : icode MCl 124 23 = some (.putfield 164, 26, 819, 793, 0) := by decide +kernel
theorem k124_26 : icode MCl 124 26 = some (.aload_n 0, 27, 0, 0, 0) := by decide +kernel
theorem k124_27 : icode MCl 124 27 = some (.dup, 28, 0, 0, 0) := by decide +kernel
theorem k124_28 : icode MCl 124 28 = some (.getfield 126, 31, 818, 792, 0) := by decide +kernel
theorem k124_31 : icode MCl 124 31 = some (.iconst 1, 32, 0, 0, 1) := by decide +kernel
theorem k124_32 : icode MCl 124 32 = some (.isub, 33, 0, 0, 0) := by decide +kernel
theorem k124_33 : icode MCl 124 33 = some (.putfield 126, 36, 818, 792, 0) := by decide +kernel
theorem k124_36 : icode MCl 124 36 = some (.iconst 0, 37, 0, 0, 0) := by decide +kernel
theorem k124_37 : icode MCl 124 37 = some (.istore_n 1, 38, 0, 0, 0) := by decide +kernel
theorem k124_38 : icode MCl 124 38 = some (.iload_n 1, 39, 0, 0, 0) := by decide +kernel
theorem k124_39 : icode MCl 124 39 = some (.bipush 39, 41, 0, 0, 39) := by decide +kernel
theorem k124_41 : icode MCl 124 41 = some (.if_icmp .ge 29, 44, 70, 0, 0) := by decide +kernel
theorem k124_44 : icode MCl 124 44 = some (.aload_n 0, 45, 0, 0, 0) := by decide +kernel
theorem k124_45 : icode MCl 124 45 = some (.getfield 40, 48, 816, 790, 1) := by decide +kernel
theorem k124_48 : icode MCl 124 48 = some (.iload_n 1, 49, 0, 0, 0) := by decide +kernel
theorem k124_49 : icode MCl 124 49 = some (.aload_n 0, 50, 0, 0, 0) := by decide +kernel
theorem k124_50 : icode MCl 124 50 = some (.getfield 46, 53, 820, 794, 1) := by decide +kernel
theorem k124_53 : icode MCl 124 53 = some (.bipush 39, 55, 0, 0, 39) := by decide +kernel
theorem k124_55 : icode MCl 124 55 = some (.aload_n 0, 56, 0, 0, 0) := by decide +kernel
theorem k124_56 : icode MCl 124 56 = some (.getfield 164, 59, 819, 793, 0) := by decide +kernel
theorem k124_59 : icode MCl 124 59 = some (.imul, 60, 0, 0, 0) := by decide +kernel
theorem k124_60 : icode MCl 124 60 = some (.iload_n 1, 61, 0, 0, 0) := by decide +kernel
theorem k124_61 : icode MCl 124 61 = some (.iadd, 62, 0, 0, 0) := by decide +kernel
theorem k124_62 : icode MCl 124 62 = some (.iaload, 63, 0, 0, 0) := by decide +kernel
theorem k124_63 : icode MCl 124 63 = some (.iastore, 64, 0, 0, 0) := by decide +kernel
theorem k124_64 : icode MCl 124 64 = some (.iinc 1 1, 67, 0, 0, 1) := by decide +kernel
theorem k124_67 : icode MCl 124 67 = some (.goto (-29), 70, 38, 0, 0) := by decide +kernel
theorem k124_70 : icode MCl 124 70 = some (.aload_n 0, 71, 0, 0, 0) := by decide +kernel
theorem k124_71 : icode MCl 124 71 = some (.getfield 126, 74, 818, 792, 0) := by decide +kernel
theorem k124_74 : icode MCl 124 74 = some (.ireturn, 75, 0, 0, 0) := by decide +kernel
theorem k125_0 : icode MCl 125 0 = some (.iload_n 3, 1, 0, 0, 0) := by decide +kernel
theorem k125_1 : icode MCl 125 1 = some (.istore 5, 3, 0, 0, 0) := by decide +kernel
theorem k125_3 : icode MCl 125 3 = some (.iload 4, 5, 0, 0, 0) := by decide +kernel
theorem k125_5 : icode MCl 125 5 = some (.istore 6, 7, 0, 0, 0) := by decide +kernel
theorem k125_7 : icode MCl 125 7 = some (.iconst 0, 8, 0, 0, 0) := by decide +kernel
theorem k125_8 : icode MCl 125 8 = some (.istore 7, 10, 0, 0, 0) := by decide +kernel
theorem k125_10 : icode MCl 125 10 = some (.iload 7, 12, 0, 0, 0) := by decide +kernel
theorem k125_12 : icode MCl 125 12 = some (.bipush 9, 14, 0, 0, 9) := by decide +kernel
theorem k125_14 : icode MCl 125 14 = some (.if_icmp .ge 52, 17, 66, 0, 0) := by decide +kernel
theorem k125_17 : icode MCl 125 17 = some (.iload 5, 19, 0, 0, 0) := by decide +kernel
theorem k125_19 : icode MCl 125 19 = some (.iload_n 1, 20, 0, 0, 0) := by decide +kernel
theorem k125_20 : icode MCl 125 20 = some (.if_icmp .ne 7, 23, 27, 0, 0) := by decide +kernel
theorem k125_23 : icode MCl 125 23 = some (.iload_n 2, 24, 0, 0, 0) := by decide +kernel
theorem k125_24 : icode MCl 125 24 = some (.goto 9, 27, 33, 0, 0) := by decide +kernel
theorem k125_27 : icode MCl 125 27 = some (.aload_n 0, 28, 0, 0, 0) := by decide +kernel
theorem k125_28 : icode MCl 125 28 = some (.iload 5, 30, 0, 0, 0) := by decide +kernel
theorem k125_30 : icode MCl 125 30 = some (.invokevirtual 44, 33, 41, 373, 0) := by decide +kernel
theorem k125_33 : icode MCl 125 33 = some (.iload 6, 35, 0, 0, 0) := by decide +kernel
theorem k125_35 : icode MCl 125 35 = some (.invokestatic 57, 38, 92, 596, 0) := by decide +kernel
theorem k125_38 : icode MCl 125 38 = some (.istore 6, 40, 0, 0, 0) := by decide +kernel
theorem k125_40 : icode MCl 125 40 = some (.aload_n 0, 41, 0, 0, 0) := by decide +kernel
theorem k125_41 : icode MCl 125 41 = some (.iload 5, 43, 0, 0, 0) := by decide +kernel
theorem k125_43 : icode MCl 125 43 = some (.invokevirtual 63, 46, 101, 597, 0) := by decide +kernel
theorem k125_46 : icode MCl 125 46 = some (.ifCond .eq 6, 49, 52, 0, 0) := by decide +kernel
theorem k125_49 : icode MCl 125 49 = some (.goto 17, 52, 66, 0, 0) := by decide +kernel
theorem k125_52 : icode MCl 125 52 = some (.aload_n 0, 53, 0, 0, 0) := by decide +kernel
theorem k125_53 : icode MCl 125 53 = some (.iload 5, 55, 0, 0, 0) := by decide +kernel
theorem k125_55 : icode MCl 125 55 = some (.invokevirtual 29, 58, 43, 384, 0) := by decide +kernel
theorem k125_58 : icode MCl 125 58 = some (.istore 5, 60, 0, 0, 0) := by decide +kernel
theorem k125_60 : icode MCl 125 60 = some (.iinc 7 1, 63, 0, 0, 1) := by decide +kernel
theorem k125_63 : icode MCl 125 63 = some (.goto (-53), 66, 10, 0, 0) := by decide +kernel
theorem k125_66 : icode MCl 125 66 = some (.iload 6, 68, 0, 0, 0) := by decide +kernel
theorem k125_68 : icode MCl 125 68 = some (.ireturn, 69, 0, 0, 0) := by decide +kernel
theorem k126_0 : icode MCl 126 0 = some (.aload_n 0, 1, 0, 0, 0) := by decide +kernel
theorem k126_1 : icode MCl 126 1 = some (.iconst (-1), 2, 0, 0, (-1)) := by decide +kernel
theorem k126_2 : icode MCl 126 2 = some (.iconst 0, 3, 0, 0, 0) := by decide +kernel
theorem k126_3 : icode MCl 126 3 = some (.iload_n 1, 4, 0, 0, 0) := by decide +kernel
theorem k126_4 : icode MCl 126 4 = some (.iload_n 2, 5, 0, 0, 0) := by decide +kernel
theorem k126_5 : icode MCl 126 5 = some (.invokevirtual 53, 8, 125, 592, 0) := by decide +kernel
theorem k126_8 : icode MCl 126 8 = some (.ireturn, 9, 0, 0, 0) := by decide +kernel
theorem k127_0 : icode MCl 127 0 = some (.iload_n 1, 1, 0, 0, 0) := by decide +kernel
theorem k127_1 : icode MCl 127 1 = some (.istore_n 2, 2, 0, 0, 0) := by decide +kernel
theorem k127_2 : icode MCl 127 2 = some (.iconst 0, 3, 0, 0, 0) := by decide +kernel
theorem k127_3 : icode MCl 127 3 = some (.istore_n 3, 4, 0, 0, 0) := by decide +kernel
theorem k127_4 : icode MCl 127 4 = some (.iconst 0, 5, 0, 0, 0) := by decide +kernel
theorem k127_5 : icode MCl 127 5 = some (.istore 4, 7, 0, 0, 0) := by decide +kernel
theorem k127_7 : icode MCl 127 7 = some (.iload 4, 9, 0, 0, 0) := by decide +kernel
theorem k127_9 : icode MCl 127 9 = some (.bipush 9, 11, 0, 0, 9) := by decide +kernel
theorem k127_11 : icode MCl 127 11 = some (.if_icmp .ge 32, 14, 43, 0, 0) := by decide +kernel
theorem k127_14 : icode MCl 127 14 = some (.iload_n 3, 15, 0, 0, 0) := by decide +kernel
theorem k127_15 : icode MCl 127 15 = some (.iconst 1, 16, 0, 0, 1) := by decide +kernel
theorem k127_16 : icode MCl 127 16 = some (.iload_n 2, 17, 0, 0, 0) := by decide +kernel
theorem k127_17 : icode MCl 127 17 = some (.ishl, 18, 0, 0, 0) := by decide +kernel
theorem k127_18 : icode MCl 127 18 = some (.ior, 19, 0, 0, 0) := by decide +kernel
theorem k127_19 : icode MCl 127 19 = some (.istore_n 3, 20, 0, 0, 0) := by decide +kernel
theorem k127_20 : icode MCl 127 20 = some (.aload_n 0, 21, 0, 0, 0) := by decide +kernel
theorem k127_21 : icode MCl 127 21 = some (.iload_n 2, 22, 0, 0, 0) := by decide +kernel
theorem k127_22 : icode MCl 127 22 = some (.invokevirtual 63, 25, 101, 597, 0) := by decide +kernel
theorem k127_25 : icode MCl 127 25 = some (.ifCond .eq 6, 28, 31, 0, 0) := by decide +kernel
theorem k127_28 : icode MCl 127 28 = some (.goto 15, 31, 43, 0, 0) := by decide +kernel
theorem k127_31 : icode MCl 127 31 = some (.aload_n 0, 32, 0, 0, 0) := by decide +kernel
theorem k127_32 : icode MCl 127 32 = some (.iload_n 2, 33, 0, 0, 0) := by decide +kernel
theorem k127_33 : icode MCl 127 33 = some (.invokevirtual 29, 36, 43, 384, 0) := by decide +kernel
theorem k127_36 : icode MCl 127 36 = some (.istore_n 2, 37, 0, 0, 0) := by decide +kernel
theorem k127_37 : icode MCl 127 37 = some (.iinc 4 1, 40, 0, 0, 1) := by decide +kernel
theorem k127_40 : icode MCl 127 40 = some (.goto (-33), 43, 7, 0, 0) := by decide +kernel
theorem k127_43 : icode MCl 127 43 = some (.iload_n 3, 44, 0, 0, 0) := by decide +kernel
theorem k127_44 : icode MCl 127 44 = some (.ireturn, 45, 0, 0, 0) := by decide +kernel
theorem k128_0 : icode MCl 128 0 = some (.aload_n 0, 1, 0, 0, 0) := by decide +kernel
theorem k128_1 : icode MCl 128 1 = some (.iload_n 1, 2, 0, 0, 0) := by decide +kernel
theorem k128_2 : icode MCl 128 2 = some (.invokevirtual 67, 5, 127, 602, 0) := by decide +kernel
theorem k128_5 : icode MCl 128 5 = some (.istore_n 2, 6, 0, 0, 0) := by decide +kernel
theorem k128_6 : icode MCl 128 6 = some (.iconst 0, 7, 0, 0, 0) := by decide +kernel
theorem k128_7 : icode MCl 128 7 = some (.istore_n 3, 8, 0, 0, 0) := by decide +kernel
theorem k128_8 : icode MCl 128 8 = some (.iconst 0, 9, 0, 0, 0) := by decide +kernel
theorem k128_9 : icode MCl 128 9 = some (.istore 4, 11, 0, 0, 0) := by decide +kernel
theorem k128_11 : icode MCl 128 11 = some (.iload 4, 13, 0, 0, 0) := by decide +kernel
theorem k128_13 : icode MCl 128 13 = some (.aload_n 0, 14, 0, 0, 0) := by decide +kernel
theorem k128_14 : icode MCl 128 14 = some (.getfield 21, 17, 603, 92, 0) := by decide +kernel
theorem k128_17 : icode MCl 128 17 = some (.if_icmp .ge 31, 20, 48, 0, 0) := by decide +kernel
theorem k128_20 : icode MCl 128 20 = some (.iload_n 3, 21, 0, 0, 0) := by decide +kernel
theorem k128_21 : icode MCl 128 21 = some (.iload_n 2, 22, 0, 0, 0) := by decide +kernel
theorem k128_22 : icode MCl 128 22 = some (.iload 4, 24, 0, 0, 0) := by decide +kernel
theorem k128_24 : icode MCl 128 24 = some (.invokestatic 70, 27, 34, 606, 1) := by decide +kernel
theorem k128_27 : icode MCl 128 27 = some (.ifCond .eq 12, 30, 39, 0, 0) := by decide +kernel
theorem k128_30 : icode MCl 128 30 = some (.aload_n 0, 31, 0, 0, 0) := by decide +kernel
theorem k128_31 : icode MCl 128 31 = some (.iload 4, 33, 0, 0, 0) := by decide +kernel
theorem k128_33 : icode MCl 128 33 = some (.invokevirtual 47, 36, 42, 380, 0) := by decide +kernel
theorem k128_36 : icode MCl 128 36 = some (.goto 4, 39, 40, 0, 0) := by decide +kernel
theorem k128_39 : icode MCl 128 39 = some (.iconst 0, 40, 0, 0, 0) := by decide +kernel
theorem k128_40 : icode MCl 128 40 = some (.iadd, 41, 0, 0, 0) := by decide +kernel
theorem k128_41 : icode MCl 128 41 = some (.istore_n 3, 42, 0, 0, 0) := by decide +kernel
theorem k128_42 : icode MCl 128 42 = some (.iinc 4 1, 45, 0, 0, 1) := by decide +kernel
theorem k128_45 : icode MCl 128 45 = some (.goto (-34), 48, 11, 0, 0) := by decide +kernel
theorem k128_48 : icode MCl 128 48 = some (.iload_n 3, 49, 0, 0, 0) := by decide +kernel
theorem k128_49 : icode MCl 128 49 = some (.ireturn, 50, 0, 0, 0) := by decide +kernel
theorem k129_0 : icode MCl 129 0 = some (.aload_n 0, 1, 0, 0, 0) := by decide +kernel
theorem k129_1 : icode MCl 129 1 = some (.getfield 24, 4, 702, 411, 1) := by decide +kernel
theorem k129_4 : icode MCl 129 4 = some (.iload_n 1, 5, 0, 0, 0) := by decide +kernel
theorem k129_5 : icode MCl 129 5 = some (.invokevirtual 93, 8, 29, 461, 0) := by decide +kernel
theorem k129_8 : icode MCl 129 8 = some (.ifCond .eq 19, 11, 27, 0, 0) := by decide +kernel
theorem k129_11 : icode MCl 129 11 = some (.iload_n 2, 12, 0, 0, 0) := by decide +kernel
theorem k129_12 : icode MCl 129 12 = some (.invokestatic 161, 15, 88, 558, 0) := by decide +kernel
theorem k129_15 : icode MCl 129 15 = some (.ifCond .eq 12, 18, 27, 0, 0) := by decide +kernel
theorem k129_18 : icode MCl 129 18 = some (.iload_n 3, 19, 0, 0, 0) := by decide +kernel
theorem k129_19 : icode MCl 129 19 = some (.iconst 0, 20, 0, 0, 0) := by decide +kernel
theorem k129_20 : icode MCl 129 20 = some (.iconst 1, 21, 0, 0, 1) := by decide +kernel
theorem k129_21 : icode MCl 129 21 = some (.invokestatic 84, 24, 22, 439, 0) := by decide +kernel
theorem k129_24 : icode MCl 129 24 = some (.ifCond .ne 5, 27, 29, 0, 0) := by decide +kernel
theorem k129_27 : icode MCl 129 27 = some (.iconst (-1), 28, 0, 0, (-1)) := by decide +kernel
theorem k129_28 : icode MCl 129 28 = some (.ireturn, 29, 0, 0, 0) := by decide +kernel
theorem k129_29 : icode MCl 129 29 = some (.iload_n 3, 30, 0, 0, 0) := by decide +kernel
theorem k129_30 : icode MCl 129 30 = some (.ifCond .ne 15, 33, 45, 0, 0) := by decide +kernel
theorem k129_33 : icode MCl 129 33 = some (.aload_n 0, 34, 0, 0, 0) := by decide +kernel
theorem k129_34 : icode MCl 129 34 = some (.getfield 24, 37, 702, 411, 1) := by decide +kernel
theorem k129_37 : icode MCl 129 37 = some (.iload_n 1, 38, 0, 0, 0) := by decide +kernel
theorem k129_38 : icode MCl 129 38 = some (.iload_n 2, 39, 0, 0, 0) := by decide +kernel
theorem k129_39 : icode MCl 129 39 = some (.invokevirtual 175, 42, 126, 588, 0) := by decide +kernel
theorem k129_42 : icode MCl 129 42 = some (.goto 11, 45, 53, 0, 0) := by decide +kernel
theorem k129_45 : icode MCl 129 45 = some (.aload_n 0, 46, 0, 0, 0) := by decide +kernel
theorem k129_46 : icode MCl 129 46 = some (.getfield 24, 49, 702, 411, 1) := by decide +kernel
theorem k129_49 : icode MCl 129 49 = some (.iload_n 1, 50, 0, 0, 0) := by decide +kernel
theorem k129_50 : icode MCl 129 50 = some (.invokevirtual 178, 53, 128, 598, 0) := by decide +kernel
theorem k129_53 : icode MCl 129 53 = some (.ireturn, 54, 0, 0, 0) := by decide +kernel
theorem k130_0 : icode MCl 130 0 = some (.iload_n 1, 1, 0, 0, 0) := by decide +kernel
theorem k130_1 : icode MCl 130 1 = some (.iload_n 3, 2, 0, 0, 0) := by decide +kernel
theorem k130_2 : icode MCl 130 2 = some (.if_icmp .ne 8, 5, 10, 0, 0) := by decide +kernel
theorem k130_5 : icode MCl 130 5 = some (.iload 4, 7, 0, 0, 0) := by decide +kernel
theorem k130_7 : icode MCl 130 7 = some (.goto 9, 10, 16, 0, 0) := by decide +kernel
theorem k130_10 : icode MCl 130 10 = some (.aload_n 0, 11, 0, 0, 0) := by decide +kernel
theorem k130_11 : icode MCl 130 11 = some (.getfield 31, 14, 813, 787, 1) := by decide +kernel
theorem k130_14 : icode MCl 130 14 = some (.iload_n 1, 15, 0, 0, 0) := by decide +kernel
theorem k130_15 : icode MCl 130 15 = some (.iaload, 16, 0, 0, 0) := by decide +kernel
theorem k130_16 : icode MCl 130 16 = some (.iload_n 2, 17, 0, 0, 0) := by decide +kernel
theorem k130_17 : icode MCl 130 17 = some (.invokestatic 152, 20, 97, 928, 0) := by decide +kernel
theorem k130_20 : icode MCl 130 20 = some (.istore 5, 22, 0, 0, 0) := by decide +kernel
theorem k130_22 : icode MCl 130 22 = some (.iload_n 1, 23, 0, 0, 0) := by decide +kernel
theorem k130_23 : icode MCl 130 23 = some (.istore 6, 25, 0, 0, 0) := by decide +kernel
theorem k130_25 : icode MCl 130 25 = some (.aload_n 0, 26, 0, 0, 0) := by decide +kernel
theorem k130_26 : icode MCl 130 26 = some (.getfield 37, 29, 815, 789, 1) := by decide +kernel
theorem k130_29 : icode MCl 130 29 = some (.iload 6, 31, 0, 0, 0) := by decide +kernel
theorem k130_31 : icode MCl 130 31 = some (.iaload, 32, 0, 0, 0) := by decide +kernel
theorem k130_32 : icode MCl 130 32 = some (.iload 6, 34, 0, 0, 0) := by decide +kernel
theorem k130_34 : icode MCl 130 34 = some (.if_icmp .eq 50, 37, 84, 0, 0) := by decide +kernel
theorem k130_37 : icode MCl 130 37 = some (.aload_n 0, 38, 0, 0, 0) := by decide +kernel
theorem k130_38 : icode MCl 130 38 = some (.getfield 37, 41, 815, 789, 1) := by decide +kernel
theorem k130_41 : icode MCl 130 41 = some (.iload 6, 43, 0, 0, 0) := by decide +kernel
theorem k130_43 : icode MCl 130 43 = some (.iaload, 44, 0, 0, 0) := by decide +kernel
theorem k130_44 : icode MCl 130 44 = some (.iload_n 3, 45, 0, 0, 0) := by decide +kernel
theorem k130_45 : icode MCl 130 45 = some (.if_icmp .ne 8, 48, 53, 0, 0) := by decide +kernel
theorem k130_48 : icode MCl 130 48 = some (.iload 4, 50, 0, 0, 0) := by decide +kernel
theorem k130_50 : icode MCl 130 50 = some (.goto 15, 53, 65, 0, 0) := by decide +kernel
theorem k130_53 : icode MCl 130 53 = some (.aload_n 0, 54, 0, 0, 0) := by decide +kernel
theorem k130_54 : icode MCl 130 54 = some (.getfield 31, 57, 813, 787, 1) := by decide +kernel
theorem k130_57 : icode MCl 130 57 = some (.aload_n 0, 58, 0, 0, 0) := by decide +kernel
theorem k130_58 : icode MCl 130 58 = some (.getfield 37, 61, 815, 789, 1) := by decide +kernel
theorem k130_61 : icode MCl 130 61 = some (.iload 6, 63, 0, 0, 0) := by decide +kernel
theorem k130_63 : icode MCl 130 63 = some (.iaload, 64, 0, 0, 0) := by decide +kernel
theorem k130_64 : icode MCl 130 64 = some (.iaload, 65, 0, 0, 0) := by decide +kernel
theorem k130_65 : icode MCl 130 65 = some (.iload 5, 67, 0, 0, 0) := by decide +kernel
theorem k130_67 : icode MCl 130 67 = some (.invokestatic 152, 70, 97, 928, 0) := by decide +kernel
theorem k130_70 : icode MCl 130 70 = some (.istore 5, 72, 0, 0, 0) := by decide +kernel
theorem k130_72 : icode MCl 130 72 = some (.aload_n 0, 73, 0, 0, 0) := by decide +kernel
theorem k130_73 : icode MCl 130 73 = some (.getfield 37, 76, 815, 789, 1) := by decide +kernel
theorem k130_76 : icode MCl 130 76 = some (.iload 6, 78, 0, 0, 0) := by decide +kernel
theorem k130_78 : icode MCl 130 78 = some (.iaload, 79, 0, 0, 0) := by decide +kernel
theorem k130_79 : icode MCl 130 79 = some (.istore 6, 81, 0, 0, 0) := by decide +kernel
theorem k130_81 : icode MCl 130 81 = some (.goto (-56), 84, 25, 0, 0) := by decide +kernel
theorem k130_84 : icode MCl 130 84 = some (.iload 5, 86, 0, 0, 0) := by decide +kernel
theorem k130_86 : icode MCl 130 86 = some (.ireturn, 87, 0, 0, 0) := by decide +kernel
theorem k131_0 : icode MCl 131 0 = some (.aload_n 0, 1, 0, 0, 0) := by decide +kernel
theorem k131_1 : icode MCl 131 1 = some (.iload_n 1, 2, 0, 0, 0) := by decide +kernel
theorem k131_2 : icode MCl 131 2 = some (.iload_n 2, 3, 0, 0, 0) := by decide +kernel
theorem k131_3 : icode MCl 131 3 = some (.iconst (-1), 4, 0, 0, (-1)) := by decide +kernel
theorem k131_4 : icode MCl 131 4 = some (.iconst 0, 5, 0, 0, 0) := by decide +kernel
theorem k131_5 : icode MCl 131 5 = some (.invokevirtual 178, 8, 130, 983, 0) := by decide +kernel
theorem k131_8 : icode MCl 131 8 = some (.ireturn, 9, 0, 0, 0) := by decide +kernel
theorem k132_0 : icode MCl 132 0 = some (.aload_n 0, 1, 0, 0, 0) := by decide +kernel
theorem k132_1 : icode MCl 132 1 = some (.iload_n 1, 2, 0, 0, 0) := by decide +kernel
theorem k132_2 : icode MCl 132 2 = some (.invokevirtual 139, 5, 78, 901, 0) := by decide +kernel
theorem k132_5 : icode MCl 132 5 = some (.ifCond .eq 19, 8, 24, 0, 0) := by decide +kernel
theorem k132_8 : icode MCl 132 8 = some (.iload_n 2, 9, 0, 0, 0) := by decide +kernel
theorem k132_9 : icode MCl 132 9 = some (.invokestatic 149, 12, 94, 924, 0) := by decide +kernel
theorem k132_12 : icode MCl 132 12 = some (.ifCond .eq 12, 15, 24, 0, 0) := by decide +kernel
theorem k132_15 : icode MCl 132 15 = some (.iload_n 3, 16, 0, 0, 0) := by decide +kernel
theorem k132_16 : icode MCl 132 16 = some (.iconst 0, 17, 0, 0, 0) := by decide +kernel
theorem k132_17 : icode MCl 132 17 = some (.iconst 1, 18, 0, 0, 1) := by decide +kernel
theorem k132_18 : icode MCl 132 18 = some (.invokestatic 73, 21, 59, 854, 0) := by decide +kernel
theorem k132_21 : icode MCl 132 21 = some (.ifCond .ne 5, 24, 26, 0, 0) := by decide +kernel
theorem k132_24 : icode MCl 132 24 = some (.iconst (-1), 25, 0, 0, (-1)) := by decide +kernel
theorem k132_25 : icode MCl 132 25 = some (.ireturn, 26, 0, 0, 0) := by decide +kernel
theorem k132_26 : icode MCl 132 26 = some (.aload_n 0, 27, 0, 0, 0) := by decide +kernel
theorem k132_27 : icode MCl 132 27 = some (.getfield 34, 30, 814, 788, 1) := by decide +kernel
theorem k132_30 : icode MCl 132 30 = some (.iload_n 1, 31, 0, 0, 0) := by decide +kernel
theorem k132_31 : icode MCl 132 31 = some (.iaload, 32, 0, 0, 0) := by decide +kernel
theorem k132_32 : icode MCl 132 32 = some (.istore 4, 34, 0, 0, 0) := by decide +kernel
theorem k132_34 : icode MCl 132 34 = some (.iload_n 1, 35, 0, 0, 0) := by decide +kernel
theorem k132_35 : icode MCl 132 35 = some (.istore 5, 37, 0, 0, 0) := by decide +kernel
theorem k132_37 : icode MCl 132 37 = some (.aload_n 0, 38, 0, 0, 0) := by decide +kernel
theorem k132_38 : icode MCl 132 38 = some (.getfield 37, 41, 815, 789, 1) := by decide +kernel
theorem k132_41 : icode MCl 132 41 = some (.iload 5, 43, 0, 0, 0) := by decide +kernel
theorem k132_43 : icode MCl 132 43 = some (.iaload, 44, 0, 0, 0) := by decide +kernel
theorem k132_44 : icode MCl 132 44 = some (.iload 5, 46, 0, 0, 0) := by decide +kernel
theorem k132_46 : icode MCl 132 46 = some (.if_icmp .eq 32, 49, 78, 0, 0) := by decide +kernel
theorem k132_49 : icode MCl 132 49 = some (.iload 4, 51, 0, 0, 0) := by decide +kernel
theorem k132_51 : icode MCl 132 51 = some (.aload_n 0, 52, 0, 0, 0) := by decide +kernel
theorem k132_52 : icode MCl 132 52 = some (.getfield 34, 55, 814, 788, 1) := by decide +kernel
theorem k132_55 : icode MCl 132 55 = some (.aload_n 0, 56, 0, 0, 0) := by decide +kernel
theorem k132_56 : icode MCl 132 56 = some (.getfield 37, 59, 815, 789, 1) := by decide +kernel
theorem k132_59 : icode MCl 132 59 = some (.iload 5, 61, 0, 0, 0) := by decide +kernel
theorem k132_61 : icode MCl 132 61 = some (.iaload, 62, 0, 0, 0) := by decide +kernel
theorem k132_62 : icode MCl 132 62 = some (.iaload, 63, 0, 0, 0) := by decide +kernel
theorem k132_63 : icode MCl 132 63 = some (.iadd, 64, 0, 0, 0) := by decide +kernel
theorem k132_64 : icode MCl 132 64 = some (.istore 4, 66, 0, 0, 0) := by decide +kernel
theorem k132_66 : icode MCl 132 66 = some (.aload_n 0, 67, 0, 0, 0) := by decide +kernel
theorem k132_67 : icode MCl 132 67 = some (.getfield 37, 70, 815, 789, 1) := by decide +kernel
theorem k132_70 : icode MCl 132 70 = some (.iload 5, 72, 0, 0, 0) := by decide +kernel
theorem k132_72 : icode MCl 132 72 = some (.iaload, 73, 0, 0, 0) := by decide +kernel
theorem k132_73 : icode MCl 132 73 = some (.istore 5, 75, 0, 0, 0) := by decide +kernel
theorem k132_75 : icode MCl 132 75 = some (.goto (-38), 78, 37, 0, 0) := by decide +kernel
theorem k132_78 : icode MCl 132 78 = some (.iload_n 3, 79, 0, 0, 0) := by decide +kernel
theorem k132_79 : icode MCl 132 79 = some (.ifCond .ne 12, 82, 91, 0, 0) := by decide +kernel
theorem k132_82 : icode MCl 132 82 = some (.aload_n 0, 83, 0, 0, 0) := by decide +kernel
theorem k132_83 : icode MCl 132 83 = some (.iload_n 1, 84, 0, 0, 0) := by decide +kernel
theorem k132_84 : icode MCl 132 84 = some (.iload_n 2, 85, 0, 0, 0) := by decide +kernel
theorem k132_85 : icode MCl 132 85 = some (.invokevirtual 182, 88, 131, 979, 0) := by decide +kernel
theorem k132_88 : icode MCl 132 88 = some (.goto 5, 91, 93, 0, 0) := by decide +kernel
theorem k132_91 : icode MCl 132 91 = some (.iload 4, 93, 0, 0, 0) := by decide +kernel
theorem k132_93 : icode MCl 132 93 = some (.ireturn, 94, 0, 0, 0) := by decide +kernel
theorem k133_0 : icode MCl 133 0 = some (.aload_n 0, 1, 0, 0, 0) := by decide +kernel
theorem k133_1 : icode MCl 133 1 = some (.getfield 15, 4, 101, 117, 0) := by decide +kernel
theorem k133_4 : icode MCl 133 4 = some (.ifCond .ne 12, 7, 16, 0, 0) := by decide +kernel
theorem k133_7 : icode MCl 133 7 = some (.aload_n 0, 8, 0, 0, 0) := by decide +kernel
theorem k133_8 : icode MCl 133 8 = some (.getfield 9, 11, 100, 115, 0) := by decide +kernel
theorem k133_11 : icode MCl 133 11 = some (.iload_n 2, 12, 0, 0, 0) := by decide +kernel
theorem k133_12 : icode MCl 133 12 = some (.isub, 13, 0, 0, 0) := by decide +kernel
theorem k133_13 : icode MCl 133 13 = some (.goto 4, 16, 17, 0, 0) := by decide +kernel
theorem k133_16 : icode MCl 133 16 = some (.iconst 0, 17, 0, 0, 0) := by decide +kernel
theorem k133_17 : icode MCl 133 17 = some (.istore_n 3, 18, 0, 0, 0) := by decide +kernel
theorem k133_18 : icode MCl 133 18 = some (.aload_n 0, 19, 0, 0, 0) := by decide +kernel
theorem k133_19 : icode MCl 133 19 = some (.getfield 24, 22, 104, 126, 0) := by decide +kernel
theorem k133_22 : icode MCl 133 22 = some (.ifCond .le 19, 25, 41, 0, 0) := by decide +kernel
theorem k133_25 : icode MCl 133 25 = some (.aload_n 1, 26, 0, 0, 0) := by decide +kernel
theorem k133_26 : icode MCl 133 26 = some (.aload_n 0, 27, 0, 0, 0) := by decide +kernel
theorem k133_27 : icode MCl 133 27 = some (.getfield 18, 30, 102, 120, 0) := by decide +kernel
theorem k133_30 : icode MCl 133 30 = some (.invokevirtual 34, 33, 42, 533, 0) := by decide +kernel
theorem k133_33 : icode MCl 133 33 = some (.aload_n 0, 34, 0, 0, 0) := by decide +kernel
theorem k133_34 : icode MCl 133 34 = some (.getfield 24, 37, 104, 126, 0) := by decide +kernel
theorem k133_37 : icode MCl 133 37 = some (.isub, 38, 0, 0, 0) := by decide +kernel
theorem k133_38 : icode MCl 133 38 = some (.goto 4, 41, 42, 0, 0) := by decide +kernel
theorem k133_41 : icode MCl 133 41 = some (.iconst 0, 42, 0, 0, 0) := by decide +kernel
theorem k133_42 : icode MCl 133 42 = some (.istore 4, 44, 0, 0, 0) := by decide +kernel
theorem k133_44 : icode MCl 133 44 = some (.iload_n 3, 45, 0, 0, 0) := by decide +kernel
theorem k133_45 : icode MCl 133 45 = some (.iload 4, 47, 0, 0, 0) := by decide +kernel
theorem k133_47 : icode MCl 133 47 = some (.isub, 48, 0, 0, 0) := by decide +kernel
theorem k133_48 : icode MCl 133 48 = some (.aload_n 1, 49, 0, 0, 0) := by decide +kernel
theorem k133_49 : icode MCl 133 49 = some (.aload_n 0, 50, 0, 0, 0) := by decide +kernel
theorem k133_50 : icode MCl 133 50 = some (.getfield 18, 53, 102, 120, 0) := by decide +kernel
theorem k133_53 : icode MCl 133 53 = some (.invokevirtual 63, 56, 128, 615, 0) := by decide +kernel
theorem k133_56 : icode MCl 133 56 = some (.iadd, 57, 0, 0, 0) := by decide +kernel
theorem k133_57 : icode MCl 133 57 = some (.ireturn, 58, 0, 0, 0) := by decide +kernel
theorem k134_0 : icode MCl 134 0 = some (.aload_n 1, 1, 0, 0, 0) := by decide +kernel
theorem k134_1 : icode MCl 134 1 = some (.aload_n 0, 2, 0, 0, 0) := by decide +kernel
theorem k134_2 : icode MCl 134 2 = some (.getfield 18, 5, 102, 120, 0) := by decide +kernel
theorem k134_5 : icode MCl 134 5 = some (.invokevirtual 60, 8, 127, 624, 0) := by decide +kernel
theorem k134_8 : icode MCl 134 8 = some (.istore_n 2, 9, 0, 0, 0) := by decide +kernel
theorem k134_9 : icode MCl 134 9 = some (.aload_n 0, 10, 0, 0, 0) := by decide +kernel
theorem k134_10 : icode MCl 134 10 = some (.getfield 24, 13, 104, 126, 0) := by decide +kernel
theorem k134_13 : icode MCl 134 13 = some (.ifCond .le 16, 16, 29, 0, 0) := by decide +kernel
theorem k134_16 : icode MCl 134 16 = some (.iload_n 2, 17, 0, 0, 0) := by decide +kernel
theorem k134_17 : icode MCl 134 17 = some (.iconst 1, 18, 0, 0, 1) := by decide +kernel
theorem k134_18 : icode MCl 134 18 = some (.aload_n 0, 19, 0, 0, 0) := by decide +kernel
theorem k134_19 : icode MCl 134 19 = some (.getfield 18, 22, 102, 120, 0) := by decide +kernel
theorem k134_22 : icode MCl 134 22 = some (.ishl, 23, 0, 0, 0) := by decide +kernel
theorem k134_23 : icode MCl 134 23 = some (.iconst (-1), 24, 0, 0, (-1)) := by decide +kernel
theorem k134_24 : icode MCl 134 24 = some (.ixor, 25, 0, 0, 0) := by decide +kernel
theorem k134_25 : icode MCl 134 25 = some (.iand, 26, 0, 0, 0) := by decide +kernel
theorem k134_26 : icode MCl 134 26 = some (.goto 4, 29, 30, 0, 0) := by decide +kernel
theorem k134_29 : icode MCl 134 29 = some (.iload_n 2, 30, 0, 0, 0) := by decide +kernel
theorem k134_30 : icode MCl 134 30 = some (.ireturn, 31, 0, 0, 0) := by decide +kernel
theorem k135_0 : icode MCl 135 0 = some (.aload_n 1, 1, 0, 0, 0) := by decide +kernel
theorem k135_1 : icode MCl 135 1 = some (.aload_n 2, 2, 0, 0, 0) := by decide +kernel
theorem k135_2 : icode MCl 135 2 = some (.invokevirtual 58, 5, 134, 620, 0) := by decide +kernel
theorem k135_5 : icode MCl 135 5 = some (.aload_n 0, 6, 0, 0, 0) := by decide +kernel
theorem k135_6 : icode MCl 135 6 = some (.getfield 29, 9, 204, 147, 0) := by decide +kernel
theorem k135_9 : icode MCl 135 9 = some (.iand, 10, 0, 0, 0) := by decide +kernel
theorem k135_10 : icode MCl 135 10 = some (.ireturn, 11, 0, 0, 0) := by decide +kernel
theorem k136_0 : icode MCl 136 0 = some (.aload_n 0, 1, 0, 0, 0) := by decide +kernel
theorem k136_1 : icode MCl 136 1 = some (.getfield 31, 4, 703, 412, 1) := by decide +kernel
theorem k136_4 : icode MCl 136 4 = some (.iload_n 1, 5, 0, 0, 0) := by decide +kernel
theorem k136_5 : icode MCl 136 5 = some (.invokevirtual 112, 8, 82, 478, 0) := by decide +kernel
theorem k136_8 : icode MCl 136 8 = some (.ifCond .eq 12, 11, 20, 0, 0) := by decide +kernel
theorem k136_11 : icode MCl 136 11 = some (.iload_n 2, 12, 0, 0, 0) := by decide +kernel
theorem k136_12 : icode MCl 136 12 = some (.iconst 0, 13, 0, 0, 0) := by decide +kernel
theorem k136_13 : icode MCl 136 13 = some (.iconst 1, 14, 0, 0, 1) := by decide +kernel
theorem k136_14 : icode MCl 136 14 = some (.invokestatic 84, 17, 22, 439, 0) := by decide +kernel
theorem k136_17 : icode MCl 136 17 = some (.ifCond .ne 5, 20, 22, 0, 0) := by decide +kernel
theorem k136_20 : icode MCl 136 20 = some (.iconst (-1), 21, 0, 0, (-1)) := by decide +kernel
theorem k136_21 : icode MCl 136 21 = some (.ireturn, 22, 0, 0, 0) := by decide +kernel
theorem k136_22 : icode MCl 136 22 = some (.aload_n 0, 23, 0, 0, 0) := by decide +kernel
theorem k136_23 : icode MCl 136 23 = some (.getfield 31, 26, 703, 412, 1) := by decide +kernel
theorem k136_26 : icode MCl 136 26 = some (.iload_n 1, 27, 0, 0, 0) := by decide +kernel
theorem k136_27 : icode MCl 136 27 = some (.invokevirtual 113, 30, 30, 482, 0) := by decide +kernel
theorem k136_30 : icode MCl 136 30 = some (.astore_n 3, 31, 0, 0, 0) := by decide +kernel
theorem k136_31 : icode MCl 136 31 = some (.aload_n 3, 32, 0, 0, 0) := by decide +kernel
theorem k136_32 : icode MCl 136 32 = some (.getfield 123, 35, 101, 118, 0) := by decide +kernel
theorem k136_35 : icode MCl 136 35 = some (.iconst 2, 36, 0, 0, 2) := by decide +kernel
theorem k136_36 : icode MCl 136 36 = some (.if_icmp .ne 6, 39, 42, 0, 0) := by decide +kernel
theorem k136_39 : icode MCl 136 39 = some (.bipush (-2), 41, 0, 0, (-2)) := by decide +kernel
theorem k136_41 : icode MCl 136 41 = some (.ireturn, 42, 0, 0, 0) := by decide +kernel
theorem k136_42 : icode MCl 136 42 = some (.aload_n 3, 43, 0, 0, 0) := by decide +kernel
theorem k136_43 : icode MCl 136 43 = some (.aload_n 0, 44, 0, 0, 0) := by decide +kernel
theorem k136_44 : icode MCl 136 44 = some (.getfield 24, 47, 702, 411, 1) := by decide +kernel
theorem k136_47 : icode MCl 136 47 = some (.aload_n 0, 48, 0, 0, 0) := by decide +kernel
theorem k136_48 : icode MCl 136 48 = some (.getfield 31, 51, 703, 412, 1) := by decide +kernel
theorem k136_51 : icode MCl 136 51 = some (.invokevirtual 165, 54, 116, 563, 0) := by decide +kernel
theorem k136_54 : icode MCl 136 54 = some (.invokevirtual 181, 57, 133, 611, 0) := by decide +kernel
theorem k136_57 : icode MCl 136 57 = some (.istore 4, 59, 0, 0, 0) := by decide +kernel
theorem k136_59 : icode MCl 136 59 = some (.aload_n 0, 60, 0, 0, 0) := by decide +kernel
theorem k136_60 : icode MCl 136 60 = some (.getfield 31, 63, 703, 412, 1) := by decide +kernel
theorem k136_63 : icode MCl 136 63 = some (.aload_n 3, 64, 0, 0, 0) := by decide +kernel
theorem k136_64 : icode MCl 136 64 = some (.aload_n 0, 65, 0, 0, 0) := by decide +kernel
theorem k136_65 : icode MCl 136 65 = some (.getfield 24, 68, 702, 411, 1) := by decide +kernel
theorem k136_68 : icode MCl 136 68 = some (.invokevirtual 184, 71, 135, 616, 0) := by decide +kernel
theorem k136_71 : icode MCl 136 71 = some (.ifCond .ne 11, 74, 82, 0, 0) := by decide +kernel
theorem k136_74 : icode MCl 136 74 = some (.iload 4, 76, 0, 0, 0) := by decide +kernel
theorem k136_76 : icode MCl 136 76 = some (.sipush 240, 79, 0, 0, 240) := by decide +kernel
theorem k136_79 : icode MCl 136 79 = some (.if_icmp .le 6, 82, 85, 0, 0) := by decide +kernel
theorem k136_82 : icode MCl 136 82 = some (.bipush (-4), 84, 0, 0, (-4)) := by decide +kernel
theorem k136_84 : icode MCl 136 84 = some (.ireturn, 85, 0, 0, 0) := by decide +kernel
theorem k136_85 : icode MCl 136 85 = some (.iload_n 2, 86, 0, 0, 0) := by decide +kernel
theorem k136_86 : icode MCl 136 86 = some (.ifCond .ne 8, 89, 94, 0, 0) := by decide +kernel
theorem k136_89 : icode MCl 136 89 = some (.iload 4, 91, 0, 0, 0) := by decide +kernel
theorem k136_91 : icode MCl 136 91 = some (.goto 18, 94, 109, 0, 0) := by decide +kernel
theorem k136_94 : icode MCl 136 94 = some (.aload_n 0, 95, 0, 0, 0) := by decide +kernel
theorem k136_95 : icode MCl 136 95 = some (.getfield 24, 98, 702, 411, 1) := by decide +kernel
theorem k136_98 : icode MCl 136 98 = some (.aload_n 3, 99, 0, 0, 0) := by decide +kernel
theorem k136_99 : icode MCl 136 99 = some (.getfield 126, 102, 102, 121, 0) := by decide +kernel
theorem k136_102 : icode MCl 136 102 = some (.aload_n 3, 103, 0, 0, 0) := by decide +kernel
theorem k136_103 : icode MCl 136 103 = some (.getfield 129, 106, 103, 124, 0) := by decide +kernel
theorem k136_106 : icode MCl 136 106 = some (.invokevirtual 175, 109, 126, 588, 0) := by decide +kernel
theorem k136_109 : icode MCl 136 109 = some (.ireturn, 110, 0, 0, 0) := by decide +kernel
theorem k137_0 : icode MCl 137 0 = some (.iconst 0, 1, 0, 0, 0) := by decide +kernel
theorem k137_1 : icode MCl 137 1 = some (.istore_n 1, 2, 0, 0, 0) := by decide +kernel
theorem k137_2 : icode MCl 137 2 = some (.iload_n 1, 3, 0, 0, 0) := by decide +kernel
theorem k137_3 : icode MCl 137 3 = some (.bipush 39, 5, 0, 0, 39) := by decide +kernel
theorem k137_5 : icode MCl 137 5 = some (.if_icmp .ge 21, 8, 26, 0, 0) := by decide +kernel
theorem k137_8 : icode MCl 137 8 = some (.aload_n 0, 9, 0, 0, 0) := by decide +kernel
theorem k137_9 : icode MCl 137 9 = some (.getfield 43, 12, 817, 791, 1) := by decide +kernel
theorem k137_12 : icode MCl 137 12 = some (.iload_n 1, 13, 0, 0, 0) := by decide +kernel
theorem k137_13 : icode MCl 137 13 = some (.aload_n 0, 14, 0, 0, 0) := by decide +kernel
theorem k137_14 : icode MCl 137 14 = some (.getfield 40, 17, 816, 790, 1) := by decide +kernel
theorem k137_17 : icode MCl 137 17 = some (.iload_n 1, 18, 0, 0, 0) := by decide +kernel
theorem k137_18 : icode MCl 137 18 = some (.iaload, 19, 0, 0, 0) := by decide +kernel
theorem k137_19 : icode MCl 137 19 = some (.iastore, 20, 0, 0, 0) := by decide +kernel
theorem k137_20 : icode MCl 137 20 = some (.iinc 1 1, 23, 0, 0, 1) := by decide +kernel
theorem k137_23 : icode MCl 137 23 = some (.goto (-21), 26, 2, 0, 0) := by decide +kernel
theorem k137_26 : icode MCl 137 26 = some (.return_, 27, 0, 0, 0) := by decide +kernel
theorem k138_0 : icode MCl 138 0 = some (.aload_n 0, 1, 0, 0, 0) := by decide +kernel
theorem k138_1 : icode MCl 138 1 = some (.iload_n 1, 2, 0, 0, 0) := by decide +kernel
theorem k138_2 : icode MCl 138 2 = some (.invokevirtual 146, 5, 84, 916, 0) := by decide +kernel
theorem k138_5 : icode MCl 138 5 = some (.ifCond .eq 12, 8, 17, 0, 0) := by decide +kernel
theorem k138_8 : icode MCl 138 8 = some (.iload_n 2, 9, 0, 0, 0) := by decide +kernel
theorem k138_9 : icode MCl 138 9 = some (.iconst 0, 10, 0, 0, 0) := by decide +kernel
theorem k138_10 : icode MCl 138 10 = some (.iconst 1, 11, 0, 0, 1) := by decide +kernel
theorem k138_11 : icode MCl 138 11 = some (.invokestatic 73, 14, 59, 854, 0) := by decide +kernel
theorem k138_14 : icode MCl 138 14 = some (.ifCond .ne 5, 17, 19, 0, 0) := by decide +kernel
theorem k138_17 : icode MCl 138 17 = some (.iconst (-1), 18, 0, 0, (-1)) := by decide +kernel
theorem k138_18 : icode MCl 138 18 = some (.ireturn, 19, 0, 0, 0) := by decide +kernel
theorem k138_19 : icode MCl 138 19 = some (.aload_n 0, 20, 0, 0, 0) := by decide +kernel
theorem k138_20 : icode MCl 138 20 = some (.getfield 40, 23, 816, 790, 1) := by decide +kernel
theorem k138_23 : icode MCl 138 23 = some (.iload_n 1, 24, 0, 0, 0) := by decide +kernel
theorem k138_24 : icode MCl 138 24 = some (.iconst 1, 25, 0, 0, 1) := by decide +kernel
theorem k138_25 : icode MCl 138 25 = some (.invokestatic 135, 28, 79, 909, 0) := by decide +kernel
theorem k138_28 : icode MCl 138 28 = some (.iconst 2, 29, 0, 0, 2) := by decide +kernel
theorem k138_29 : icode MCl 138 29 = some (.if_icmp .ne 6, 32, 35, 0, 0) := by decide +kernel
theorem k138_32 : icode MCl 138 32 = some (.bipush (-2), 34, 0, 0, (-2)) := by decide +kernel
theorem k138_34 : icode MCl 138 34 = some (.ireturn, 35, 0, 0, 0) := by decide +kernel
theorem k138_35 : icode MCl 138 35 = some (.aload_n 0, 36, 0, 0, 0) := by decide +kernel
theorem k138_36 : icode MCl 138 36 = some (.invokevirtual 185, 39, 137, 991, 0) := by decide +kernel
theorem k138_39 : icode MCl 138 39 = some (.iconst 1, 40, 0, 0, 1) := by decide +kernel
theorem k138_40 : icode MCl 138 40 = some (.istore_n 3, 41, 0, 0, 0) := by decide +kernel
theorem k138_41 : icode MCl 138 41 = some (.iload_n 3, 42, 0, 0, 0) := by decide +kernel
theorem k138_42 : icode MCl 138 42 = some (.sipush 240, 45, 0, 0, 240) := by decide +kernel
theorem k138_45 : icode MCl 138 45 = some (.if_icmp .gt 48, 48, 93, 0, 0) := by decide +kernel
theorem k138_48 : icode MCl 138 48 = some (.aload_n 0, 49, 0, 0, 0) := by decide +kernel
theorem k138_49 : icode MCl 138 49 = some (.aload_n 0, 50, 0, 0, 0) := by decide +kernel
theorem k138_50 : icode MCl 138 50 = some (.getfield 43, 53, 817, 791, 1) := by decide +kernel
theorem k138_53 : icode MCl 138 53 = some (.invokevirtual 170, 56, 110, 945, 0) := by decide +kernel
theorem k138_56 : icode MCl 138 56 = some (.aload_n 0, 57, 0, 0, 0) := by decide +kernel
theorem k138_57 : icode MCl 138 57 = some (.getfield 43, 60, 817, 791, 1) := by decide +kernel
theorem k138_60 : icode MCl 138 60 = some (.iload_n 1, 61, 0, 0, 0) := by decide +kernel
theorem k138_61 : icode MCl 138 61 = some (.iconst 1, 62, 0, 0, 1) := by decide +kernel
theorem k138_62 : icode MCl 138 62 = some (.invokestatic 135, 65, 79, 909, 0) := by decide +kernel
theorem k138_65 : icode MCl 138 65 = some (.iconst 2, 66, 0, 0, 2) := by decide +kernel
theorem k138_66 : icode MCl 138 66 = some (.if_icmp .ne 21, 69, 87, 0, 0) := by decide +kernel
theorem k138_69 : icode MCl 138 69 = some (.iload_n 2, 70, 0, 0, 0) := by decide +kernel
theorem k138_70 : icode MCl 138 70 = some (.ifCond .ne 7, 73, 77, 0, 0) := by decide +kernel
theorem k138_73 : icode MCl 138 73 = some (.iload_n 3, 74, 0, 0, 0) := by decide +kernel
theorem k138_74 : icode MCl 138 74 = some (.goto 12, 77, 86, 0, 0) := by decide +kernel
theorem k138_77 : icode MCl 138 77 = some (.aload_n 0, 78, 0, 0, 0) := by decide +kernel
theorem k138_78 : icode MCl 138 78 = some (.getfield 43, 81, 817, 791, 1) := by decide +kernel
theorem k138_81 : icode MCl 138 81 = some (.iload_n 1, 82, 0, 0, 0) := by decide +kernel
theorem k138_82 : icode MCl 138 82 = some (.iconst 3, 83, 0, 0, 3) := by decide +kernel
theorem k138_83 : icode MCl 138 83 = some (.invokestatic 135, 86, 79, 909, 0) := by decide +kernel
theorem k138_86 : icode MCl 138 86 = some (.ireturn, 87, 0, 0, 0) := by decide +kernel
theorem k138_87 : icode MCl 138 87 = some (.iinc 3 1, 90, 0, 0, 1) := by decide +kernel
theorem k138_90 : icode MCl 138 90 = some (.goto (-49), 93, 41, 0, 0) := by decide +kernel
theorem k138_93 : icode MCl 138 93 = some (.bipush (-4), 95, 0, 0, (-4)) := by decide +kernel
theorem k138_95 : icode MCl 138 95 = some (.ireturn, 96, 0, 0, 0) := by decide +kernel
theorem k139_0 : icode MCl 139 0 = some (.aload_n 0, 1, 0, 0, 0) := by decide +kernel
theorem k139_1 : icode MCl 139 1 = some (.getfield 24, 4, 702, 411, 1) := by decide +kernel
theorem k139_4 : icode MCl 139 4 = some (.iload_n 1, 5, 0, 0, 0) := by decide +kernel
theorem k139_5 : icode MCl 139 5 = some (.invokevirtual 93, 8, 29, 461, 0) := by decide +kernel
theorem k139_8 : icode MCl 139 8 = some (.ifCond .eq 10, 11, 18, 0, 0) := by decide +kernel
theorem k139_11 : icode MCl 139 11 = some (.iload_n 2, 12, 0, 0, 0) := by decide +kernel
theorem k139_12 : icode MCl 139 12 = some (.invokestatic 138, 15, 89, 487, 0) := by decide +kernel
theorem k139_15 : icode MCl 139 15 = some (.ifCond .ne 5, 18, 20, 0, 0) := by decide +kernel
theorem k139_18 : icode MCl 139 18 = some (.iconst (-1), 19, 0, 0, (-1)) := by decide +kernel
theorem k139_19 : icode MCl 139 19 = some (.ireturn, 20, 0, 0, 0) := by decide +kernel
theorem k139_20 : icode MCl 139 20 = some (.iconst 1, 21, 0, 0, 1) := by decide +kernel
theorem k139_21 : icode MCl 139 21 = some (.istore_n 3, 22, 0, 0, 0) := by decide +kernel
theorem k139_22 : icode MCl 139 22 = some (.iload_n 3, 23, 0, 0, 0) := by decide +kernel
theorem k139_23 : icode MCl 139 23 = some (.sipush 256, 26, 0, 0, 256) := by decide +kernel
theorem k139_26 : icode MCl 139 26 = some (.if_icmp .ge 31, 29, 57, 0, 0) := by decide +kernel
theorem k139_29 : icode MCl 139 29 = some (.iload_n 3, 30, 0, 0, 0) := by decide +kernel
theorem k139_30 : icode MCl 139 30 = some (.invokestatic 161, 33, 88, 558, 0) := by decide +kernel
theorem k139_33 : icode MCl 139 33 = some (.ifCond .eq 18, 36, 51, 0, 0) := by decide +kernel
theorem k139_36 : icode MCl 139 36 = some (.aload_n 0, 37, 0, 0, 0) := by decide +kernel
theorem k139_37 : icode MCl 139 37 = some (.getfield 24, 40, 702, 411, 1) := by decide +kernel
theorem k139_40 : icode MCl 139 40 = some (.iload_n 1, 41, 0, 0, 0) := by decide +kernel
theorem k139_41 : icode MCl 139 41 = some (.iload_n 3, 42, 0, 0, 0) := by decide +kernel
theorem k139_42 : icode MCl 139 42 = some (.invokevirtual 175, 45, 126, 588, 0) := by decide +kernel
theorem k139_45 : icode MCl 139 45 = some (.iload_n 2, 46, 0, 0, 0) := by decide +kernel
theorem k139_46 : icode MCl 139 46 = some (.if_icmp .ne 5, 49, 51, 0, 0) := by decide +kernel
theorem k139_49 : icode MCl 139 49 = some (.iload_n 3, 50, 0, 0, 0) := by decide +kernel
theorem k139_50 : icode MCl 139 50 = some (.ireturn, 51, 0, 0, 0) := by decide +kernel
theorem k139_51 : icode MCl 139 51 = some (.iinc 3 1, 54, 0, 0, 1) := by decide +kernel
theorem k139_54 : icode MCl 139 54 = some (.goto (-32), 57, 22, 0, 0) := by decide +kernel
theorem k139_57 : icode MCl 139 57 = some (.bipush (-4), 59, 0, 0, (-4)) := by decide +kernel
theorem k139_59 : icode MCl 139 59 = some (.ireturn, 60, 0, 0, 0) := by decide +kernel
theorem k140_0 : icode MCl 140 0 = some (.aload_n 0, 1, 0, 0, 0) := by decide +kernel
theorem k140_1 : icode MCl 140 1 = some (.iload_n 1, 2, 0, 0, 0) := by decide +kernel
theorem k140_2 : icode MCl 140 2 = some (.invokevirtual 139, 5, 78, 901, 0) := by decide +kernel
theorem k140_5 : icode MCl 140 5 = some (.ifCond .eq 14, 8, 19, 0, 0) := by decide +kernel
theorem k140_8 : icode MCl 140 8 = some (.iload_n 2, 9, 0, 0, 0) := by decide +kernel
theorem k140_9 : icode MCl 140 9 = some (.ifCond .eq 12, 12, 21, 0, 0) := by decide +kernel
theorem k140_12 : icode MCl 140 12 = some (.iload_n 2, 13, 0, 0, 0) := by decide +kernel
theorem k140_13 : icode MCl 140 13 = some (.invokestatic 149, 16, 94, 924, 0) := by decide +kernel
theorem k140_16 : icode MCl 140 16 = some (.ifCond .ne 5, 19, 21, 0, 0) := by decide +kernel
theorem k140_19 : icode MCl 140 19 = some (.iconst (-1), 20, 0, 0, (-1)) := by decide +kernel
theorem k140_20 : icode MCl 140 20 = some (.ireturn, 21, 0, 0, 0) := by decide +kernel
theorem k140_21 : icode MCl 140 21 = some (.iconst 1, 22, 0, 0, 1) := by decide +kernel
theorem k140_22 : icode MCl 140 22 = some (.istore_n 3, 23, 0, 0, 0) := by decide +kernel
theorem k140_23 : icode MCl 140 23 = some (.iload_n 3, 24, 0, 0, 0) := by decide +kernel
theorem k140_24 : icode MCl 140 24 = some (.sipush 256, 27, 0, 0, 256) := by decide +kernel
theorem k140_27 : icode MCl 140 27 = some (.if_icmp .ge 28, 30, 55, 0, 0) := by decide +kernel
theorem k140_30 : icode MCl 140 30 = some (.iload_n 3, 31, 0, 0, 0) := by decide +kernel
theorem k140_31 : icode MCl 140 31 = some (.invokestatic 149, 34, 94, 924, 0) := by decide +kernel
theorem k140_34 : icode MCl 140 34 = some (.ifCond .eq 15, 37, 49, 0, 0) := by decide +kernel
theorem k140_37 : icode MCl 140 37 = some (.aload_n 0, 38, 0, 0, 0) := by decide +kernel
theorem k140_38 : icode MCl 140 38 = some (.iload_n 1, 39, 0, 0, 0) := by decide +kernel
theorem k140_39 : icode MCl 140 39 = some (.iload_n 3, 40, 0, 0, 0) := by decide +kernel
theorem k140_40 : icode MCl 140 40 = some (.invokevirtual 182, 43, 131, 979, 0) := by decide +kernel
theorem k140_43 : icode MCl 140 43 = some (.iload_n 2, 44, 0, 0, 0) := by decide +kernel
theorem k140_44 : icode MCl 140 44 = some (.if_icmp .ne 5, 47, 49, 0, 0) := by decide +kernel
theorem k140_47 : icode MCl 140 47 = some (.iload_n 3, 48, 0, 0, 0) := by decide +kernel
theorem k140_48 : icode MCl 140 48 = some (.ireturn, 49, 0, 0, 0) := by decide +kernel
theorem k140_49 : icode MCl 140 49 = some (.iinc 3 1, 52, 0, 0, 1) := by decide +kernel
theorem k140_52 : icode MCl 140 52 = some (.goto (-29), 55, 23, 0, 0) := by decide +kernel
theorem k140_55 : icode MCl 140 55 = some (.bipush (-4), 57, 0, 0, (-4)) := by decide +kernel
theorem k140_57 : icode MCl 140 57 = some (.ireturn, 58, 0, 0, 0) := by decide +kernel
theorem k141_0 : icode MCl 141 0 = some (.aload_n 0, 1, 0, 0, 0) := by decide +kernel
theorem k141_1 : icode MCl 141 1 = some (.getfield 24, 4, 702, 411, 1) := by decide +kernel
theorem k141_4 : icode MCl 141 4 = some (.iload_n 1, 5, 0, 0, 0) := by decide +kernel
theorem k141_5 : icode MCl 141 5 = some (.invokevirtual 93, 8, 29, 461, 0) := by decide +kernel
theorem k141_8 : icode MCl 141 8 = some (.ifCond .eq 10, 11, 18, 0, 0) := by decide +kernel
theorem k141_11 : icode MCl 141 11 = some (.iload_n 2, 12, 0, 0, 0) := by decide +kernel
theorem k141_12 : icode MCl 141 12 = some (.invokestatic 138, 15, 89, 487, 0) := by decide +kernel
theorem k141_15 : icode MCl 141 15 = some (.ifCond .ne 5, 18, 20, 0, 0) := by decide +kernel
theorem k141_18 : icode MCl 141 18 = some (.iconst (-1), 19, 0, 0, (-1)) := by decide +kernel
theorem k141_19 : icode MCl 141 19 = some (.ireturn, 20, 0, 0, 0) := by decide +kernel
theorem k141_20 : icode MCl 141 20 = some (.iconst 0, 21, 0, 0, 0) := by decide +kernel
theorem k141_21 : icode MCl 141 21 = some (.istore_n 3, 22, 0, 0, 0) := by decide +kernel
theorem k141_22 : icode MCl 141 22 = some (.iconst 1, 23, 0, 0, 1) := by decide +kernel
theorem k141_23 : icode MCl 141 23 = some (.istore 4, 25, 0, 0, 0) := by decide +kernel
theorem k141_25 : icode MCl 141 25 = some (.iload 4, 27, 0, 0, 0) := by decide +kernel
theorem k141_27 : icode MCl 141 27 = some (.sipush 1024, 30, 0, 0, 1024) := by decide +kernel
theorem k141_30 : icode MCl 141 30 = some (.if_icmp .ge 34, 33, 64, 0, 0) := by decide +kernel
theorem k141_33 : icode MCl 141 33 = some (.iload 4, 35, 0, 0, 0) := by decide +kernel
theorem k141_35 : icode MCl 141 35 = some (.invokestatic 161, 38, 88, 558, 0) := by decide +kernel
theorem k141_38 : icode MCl 141 38 = some (.ifCond .eq 20, 41, 58, 0, 0) := by decide +kernel
theorem k141_41 : icode MCl 141 41 = some (.aload_n 0, 42, 0, 0, 0) := by decide +kernel
theorem k141_42 : icode MCl 141 42 = some (.getfield 24, 45, 702, 411, 1) := by decide +kernel
theorem k141_45 : icode MCl 141 45 = some (.iload_n 1, 46, 0, 0, 0) := by decide +kernel
theorem k141_46 : icode MCl 141 46 = some (.iload 4, 48, 0, 0, 0) := by decide +kernel
theorem k141_48 : icode MCl 141 48 = some (.invokevirtual 175, 51, 126, 588, 0) := by decide +kernel
theorem k141_51 : icode MCl 141 51 = some (.iload_n 2, 52, 0, 0, 0) := by decide +kernel
theorem k141_52 : icode MCl 141 52 = some (.if_icmp .ne 6, 55, 58, 0, 0) := by decide +kernel
theorem k141_55 : icode MCl 141 55 = some (.iinc 3 1, 58, 0, 0, 1) := by decide +kernel
theorem k141_58 : icode MCl 141 58 = some (.iinc 4 1, 61, 0, 0, 1) := by decide +kernel
theorem k141_61 : icode MCl 141 61 = some (.goto (-36), 64, 25, 0, 0) := by decide +kernel
theorem k141_64 : icode MCl 141 64 = some (.iload_n 3, 65, 0, 0, 0) := by decide +kernel
theorem k141_65 : icode MCl 141 65 = some (.ireturn, 66, 0, 0, 0) := by decide +kernel
theorem k142_0 : icode MCl 142 0 = some (.aload_n 0, 1, 0, 0, 0) := by decide +kernel
theorem k142_1 : icode MCl 142 1 = some (.iload_n 1, 2, 0, 0, 0) := by decide +kernel
theorem k142_2 : icode MCl 142 2 = some (.invokevirtual 139, 5, 78, 901, 0) := by decide +kernel
theorem k142_5 : icode MCl 142 5 = some (.ifCond .eq 14, 8, 19, 0, 0) := by decide +kernel
theorem k142_8 : icode MCl 142 8 = some (.iload_n 2, 9, 0, 0, 0) := by decide +kernel
theorem k142_9 : icode MCl 142 9 = some (.ifCond .eq 12, 12, 21, 0, 0) := by decide +kernel
theorem k142_12 : icode MCl 142 12 = some (.iload_n 2, 13, 0, 0, 0) := by decide +kernel
theorem k142_13 : icode MCl 142 13 = some (.invokestatic 149, 16, 94, 924, 0) := by decide +kernel
theorem k142_16 : icode MCl 142 16 = some (.ifCond .ne 5, 19, 21, 0, 0) := by decide +kernel
theorem k142_19 : icode MCl 142 19 = some (.iconst (-1), 20, 0, 0, (-1)) := by decide +kernel
theorem k142_20 : icode MCl 142 20 = some (.ireturn, 21, 0, 0, 0) := by decide +kernel
theorem k142_21 : icode MCl 142 21 = some (.iconst 0, 22, 0, 0, 0) := by decide +kernel
theorem k142_22 : icode MCl 142 22 = some (.istore_n 3, 23, 0, 0, 0) := by decide +kernel
theorem k142_23 : icode MCl 142 23 = some (.iconst 1, 24, 0, 0, 1) := by decide +kernel
theorem k142_24 : icode MCl 142 24 = some (.istore 4, 26, 0, 0, 0) := by decide +kernel
theorem k142_26 : icode MCl 142 26 = some (.iload 4, 28, 0, 0, 0) := by decide +kernel
theorem k142_28 : icode MCl 142 28 = some (.sipush 1024, 31, 0, 0, 1024) := by decide +kernel
theorem k142_31 : icode MCl 142 31 = some (.if_icmp .ge 36, 34, 67, 0, 0) := by decide +kernel
theorem k142_34 : icode MCl 142 34 = some (.iload_n 3, 35, 0, 0, 0) := by decide +kernel
theorem k142_35 : icode MCl 142 35 = some (.iload 4, 37, 0, 0, 0) := by decide +kernel
theorem k142_37 : icode MCl 142 37 = some (.invokestatic 149, 40, 94, 924, 0) := by decide +kernel
theorem k142_40 : icode MCl 142 40 = some (.ifCond .eq 18, 43, 58, 0, 0) := by decide +kernel
theorem k142_43 : icode MCl 142 43 = some (.aload_n 0, 44, 0, 0, 0) := by decide +kernel
theorem k142_44 : icode MCl 142 44 = some (.iload_n 1, 45, 0, 0, 0) := by decide +kernel
theorem k142_45 : icode MCl 142 45 = some (.iload 4, 47, 0, 0, 0) := by decide +kernel
theorem k142_47 : icode MCl 142 47 = some (.invokevirtual 182, 50, 131, 979, 0) := by decide +kernel
theorem k142_50 : icode MCl 142 50 = some (.iload_n 2, 51, 0, 0, 0) := by decide +kernel
theorem k142_51 : icode MCl 142 51 = some (.if_icmp .ne 7, 54, 58, 0, 0) := by decide +kernel
theorem k142_54 : icode MCl 142 54 = some (.iconst 1, 55, 0, 0, 1) := by decide +kernel
theorem k142_55 : icode MCl 142 55 = some (.goto 4, 58, 59, 0, 0) := by decide +kernel
theorem k142_58 : icode MCl 142 58 = some (.iconst 0, 59, 0, 0, 0) := by decide +kernel
theorem k142_59 : icode MCl 142 59 = some (.iadd, 60, 0, 0, 0) := by decide +kernel
theorem k142_60 : icode MCl 142 60 = some (.istore_n 3, 61, 0, 0, 0) := by decide +kernel
theorem k142_61 : icode MCl 142 61 = some (.iinc 4 1, 64, 0, 0, 1) := by decide +kernel
theorem k142_64 : icode MCl 142 64 = some (.goto (-38), 67, 26, 0, 0) := by decide +kernel
theorem k142_67 : icode MCl 142 67 = some (.iload_n 3, 68, 0, 0, 0) := by decide +kernel
theorem k142_68 : icode MCl 142 68 = some (.ireturn, 69, 0, 0, 0) := by decide +kernel
theorem k143_0 : icode MCl 143 0 = some (.iload_n 0, 1, 0, 0, 0) := by decide +kernel
theorem k143_1 : icode MCl 143 1 = some (.iload_n 0, 2, 0, 0, 0) := by decide +kernel
theorem k143_2 : icode MCl 143 2 = some (.iconst 1, 3, 0, 0, 1) := by decide +kernel
theorem k143_3 : icode MCl 143 3 = some (.iushr, 4, 0, 0, 0) := by decide +kernel
theorem k143_4 : icode MCl 143 4 = some (.ldc_w 265, 7, 0, 640, 1431655765) := by decide +kernel
theorem k143_7 : icode MCl 143 7 = some (.iand, 8, 0, 0, 0) := by decide +kernel
theorem k143_8 : icode MCl 143 8 = some (.isub, 9, 0, 0, 0) := by decide +kernel
theorem k143_9 : icode MCl 143 9 = some (.istore_n 0, 10, 0, 0, 0) := by decide +kernel
theorem k143_10 : icode MCl 143 10 = some (.iload_n 0, 11, 0, 0, 0) := by decide +kernel
theorem k143_11 : icode MCl 143 11 = some (.ldc_w 266, 14, 0, 641, 858993459) := by decide +kernel
theorem k143_14 : icode MCl 143 14 = some (.iand, 15, 0, 0, 0) := by decide +kernel
theorem k143_15 : icode MCl 143 15 = some (.iload_n 0, 16, 0, 0, 0) := by decide +kernel
theorem k143_16 : icode MCl 143 16 = some (.iconst 2, 17, 0, 0, 2) := by decide +kernel
theorem k143_17 : icode MCl 143 17 = some (.iushr, 18, 0, 0, 0) := by decide +kernel
theorem k143_18 : icode MCl 143 18 = some (.ldc_w 266, 21, 0, 641, 858993459) := by decide +kernel
theorem k143_21 : icode MCl 143 21 = some (.iand, 22, 0, 0, 0) := by decide +kernel
theorem k143_22 : icode MCl 143 22 = some (.iadd, 23, 0, 0, 0) := by decide +kernel
theorem k143_23 : icode MCl 143 23 = some (.istore_n 0, 24, 0, 0, 0) := by decide +kernel
theorem k143_24 : icode MCl 143 24 = some (.iload_n 0, 25, 0, 0, 0) := by decide +kernel
theorem k143_25 : icode MCl 143 25 = some (.iload_n 0, 26, 0, 0, 0) := by decide +kernel
theorem k143_26 : icode MCl 143 26 = some (.iconst 4, 27, 0, 0, 4) := by decide +kernel
theorem k143_27 : icode MCl 143 27 = some (.iushr, 28, 0, 0, 0) := by decide +kernel
theorem k143_28 : icode MCl 143 28 = some (.iadd, 29, 0, 0, 0) := by decide +kernel
theorem k143_29 : icode MCl 143 29 = some (.ldc_w 267, 32, 0, 642, 252645135) := by decide +kernel
theorem k143_32 : icode MCl 143 32 = some (.iand, 33, 0, 0, 0) := by decide +kernel
theorem k143_33 : icode MCl 143 33 = some (.istore_n 0, 34, 0, 0, 0) := by decide +kernel
theorem k143_34 : icode MCl 143 34 = some (.iload_n 0, 35, 0, 0, 0) := by decide +kernel
theorem k143_35 : icode MCl 143 35 = some (.iload_n 0, 36, 0, 0, 0) := by decide +kernel
theorem k143_36 : icode MCl 143 36 = some (.bipush 8, 38, 0, 0, 8) := by decide +kernel
theorem k143_38 : icode MCl 143 38 = some (.iushr, 39, 0, 0, 0) := by decide +kernel
theorem k143_39 : icode MCl 143 39 = some (.iadd, 40, 0, 0, 0) := by decide +kernel
theorem k143_40 : icode MCl 143 40 = some (.istore_n 0, 41, 0, 0, 0) := by decide +kernel
theorem k143_41 : icode MCl 143 41 = some (.iload_n 0, 42, 0, 0, 0) := by decide +kernel
theorem k143_42 : icode MCl 143 42 = some (.iload_n 0, 43, 0, 0, 0) := by decide +kernel
theorem k143_43 : icode MCl 143 43 = some (.bipush 16, 45, 0, 0, 16) := by decide +kernel
theorem k143_45 : icode MCl 143 45 = some (.iushr, 46, 0, 0, 0) := by decide +kernel
theorem k143_46 : icode MCl 143 46 = some (.iadd, 47, 0, 0, 0) := by decide +kernel
theorem k143_47 : icode MCl 143 47 = some (.istore_n 0, 48, 0, 0, 0) := by decide +kernel
theorem k143_48 : icode MCl 143 48 = some (.iload_n 0, 49, 0, 0, 0) := by decide +kernel
theorem k143_49 : icode MCl 143 49 = some (.bipush 63, 51, 0, 0, 63) := by decide +kernel
theorem k143_51 : icode MCl 143 51 = some (.iand, 52, 0, 0, 0) := by decide +kernel
theorem k143_52 : icode MCl 143 52 = some (.ireturn, 53, 0, 0, 0) := by decide +kernel
theorem k144_0 : icode MCl 144 0 = some (.iload_n 1, 1, 0, 0, 0) := by decide +kernel
theorem k144_1 : icode MCl 144 1 = some (.iconst 0, 2, 0, 0, 0) := by decide +kernel
theorem k144_2 : icode MCl 144 2 = some (.iconst 1, 3, 0, 0, 1) := by decide +kernel
theorem k144_3 : icode MCl 144 3 = some (.invokestatic 84, 6, 22, 439, 0) := by decide +kernel
theorem k144_6 : icode MCl 144 6 = some (.ifCond .ne 5, 9, 11, 0, 0) := by decide +kernel
theorem k144_9 : icode MCl 144 9 = some (.iconst (-1), 10, 0, 0, (-1)) := by decide +kernel
theorem k144_10 : icode MCl 144 10 = some (.ireturn, 11, 0, 0, 0) := by decide +kernel
theorem k144_11 : icode MCl 144 11 = some (.iconst 0, 12, 0, 0, 0) := by decide +kernel
theorem k144_12 : icode MCl 144 12 = some (.istore_n 2, 13, 0, 0, 0) := by decide +kernel
theorem k144_13 : icode MCl 144 13 = some (.iconst 0, 14, 0, 0, 0) := by decide +kernel
theorem k144_14 : icode MCl 144 14 = some (.istore_n 3, 15, 0, 0, 0) := by decide +kernel
theorem k144_15 : icode MCl 144 15 = some (.iload_n 3, 16, 0, 0, 0) := by decide +kernel
theorem k144_16 : icode MCl 144 16 = some (.aload_n 0, 17, 0, 0, 0) := by decide +kernel
theorem k144_17 : icode MCl 144 17 = some (.getfield 31, 20, 703, 412, 1) := by decide +kernel
theorem k144_20 : icode MCl 144 20 = some (.invokevirtual 164, 23, 115, 559, 0) := by decide +kernel
theorem k144_23 : icode MCl 144 23 = some (.if_icmp .ge 72, 26, 95, 0, 0) := by decide +kernel
theorem k144_26 : icode MCl 144 26 = some (.aload_n 0, 27, 0, 0, 0) := by decide +kernel
theorem k144_27 : icode MCl 144 27 = some (.getfield 31, 30, 703, 412, 1) := by decide +kernel
theorem k144_30 : icode MCl 144 30 = some (.iload_n 3, 31, 0, 0, 0) := by decide +kernel
theorem k144_31 : icode MCl 144 31 = some (.invokevirtual 113, 34, 30, 482, 0) := by decide +kernel
theorem k144_34 : icode MCl 144 34 = some (.astore 4, 36, 0, 0, 0) := by decide +kernel
theorem k144_36 : icode MCl 144 36 = some (.aload 4, 38, 0, 0, 0) := by decide +kernel
theorem k144_38 : icode MCl 144 38 = some (.getfield 123, 41, 101, 118, 0) := by decide +kernel
theorem k144_41 : icode MCl 144 41 = some (.iconst 2, 42, 0, 0, 2) := by decide +kernel
theorem k144_42 : icode MCl 144 42 = some (.if_icmp .ne 6, 45, 48, 0, 0) := by decide +kernel
theorem k144_45 : icode MCl 144 45 = some (.goto 44, 48, 89, 0, 0) := by decide +kernel
theorem k144_48 : icode MCl 144 48 = some (.aload 4, 50, 0, 0, 0) := by decide +kernel
theorem k144_50 : icode MCl 144 50 = some (.aload_n 0, 51, 0, 0, 0) := by decide +kernel
theorem k144_51 : icode MCl 144 51 = some (.getfield 24, 54, 702, 411, 1) := by decide +kernel
theorem k144_54 : icode MCl 144 54 = some (.aload_n 0, 55, 0, 0, 0) := by decide +kernel
theorem k144_55 : icode MCl 144 55 = some (.getfield 31, 58, 703, 412, 1) := by decide +kernel
theorem k144_58 : icode MCl 144 58 = some (.invokevirtual 165, 61, 116, 563, 0) := by decide +kernel
theorem k144_61 : icode MCl 144 61 = some (.invokevirtual 181, 64, 133, 611, 0) := by decide +kernel
theorem k144_64 : icode MCl 144 64 = some (.sipush 240, 67, 0, 0, 240) := by decide +kernel
theorem k144_67 : icode MCl 144 67 = some (.if_icmp .le 6, 70, 73, 0, 0) := by decide +kernel
theorem k144_70 : icode MCl 144 70 = some (.bipush (-4), 72, 0, 0, (-4)) := by decide +kernel
theorem k144_72 : icode MCl 144 72 = some (.ireturn, 73, 0, 0, 0) := by decide +kernel
theorem k144_73 : icode MCl 144 73 = some (.iload_n 2, 74, 0, 0, 0) := by decide +kernel
theorem k144_74 : icode MCl 144 74 = some (.aload_n 0, 75, 0, 0, 0) := by decide +kernel
theorem k144_75 : icode MCl 144 75 = some (.getfield 31, 78, 703, 412, 1) := by decide +kernel
theorem k144_78 : icode MCl 144 78 = some (.aload 4, 80, 0, 0, 0) := by decide +kernel
theorem k144_80 : icode MCl 144 80 = some (.aload_n 0, 81, 0, 0, 0) := by decide +kernel
theorem k144_81 : icode MCl 144 81 = some (.getfield 24, 84, 702, 411, 1) := by decide +kernel
theorem k144_84 : icode MCl 144 84 = some (.invokevirtual 184, 87, 135, 616, 0) := by decide +kernel
theorem k144_87 : icode MCl 144 87 = some (.ior, 88, 0, 0, 0) := by decide +kernel
theorem k144_88 : icode MCl 144 88 = some (.istore_n 2, 89, 0, 0, 0) := by decide +kernel
theorem k144_89 : icode MCl 144 89 = some (.iinc 3 1, 92, 0, 0, 1) := by decide +kernel
theorem k144_92 : icode MCl 144 92 = some (.goto (-77), 95, 15, 0, 0) := by decide +kernel
theorem k144_95 : icode MCl 144 95 = some (.iload_n 1, 96, 0, 0, 0) := by decide +kernel
theorem k144_96 : icode MCl 144 96 = some (.ifCond .ne 10, 99, 106, 0, 0) := by decide +kernel
theorem k144_99 : icode MCl 144 99 = some (.iload_n 2, 100, 0, 0, 0) := by decide +kernel
theorem k144_100 : icode MCl 144 100 = some (.invokestatic 188, 103, 143, 637, 0) := by decide +kernel
theorem k144_103 : icode MCl 144 103 = some (.goto 4, 106, 107, 0, 0) := by decide +kernel
theorem k144_106 : icode MCl 144 106 = some (.iload_n 2, 107, 0, 0, 0) := by decide +kernel
theorem k144_107 : icode MCl 144 107 = some (.ireturn, 108, 0, 0, 0) := by decide +kernel
theorem k145_0 : icode MCl 145 0 = some (.iconst 0, 1, 0, 0, 0) := by decide +kernel
theorem k145_1 : icode MCl 145 1 = some (.istore_n 1, 2, 0, 0, 0) := by decide +kernel
theorem k145_2 : icode MCl 145 2 = some (.iload_n 0, 3, 0, 0, 0) := by decide +kernel
theorem k145_3 : icode MCl 145 3 = some (.istore_n 2, 4, 0, 0, 0) := by decide +kernel
theorem k145_4 : icode MCl 145 4 = some (.iload_n 2, 5, 0, 0, 0) := by decide +kernel
theorem k145_5 : icode MCl 145 5 = some (.ifCond .eq 15, 8, 20, 0, 0) := by decide +kernel
theorem k145_8 : icode MCl 145 8 = some (.iinc 1 1, 11, 0, 0, 1) := by decide +kernel
theorem k145_11 : icode MCl 145 11 = some (.iload_n 2, 12, 0, 0, 0) := by decide +kernel
theorem k145_12 : icode MCl 145 12 = some (.iload_n 2, 13, 0, 0, 0) := by decide +kernel
theorem k145_13 : icode MCl 145 13 = some (.iconst 1, 14, 0, 0, 1) := by decide +kernel
theorem k145_14 : icode MCl 145 14 = some (.isub, 15, 0, 0, 0) := by decide +kernel
theorem k145_15 : icode MCl 145 15 = some (.iand, 16, 0, 0, 0) := by decide +kernel
theorem k145_16 : icode MCl 145 16 = some (.istore_n 2, 17, 0, 0, 0) := by decide +kernel
theorem k145_17 : icode MCl 145 17 = some (.goto (-13), 20, 4, 0, 0) := by decide +kernel
theorem k145_20 : icode MCl 145 20 = some (.iload_n 1, 21, 0, 0, 0) := by decide +kernel
theorem k145_21 : icode MCl 145 21 = some (.ireturn, 22, 0, 0, 0) := by decide +kernel
theorem k146_0 : icode MCl 146 0 = some (.aload_n 0, 1, 0, 0, 0) := by decide +kernel
theorem k146_1 : icode MCl 146 1 = some (.invokevirtual 185, 4, 137, 991, 0) := by decide +kernel
theorem k146_4 : icode MCl 146 4 = some (.aload_n 0, 5, 0, 0, 0) := by decide +kernel
theorem k146_5 : icode MCl 146 5 = some (.getfield 43, 8, 817, 791, 1) := by decide +kernel
theorem k146_8 : icode MCl 146 8 = some (.iconst 1, 9, 0, 0, 1) := by decide +kernel
theorem k146_9 : icode MCl 146 9 = some (.dup2, 10, 0, 0, 0) := by decide +kernel
theorem k146_10 : icode MCl 146 10 = some (.iaload, 11, 0, 0, 0) := by decide +kernel
theorem k146_11 : icode MCl 146 11 = some (.iload_n 1, 12, 0, 0, 0) := by decide +kernel
theorem k146_12 : icode MCl 146 12 = some (.iconst (-1), 13, 0, 0, (-1)) := by decide +kernel
theorem k146_13 : icode MCl 146 13 = some (.ixor, 14, 0, 0, 0) := by decide +kernel
theorem k146_14 : icode MCl 146 14 = some (.iand, 15, 0, 0, 0) := by decide +kernel
theorem k146_15 : icode MCl 146 15 = some (.iastore, 16, 0, 0, 0) := by decide +kernel
theorem k146_16 : icode MCl 146 16 = some (.iconst 0, 17, 0, 0, 0) := by decide +kernel
theorem k146_17 : icode MCl 146 17 = some (.istore_n 2, 18, 0, 0, 0) := by decide +kernel
theorem k146_18 : icode MCl 146 18 = some (.iload_n 2, 19, 0, 0, 0) := by decide +kernel
theorem k146_19 : icode MCl 146 19 = some (.sipush 240, 22, 0, 0, 240) := by decide +kernel
theorem k146_22 : icode MCl 146 22 = some (.if_icmp .ge 17, 25, 39, 0, 0) := by decide +kernel
theorem k146_25 : icode MCl 146 25 = some (.aload_n 0, 26, 0, 0, 0) := by decide +kernel
theorem k146_26 : icode MCl 146 26 = some (.aload_n 0, 27, 0, 0, 0) := by decide +kernel
theorem k146_27 : icode MCl 146 27 = some (.getfield 43, 30, 817, 791, 1) := by decide +kernel
theorem k146_30 : icode MCl 146 30 = some (.invokevirtual 170, 33, 110, 945, 0) := by decide +kernel
theorem k146_33 : icode MCl 146 33 = some (.iinc 2 1, 36, 0, 0, 1) := by decide +kernel
theorem k146_36 : icode MCl 146 36 = some (.goto (-18), 39, 18, 0, 0) := by decide +kernel
theorem k146_39 : icode MCl 146 39 = some (.aload_n 0, 40, 0, 0, 0) := by decide +kernel
theorem k146_40 : icode MCl 146 40 = some (.getfield 43, 43, 817, 791, 1) := by decide +kernel
theorem k146_43 : icode MCl 146 43 = some (.invokestatic 174, 46, 111, 956, 0) := by decide +kernel
theorem k146_46 : icode MCl 146 46 = some (.aload_n 0, 47, 0, 0, 0) := by decide +kernel
theorem k146_47 : icode MCl 146 47 = some (.getfield 43, 50, 817, 791, 1) := by decide +kernel
theorem k146_50 : icode MCl 146 50 = some (.iconst 2, 51, 0, 0, 2) := by decide +kernel
theorem k146_51 : icode MCl 146 51 = some (.iaload, 52, 0, 0, 0) := by decide +kernel
theorem k146_52 : icode MCl 146 52 = some (.if_icmp .ne 7, 55, 59, 0, 0) := by decide +kernel
theorem k146_55 : icode MCl 146 55 = some (.iconst 1, 56, 0, 0, 1) := by decide +kernel
theorem k146_56 : icode MCl 146 56 = some (.goto 4, 59, 60, 0, 0) := by decide +kernel
theorem k146_59 : icode MCl 146 59 = some (.iconst 0, 60, 0, 0, 0) := by decide +kernel
theorem k146_60 : icode MCl 146 60 = some (.ireturn, 61, 0, 0, 0) := by decide +kernel
theorem k147_0 : icode MCl 147 0 = some (.iload_n 1, 1, 0, 0, 0) := by decide +kernel
theorem k147_1 : icode MCl 147 1 = some (.iconst 0, 2, 0, 0, 0) := by decide +kernel
theorem k147_2 : icode MCl 147 2 = some (.iconst 1, 3, 0, 0, 1) := by decide +kernel
theorem k147_3 : icode MCl 147 3 = some (.invokestatic 73, 6, 59, 854, 0) := by decide +kernel
theorem k147_6 : icode MCl 147 6 = some (.ifCond .ne 5, 9, 11, 0, 0) := by decide +kernel
theorem k147_9 : icode MCl 147 9 = some (.iconst (-1), 10, 0, 0, (-1)) := by decide +kernel
theorem k147_10 : icode MCl 147 10 = some (.ireturn, 11, 0, 0, 0) := by decide +kernel
theorem k147_11 : icode MCl 147 11 = some (.bipush (-4), 13, 0, 0, (-4)) := by decide +kernel
theorem k147_13 : icode MCl 147 13 = some (.istore_n 2, 14, 0, 0, 0) := by decide +kernel
theorem k147_14 : icode MCl 147 14 = some (.iconst 0, 15, 0, 0, 0) := by decide +kernel
theorem k147_15 : icode MCl 147 15 = some (.istore_n 3, 16, 0, 0, 0) := by decide +kernel
theorem k147_16 : icode MCl 147 16 = some (.iload_n 3, 17, 0, 0, 0) := by decide +kernel
theorem k147_17 : icode MCl 147 17 = some (.aload_n 0, 18, 0, 0, 0) := by decide +kernel
theorem k147_18 : icode MCl 147 18 = some (.getfield 40, 21, 816, 790, 1) := by decide +kernel
theorem k147_21 : icode MCl 147 21 = some (.iconst 1, 22, 0, 0, 1) := by decide +kernel
theorem k147_22 : icode MCl 147 22 = some (.iaload, 23, 0, 0, 0) := by decide +kernel
theorem k147_23 : icode MCl 147 23 = some (.if_icmp .gt 65, 26, 88, 0, 0) := by decide +kernel
theorem k147_26 : icode MCl 147 26 = some (.iload_n 3, 27, 0, 0, 0) := by decide +kernel
theorem k147_27 : icode MCl 147 27 = some (.aload_n 0, 28, 0, 0, 0) := by decide +kernel
theorem k147_28 : icode MCl 147 28 = some (.getfield 40, 31, 816, 790, 1) := by decide +kernel
theorem k147_31 : icode MCl 147 31 = some (.iconst 1, 32, 0, 0, 1) := by decide +kernel
theorem k147_32 : icode MCl 147 32 = some (.iaload, 33, 0, 0, 0) := by decide +kernel
theorem k147_33 : icode MCl 147 33 = some (.iconst (-1), 34, 0, 0, (-1)) := by decide +kernel
theorem k147_34 : icode MCl 147 34 = some (.ixor, 35, 0, 0, 0) := by decide +kernel
theorem k147_35 : icode MCl 147 35 = some (.iand, 36, 0, 0, 0) := by decide +kernel
theorem k147_36 : icode MCl 147 36 = some (.ifCond .ne 24, 39, 60, 0, 0) := by decide +kernel
theorem k147_39 : icode MCl 147 39 = some (.iload_n 2, 40, 0, 0, 0) := by decide +kernel
theorem k147_40 : icode MCl 147 40 = some (.bipush (-4), 42, 0, 0, (-4)) := by decide +kernel
theorem k147_42 : icode MCl 147 42 = some (.if_icmp .eq 14, 45, 56, 0, 0) := by decide +kernel
theorem k147_45 : icode MCl 147 45 = some (.iload_n 3, 46, 0, 0, 0) := by decide +kernel
theorem k147_46 : icode MCl 147 46 = some (.invokestatic 188, 49, 145, 1007, 0) := by decide +kernel
theorem k147_49 : icode MCl 147 49 = some (.iload_n 2, 50, 0, 0, 0) := by decide +kernel
theorem k147_50 : icode MCl 147 50 = some (.invokestatic 188, 53, 145, 1007, 0) := by decide +kernel
theorem k147_53 : icode MCl 147 53 = some (.if_icmp .ge 7, 56, 60, 0, 0) := by decide +kernel
theorem k147_56 : icode MCl 147 56 = some (.iconst 1, 57, 0, 0, 1) := by decide +kernel
theorem k147_57 : icode MCl 147 57 = some (.goto 4, 60, 61, 0, 0) := by decide +kernel
theorem k147_60 : icode MCl 147 60 = some (.iconst 0, 61, 0, 0, 0) := by decide +kernel
theorem k147_61 : icode MCl 147 61 = some (.istore 4, 63, 0, 0, 0) := by decide +kernel
theorem k147_63 : icode MCl 147 63 = some (.iload 4, 65, 0, 0, 0) := by decide +kernel
theorem k147_65 : icode MCl 147 65 = some (.ifCond .eq 15, 68, 80, 0, 0) := by decide +kernel
theorem k147_68 : icode MCl 147 68 = some (.aload_n 0, 69, 0, 0, 0) := by decide +kernel
theorem k147_69 : icode MCl 147 69 = some (.iload_n 3, 70, 0, 0, 0) := by decide +kernel
theorem k147_70 : icode MCl 147 70 = some (.invokevirtual 191, 73, 146, 1010, 0) := by decide +kernel
theorem k147_73 : icode MCl 147 73 = some (.ifCond .eq 7, 76, 80, 0, 0) := by decide +kernel
theorem k147_76 : icode MCl 147 76 = some (.iload_n 3, 77, 0, 0, 0) := by decide +kernel
theorem k147_77 : icode MCl 147 77 = some (.goto 4, 80, 81, 0, 0) := by decide +kernel
theorem k147_80 : icode MCl 147 80 = some (.iload_n 2, 81, 0, 0, 0) := by decide +kernel
theorem k147_81 : icode MCl 147 81 = some (.istore_n 2, 82, 0, 0, 0) := by decide +kernel
theorem k147_82 : icode MCl 147 82 = some (.iinc 3 1, 85, 0, 0, 1) := by decide +kernel
theorem k147_85 : icode MCl 147 85 = some (.goto (-69), 88, 16, 0, 0) := by decide +kernel
theorem k147_88 : icode MCl 147 88 = some (.iload_n 2, 89, 0, 0, 0) := by decide +kernel
theorem k147_89 : icode MCl 147 89 = some (.bipush (-4), 91, 0, 0, (-4)) := by decide +kernel
theorem k147_91 : icode MCl 147 91 = some (.if_icmp .ne 8, 94, 99, 0, 0) := by decide +kernel
theorem k147_94 : icode MCl 147 94 = some (.bipush (-4), 96, 0, 0, (-4)) := by decide +kernel
theorem k147_96 : icode MCl 147 96 = some (.goto 15, 99, 111, 0, 0) := by decide +kernel
theorem k147_99 : icode MCl 147 99 = some (.iload_n 1, 100, 0, 0, 0) := by decide +kernel
theorem k147_100 : icode MCl 147 100 = some (.ifCond .ne 10, 103, 110, 0, 0) := by decide +kernel
theorem k147_103 : icode MCl 147 103 = some (.iload_n 2, 104, 0, 0, 0) := by decide +kernel
theorem k147_104 : icode MCl 147 104 = some (.invokestatic 188, 107, 145, 1007, 0) := by decide +kernel
theorem k147_107 : icode MCl 147 107 = some (.goto 4, 110, 111, 0, 0) := by decide +kernel
theorem k147_110 : icode MCl 147 110 = some (.iload_n 2, 111, 0, 0, 0) := by decide +kernel
theorem k147_111 : icode MCl 147 111 = some (.ireturn, 112, 0, 0, 0) := by decide +kernel
theorem k148_0 : icode MCl 148 0 = some (.aload_n 0, 1, 0, 0, 0) := by decide +kernel
theorem k148_1 : icode MCl 148 1 = some (.iload_n 2, 2, 0, 0, 0) := by decide +kernel
theorem k148_2 : icode MCl 148 2 = some (.invokevirtual 32, 5, 30, 341, 0) := by decide +kernel
theorem k148_5 : icode MCl 148 5 = some (.astore_n 3, 6, 0, 0, 0) := by decide +kernel
theorem k148_6 : icode MCl 148 6 = some (.aload_n 3, 7, 0, 0, 0) := by decide +kernel
theorem k148_7 : icode MCl 148 7 = some (.getfield 62, 10, 101, 119, 0) := by decide +kernel
theorem k148_10 : icode MCl 148 10 = some (.iconst 1, 11, 0, 0, 1) := by decide +kernel
theorem k148_11 : icode MCl 148 11 = some (.if_icmp .ne 22, 14, 33, 0, 0) := by decide +kernel
theorem k148_14 : icode MCl 148 14 = some (.aload_n 0, 15, 0, 0, 0) := by decide +kernel
theorem k148_15 : icode MCl 148 15 = some (.iload_n 1, 16, 0, 0, 0) := by decide +kernel
theorem k148_16 : icode MCl 148 16 = some (.invokevirtual 32, 19, 30, 341, 0) := by decide +kernel
theorem k148_19 : icode MCl 148 19 = some (.aload_n 3, 20, 0, 0, 0) := by decide +kernel
theorem k148_20 : icode MCl 148 20 = some (.getfield 65, 23, 102, 122, 0) := by decide +kernel
theorem k148_23 : icode MCl 148 23 = some (.invokevirtual 68, 26, 75, 470, 0) := by decide +kernel
theorem k148_26 : icode MCl 148 26 = some (.ifCond .eq 7, 29, 33, 0, 0) := by decide +kernel
theorem k148_29 : icode MCl 148 29 = some (.iconst 1, 30, 0, 0, 1) := by decide +kernel
theorem k148_30 : icode MCl 148 30 = some (.goto 4, 33, 34, 0, 0) := by decide +kernel
theorem k148_33 : icode MCl 148 33 = some (.iconst 0, 34, 0, 0, 0) := by decide +kernel
theorem k148_34 : icode MCl 148 34 = some (.ireturn, 35, 0, 0, 0) := by decide +kernel
theorem k149_0 : icode MCl 149 0 = some (.aload_n 0, 1, 0, 0, 0) := by decide +kernel
theorem k149_1 : icode MCl 149 1 = some (.getfield 31, 4, 703, 412, 1) := by decide +kernel
theorem k149_4 : icode MCl 149 4 = some (.iload_n 1, 5, 0, 0, 0) := by decide +kernel
theorem k149_5 : icode MCl 149 5 = some (.invokevirtual 112, 8, 82, 478, 0) := by decide +kernel
theorem k149_8 : icode MCl 149 8 = some (.ifCond .eq 19, 11, 27, 0, 0) := by decide +kernel
theorem k149_11 : icode MCl 149 11 = some (.aload_n 0, 12, 0, 0, 0) := by decide +kernel
theorem k149_12 : icode MCl 149 12 = some (.getfield 31, 15, 703, 412, 1) := by decide +kernel
theorem k149_15 : icode MCl 149 15 = some (.iload_n 2, 16, 0, 0, 0) := by decide +kernel
theorem k149_16 : icode MCl 149 16 = some (.invokevirtual 112, 19, 82, 478, 0) := by decide +kernel
theorem k149_19 : icode MCl 149 19 = some (.ifCond .eq 8, 22, 27, 0, 0) := by decide +kernel
theorem k149_22 : icode MCl 149 22 = some (.iload_n 1, 23, 0, 0, 0) := by decide +kernel
theorem k149_23 : icode MCl 149 23 = some (.iload_n 2, 24, 0, 0, 0) := by decide +kernel
theorem k149_24 : icode MCl 149 24 = some (.if_icmp .ne 5, 27, 29, 0, 0) := by decide +kernel
theorem k149_27 : icode MCl 149 27 = some (.iconst (-1), 28, 0, 0, (-1)) := by decide +kernel
theorem k149_28 : icode MCl 149 28 = some (.ireturn, 29, 0, 0, 0) := by decide +kernel
theorem k149_29 : icode MCl 149 29 = some (.aload_n 0, 30, 0, 0, 0) := by decide +kernel
theorem k149_30 : icode MCl 149 30 = some (.getfield 35, 33, 704, 413, 1) := by decide +kernel
theorem k149_33 : icode MCl 149 33 = some (.aload_n 0, 34, 0, 0, 0) := by decide +kernel
theorem k149_34 : icode MCl 149 34 = some (.getfield 31, 37, 703, 412, 1) := by decide +kernel
theorem k149_37 : icode MCl 149 37 = some (.invokevirtual 193, 40, 46, 389, 0) := by decide +kernel
theorem k149_40 : icode MCl 149 40 = some (.iconst 0, 41, 0, 0, 0) := by decide +kernel
theorem k149_41 : icode MCl 149 41 = some (.istore_n 3, 42, 0, 0, 0) := by decide +kernel
theorem k149_42 : icode MCl 149 42 = some (.iload_n 3, 43, 0, 0, 0) := by decide +kernel
theorem k149_43 : icode MCl 149 43 = some (.sipush 240, 46, 0, 0, 240) := by decide +kernel
theorem k149_46 : icode MCl 149 46 = some (.if_icmp .gt 34, 49, 80, 0, 0) := by decide +kernel
theorem k149_49 : icode MCl 149 49 = some (.aload_n 0, 50, 0, 0, 0) := by decide +kernel
theorem k149_50 : icode MCl 149 50 = some (.getfield 35, 53, 704, 413, 1) := by decide +kernel
theorem k149_53 : icode MCl 149 53 = some (.iload_n 1, 54, 0, 0, 0) := by decide +kernel
theorem k149_54 : icode MCl 149 54 = some (.iload_n 2, 55, 0, 0, 0) := by decide +kernel
theorem k149_55 : icode MCl 149 55 = some (.invokevirtual 196, 58, 148, 647, 0) := by decide +kernel
theorem k149_58 : icode MCl 149 58 = some (.ifCond .eq 5, 61, 63, 0, 0) := by decide +kernel
theorem k149_61 : icode MCl 149 61 = some (.iload_n 3, 62, 0, 0, 0) := by decide +kernel
theorem k149_62 : icode MCl 149 62 = some (.ireturn, 63, 0, 0, 0) := by decide +kernel
theorem k149_63 : icode MCl 149 63 = some (.aload_n 0, 64, 0, 0, 0) := by decide +kernel
theorem k149_64 : icode MCl 149 64 = some (.getfield 35, 67, 704, 413, 1) := by decide +kernel
theorem k149_67 : icode MCl 149 67 = some (.aload_n 0, 68, 0, 0, 0) := by decide +kernel
theorem k149_68 : icode MCl 149 68 = some (.getfield 24, 71, 702, 411, 1) := by decide +kernel
theorem k149_71 : icode MCl 149 71 = some (.invokevirtual 151, 74, 104, 524, 0) := by decide +kernel
theorem k149_74 : icode MCl 149 74 = some (.iinc 3 1, 77, 0, 0, 1) := by decide +kernel
theorem k149_77 : icode MCl 149 77 = some (.goto (-35), 80, 42, 0, 0) := by decide +kernel
theorem k149_80 : icode MCl 149 80 = some (.bipush (-4), 82, 0, 0, (-4)) := by decide +kernel
theorem k149_82 : icode MCl 149 82 = some (.ireturn, 83, 0, 0, 0) := by decide +kernel
theorem k150_0 : icode MCl 150 0 = some (.aload_n 0, 1, 0, 0, 0) := by decide +kernel
theorem k150_1 : icode MCl 150 1 = some (.iload_n 1, 2, 0, 0, 0) := by decide +kernel
theorem k150_2 : icode MCl 150 2 = some (.iconst 1, 3, 0, 0, 1) := by decide +kernel
theorem k150_3 : icode MCl 150 3 = some (.invokestatic 135, 6, 79, 909, 0) := by decide +kernel
theorem k150_6 : icode MCl 150 6 = some (.iconst 1, 7, 0, 0, 1) := by decide +kernel
theorem k150_7 : icode MCl 150 7 = some (.if_icmp .ne 32, 10, 39, 0, 0) := by decide +kernel
theorem k150_10 : icode MCl 150 10 = some (.aload_n 0, 11, 0, 0, 0) := by decide +kernel
theorem k150_11 : icode MCl 150 11 = some (.iload_n 2, 12, 0, 0, 0) := by decide +kernel
theorem k150_12 : icode MCl 150 12 = some (.iconst 1, 13, 0, 0, 1) := by decide +kernel
theorem k150_13 : icode MCl 150 13 = some (.invokestatic 135, 16, 79, 909, 0) := by decide +kernel
theorem k150_16 : icode MCl 150 16 = some (.iconst 1, 17, 0, 0, 1) := by decide +kernel
theorem k150_17 : icode MCl 150 17 = some (.if_icmp .ne 22, 20, 39, 0, 0) := by decide +kernel
theorem k150_20 : icode MCl 150 20 = some (.aload_n 0, 21, 0, 0, 0) := by decide +kernel
theorem k150_21 : icode MCl 150 21 = some (.iload_n 1, 22, 0, 0, 0) := by decide +kernel
theorem k150_22 : icode MCl 150 22 = some (.iconst 2, 23, 0, 0, 2) := by decide +kernel
theorem k150_23 : icode MCl 150 23 = some (.invokestatic 135, 26, 79, 909, 0) := by decide +kernel
theorem k150_26 : icode MCl 150 26 = some (.aload_n 0, 27, 0, 0, 0) := by decide +kernel
theorem k150_27 : icode MCl 150 27 = some (.iload_n 2, 28, 0, 0, 0) := by decide +kernel
theorem k150_28 : icode MCl 150 28 = some (.iconst 2, 29, 0, 0, 2) := by decide +kernel
theorem k150_29 : icode MCl 150 29 = some (.invokestatic 135, 32, 79, 909, 0) := by decide +kernel
theorem k150_32 : icode MCl 150 32 = some (.if_icmp .ne 7, 35, 39, 0, 0) := by decide +kernel
theorem k150_35 : icode MCl 150 35 = some (.iconst 1, 36, 0, 0, 1) := by decide +kernel
theorem k150_36 : icode MCl 150 36 = some (.goto 4, 39, 40, 0, 0) := by decide +kernel
theorem k150_39 : icode MCl 150 39 = some (.iconst 0, 40, 0, 0, 0) := by decide +kernel
theorem k150_40 : icode MCl 150 40 = some (.ireturn, 41, 0, 0, 0) := by decide +kernel
theorem k151_0 : icode MCl 151 0 = some (.aload_n 0, 1, 0, 0, 0) := by decide +kernel
theorem k151_1 : icode MCl 151 1 = some (.iload_n 1, 2, 0, 0, 0) := by decide +kernel
theorem k151_2 : icode MCl 151 2 = some (.invokevirtual 146, 5, 84, 916, 0) := by decide +kernel
theorem k151_5 : icode MCl 151 5 = some (.ifCond .eq 16, 8, 21, 0, 0) := by decide +kernel
theorem k151_8 : icode MCl 151 8 = some (.aload_n 0, 9, 0, 0, 0) := by decide +kernel
theorem k151_9 : icode MCl 151 9 = some (.iload_n 2, 10, 0, 0, 0) := by decide +kernel
theorem k151_10 : icode MCl 151 10 = some (.invokevirtual 146, 13, 84, 916, 0) := by decide +kernel
theorem k151_13 : icode MCl 151 13 = some (.ifCond .eq 8, 16, 21, 0, 0) := by decide +kernel
theorem k151_16 : icode MCl 151 16 = some (.iload_n 1, 17, 0, 0, 0) := by decide +kernel
theorem k151_17 : icode MCl 151 17 = some (.iload_n 2, 18, 0, 0, 0) := by decide +kernel
theorem k151_18 : icode MCl 151 18 = some (.if_icmp .ne 5, 21, 23, 0, 0) := by decide +kernel
theorem k151_21 : icode MCl 151 21 = some (.iconst (-1), 22, 0, 0, (-1)) := by decide +kernel
theorem k151_22 : icode MCl 151 22 = some (.ireturn, 23, 0, 0, 0) := by decide +kernel
theorem k151_23 : icode MCl 151 23 = some (.aload_n 0, 24, 0, 0, 0) := by decide +kernel
theorem k151_24 : icode MCl 151 24 = some (.invokevirtual 185, 27, 137, 991, 0) := by decide +kernel
theorem k151_27 : icode MCl 151 27 = some (.iconst 0, 28, 0, 0, 0) := by decide +kernel
theorem k151_28 : icode MCl 151 28 = some (.istore_n 3, 29, 0, 0, 0) := by decide +kernel
theorem k151_29 : icode MCl 151 29 = some (.iload_n 3, 30, 0, 0, 0) := by decide +kernel
theorem k151_30 : icode MCl 151 30 = some (.sipush 240, 33, 0, 0, 240) := by decide +kernel
theorem k151_33 : icode MCl 151 33 = some (.if_icmp .gt 31, 36, 64, 0, 0) := by decide +kernel
theorem k151_36 : icode MCl 151 36 = some (.aload_n 0, 37, 0, 0, 0) := by decide +kernel
theorem k151_37 : icode MCl 151 37 = some (.getfield 43, 40, 817, 791, 1) := by decide +kernel
theorem k151_40 : icode MCl 151 40 = some (.iload_n 1, 41, 0, 0, 0) := by decide +kernel
theorem k151_41 : icode MCl 151 41 = some (.iload_n 2, 42, 0, 0, 0) := by decide +kernel
theorem k151_42 : icode MCl 151 42 = some (.invokestatic 194, 45, 150, 1018, 0) := by decide +kernel
theorem k151_45 : icode MCl 151 45 = some (.ifCond .eq 5, 48, 50, 0, 0) := by decide +kernel
theorem k151_48 : icode MCl 151 48 = some (.iload_n 3, 49, 0, 0, 0) := by decide +kernel
theorem k151_49 : icode MCl 151 49 = some (.ireturn, 50, 0, 0, 0) := by decide +kernel
theorem k151_50 : icode MCl 151 50 = some (.aload_n 0, 51, 0, 0, 0) := by decide +kernel
theorem k151_51 : icode MCl 151 51 = some (.aload_n 0, 52, 0, 0, 0) := by decide +kernel
theorem k151_52 : icode MCl 151 52 = some (.getfield 43, 55, 817, 791, 1) := by decide +kernel
theorem k151_55 : icode MCl 151 55 = some (.invokevirtual 170, 58, 110, 945, 0) := by decide +kernel
theorem k151_58 : icode MCl 151 58 = some (.iinc 3 1, 61, 0, 0, 1) := by decide +kernel
theorem k151_61 : icode MCl 151 61 = some (.goto (-32), 64, 29, 0, 0) := by decide +kernel
theorem k151_64 : icode MCl 151 64 = some (.bipush (-4), 66, 0, 0, (-4)) := by decide +kernel
theorem k151_66 : icode MCl 151 66 = some (.ireturn, 67, 0, 0, 0) := by decide +kernel
theorem k152_0 : icode MCl 152 0 = some (.iconst 0, 1, 0, 0, 0) := by decide +kernel
theorem k152_1 : icode MCl 152 1 = some (.istore_n 2, 2, 0, 0, 0) := by decide +kernel
theorem k152_2 : icode MCl 152 2 = some (.iconst 0, 3, 0, 0, 0) := by decide +kernel
theorem k152_3 : icode MCl 152 3 = some (.istore_n 3, 4, 0, 0, 0) := by decide +kernel
theorem k152_4 : icode MCl 152 4 = some (.iload_n 3, 5, 0, 0, 0) := by decide +kernel
theorem k152_5 : icode MCl 152 5 = some (.aload_n 0, 6, 0, 0, 0) := by decide +kernel
theorem k152_6 : icode MCl 152 6 = some (.getfield 21, 9, 603, 92, 0) := by decide +kernel
theorem k152_9 : icode MCl 152 9 = some (.if_icmp .ge 29, 12, 38, 0, 0) := by decide +kernel
theorem k152_12 : icode MCl 152 12 = some (.iload_n 2, 13, 0, 0, 0) := by decide +kernel
theorem k152_13 : icode MCl 152 13 = some (.aload_n 0, 14, 0, 0, 0) := by decide +kernel
theorem k152_14 : icode MCl 152 14 = some (.iload_n 3, 15, 0, 0, 0) := by decide +kernel
theorem k152_15 : icode MCl 152 15 = some (.invokevirtual 67, 18, 127, 602, 0) := by decide +kernel
theorem k152_18 : icode MCl 152 18 = some (.iload_n 1, 19, 0, 0, 0) := by decide +kernel
theorem k152_19 : icode MCl 152 19 = some (.invokestatic 70, 22, 34, 606, 1) := by decide +kernel
theorem k152_22 : icode MCl 152 22 = some (.ifCond .eq 7, 25, 29, 0, 0) := by decide +kernel
theorem k152_25 : icode MCl 152 25 = some (.iconst 1, 26, 0, 0, 1) := by decide +kernel
theorem k152_26 : icode MCl 152 26 = some (.goto 4, 29, 30, 0, 0) := by decide +kernel
theorem k152_29 : icode MCl 152 29 = some (.iconst 0, 30, 0, 0, 0) := by decide +kernel
theorem k152_30 : icode MCl 152 30 = some (.iadd, 31, 0, 0, 0) := by decide +kernel
theorem k152_31 : icode MCl 152 31 = some (.istore_n 2, 32, 0, 0, 0) := by decide +kernel
theorem k152_32 : icode MCl 152 32 = some (.iinc 3 1, 35, 0, 0, 1) := by decide +kernel
theorem k152_35 : icode MCl 152 35 = some (.goto (-31), 38, 4, 0, 0) := by decide +kernel
theorem k152_38 : icode MCl 152 38 = some (.iload_n 2, 39, 0, 0, 0) := by decide +kernel
theorem k152_39 : icode MCl 152 39 = some (.ireturn, 40, 0, 0, 0) := by decide +kernel
theorem k153_0 : icode MCl 153 0 = some (.iload_n 1, 1, 0, 0, 0) := by decide +kernel
theorem k153_1 : icode MCl 153 1 = some (.iconst 0, 2, 0, 0, 0) := by decide +kernel
theorem k153_2 : icode MCl 153 2 = some (.iconst 1, 3, 0, 0, 1) := by decide +kernel
theorem k153_3 : icode MCl 153 3 = some (.invokestatic 84, 6, 22, 439, 0) := by decide +kernel
theorem k153_6 : icode MCl 153 6 = some (.ifCond .ne 5, 9, 11, 0, 0) := by decide +kernel
theorem k153_9 : icode MCl 153 9 = some (.iconst (-1), 10, 0, 0, (-1)) := by decide +kernel
theorem k153_10 : icode MCl 153 10 = some (.ireturn, 11, 0, 0, 0) := by decide +kernel
theorem k153_11 : icode MCl 153 11 = some (.iconst 0, 12, 0, 0, 0) := by decide +kernel
theorem k153_12 : icode MCl 153 12 = some (.istore_n 2, 13, 0, 0, 0) := by decide +kernel
theorem k153_13 : icode MCl 153 13 = some (.iconst 0, 14, 0, 0, 0) := by decide +kernel
theorem k153_14 : icode MCl 153 14 = some (.istore_n 3, 15, 0, 0, 0) := by decide +kernel
theorem k153_15 : icode MCl 153 15 = some (.iconst 0, 16, 0, 0, 0) := by decide +kernel
theorem k153_16 : icode MCl 153 16 = some (.istore 4, 18, 0, 0, 0) := by decide +kernel
theorem k153_18 : icode MCl 153 18 = some (.iload 4, 20, 0, 0, 0) := by decide +kernel
theorem k153_20 : icode MCl 153 20 = some (.aload_n 0, 21, 0, 0, 0) := by decide +kernel
theorem k153_21 : icode MCl 153 21 = some (.getfield 24, 24, 702, 411, 1) := by decide +kernel
theorem k153_24 : icode MCl 153 24 = some (.invokevirtual 90, 27, 72, 453, 0) := by decide +kernel
theorem k153_27 : icode MCl 153 27 = some (.if_icmp .ge 32, 30, 59, 0, 0) := by decide +kernel
theorem k153_30 : icode MCl 153 30 = some (.aload_n 0, 31, 0, 0, 0) := by decide +kernel
theorem k153_31 : icode MCl 153 31 = some (.getfield 24, 34, 702, 411, 1) := by decide +kernel
theorem k153_34 : icode MCl 153 34 = some (.iload 4, 36, 0, 0, 0) := by decide +kernel
theorem k153_36 : icode MCl 153 36 = some (.invokevirtual 200, 39, 152, 655, 0) := by decide +kernel
theorem k153_39 : icode MCl 153 39 = some (.istore 5, 41, 0, 0, 0) := by decide +kernel
theorem k153_41 : icode MCl 153 41 = some (.iload 5, 43, 0, 0, 0) := by decide +kernel
theorem k153_43 : icode MCl 153 43 = some (.iload_n 3, 44, 0, 0, 0) := by decide +kernel
theorem k153_44 : icode MCl 153 44 = some (.if_icmp .le 9, 47, 53, 0, 0) := by decide +kernel
theorem k153_47 : icode MCl 153 47 = some (.iload 4, 49, 0, 0, 0) := by decide +kernel
theorem k153_49 : icode MCl 153 49 = some (.istore_n 2, 50, 0, 0, 0) := by decide +kernel
theorem k153_50 : icode MCl 153 50 = some (.iload 5, 52, 0, 0, 0) := by decide +kernel
theorem k153_52 : icode MCl 153 52 = some (.istore_n 3, 53, 0, 0, 0) := by decide +kernel
theorem k153_53 : icode MCl 153 53 = some (.iinc 4 1, 56, 0, 0, 1) := by decide +kernel
theorem k153_56 : icode MCl 153 56 = some (.goto (-38), 59, 18, 0, 0) := by decide +kernel
theorem k153_59 : icode MCl 153 59 = some (.iload_n 1, 60, 0, 0, 0) := by decide +kernel
theorem k153_60 : icode MCl 153 60 = some (.ifCond .ne 7, 63, 67, 0, 0) := by decide +kernel
theorem k153_63 : icode MCl 153 63 = some (.iload_n 2, 64, 0, 0, 0) := by decide +kernel
theorem k153_64 : icode MCl 153 64 = some (.goto 4, 67, 68, 0, 0) := by decide +kernel
theorem k153_67 : icode MCl 153 67 = some (.iload_n 3, 68, 0, 0, 0) := by decide +kernel
theorem k153_68 : icode MCl 153 68 = some (.ireturn, 69, 0, 0, 0) := by decide +kernel
theorem k154_0 : icode MCl 154 0 = some (.iconst 0, 1, 0, 0, 0) := by decide +kernel
theorem k154_1 : icode MCl 154 1 = some (.istore_n 2, 2, 0, 0, 0) := by decide +kernel
theorem k154_2 : icode MCl 154 2 = some (.iconst 0, 3, 0, 0, 0) := by decide +kernel
theorem k154_3 : icode MCl 154 3 = some (.istore_n 3, 4, 0, 0, 0) := by decide +kernel
theorem k154_4 : icode MCl 154 4 = some (.iload_n 3, 5, 0, 0, 0) := by decide +kernel
theorem k154_5 : icode MCl 154 5 = some (.aload_n 0, 6, 0, 0, 0) := by decide +kernel
theorem k154_6 : icode MCl 154 6 = some (.getfield 119, 9, 812, 786, 0) := by decide +kernel
theorem k154_9 : icode MCl 154 9 = some (.if_icmp .ge 84, 12, 93, 0, 0) := by decide +kernel
theorem k154_12 : icode MCl 154 12 = some (.iload_n 3, 13, 0, 0, 0) := by decide +kernel
theorem k154_13 : icode MCl 154 13 = some (.iload_n 1, 14, 0, 0, 0) := by decide +kernel
theorem k154_14 : icode MCl 154 14 = some (.if_icmp .ne 7, 17, 21, 0, 0) := by decide +kernel
theorem k154_17 : icode MCl 154 17 = some (.iconst 1, 18, 0, 0, 1) := by decide +kernel
theorem k154_18 : icode MCl 154 18 = some (.goto 4, 21, 22, 0, 0) := by decide +kernel
theorem k154_21 : icode MCl 154 21 = some (.iconst 0, 22, 0, 0, 0) := by decide +kernel
theorem k154_22 : icode MCl 154 22 = some (.istore 4, 24, 0, 0, 0) := by decide +kernel
theorem k154_24 : icode MCl 154 24 = some (.iload_n 3, 25, 0, 0, 0) := by decide +kernel
theorem k154_25 : icode MCl 154 25 = some (.istore 5, 27, 0, 0, 0) := by decide +kernel
theorem k154_27 : icode MCl 154 27 = some (.aload_n 0, 28, 0, 0, 0) := by decide +kernel
theorem k154_28 : icode MCl 154 28 = some (.getfield 37, 31, 815, 789, 1) := by decide +kernel
theorem k154_31 : icode MCl 154 31 = some (.iload 5, 33, 0, 0, 0) := by decide +kernel
theorem k154_33 : icode MCl 154 33 = some (.iaload, 34, 0, 0, 0) := by decide +kernel
theorem k154_34 : icode MCl 154 34 = some (.iload 5, 36, 0, 0, 0) := by decide +kernel
theorem k154_36 : icode MCl 154 36 = some (.if_icmp .eq 38, 39, 74, 0, 0) := by decide +kernel
theorem k154_39 : icode MCl 154 39 = some (.iload 4, 41, 0, 0, 0) := by decide +kernel
theorem k154_41 : icode MCl 154 41 = some (.ifCond .ne 14, 44, 55, 0, 0) := by decide +kernel
theorem k154_44 : icode MCl 154 44 = some (.aload_n 0, 45, 0, 0, 0) := by decide +kernel
theorem k154_45 : icode MCl 154 45 = some (.getfield 37, 48, 815, 789, 1) := by decide +kernel
theorem k154_48 : icode MCl 154 48 = some (.iload 5, 50, 0, 0, 0) := by decide +kernel
theorem k154_50 : icode MCl 154 50 = some (.iaload, 51, 0, 0, 0) := by decide +kernel
theorem k154_51 : icode MCl 154 51 = some (.iload_n 1, 52, 0, 0, 0) := by decide +kernel
theorem k154_52 : icode MCl 154 52 = some (.if_icmp .ne 7, 55, 59, 0, 0) := by decide +kernel
theorem k154_55 : icode MCl 154 55 = some (.iconst 1, 56, 0, 0, 1) := by decide +kernel
theorem k154_56 : icode MCl 154 56 = some (.goto 4, 59, 60, 0, 0) := by decide +kernel
theorem k154_59 : icode MCl 154 59 = some (.iconst 0, 60, 0, 0, 0) := by decide +kernel
theorem k154_60 : icode MCl 154 60 = some (.istore 4, 62, 0, 0, 0) := by decide +kernel
theorem k154_62 : icode MCl 154 62 = some (.aload_n 0, 63, 0, 0, 0) := by decide +kernel
theorem k154_63 : icode MCl 154 63 = some (.getfield 37, 66, 815, 789, 1) := by decide +kernel
theorem k154_66 : icode MCl 154 66 = some (.iload 5, 68, 0, 0, 0) := by decide +kernel
theorem k154_68 : icode MCl 154 68 = some (.iaload, 69, 0, 0, 0) := by decide +kernel
theorem k154_69 : icode MCl 154 69 = some (.istore 5, 71, 0, 0, 0) := by decide +kernel
theorem k154_71 : icode MCl 154 71 = some (.goto (-44), 74, 27, 0, 0) := by decide +kernel
theorem k154_74 : icode MCl 154 74 = some (.iload_n 2, 75, 0, 0, 0) := by decide +kernel
theorem k154_75 : icode MCl 154 75 = some (.iload 4, 77, 0, 0, 0) := by decide +kernel
theorem k154_77 : icode MCl 154 77 = some (.ifCond .eq 7, 80, 84, 0, 0) := by decide +kernel
theorem k154_80 : icode MCl 154 80 = some (.iconst 1, 81, 0, 0, 1) := by decide +kernel
theorem k154_81 : icode MCl 154 81 = some (.goto 4, 84, 85, 0, 0) := by decide +kernel
theorem k154_84 : icode MCl 154 84 = some (.iconst 0, 85, 0, 0, 0) := by decide +kernel
theorem k154_85 : icode MCl 154 85 = some (.iadd, 86, 0, 0, 0) := by decide +kernel
theorem k154_86 : icode MCl 154 86 = some (.istore_n 2, 87, 0, 0, 0) := by decide +kernel
theorem k154_87 : icode MCl 154 87 = some (.iinc 3 1, 90, 0, 0, 1) := by decide +kernel
theorem k154_90 : icode MCl 154 90 = some (.goto (-86), 93, 4, 0, 0) := by decide +kernel
theorem k154_93 : icode MCl 154 93 = some (.iload_n 2, 94, 0, 0, 0) := by decide +kernel
theorem k154_94 : icode MCl 154 94 = some (.ireturn, 95, 0, 0, 0) := by decide +kernel
theorem k155_0 : icode MCl 155 0 = some (.iload_n 1, 1, 0, 0, 0) := by decide +kernel
theorem k155_1 : icode MCl 155 1 = some (.iconst 0, 2, 0, 0, 0) := by decide +kernel
theorem k155_2 : icode MCl 155 2 = some (.iconst 1, 3, 0, 0, 1) := by decide +kernel
theorem k155_3 : icode MCl 155 3 = some (.invokestatic 73, 6, 59, 854, 0) := by decide +kernel
theorem k155_6 : icode MCl 155 6 = some (.ifCond .ne 5, 9, 11, 0, 0) := by decide +kernel
theorem k155_9 : icode MCl 155 9 = some (.iconst (-1), 10, 0, 0, (-1)) := by decide +kernel
theorem k155_10 : icode MCl 155 10 = some (.ireturn, 11, 0, 0, 0) := by decide +kernel
theorem k155_11 : icode MCl 155 11 = some (.iconst 0, 12, 0, 0, 0) := by decide +kernel
theorem k155_12 : icode MCl 155 12 = some (.istore_n 2, 13, 0, 0, 0) := by decide +kernel
theorem k155_13 : icode MCl 155 13 = some (.iconst 1, 14, 0, 0, 1) := by decide +kernel
theorem k155_14 : icode MCl 155 14 = some (.istore_n 3, 15, 0, 0, 0) := by decide +kernel
theorem k155_15 : icode MCl 155 15 = some (.iload_n 3, 16, 0, 0, 0) := by decide +kernel
theorem k155_16 : icode MCl 155 16 = some (.aload_n 0, 17, 0, 0, 0) := by decide +kernel
theorem k155_17 : icode MCl 155 17 = some (.getfield 119, 20, 812, 786, 0) := by decide +kernel
theorem k155_20 : icode MCl 155 20 = some (.if_icmp .ge 28, 23, 48, 0, 0) := by decide +kernel
theorem k155_23 : icode MCl 155 23 = some (.aload_n 0, 24, 0, 0, 0) := by decide +kernel
theorem k155_24 : icode MCl 155 24 = some (.iload_n 3, 25, 0, 0, 0) := by decide +kernel
theorem k155_25 : icode MCl 155 25 = some (.invokevirtual 198, 28, 154, 1025, 0) := by decide +kernel
theorem k155_28 : icode MCl 155 28 = some (.aload_n 0, 29, 0, 0, 0) := by decide +kernel
theorem k155_29 : icode MCl 155 29 = some (.iload_n 2, 30, 0, 0, 0) := by decide +kernel
theorem k155_30 : icode MCl 155 30 = some (.invokevirtual 198, 33, 154, 1025, 0) := by decide +kernel
theorem k155_33 : icode MCl 155 33 = some (.if_icmp .le 7, 36, 40, 0, 0) := by decide +kernel
theorem k155_36 : icode MCl 155 36 = some (.iload_n 3, 37, 0, 0, 0) := by decide +kernel
theorem k155_37 : icode MCl 155 37 = some (.goto 4, 40, 41, 0, 0) := by decide +kernel
theorem k155_40 : icode MCl 155 40 = some (.iload_n 2, 41, 0, 0, 0) := by decide +kernel
theorem k155_41 : icode MCl 155 41 = some (.istore_n 2, 42, 0, 0, 0) := by decide +kernel
theorem k155_42 : icode MCl 155 42 = some (.iinc 3 1, 45, 0, 0, 1) := by decide +kernel
theorem k155_45 : icode MCl 155 45 = some (.goto (-30), 48, 15, 0, 0) := by decide +kernel
theorem k155_48 : icode MCl 155 48 = some (.iload_n 1, 49, 0, 0, 0) := by decide +kernel
theorem k155_49 : icode MCl 155 49 = some (.ifCond .ne 7, 52, 56, 0, 0) := by decide +kernel
theorem k155_52 : icode MCl 155 52 = some (.iload_n 2, 53, 0, 0, 0) := by decide +kernel
theorem k155_53 : icode MCl 155 53 = some (.goto 8, 56, 61, 0, 0) := by decide +kernel
theorem k155_56 : icode MCl 155 56 = some (.aload_n 0, 57, 0, 0, 0) := by decide +kernel
theorem k155_57 : icode MCl 155 57 = some (.iload_n 2, 58, 0, 0, 0) := by decide +kernel
theorem k155_58 : icode MCl 155 58 = some (.invokevirtual 198, 61, 154, 1025, 0) := by decide +kernel
theorem k155_61 : icode MCl 155 61 = some (.ireturn, 62, 0, 0, 0) := by decide +kernel
theorem k156_0 : icode MCl 156 0 = some (.aload_n 0, 1, 0, 0, 0) := by decide +kernel
theorem k156_1 : icode MCl 156 1 = some (.getfield 21, 4, 503, 207, 0) := by decide +kernel
theorem k156_4 : icode MCl 156 4 = some (.bipush 6, 6, 0, 0, 6) := by decide +kernel
theorem k156_6 : icode MCl 156 6 = some (.if_icmp .lt 5, 9, 11, 0, 0) := by decide +kernel
theorem k156_9 : icode MCl 156 9 = some (.iconst 0, 10, 0, 0, 0) := by decide +kernel
theorem k156_10 : icode MCl 156 10 = some (.ireturn, 11, 0, 0, 0) := by decide +kernel
theorem k156_11 : icode MCl 156 11 = some (.aload_n 0, 12, 0, 0, 0) := by decide +kernel
theorem k156_12 : icode MCl 156 12 = some (.getfield 9, 15, 500, 204, 1) := by decide +kernel
theorem k156_15 : icode MCl 156 15 = some (.aload_n 0, 16, 0, 0, 0) := by decide +kernel
theorem k156_16 : icode MCl 156 16 = some (.getfield 21, 19, 503, 207, 0) := by decide +kernel
theorem k156_19 : icode MCl 156 19 = some (.iload_n 1, 20, 0, 0, 0) := by decide +kernel
theorem k156_20 : icode MCl 156 20 = some (.invokestatic 25, 23, 15, 667, 1) := by decide +kernel
theorem k156_23 : icode MCl 156 23 = some (.aload_n 0, 24, 0, 0, 0) := by decide +kernel
theorem k156_24 : icode MCl 156 24 = some (.getfield 15, 27, 501, 205, 1) := by decide +kernel
theorem k156_27 : icode MCl 156 27 = some (.aload_n 0, 28, 0, 0, 0) := by decide +kernel
theorem k156_28 : icode MCl 156 28 = some (.getfield 21, 31, 503, 207, 0) := by decide +kernel
theorem k156_31 : icode MCl 156 31 = some (.iload_n 2, 32, 0, 0, 0) := by decide +kernel
theorem k156_32 : icode MCl 156 32 = some (.invokestatic 25, 35, 15, 667, 1) := by decide +kernel
theorem k156_35 : icode MCl 156 35 = some (.aload_n 0, 36, 0, 0, 0) := by decide +kernel
theorem k156_36 : icode MCl 156 36 = some (.getfield 18, 39, 502, 206, 1) := by decide +kernel
theorem k156_39 : icode MCl 156 39 = some (.aload_n 0, 40, 0, 0, 0) := by decide +kernel
theorem k156_40 : icode MCl 156 40 = some (.getfield 21, 43, 503, 207, 0) := by decide +kernel
theorem k156_43 : icode MCl 156 43 = some (.iload_n 3, 44, 0, 0, 0) := by decide +kernel
theorem k156_44 : icode MCl 156 44 = some (.invokestatic 25, 47, 15, 667, 1) := by decide +kernel
theorem k156_47 : icode MCl 156 47 = some (.aload_n 0, 48, 0, 0, 0) := by decide +kernel
theorem k156_48 : icode MCl 156 48 = some (.dup, 49, 0, 0, 0) := by decide +kernel
theorem k156_49 : icode MCl 156 49 = some (.getfield 21, 52, 503, 207, 0) := by decide +kernel
theorem k156_52 : icode MCl 156 52 = some (.iconst 1, 53, 0, 0, 1) := by decide +kernel
theorem k156_53 : icode MCl 156 53 = some (.iadd, 54, 0, 0, 0) := by decide +kernel
theorem k156_54 : icode MCl 156 54 = some (.putfield 21, 57, 503, 207, 0) := by decide +kernel
theorem k156_57 : icode MCl 156 57 = some (.iconst 1, 58, 0, 0, 1) := by decide +kernel
theorem k156_58 : icode MCl 156 58 = some (.ireturn, 59, 0, 0, 0) := by decide +kernel
theorem k157_0 : icode MCl 157 0 = some (.aload_n 0, 1, 0, 0, 0) := by decide +kernel
theorem k157_1 : icode MCl 157 1 = some (.getfield 21, 4, 503, 207, 0) := by decide +kernel
theorem k157_4 : icode MCl 157 4 = some (.ireturn, 5, 0, 0, 0) := by decide +kernel
theorem k158_0 : icode MCl 158 0 = some (.aload_n 0, 1, 0, 0, 0) := by decide +kernel
theorem k158_1 : icode MCl 158 1 = some (.getfield 24, 4, 702, 411, 1) := by decide +kernel
theorem k158_4 : icode MCl 158 4 = some (.iload_n 1, 5, 0, 0, 0) := by decide +kernel
theorem k158_5 : icode MCl 158 5 = some (.invokevirtual 93, 8, 29, 461, 0) := by decide +kernel
theorem k158_8 : icode MCl 158 8 = some (.ifCond .eq 17, 11, 25, 0, 0) := by decide +kernel
theorem k158_11 : icode MCl 158 11 = some (.iload_n 2, 12, 0, 0, 0) := by decide +kernel
theorem k158_12 : icode MCl 158 12 = some (.invokestatic 161, 15, 88, 558, 0) := by decide +kernel
theorem k158_15 : icode MCl 158 15 = some (.ifCond .eq 10, 18, 25, 0, 0) := by decide +kernel
theorem k158_18 : icode MCl 158 18 = some (.iload_n 3, 19, 0, 0, 0) := by decide +kernel
theorem k158_19 : icode MCl 158 19 = some (.invokestatic 138, 22, 89, 487, 0) := by decide +kernel
theorem k158_22 : icode MCl 158 22 = some (.ifCond .ne 5, 25, 27, 0, 0) := by decide +kernel
theorem k158_25 : icode MCl 158 25 = some (.iconst (-1), 26, 0, 0, (-1)) := by decide +kernel
theorem k158_26 : icode MCl 158 26 = some (.ireturn, 27, 0, 0, 0) := by decide +kernel
theorem k158_27 : icode MCl 158 27 = some (.aload_n 0, 28, 0, 0, 0) := by decide +kernel
theorem k158_28 : icode MCl 158 28 = some (.getfield 53, 31, 707, 416, 1) := by decide +kernel
theorem k158_31 : icode MCl 158 31 = some (.iload_n 1, 32, 0, 0, 0) := by decide +kernel
theorem k158_32 : icode MCl 158 32 = some (.iload_n 2, 33, 0, 0, 0) := by decide +kernel
theorem k158_33 : icode MCl 158 33 = some (.iload_n 3, 34, 0, 0, 0) := by decide +kernel
theorem k158_34 : icode MCl 158 34 = some (.invokevirtual 203, 37, 156, 663, 0) := by decide +kernel
theorem k158_37 : icode MCl 158 37 = some (.ifCond .eq 13, 40, 50, 0, 0) := by decide +kernel
theorem k158_40 : icode MCl 158 40 = some (.aload_n 0, 41, 0, 0, 0) := by decide +kernel
theorem k158_41 : icode MCl 158 41 = some (.getfield 53, 44, 707, 416, 1) := by decide +kernel
theorem k158_44 : icode MCl 158 44 = some (.invokevirtual 204, 47, 157, 668, 0) := by decide +kernel
theorem k158_47 : icode MCl 158 47 = some (.goto 5, 50, 52, 0, 0) := by decide +kernel
theorem k158_50 : icode MCl 158 50 = some (.bipush (-3), 52, 0, 0, (-3)) := by decide +kernel
theorem k158_52 : icode MCl 158 52 = some (.ireturn, 53, 0, 0, 0) := by decide +kernel
theorem k159_0 : icode MCl 159 0 = some (.aload_n 0, 1, 0, 0, 0) := by decide +kernel
theorem k159_1 : icode MCl 159 1 = some (.iload_n 1, 2, 0, 0, 0) := by decide +kernel
theorem k159_2 : icode MCl 159 2 = some (.invokevirtual 139, 5, 78, 901, 0) := by decide +kernel
theorem k159_5 : icode MCl 159 5 = some (.ifCond .eq 21, 8, 26, 0, 0) := by decide +kernel
theorem k159_8 : icode MCl 159 8 = some (.iload_n 2, 9, 0, 0, 0) := by decide +kernel
theorem k159_9 : icode MCl 159 9 = some (.invokestatic 149, 12, 94, 924, 0) := by decide +kernel
theorem k159_12 : icode MCl 159 12 = some (.ifCond .eq 14, 15, 26, 0, 0) := by decide +kernel
theorem k159_15 : icode MCl 159 15 = some (.iload_n 3, 16, 0, 0, 0) := by decide +kernel
theorem k159_16 : icode MCl 159 16 = some (.ifCond .eq 12, 19, 28, 0, 0) := by decide +kernel
theorem k159_19 : icode MCl 159 19 = some (.iload_n 3, 20, 0, 0, 0) := by decide +kernel
theorem k159_20 : icode MCl 159 20 = some (.invokestatic 149, 23, 94, 924, 0) := by decide +kernel
theorem k159_23 : icode MCl 159 23 = some (.ifCond .ne 5, 26, 28, 0, 0) := by decide +kernel
theorem k159_26 : icode MCl 159 26 = some (.iconst (-1), 27, 0, 0, (-1)) := by decide +kernel
theorem k159_27 : icode MCl 159 27 = some (.ireturn, 28, 0, 0, 0) := by decide +kernel
theorem k159_28 : icode MCl 159 28 = some (.aload_n 0, 29, 0, 0, 0) := by decide +kernel
theorem k159_29 : icode MCl 159 29 = some (.getfield 132, 32, 821, 795, 0) := by decide +kernel
theorem k159_32 : icode MCl 159 32 = some (.bipush 6, 34, 0, 0, 6) := by decide +kernel
theorem k159_34 : icode MCl 159 34 = some (.if_icmp .ne 6, 37, 40, 0, 0) := by decide +kernel
theorem k159_37 : icode MCl 159 37 = some (.bipush (-3), 39, 0, 0, (-3)) := by decide +kernel
theorem k159_39 : icode MCl 159 39 = some (.ireturn, 40, 0, 0, 0) := by decide +kernel
theorem k159_40 : icode MCl 159 40 = some (.aload_n 0, 41, 0, 0, 0) := by decide +kernel
theorem k159_41 : icode MCl 159 41 = some (.getfield 49, 44, 822, 796, 1) := by decide +kernel
theorem k159_44 : icode MCl 159 44 = some (.iconst 3, 45, 0, 0, 3) := by decide +kernel
theorem k159_45 : icode MCl 159 45 = some (.aload_n 0, 46, 0, 0, 0) := by decide +kernel
theorem k159_46 : icode MCl 159 46 = some (.getfield 132, 49, 821, 795, 0) := by decide +kernel
theorem k159_49 : icode MCl 159 49 = some (.imul, 50, 0, 0, 0) := by decide +kernel
theorem k159_50 : icode MCl 159 50 = some (.iload_n 1, 51, 0, 0, 0) := by decide +kernel
theorem k159_51 : icode MCl 159 51 = some (.iastore, 52, 0, 0, 0) := by decide +kernel
theorem k159_52 : icode MCl 159 52 = some (.aload_n 0, 53, 0, 0, 0) := by decide +kernel
theorem k159_53 : icode MCl 159 53 = some (.getfield 49, 56, 822, 796, 1) := by decide +kernel
theorem k159_56 : icode MCl 159 56 = some (.iconst 3, 57, 0, 0, 3) := by decide +kernel
theorem k159_57 : icode MCl 159 57 = some (.aload_n 0, 58, 0, 0, 0) := by decide +kernel
theorem k159_58 : icode MCl 159 58 = some (.getfield 132, 61, 821, 795, 0) := by decide +kernel
theorem k159_61 : icode MCl 159 61 = some (.imul, 62, 0, 0, 0) := by decide +kernel
theorem k159_62 : icode MCl 159 62 = some (.iconst 1, 63, 0, 0, 1) := by decide +kernel
theorem k159_63 : icode MCl 159 63 = some (.iadd, 64, 0, 0, 0) := by decide +kernel
theorem k159_64 : icode MCl 159 64 = some (.iload_n 2, 65, 0, 0, 0) := by decide +kernel
theorem k159_65 : icode MCl 159 65 = some (.iastore, 66, 0, 0, 0) := by decide +kernel
theorem k159_66 : icode MCl 159 66 = some (.aload_n 0, 67, 0, 0, 0) := by decide +kernel
theorem k159_67 : icode MCl 159 67 = some (.getfield 49, 70, 822, 796, 1) := by decide +kernel
theorem k159_70 : icode MCl 159 70 = some (.iconst 3, 71, 0, 0, 3) := by decide +kernel
theorem k159_71 : icode MCl 159 71 = some (.aload_n 0, 72, 0, 0, 0) := by decide +kernel
theorem k159_72 : icode MCl 159 72 = some (.getfield 132, 75, 821, 795, 0) := by decide +kernel
theorem k159_75 : icode MCl 159 75 = some (.imul, 76, 0, 0, 0) := by decide +kernel
theorem k159_76 : icode MCl 159 76 = some (.iconst 2, 77, 0, 0, 2) := by decide +kernel
theorem k159_77 : icode MCl 159 77 = some (.iadd, 78, 0, 0, 0) := by decide +kernel
theorem k159_78 : icode MCl 159 78 = some (.iload_n 3, 79, 0, 0, 0) := by decide +kernel
theorem k159_79 : icode MCl 159 79 = some (.iastore, 80, 0, 0, 0) := by decide +kernel
theorem k159_80 : icode MCl 159 80 = some (.aload_n 0, 81, 0, 0, 0) := by decide +kernel
theorem k159_81 : icode MCl 159 81 = some (.dup, 82, 0, 0, 0) := by decide +kernel
theorem k159_82 : icode MCl 159 82 = some (.getfield 132, 85, 821, 795, 0) := by decide +kernel
theorem k159_85 : icode MCl 159 85 = some (.iconst 1, 86, 0, 0, 1) := by decide +kernel
theorem k159_86 : icode MCl 159 86 = some (.iadd, 87, 0, 0, 0) := by decide +kernel
theorem k159_87 : icode MCl 159 87 = some (.putfield 132, 90, 821, 795, 0) := by decide +kernel
theorem k159_90 : icode MCl 159 90 = some (.aload_n 0, 91, 0, 0, 0) := by decide +kernel
theorem k159_91 : icode MCl 159 91 = some (.getfield 132, 94, 821, 795, 0) := by decide +kernel
theorem k159_94 : icode MCl 159 94 = some (.ireturn, 95, 0, 0, 0) := by decide +kernel
theorem k160_0 : icode MCl 160 0 = some (.aload_n 0, 1, 0, 0, 0) := by decide +kernel
theorem k160_1 : icode MCl 160 1 = some (.getfield 53, 4, 707, 416, 1) := by decide +kernel
theorem k160_4 : icode MCl 160 4 = some (.invokevirtual 204, 7, 157, 668, 0) := by decide +kernel
theorem k160_7 : icode MCl 160 7 = some (.istore_n 1, 8, 0, 0, 0) := by decide +kernel
theorem k160_8 : icode MCl 160 8 = some (.aload_n 0, 9, 0, 0, 0) := by decide +kernel
theorem k160_9 : icode MCl 160 9 = some (.getfield 53, 12, 707, 416, 1) := by decide +kernel
theorem k160_12 : icode MCl 160 12 = some (.invokevirtual 205, 15, 47, 397, 0) := by decide +kernel
theorem k160_15 : icode MCl 160 15 = some (.iload_n 1, 16, 0, 0, 0) := by decide +kernel
theorem k160_16 : icode MCl 160 16 = some (.ireturn, 17, 0, 0, 0) := by decide +kernel
theorem k161_0 : icode MCl 161 0 = some (.aload_n 0, 1, 0, 0, 0) := by decide +kernel
theorem k161_1 : icode MCl 161 1 = some (.getfield 132, 4, 821, 795, 0) := by decide +kernel
theorem k161_4 : icode MCl 161 4 = some (.istore_n 1, 5, 0, 0, 0) := by decide +kernel
theorem k161_5 : icode MCl 161 5 = some (.aload_n 0, 6, 0, 0, 0) := by decide +kernel
theorem k161_6 : icode MCl 161 6 = some (.iconst 0, 7, 0, 0, 0) := by decide +kernel
theorem k161_7 : icode MCl 161 7 = some (.putfield 132, 10, 821, 795, 0) := by decide +kernel
theorem k161_10 : icode MCl 161 10 = some (.iload_n 1, 11, 0, 0, 0) := by decide +kernel
theorem k161_11 : icode MCl 161 11 = some (.ireturn, 12, 0, 0, 0) := by decide +kernel
theorem k162_0 : icode MCl 162 0 = some (.iconst 0, 1, 0, 0, 0) := by decide +kernel
theorem k162_1 : icode MCl 162 1 = some (.istore 4, 3, 0, 0, 0) := by decide +kernel
theorem k162_3 : icode MCl 162 3 = some (.iload 4, 5, 0, 0, 0) := by decide +kernel
theorem k162_5 : icode MCl 162 5 = some (.aload_n 0, 6, 0, 0, 0) := by decide +kernel
theorem k162_6 : icode MCl 162 6 = some (.getfield 21, 9, 503, 207, 0) := by decide +kernel
theorem k162_9 : icode MCl 162 9 = some (.if_icmp .ge 47, 12, 56, 0, 0) := by decide +kernel
theorem k162_12 : icode MCl 162 12 = some (.aload_n 1, 13, 0, 0, 0) := by decide +kernel
theorem k162_13 : icode MCl 162 13 = some (.iload_n 2, 14, 0, 0, 0) := by decide +kernel
theorem k162_14 : icode MCl 162 14 = some (.iload_n 3, 15, 0, 0, 0) := by decide +kernel
theorem k162_15 : icode MCl 162 15 = some (.aload_n 0, 16, 0, 0, 0) := by decide +kernel
theorem k162_16 : icode MCl 162 16 = some (.getfield 9, 19, 500, 204, 1) := by decide +kernel
theorem k162_19 : icode MCl 162 19 = some (.iload 4, 21, 0, 0, 0) := by decide +kernel
theorem k162_21 : icode MCl 162 21 = some (.invokestatic 29, 24, 40, 688, 1) := by decide +kernel
theorem k162_24 : icode MCl 162 24 = some (.aload_n 0, 25, 0, 0, 0) := by decide +kernel
theorem k162_25 : icode MCl 162 25 = some (.getfield 15, 28, 501, 205, 1) := by decide +kernel
theorem k162_28 : icode MCl 162 28 = some (.iload 4, 30, 0, 0, 0) := by decide +kernel
theorem k162_30 : icode MCl 162 30 = some (.invokestatic 29, 33, 40, 688, 1) := by decide +kernel
theorem k162_33 : icode MCl 162 33 = some (.invokevirtual 33, 36, 125, 689, 0) := by decide +kernel
theorem k162_36 : icode MCl 162 36 = some (.aload_n 0, 37, 0, 0, 0) := by decide +kernel
theorem k162_37 : icode MCl 162 37 = some (.getfield 18, 40, 502, 206, 1) := by decide +kernel
theorem k162_40 : icode MCl 162 40 = some (.iload 4, 42, 0, 0, 0) := by decide +kernel
theorem k162_42 : icode MCl 162 42 = some (.invokestatic 29, 45, 40, 688, 1) := by decide +kernel
theorem k162_45 : icode MCl 162 45 = some (.if_icmp .eq 5, 48, 50, 0, 0) := by decide +kernel
theorem k162_48 : icode MCl 162 48 = some (.iconst 0, 49, 0, 0, 0) := by decide +kernel
theorem k162_49 : icode MCl 162 49 = some (.ireturn, 50, 0, 0, 0) := by decide +kernel
theorem k162_50 : icode MCl 162 50 = some (.iinc 4 1, 53, 0, 0, 1) := by decide +kernel
theorem k162_53 : icode MCl 162 53 = some (.goto (-50), 56, 3, 0, 0) := by decide +kernel
theorem k162_56 : icode MCl 162 56 = some (.iconst 1, 57, 0, 0, 1) := by decide +kernel
theorem k162_57 : icode MCl 162 57 = some (.ireturn, 58, 0, 0, 0) := by decide +kernel
theorem k163_0 : icode MCl 163 0 = some (.iconst 0, 1, 0, 0, 0) := by decide +kernel
theorem k163_1 : icode MCl 163 1 = some (.istore_n 2, 2, 0, 0, 0) := by decide +kernel
theorem k163_2 : icode MCl 163 2 = some (.iconst 0, 3, 0, 0, 0) := by decide +kernel
theorem k163_3 : icode MCl 163 3 = some (.istore_n 3, 4, 0, 0, 0) := by decide +kernel
theorem k163_4 : icode MCl 163 4 = some (.iload_n 3, 5, 0, 0, 0) := by decide +kernel
theorem k163_5 : icode MCl 163 5 = some (.iconst 5, 6, 0, 0, 5) := by decide +kernel
theorem k163_6 : icode MCl 163 6 = some (.if_icmp .ge 31, 9, 37, 0, 0) := by decide +kernel
theorem k163_9 : icode MCl 163 9 = some (.aload_n 0, 10, 0, 0, 0) := by decide +kernel
theorem k163_10 : icode MCl 163 10 = some (.getfield 53, 13, 707, 416, 1) := by decide +kernel
theorem k163_13 : icode MCl 163 13 = some (.aload_n 0, 14, 0, 0, 0) := by decide +kernel
theorem k163_14 : icode MCl 163 14 = some (.getfield 24, 17, 702, 411, 1) := by decide +kernel
theorem k163_17 : icode MCl 163 17 = some (.iload_n 1, 18, 0, 0, 0) := by decide +kernel
theorem k163_18 : icode MCl 163 18 = some (.iload_n 3, 19, 0, 0, 0) := by decide +kernel
theorem k163_19 : icode MCl 163 19 = some (.invokevirtual 209, 22, 162, 684, 0) := by decide +kernel
theorem k163_22 : icode MCl 163 22 = some (.ifCond .eq 9, 25, 31, 0, 0) := by decide +kernel
theorem k163_25 : icode MCl 163 25 = some (.iload_n 2, 26, 0, 0, 0) := by decide +kernel
theorem k163_26 : icode MCl 163 26 = some (.iconst 1, 27, 0, 0, 1) := by decide +kernel
theorem k163_27 : icode MCl 163 27 = some (.iload_n 3, 28, 0, 0, 0) := by decide +kernel
theorem k163_28 : icode MCl 163 28 = some (.ishl, 29, 0, 0, 0) := by decide +kernel
theorem k163_29 : icode MCl 163 29 = some (.ior, 30, 0, 0, 0) := by decide +kernel
theorem k163_30 : icode MCl 163 30 = some (.istore_n 2, 31, 0, 0, 0) := by decide +kernel
theorem k163_31 : icode MCl 163 31 = some (.iinc 3 1, 34, 0, 0, 1) := by decide +kernel
theorem k163_34 : icode MCl 163 34 = some (.goto (-30), 37, 4, 0, 0) := by decide +kernel
theorem k163_37 : icode MCl 163 37 = some (.iload_n 2, 38, 0, 0, 0) := by decide +kernel
theorem k163_38 : icode MCl 163 38 = some (.ireturn, 39, 0, 0, 0) := by decide +kernel
theorem k164_0 : icode MCl 164 0 = some (.aload_n 0, 1, 0, 0, 0) := by decide +kernel
theorem k164_1 : icode MCl 164 1 = some (.getfield 24, 4, 702, 411, 1) := by decide +kernel
theorem k164_4 : icode MCl 164 4 = some (.iload_n 1, 5, 0, 0, 0) := by decide +kernel
theorem k164_5 : icode MCl 164 5 = some (.invokevirtual 93, 8, 29, 461, 0) := by decide +kernel
theorem k164_8 : icode MCl 164 8 = some (.ifCond .eq 11, 11, 19, 0, 0) := by decide +kernel
theorem k164_11 : icode MCl 164 11 = some (.aload_n 0, 12, 0, 0, 0) := by decide +kernel
theorem k164_12 : icode MCl 164 12 = some (.iload_n 1, 13, 0, 0, 0) := by decide +kernel
theorem k164_13 : icode MCl 164 13 = some (.invokevirtual 206, 16, 163, 680, 0) := by decide +kernel
theorem k164_16 : icode MCl 164 16 = some (.goto 4, 19, 20, 0, 0) := by decide +kernel
theorem k164_19 : icode MCl 164 19 = some (.iconst (-1), 20, 0, 0, (-1)) := by decide +kernel
theorem k164_20 : icode MCl 164 20 = some (.ireturn, 21, 0, 0, 0) := by decide +kernel
theorem k165_0 : icode MCl 165 0 = some (.iconst 1, 1, 0, 0, 1) := by decide +kernel
theorem k165_1 : icode MCl 165 1 = some (.istore_n 3, 2, 0, 0, 0) := by decide +kernel
theorem k165_2 : icode MCl 165 2 = some (.iconst 0, 3, 0, 0, 0) := by decide +kernel
theorem k165_3 : icode MCl 165 3 = some (.istore 4, 5, 0, 0, 0) := by decide +kernel
theorem k165_5 : icode MCl 165 5 = some (.iload 4, 7, 0, 0, 0) := by decide +kernel
theorem k165_7 : icode MCl 165 7 = some (.aload_n 0, 8, 0, 0, 0) := by decide +kernel
theorem k165_8 : icode MCl 165 8 = some (.getfield 132, 11, 821, 795, 0) := by decide +kernel
theorem k165_11 : icode MCl 165 11 = some (.if_icmp .ge 59, 14, 70, 0, 0) := by decide +kernel
theorem k165_14 : icode MCl 165 14 = some (.iload_n 3, 15, 0, 0, 0) := by decide +kernel
theorem k165_15 : icode MCl 165 15 = some (.ifCond .eq 47, 18, 62, 0, 0) := by decide +kernel
theorem k165_18 : icode MCl 165 18 = some (.aload_n 0, 19, 0, 0, 0) := by decide +kernel
theorem k165_19 : icode MCl 165 19 = some (.aload_n 0, 20, 0, 0, 0) := by decide +kernel
theorem k165_20 : icode MCl 165 20 = some (.getfield 49, 23, 822, 796, 1) := by decide +kernel
theorem k165_23 : icode MCl 165 23 = some (.iconst 3, 24, 0, 0, 3) := by decide +kernel
theorem k165_24 : icode MCl 165 24 = some (.iload 4, 26, 0, 0, 0) := by decide +kernel
theorem k165_26 : icode MCl 165 26 = some (.imul, 27, 0, 0, 0) := by decide +kernel
theorem k165_27 : icode MCl 165 27 = some (.iaload, 28, 0, 0, 0) := by decide +kernel
theorem k165_28 : icode MCl 165 28 = some (.aload_n 0, 29, 0, 0, 0) := by decide +kernel
theorem k165_29 : icode MCl 165 29 = some (.getfield 49, 32, 822, 796, 1) := by decide +kernel
theorem k165_32 : icode MCl 165 32 = some (.iconst 3, 33, 0, 0, 3) := by decide +kernel
theorem k165_33 : icode MCl 165 33 = some (.iload 4, 35, 0, 0, 0) := by decide +kernel
theorem k165_35 : icode MCl 165 35 = some (.imul, 36, 0, 0, 0) := by decide +kernel
theorem k165_36 : icode MCl 165 36 = some (.iconst 1, 37, 0, 0, 1) := by decide +kernel
theorem k165_37 : icode MCl 165 37 = some (.iadd, 38, 0, 0, 0) := by decide +kernel
theorem k165_38 : icode MCl 165 38 = some (.iaload, 39, 0, 0, 0) := by decide +kernel
theorem k165_39 : icode MCl 165 39 = some (.iload_n 1, 40, 0, 0, 0) := by decide +kernel
theorem k165_40 : icode MCl 165 40 = some (.iload_n 2, 41, 0, 0, 0) := by decide +kernel
theorem k165_41 : icode MCl 165 41 = some (.invokevirtual 178, 44, 130, 983, 0) := by decide +kernel
theorem k165_44 : icode MCl 165 44 = some (.aload_n 0, 45, 0, 0, 0) := by decide +kernel
theorem k165_45 : icode MCl 165 45 = some (.getfield 49, 48, 822, 796, 1) := by decide +kernel
theorem k165_48 : icode MCl 165 48 = some (.iconst 3, 49, 0, 0, 3) := by decide +kernel
theorem k165_49 : icode MCl 165 49 = some (.iload 4, 51, 0, 0, 0) := by decide +kernel
theorem k165_51 : icode MCl 165 51 = some (.imul, 52, 0, 0, 0) := by decide +kernel
theorem k165_52 : icode MCl 165 52 = some (.iconst 2, 53, 0, 0, 2) := by decide +kernel
theorem k165_53 : icode MCl 165 53 = some (.iadd, 54, 0, 0, 0) := by decide +kernel
theorem k165_54 : icode MCl 165 54 = some (.iaload, 55, 0, 0, 0) := by decide +kernel
theorem k165_55 : icode MCl 165 55 = some (.if_icmp .ne 7, 58, 62, 0, 0) := by decide +kernel
theorem k165_58 : icode MCl 165 58 = some (.iconst 1, 59, 0, 0, 1) := by decide +kernel
theorem k165_59 : icode MCl 165 59 = some (.goto 4, 62, 63, 0, 0) := by decide +kernel
theorem k165_62 : icode MCl 165 62 = some (.iconst 0, 63, 0, 0, 0) := by decide +kernel
theorem k165_63 : icode MCl 165 63 = some (.istore_n 3, 64, 0, 0, 0) := by decide +kernel
theorem k165_64 : icode MCl 165 64 = some (.iinc 4 1, 67, 0, 0, 1) := by decide +kernel
theorem k165_67 : icode MCl 165 67 = some (.goto (-62), 70, 5, 0, 0) := by decide +kernel
theorem k165_70 : icode MCl 165 70 = some (.iload_n 3, 71, 0, 0, 0) := by decide +kernel
theorem k165_71 : icode MCl 165 71 = some (.ireturn, 72, 0, 0, 0) := by decide +kernel
theorem k166_0 : icode MCl 166 0 = some (.aload_n 0, 1, 0, 0, 0) := by decide +kernel
theorem k166_1 : icode MCl 166 1 = some (.iload_n 1, 2, 0, 0, 0) := by decide +kernel
theorem k166_2 : icode MCl 166 2 = some (.invokevirtual 139, 5, 78, 901, 0) := by decide +kernel
theorem k166_5 : icode MCl 166 5 = some (.ifCond .ne 5, 8, 10, 0, 0) := by decide +kernel
theorem k166_8 : icode MCl 166 8 = some (.iconst (-1), 9, 0, 0, (-1)) := by decide +kernel
theorem k166_9 : icode MCl 166 9 = some (.ireturn, 10, 0, 0, 0) := by decide +kernel
theorem k166_10 : icode MCl 166 10 = some (.iconst 0, 11, 0, 0, 0) := by decide +kernel
theorem k166_11 : icode MCl 166 11 = some (.istore_n 2, 12, 0, 0, 0) := by decide +kernel
theorem k166_12 : icode MCl 166 12 = some (.iconst 0, 13, 0, 0, 0) := by decide +kernel
theorem k166_13 : icode MCl 166 13 = some (.istore_n 3, 14, 0, 0, 0) := by decide +kernel
theorem k166_14 : icode MCl 166 14 = some (.iload_n 3, 15, 0, 0, 0) := by decide +kernel
theorem k166_15 : icode MCl 166 15 = some (.iconst 4, 16, 0, 0, 4) := by decide +kernel
theorem k166_16 : icode MCl 166 16 = some (.if_icmp .gt 28, 19, 44, 0, 0) := by decide +kernel
theorem k166_19 : icode MCl 166 19 = some (.iload_n 2, 20, 0, 0, 0) := by decide +kernel
theorem k166_20 : icode MCl 166 20 = some (.aload_n 0, 21, 0, 0, 0) := by decide +kernel
theorem k166_21 : icode MCl 166 21 = some (.iload_n 1, 22, 0, 0, 0) := by decide +kernel
theorem k166_22 : icode MCl 166 22 = some (.iload_n 3, 23, 0, 0, 0) := by decide +kernel
theorem k166_23 : icode MCl 166 23 = some (.invokevirtual 201, 26, 165, 1041, 0) := by decide +kernel
theorem k166_26 : icode MCl 166 26 = some (.ifCond .eq 9, 29, 35, 0, 0) := by decide +kernel
theorem k166_29 : icode MCl 166 29 = some (.iconst 1, 30, 0, 0, 1) := by decide +kernel
theorem k166_30 : icode MCl 166 30 = some (.iload_n 3, 31, 0, 0, 0) := by decide +kernel
theorem k166_31 : icode MCl 166 31 = some (.ishl, 32, 0, 0, 0) := by decide +kernel
theorem k166_32 : icode MCl 166 32 = some (.goto 4, 35, 36, 0, 0) := by decide +kernel
theorem k166_35 : icode MCl 166 35 = some (.iconst 0, 36, 0, 0, 0) := by decide +kernel
theorem k166_36 : icode MCl 166 36 = some (.ior, 37, 0, 0, 0) := by decide +kernel
theorem k166_37 : icode MCl 166 37 = some (.istore_n 2, 38, 0, 0, 0) := by decide +kernel
theorem k166_38 : icode MCl 166 38 = some (.iinc 3 1, 41, 0, 0, 1) := by decide +kernel
theorem k166_41 : icode MCl 166 41 = some (.goto (-27), 44, 14, 0, 0) := by decide +kernel
theorem k166_44 : icode MCl 166 44 = some (.iload_n 2, 45, 0, 0, 0) := by decide +kernel
theorem k166_45 : icode MCl 166 45 = some (.ireturn, 46, 0, 0, 0) := by decide +kernel
theorem k167_0 : icode MCl 167 0 = some (.aload_n 0, 1, 0, 0, 0) := by decide +kernel
theorem k167_1 : icode MCl 167 1 = some (.getfield 53, 4, 707, 416, 1) := by decide +kernel
theorem k167_4 : icode MCl 167 4 = some (.aload_n 0, 5, 0, 0, 0) := by decide +kernel
theorem k167_5 : icode MCl 167 5 = some (.getfield 24, 8, 702, 411, 1) := by decide +kernel
theorem k167_8 : icode MCl 167 8 = some (.iconst (-1), 9, 0, 0, (-1)) := by decide +kernel
theorem k167_9 : icode MCl 167 9 = some (.iconst 0, 10, 0, 0, 0) := by decide +kernel
theorem k167_10 : icode MCl 167 10 = some (.invokevirtual 209, 13, 162, 684, 0) := by decide +kernel
theorem k167_13 : icode MCl 167 13 = some (.ifCond .eq 9, 16, 22, 0, 0) := by decide +kernel
theorem k167_16 : icode MCl 167 16 = some (.sipush 512, 19, 0, 0, 512) := by decide +kernel
theorem k167_19 : icode MCl 167 19 = some (.goto 4, 22, 23, 0, 0) := by decide +kernel
theorem k167_22 : icode MCl 167 22 = some (.iconst 0, 23, 0, 0, 0) := by decide +kernel
theorem k167_23 : icode MCl 167 23 = some (.istore_n 1, 24, 0, 0, 0) := by decide +kernel
theorem k167_24 : icode MCl 167 24 = some (.iconst 0, 25, 0, 0, 0) := by decide +kernel
theorem k167_25 : icode MCl 167 25 = some (.istore_n 2, 26, 0, 0, 0) := by decide +kernel
theorem k167_26 : icode MCl 167 26 = some (.iload_n 2, 27, 0, 0, 0) := by decide +kernel
theorem k167_27 : icode MCl 167 27 = some (.aload_n 0, 28, 0, 0, 0) := by decide +kernel
theorem k167_28 : icode MCl 167 28 = some (.getfield 24, 31, 702, 411, 1) := by decide +kernel
theorem k167_31 : icode MCl 167 31 = some (.invokevirtual 90, 34, 72, 453, 0) := by decide +kernel
theorem k167_34 : icode MCl 167 34 = some (.if_icmp .ge 38, 37, 72, 0, 0) := by decide +kernel
theorem k167_37 : icode MCl 167 37 = some (.aload_n 0, 38, 0, 0, 0) := by decide +kernel
theorem k167_38 : icode MCl 167 38 = some (.iload_n 2, 39, 0, 0, 0) := by decide +kernel
theorem k167_39 : icode MCl 167 39 = some (.invokevirtual 206, 42, 163, 680, 0) := by decide +kernel
theorem k167_42 : icode MCl 167 42 = some (.iconst 1, 43, 0, 0, 1) := by decide +kernel
theorem k167_43 : icode MCl 167 43 = some (.aload_n 0, 44, 0, 0, 0) := by decide +kernel
theorem k167_44 : icode MCl 167 44 = some (.getfield 24, 47, 702, 411, 1) := by decide +kernel
theorem k167_47 : icode MCl 167 47 = some (.iload_n 2, 48, 0, 0, 0) := by decide +kernel
theorem k167_48 : icode MCl 167 48 = some (.invokevirtual 96, 51, 41, 462, 0) := by decide +kernel
theorem k167_51 : icode MCl 167 51 = some (.ishl, 52, 0, 0, 0) := by decide +kernel
theorem k167_52 : icode MCl 167 52 = some (.iconst (-1), 53, 0, 0, (-1)) := by decide +kernel
theorem k167_53 : icode MCl 167 53 = some (.ixor, 54, 0, 0, 0) := by decide +kernel
theorem k167_54 : icode MCl 167 54 = some (.iand, 55, 0, 0, 0) := by decide +kernel
theorem k167_55 : icode MCl 167 55 = some (.istore_n 3, 56, 0, 0, 0) := by decide +kernel
theorem k167_56 : icode MCl 167 56 = some (.iload_n 3, 57, 0, 0, 0) := by decide +kernel
theorem k167_57 : icode MCl 167 57 = some (.ifCond .eq 9, 60, 66, 0, 0) := by decide +kernel
theorem k167_60 : icode MCl 167 60 = some (.iload_n 1, 61, 0, 0, 0) := by decide +kernel
theorem k167_61 : icode MCl 167 61 = some (.iconst 1, 62, 0, 0, 1) := by decide +kernel
theorem k167_62 : icode MCl 167 62 = some (.iload_n 2, 63, 0, 0, 0) := by decide +kernel
theorem k167_63 : icode MCl 167 63 = some (.ishl, 64, 0, 0, 0) := by decide +kernel
theorem k167_64 : icode MCl 167 64 = some (.ior, 65, 0, 0, 0) := by decide +kernel
theorem k167_65 : icode MCl 167 65 = some (.istore_n 1, 66, 0, 0, 0) := by decide +kernel
theorem k167_66 : icode MCl 167 66 = some (.iinc 2 1, 69, 0, 0, 1) := by decide +kernel
theorem k167_69 : icode MCl 167 69 = some (.goto (-43), 72, 26, 0, 0) := by decide +kernel
theorem k167_72 : icode MCl 167 72 = some (.iload_n 1, 73, 0, 0, 0) := by decide +kernel
theorem k167_73 : icode MCl 167 73 = some (.ireturn, 74, 0, 0, 0) := by decide +kernel
theorem k168_0 : icode MCl 168 0 = some (.aload_n 0, 1, 0, 0, 0) := by decide +kernel
theorem k168_1 : icode MCl 168 1 = some (.iconst (-1), 2, 0, 0, (-1)) := by decide +kernel
theorem k168_2 : icode MCl 168 2 = some (.iconst 0, 3, 0, 0, 0) := by decide +kernel
theorem k168_3 : icode MCl 168 3 = some (.invokevirtual 201, 6, 165, 1041, 0) := by decide +kernel
theorem k168_6 : icode MCl 168 6 = some (.ifCond .eq 9, 9, 15, 0, 0) := by decide +kernel
theorem k168_9 : icode MCl 168 9 = some (.sipush 512, 12, 0, 0, 512) := by decide +kernel
theorem k168_12 : icode MCl 168 12 = some (.goto 4, 15, 16, 0, 0) := by decide +kernel
theorem k168_15 : icode MCl 168 15 = some (.iconst 0, 16, 0, 0, 0) := by decide +kernel
theorem k168_16 : icode MCl 168 16 = some (.istore_n 1, 17, 0, 0, 0) := by decide +kernel
theorem k168_17 : icode MCl 168 17 = some (.iconst 0, 18, 0, 0, 0) := by decide +kernel
theorem k168_18 : icode MCl 168 18 = some (.istore_n 2, 19, 0, 0, 0) := by decide +kernel
theorem k168_19 : icode MCl 168 19 = some (.iload_n 2, 20, 0, 0, 0) := by decide +kernel
theorem k168_20 : icode MCl 168 20 = some (.aload_n 0, 21, 0, 0, 0) := by decide +kernel
theorem k168_21 : icode MCl 168 21 = some (.getfield 119, 24, 812, 786, 0) := by decide +kernel
theorem k168_24 : icode MCl 168 24 = some (.if_icmp .ge 51, 27, 75, 0, 0) := by decide +kernel
theorem k168_27 : icode MCl 168 27 = some (.iconst 0, 28, 0, 0, 0) := by decide +kernel
theorem k168_28 : icode MCl 168 28 = some (.istore_n 3, 29, 0, 0, 0) := by decide +kernel
theorem k168_29 : icode MCl 168 29 = some (.iload_n 3, 30, 0, 0, 0) := by decide +kernel
theorem k168_30 : icode MCl 168 30 = some (.iconst 4, 31, 0, 0, 4) := by decide +kernel
theorem k168_31 : icode MCl 168 31 = some (.if_icmp .gt 38, 34, 69, 0, 0) := by decide +kernel
theorem k168_34 : icode MCl 168 34 = some (.iload_n 1, 35, 0, 0, 0) := by decide +kernel
theorem k168_35 : icode MCl 168 35 = some (.iload_n 3, 36, 0, 0, 0) := by decide +kernel
theorem k168_36 : icode MCl 168 36 = some (.aload_n 0, 37, 0, 0, 0) := by decide +kernel
theorem k168_37 : icode MCl 168 37 = some (.getfield 31, 40, 813, 787, 1) := by decide +kernel
theorem k168_40 : icode MCl 168 40 = some (.iload_n 2, 41, 0, 0, 0) := by decide +kernel
theorem k168_41 : icode MCl 168 41 = some (.iaload, 42, 0, 0, 0) := by decide +kernel
theorem k168_42 : icode MCl 168 42 = some (.if_icmp .eq 18, 45, 60, 0, 0) := by decide +kernel
theorem k168_45 : icode MCl 168 45 = some (.aload_n 0, 46, 0, 0, 0) := by decide +kernel
theorem k168_46 : icode MCl 168 46 = some (.iload_n 2, 47, 0, 0, 0) := by decide +kernel
theorem k168_47 : icode MCl 168 47 = some (.iload_n 3, 48, 0, 0, 0) := by decide +kernel
theorem k168_48 : icode MCl 168 48 = some (.invokevirtual 201, 51, 165, 1041, 0) := by decide +kernel
theorem k168_51 : icode MCl 168 51 = some (.ifCond .eq 9, 54, 60, 0, 0) := by decide +kernel
theorem k168_54 : icode MCl 168 54 = some (.iconst 1, 55, 0, 0, 1) := by decide +kernel
theorem k168_55 : icode MCl 168 55 = some (.iload_n 2, 56, 0, 0, 0) := by decide +kernel
theorem k168_56 : icode MCl 168 56 = some (.ishl, 57, 0, 0, 0) := by decide +kernel
theorem k168_57 : icode MCl 168 57 = some (.goto 4, 60, 61, 0, 0) := by decide +kernel
theorem k168_60 : icode MCl 168 60 = some (.iconst 0, 61, 0, 0, 0) := by decide +kernel
theorem k168_61 : icode MCl 168 61 = some (.ior, 62, 0, 0, 0) := by decide +kernel
theorem k168_62 : icode MCl 168 62 = some (.istore_n 1, 63, 0, 0, 0) := by decide +kernel
theorem k168_63 : icode MCl 168 63 = some (.iinc 3 1, 66, 0, 0, 1) := by decide +kernel
theorem k168_66 : icode MCl 168 66 = some (.goto (-37), 69, 29, 0, 0) := by decide +kernel
theorem k168_69 : icode MCl 168 69 = some (.iinc 2 1, 72, 0, 0, 1) := by decide +kernel
theorem k168_72 : icode MCl 168 72 = some (.goto (-53), 75, 19, 0, 0) := by decide +kernel
theorem k168_75 : icode MCl 168 75 = some (.iload_n 1, 76, 0, 0, 0) := by decide +kernel
theorem k168_76 : icode MCl 168 76 = some (.ireturn, 77, 0, 0, 0) := by decide +kernel
theorem k169_0 : icode MCl 169 0 = some (.iload_n 0, 1, 0, 0, 0) := by decide +kernel
theorem k169_1 : icode MCl 169 1 = some (.invokestatic 14, 4, 86, 495, 0) := by decide +kernel
theorem k169_4 : icode MCl 169 4 = some (.istore_n 1, 5, 0, 0, 0) := by decide +kernel
theorem k169_5 : icode MCl 169 5 = some (.iload_n 1, 6, 0, 0, 0) := by decide +kernel
theorem k169_6 : icode MCl 169 6 = some (.ifCond .ne 7, 9, 13, 0, 0) := by decide +kernel
theorem k169_9 : icode MCl 169 9 = some (.iconst 0, 10, 0, 0, 0) := by decide +kernel
theorem k169_10 : icode MCl 169 10 = some (.goto 18, 13, 28, 0, 0) := by decide +kernel
theorem k169_13 : icode MCl 169 13 = some (.iload_n 0, 14, 0, 0, 0) := by decide +kernel
theorem k169_14 : icode MCl 169 14 = some (.iload_n 0, 15, 0, 0, 0) := by decide +kernel
theorem k169_15 : icode MCl 169 15 = some (.iload_n 1, 16, 0, 0, 0) := by decide +kernel
theorem k169_16 : icode MCl 169 16 = some (.iconst 1, 17, 0, 0, 1) := by decide +kernel
theorem k169_17 : icode MCl 169 17 = some (.isub, 18, 0, 0, 0) := by decide +kernel
theorem k169_18 : icode MCl 169 18 = some (.invokestatic 20, 21, 87, 498, 0) := by decide +kernel
theorem k169_21 : icode MCl 169 21 = some (.iconst 2, 22, 0, 0, 2) := by decide +kernel
theorem k169_22 : icode MCl 169 22 = some (.iload_n 1, 23, 0, 0, 0) := by decide +kernel
theorem k169_23 : icode MCl 169 23 = some (.iconst 1, 24, 0, 0, 1) := by decide +kernel
theorem k169_24 : icode MCl 169 24 = some (.isub, 25, 0, 0, 0) := by decide +kernel
theorem k169_25 : icode MCl 169 25 = some (.imul, 26, 0, 0, 0) := by decide +kernel
theorem k169_26 : icode MCl 169 26 = some (.ishl, 27, 0, 0, 0) := by decide +kernel
theorem k169_27 : icode MCl 169 27 = some (.isub, 28, 0, 0, 0) := by decide +kernel
theorem k169_28 : icode MCl 169 28 = some (.ireturn, 29, 0, 0, 0) := by decide +kernel
theorem k170_0 : icode MCl 170 0 = some (.iload 5, 2, 0, 0, 0) := by decide +kernel
theorem k170_2 : icode MCl 170 2 = some (.bipush 9, 4, 0, 0, 9) := by decide +kernel
theorem k170_4 : icode MCl 170 4 = some (.if_icmp .lt 5, 7, 9, 0, 0) := by decide +kernel
theorem k170_7 : icode MCl 170 7 = some (.lconst 0, 8, 0, 0, 0) := by decide +kernel
theorem k170_8 : icode MCl 170 8 = some (.lreturn, 9, 0, 0, 0) := by decide +kernel
theorem k170_9 : icode MCl 170 9 = some (.aload_n 0, 10, 0, 0, 0) := by decide +kernel
theorem k170_10 : icode MCl 170 10 = some (.iload_n 1, 11, 0, 0, 0) := by decide +kernel
theorem k170_11 : icode MCl 170 11 = some (.invokevirtual 96, 14, 41, 462, 0) := by decide +kernel
theorem k170_14 : icode MCl 170 14 = some (.istore 6, 16, 0, 0, 0) := by decide +kernel
theorem k170_16 : icode MCl 170 16 = some (.iload 6, 18, 0, 0, 0) := by decide +kernel
theorem k170_18 : icode MCl 170 18 = some (.iload_n 2, 19, 0, 0, 0) := by decide +kernel
theorem k170_19 : icode MCl 170 19 = some (.invokestatic 143, 22, 92, 501, 0) := by decide +kernel
theorem k170_22 : icode MCl 170 22 = some (.istore 7, 24, 0, 0, 0) := by decide +kernel
theorem k170_24 : icode MCl 170 24 = some (.iload 6, 26, 0, 0, 0) := by decide +kernel
theorem k170_26 : icode MCl 170 26 = some (.iload_n 2, 27, 0, 0, 0) := by decide +kernel
theorem k170_27 : icode MCl 170 27 = some (.invokestatic 244, 30, 169, 701, 0) := by decide +kernel
theorem k170_30 : icode MCl 170 30 = some (.invokestatic 143, 33, 92, 501, 0) := by decide +kernel
theorem k170_33 : icode MCl 170 33 = some (.istore 8, 35, 0, 0, 0) := by decide +kernel
theorem k170_35 : icode MCl 170 35 = some (.aload_n 0, 36, 0, 0, 0) := by decide +kernel
theorem k170_36 : icode MCl 170 36 = some (.iload_n 1, 37, 0, 0, 0) := by decide +kernel
theorem k170_37 : icode MCl 170 37 = some (.invokevirtual 247, 40, 101, 704, 0) := by decide +kernel
theorem k170_40 : icode MCl 170 40 = some (.ifCond .eq 33, 43, 73, 0, 0) := by decide +kernel
theorem k170_43 : icode MCl 170 43 = some (.iload 7, 45, 0, 0, 0) := by decide +kernel
theorem k170_45 : icode MCl 170 45 = some (.iload 4, 47, 0, 0, 0) := by decide +kernel
theorem k170_47 : icode MCl 170 47 = some (.if_icmp .ne 10, 50, 57, 0, 0) := by decide +kernel
theorem k170_50 : icode MCl 170 50 = some (.bipush 10, 52, 0, 0, 10) := by decide +kernel
theorem k170_52 : icode MCl 170 52 = some (.iload_n 3, 53, 0, 0, 0) := by decide +kernel
theorem k170_53 : icode MCl 170 53 = some (.isub, 54, 0, 0, 0) := by decide +kernel
theorem k170_54 : icode MCl 170 54 = some (.goto 4, 57, 58, 0, 0) := by decide +kernel
theorem k170_57 : icode MCl 170 57 = some (.iconst 0, 58, 0, 0, 0) := by decide +kernel
theorem k170_58 : icode MCl 170 58 = some (.iload 8, 60, 0, 0, 0) := by decide +kernel
theorem k170_60 : icode MCl 170 60 = some (.iload 4, 62, 0, 0, 0) := by decide +kernel
theorem k170_62 : icode MCl 170 62 = some (.if_icmp .ne 7, 65, 69, 0, 0) := by decide +kernel
theorem k170_65 : icode MCl 170 65 = some (.iload_n 3, 66, 0, 0, 0) := by decide +kernel
theorem k170_66 : icode MCl 170 66 = some (.goto 4, 69, 70, 0, 0) := by decide +kernel
theorem k170_69 : icode MCl 170 69 = some (.iconst 0, 70, 0, 0, 0) := by decide +kernel
theorem k170_70 : icode MCl 170 70 = some (.iadd, 71, 0, 0, 0) := by decide +kernel
theorem k170_71 : icode MCl 170 71 = some (.i2l, 72, 0, 0, 0) := by decide +kernel
theorem k170_72 : icode MCl 170 72 = some (.lreturn, 73, 0, 0, 0) := by decide +kernel
theorem k170_73 : icode MCl 170 73 = some (.aload_n 0, 74, 0, 0, 0) := by decide +kernel
theorem k170_74 : icode MCl 170 74 = some (.iload_n 1, 75, 0, 0, 0) := by decide +kernel
theorem k170_75 : icode MCl 170 75 = some (.invokevirtual 103, 78, 43, 464, 0) := by decide +kernel
theorem k170_78 : icode MCl 170 78 = some (.istore 9, 80, 0, 0, 0) := by decide +kernel
theorem k170_80 : icode MCl 170 80 = some (.bipush 10, 82, 0, 0, 10) := by decide +kernel
theorem k170_82 : icode MCl 170 82 = some (.iload_n 3, 83, 0, 0, 0) := by decide +kernel
theorem k170_83 : icode MCl 170 83 = some (.isub, 84, 0, 0, 0) := by decide +kernel
theorem k170_84 : icode MCl 170 84 = some (.i2l, 85, 0, 0, 0) := by decide +kernel
theorem k170_85 : icode MCl 170 85 = some (.aload_n 0, 86, 0, 0, 0) := by decide +kernel
theorem k170_86 : icode MCl 170 86 = some (.iload 9, 88, 0, 0, 0) := by decide +kernel
theorem k170_88 : icode MCl 170 88 = some (.iload 7, 90, 0, 0, 0) := by decide +kernel
theorem k170_90 : icode MCl 170 90 = some (.iload_n 3, 91, 0, 0, 0) := by decide +kernel
theorem k170_91 : icode MCl 170 91 = some (.iload 4, 93, 0, 0, 0) := by decide +kernel
theorem k170_93 : icode MCl 170 93 = some (.iload 5, 95, 0, 0, 0) := by decide +kernel
theorem k170_95 : icode MCl 170 95 = some (.iconst 1, 96, 0, 0, 1) := by decide +kernel
theorem k170_96 : icode MCl 170 96 = some (.iadd, 97, 0, 0, 0) := by decide +kernel
theorem k170_97 : icode MCl 170 97 = some (.invokestatic 213, 100, 170, 698, 0) := by decide +kernel
theorem k170_100 : icode MCl 170 100 = some (.lmul, 101, 0, 0, 0) := by decide +kernel
theorem k170_101 : icode MCl 170 101 = some (.iload_n 3, 102, 0, 0, 0) := by decide +kernel
theorem k170_102 : icode MCl 170 102 = some (.i2l, 103, 0, 0, 0) := by decide +kernel
theorem k170_103 : icode MCl 170 103 = some (.aload_n 0, 104, 0, 0, 0) := by decide +kernel
theorem k170_104 : icode MCl 170 104 = some (.iload 9, 106, 0, 0, 0) := by decide +kernel
theorem k170_106 : icode MCl 170 106 = some (.iload 8, 108, 0, 0, 0) := by decide +kernel
theorem k170_108 : icode MCl 170 108 = some (.iload_n 3, 109, 0, 0, 0) := by decide +kernel
theorem k170_109 : icode MCl 170 109 = some (.iload 4, 111, 0, 0, 0) := by decide +kernel
theorem k170_111 : icode MCl 170 111 = some (.iload 5, 113, 0, 0, 0) := by decide +kernel
theorem k170_113 : icode MCl 170 113 = some (.iconst 1, 114, 0, 0, 1) := by decide +kernel
theorem k170_114 : icode MCl 170 114 = some (.iadd, 115, 0, 0, 0) := by decide +kernel
theorem k170_115 : icode MCl 170 115 = some (.invokestatic 213, 118, 170, 698, 0) := by decide +kernel
theorem k170_118 : icode MCl 170 118 = some (.lmul, 119, 0, 0, 0) := by decide +kernel
theorem k170_119 : icode MCl 170 119 = some (.ladd, 120, 0, 0, 0) := by decide +kernel
theorem k170_120 : icode MCl 170 120 = some (.lreturn, 121, 0, 0, 0) := by decide +kernel
theorem k171_0 : icode MCl 171 0 = some (.aload_n 0, 1, 0, 0, 0) := by decide +kernel
theorem k171_1 : icode MCl 171 1 = some (.iload_n 1, 2, 0, 0, 0) := by decide +kernel
theorem k171_2 : icode MCl 171 2 = some (.invokevirtual 67, 5, 127, 602, 0) := by decide +kernel
theorem k171_5 : icode MCl 171 5 = some (.invokestatic 74, 8, 143, 709, 0) := by decide +kernel
theorem k171_8 : icode MCl 171 8 = some (.ireturn, 9, 0, 0, 0) := by decide +kernel
theorem k172_0 : icode MCl 172 0 = some (.lload_n 0, 1, 0, 0, 0) := by decide +kernel
theorem k172_1 : icode MCl 172 1 = some (.lstore 4, 3, 0, 0, 0) := by decide +kernel
theorem k172_3 : icode MCl 172 3 = some (.lload_n 2, 4, 0, 0, 0) := by decide +kernel
theorem k172_4 : icode MCl 172 4 = some (.lstore 6, 6, 0, 0, 0) := by decide +kernel
theorem k172_6 : icode MCl 172 6 = some (.iconst 0, 7, 0, 0, 0) := by decide +kernel
theorem k172_7 : icode MCl 172 7 = some (.istore 8, 9, 0, 0, 0) := by decide +kernel
theorem k172_9 : icode MCl 172 9 = some (.iload 8, 11, 0, 0, 0) := by decide +kernel
theorem k172_11 : icode MCl 172 11 = some (.bipush 100, 13, 0, 0, 100) := by decide +kernel
theorem k172_13 : icode MCl 172 13 = some (.if_icmp .ge 31, 16, 44, 0, 0) := by decide +kernel
theorem k172_16 : icode MCl 172 16 = some (.lload 6, 18, 0, 0, 0) := by decide +kernel
theorem k172_18 : icode MCl 172 18 = some (.lconst 0, 19, 0, 0, 0) := by decide +kernel
theorem k172_19 : icode MCl 172 19 = some (.lcmp, 20, 0, 0, 0) := by decide +kernel
theorem k172_20 : icode MCl 172 20 = some (.ifCond .eq 24, 23, 44, 0, 0) := by decide +kernel
theorem k172_23 : icode MCl 172 23 = some (.lload 4, 25, 0, 0, 0) := by decide +kernel
theorem k172_25 : icode MCl 172 25 = some (.lload 6, 27, 0, 0, 0) := by decide +kernel
theorem k172_27 : icode MCl 172 27 = some (.lrem, 28, 0, 0, 0) := by decide +kernel
theorem k172_28 : icode MCl 172 28 = some (.lstore 9, 30, 0, 0, 0) := by decide +kernel
theorem k172_30 : icode MCl 172 30 = some (.lload 6, 32, 0, 0, 0) := by decide +kernel
theorem k172_32 : icode MCl 172 32 = some (.lstore 4, 34, 0, 0, 0) := by decide +kernel
theorem k172_34 : icode MCl 172 34 = some (.lload 9, 36, 0, 0, 0) := by decide +kernel
theorem k172_36 : icode MCl 172 36 = some (.lstore 6, 38, 0, 0, 0) := by decide +kernel
theorem k172_38 : icode MCl 172 38 = some (.iinc 8 1, 41, 0, 0, 1) := by decide +kernel
theorem k172_41 : icode MCl 172 41 = some (.goto (-32), 44, 9, 0, 0) := by decide +kernel
theorem k172_44 : icode MCl 172 44 = some (.lload 4, 46, 0, 0, 0) := by decide +kernel
theorem k172_46 : icode MCl 172 46 = some (.lreturn, 47, 0, 0, 0) := by decide +kernel
theorem k173_0 : icode MCl 173 0 = some (.aload_n 0, 1, 0, 0, 0) := by decide +kernel
theorem k173_1 : icode MCl 173 1 = some (.getfield 24, 4, 702, 411, 1) := by decide +kernel
theorem k173_4 : icode MCl 173 4 = some (.iload_n 1, 5, 0, 0, 0) := by decide +kernel
theorem k173_5 : icode MCl 173 5 = some (.invokevirtual 93, 8, 29, 461, 0) := by decide +kernel
theorem k173_8 : icode MCl 173 8 = some (.ifCond .eq 30, 11, 38, 0, 0) := by decide +kernel
theorem k173_11 : icode MCl 173 11 = some (.iload_n 2, 12, 0, 0, 0) := by decide +kernel
theorem k173_12 : icode MCl 173 12 = some (.invokestatic 161, 15, 88, 558, 0) := by decide +kernel
theorem k173_15 : icode MCl 173 15 = some (.ifCond .eq 23, 18, 38, 0, 0) := by decide +kernel
theorem k173_18 : icode MCl 173 18 = some (.iload_n 3, 19, 0, 0, 0) := by decide +kernel
theorem k173_19 : icode MCl 173 19 = some (.iconst 0, 20, 0, 0, 0) := by decide +kernel
theorem k173_20 : icode MCl 173 20 = some (.bipush 10, 22, 0, 0, 10) := by decide +kernel
theorem k173_22 : icode MCl 173 22 = some (.invokestatic 84, 25, 22, 439, 0) := by decide +kernel
theorem k173_25 : icode MCl 173 25 = some (.ifCond .eq 13, 28, 38, 0, 0) := by decide +kernel
theorem k173_28 : icode MCl 173 28 = some (.iload 4, 30, 0, 0, 0) := by decide +kernel
theorem k173_30 : icode MCl 173 30 = some (.iconst 0, 31, 0, 0, 0) := by decide +kernel
theorem k173_31 : icode MCl 173 31 = some (.iconst 1, 32, 0, 0, 1) := by decide +kernel
theorem k173_32 : icode MCl 173 32 = some (.invokestatic 84, 35, 22, 439, 0) := by decide +kernel
theorem k173_35 : icode MCl 173 35 = some (.ifCond .ne 5, 38, 40, 0, 0) := by decide +kernel
theorem k173_38 : icode MCl 173 38 = some (.iconst (-1), 39, 0, 0, (-1)) := by decide +kernel
theorem k173_39 : icode MCl 173 39 = some (.ireturn, 40, 0, 0, 0) := by decide +kernel
theorem k173_40 : icode MCl 173 40 = some (.aload_n 0, 41, 0, 0, 0) := by decide +kernel
theorem k173_41 : icode MCl 173 41 = some (.getfield 24, 44, 702, 411, 1) := by decide +kernel
theorem k173_44 : icode MCl 173 44 = some (.iload_n 1, 45, 0, 0, 0) := by decide +kernel
theorem k173_45 : icode MCl 173 45 = some (.iload_n 2, 46, 0, 0, 0) := by decide +kernel
theorem k173_46 : icode MCl 173 46 = some (.iload_n 3, 47, 0, 0, 0) := by decide +kernel
theorem k173_47 : icode MCl 173 47 = some (.aload_n 0, 48, 0, 0, 0) := by decide +kernel
theorem k173_48 : icode MCl 173 48 = some (.getfield 24, 51, 702, 411, 1) := by decide +kernel
theorem k173_51 : icode MCl 173 51 = some (.iload_n 1, 52, 0, 0, 0) := by decide +kernel
theorem k173_52 : icode MCl 173 52 = some (.iload_n 2, 53, 0, 0, 0) := by decide +kernel
theorem k173_53 : icode MCl 173 53 = some (.invokevirtual 175, 56, 126, 588, 0) := by decide +kernel
theorem k173_56 : icode MCl 173 56 = some (.iconst 0, 57, 0, 0, 0) := by decide +kernel
theorem k173_57 : icode MCl 173 57 = some (.invokestatic 213, 60, 170, 698, 0) := by decide +kernel
theorem k173_60 : icode MCl 173 60 = some (.lstore 5, 62, 0, 0, 0) := by decide +kernel
theorem k173_62 : icode MCl 173 62 = some (.lconst 1, 63, 0, 0, 1) := by decide +kernel
theorem k173_63 : icode MCl 173 63 = some (.lstore 7, 65, 0, 0, 0) := by decide +kernel
theorem k173_65 : icode MCl 173 65 = some (.iconst 0, 66, 0, 0, 0) := by decide +kernel
theorem k173_66 : icode MCl 173 66 = some (.istore 9, 68, 0, 0, 0) := by decide +kernel
theorem k173_68 : icode MCl 173 68 = some (.iload 9, 70, 0, 0, 0) := by decide +kernel
theorem k173_70 : icode MCl 173 70 = some (.aload_n 0, 71, 0, 0, 0) := by decide +kernel
theorem k173_71 : icode MCl 173 71 = some (.getfield 24, 74, 702, 411, 1) := by decide +kernel
theorem k173_74 : icode MCl 173 74 = some (.iload_n 1, 75, 0, 0, 0) := by decide +kernel
theorem k173_75 : icode MCl 173 75 = some (.invokevirtual 217, 78, 171, 705, 0) := by decide +kernel
theorem k173_78 : icode MCl 173 78 = some (.if_icmp .ge 17, 81, 95, 0, 0) := by decide +kernel
theorem k173_81 : icode MCl 173 81 = some (.lload 7, 83, 0, 0, 0) := by decide +kernel
theorem k173_83 : icode MCl 173 83 = some (.ldc2_w 220, 86, 0, 710, 10) := by decide +kernel
theorem k173_86 : icode MCl 173 86 = some (.lmul, 87, 0, 0, 0) := by decide +kernel
theorem k173_87 : icode MCl 173 87 = some (.lstore 7, 89, 0, 0, 0) := by decide +kernel
theorem k173_89 : icode MCl 173 89 = some (.iinc 9 1, 92, 0, 0, 1) := by decide +kernel
theorem k173_92 : icode MCl 173 92 = some (.goto (-24), 95, 68, 0, 0) := by decide +kernel
theorem k173_95 : icode MCl 173 95 = some (.lload 5, 97, 0, 0, 0) := by decide +kernel
theorem k173_97 : icode MCl 173 97 = some (.lload 7, 99, 0, 0, 0) := by decide +kernel
theorem k173_99 : icode MCl 173 99 = some (.invokestatic 222, 102, 172, 711, 0) := by decide +kernel
theorem k173_102 : icode MCl 173 102 = some (.lstore 9, 104, 0, 0, 0) := by decide +kernel
theorem k173_104 : icode MCl 173 104 = some (.lload 9, 106, 0, 0, 0) := by decide +kernel
theorem k173_106 : icode MCl 173 106 = some (.lconst 1, 107, 0, 0, 1) := by decide +kernel
theorem k173_107 : icode MCl 173 107 = some (.lcmp, 108, 0, 0, 0) := by decide +kernel
theorem k173_108 : icode MCl 173 108 = some (.ifCond .ge 5, 111, 113, 0, 0) := by decide +kernel
theorem k173_111 : icode MCl 173 111 = some (.iconst (-1), 112, 0, 0, (-1)) := by decide +kernel
theorem k173_112 : icode MCl 173 112 = some (.ireturn, 113, 0, 0, 0) := by decide +kernel
theorem k173_113 : icode MCl 173 113 = some (.iload 4, 115, 0, 0, 0) := by decide +kernel
theorem k173_115 : icode MCl 173 115 = some (.ifCond .ne 8, 118, 123, 0, 0) := by decide +kernel
theorem k173_118 : icode MCl 173 118 = some (.lload 5, 120, 0, 0, 0) := by decide +kernel
theorem k173_120 : icode MCl 173 120 = some (.goto 5, 123, 125, 0, 0) := by decide +kernel
theorem k173_123 : icode MCl 173 123 = some (.lload 7, 125, 0, 0, 0) := by decide +kernel
theorem k173_125 : icode MCl 173 125 = some (.lload 9, 127, 0, 0, 0) := by decide +kernel
theorem k173_127 : icode MCl 173 127 = some (.ldiv, 128, 0, 0, 0) := by decide +kernel
theorem k173_128 : icode MCl 173 128 = some (.l2i, 129, 0, 0, 0) := by decide +kernel
theorem k173_129 : icode MCl 173 129 = some (.ireturn, 130, 0, 0, 0) := by decide +kernel
theorem k174_0 : icode MCl 174 0 = some (.iload_n 0, 1, 0, 0, 0) := by decide +kernel
theorem k174_1 : icode MCl 174 1 = some (.iload_n 0, 2, 0, 0, 0) := by decide +kernel
theorem k174_2 : icode MCl 174 2 = some (.invokestatic 77, 5, 95, 931, 0) := by decide +kernel
theorem k174_5 : icode MCl 174 5 = some (.ifCond .le 12, 8, 17, 0, 0) := by decide +kernel
theorem k174_8 : icode MCl 174 8 = some (.iload_n 0, 9, 0, 0, 0) := by decide +kernel
theorem k174_9 : icode MCl 174 9 = some (.invokestatic 77, 12, 95, 931, 0) := by decide +kernel
theorem k174_12 : icode MCl 174 12 = some (.iconst 1, 13, 0, 0, 1) := by decide +kernel
theorem k174_13 : icode MCl 174 13 = some (.isub, 14, 0, 0, 0) := by decide +kernel
theorem k174_14 : icode MCl 174 14 = some (.goto 4, 17, 18, 0, 0) := by decide +kernel
theorem k174_17 : icode MCl 174 17 = some (.iconst 0, 18, 0, 0, 0) := by decide +kernel
theorem k174_18 : icode MCl 174 18 = some (.invokestatic 81, 21, 96, 934, 0) := by decide +kernel
theorem k174_21 : icode MCl 174 21 = some (.irem, 22, 0, 0, 0) := by decide +kernel
theorem k174_22 : icode MCl 174 22 = some (.ireturn, 23, 0, 0, 0) := by decide +kernel
theorem k175_0 : icode MCl 175 0 = some (.iload_n 2, 1, 0, 0, 0) := by decide +kernel
theorem k175_1 : icode MCl 175 1 = some (.istore 4, 3, 0, 0, 0) := by decide +kernel
theorem k175_3 : icode MCl 175 3 = some (.iload_n 1, 4, 0, 0, 0) := by decide +kernel
theorem k175_4 : icode MCl 175 4 = some (.istore 5, 6, 0, 0, 0) := by decide +kernel
theorem k175_6 : icode MCl 175 6 = some (.iconst 1, 7, 0, 0, 1) := by decide +kernel
theorem k175_7 : icode MCl 175 7 = some (.istore 6, 9, 0, 0, 0) := by decide +kernel
theorem k175_9 : icode MCl 175 9 = some (.iconst 0, 10, 0, 0, 0) := by decide +kernel
theorem k175_10 : icode MCl 175 10 = some (.istore 7, 12, 0, 0, 0) := by decide +kernel
theorem k175_12 : icode MCl 175 12 = some (.iload 6, 14, 0, 0, 0) := by decide +kernel
theorem k175_14 : icode MCl 175 14 = some (.ifCond .eq 68, 17, 82, 0, 0) := by decide +kernel
theorem k175_17 : icode MCl 175 17 = some (.aload_n 0, 18, 0, 0, 0) := by decide +kernel
theorem k175_18 : icode MCl 175 18 = some (.getfield 31, 21, 813, 787, 1) := by decide +kernel
theorem k175_21 : icode MCl 175 21 = some (.iload 5, 23, 0, 0, 0) := by decide +kernel
theorem k175_23 : icode MCl 175 23 = some (.iaload, 24, 0, 0, 0) := by decide +kernel
theorem k175_24 : icode MCl 175 24 = some (.iload_n 3, 25, 0, 0, 0) := by decide +kernel
theorem k175_25 : icode MCl 175 25 = some (.iload 7, 27, 0, 0, 0) := by decide +kernel
theorem k175_27 : icode MCl 175 27 = some (.invokestatic 156, 30, 108, 953, 0) := by decide +kernel
theorem k175_30 : icode MCl 175 30 = some (.ifCond .eq 11, 33, 41, 0, 0) := by decide +kernel
theorem k175_33 : icode MCl 175 33 = some (.iload 4, 35, 0, 0, 0) := by decide +kernel
theorem k175_35 : icode MCl 175 35 = some (.invokestatic 204, 38, 174, 1057, 0) := by decide +kernel
theorem k175_38 : icode MCl 175 38 = some (.goto 5, 41, 43, 0, 0) := by decide +kernel
theorem k175_41 : icode MCl 175 41 = some (.iload 4, 43, 0, 0, 0) := by decide +kernel
theorem k175_43 : icode MCl 175 43 = some (.invokestatic 152, 46, 97, 928, 0) := by decide +kernel
theorem k175_46 : icode MCl 175 46 = some (.istore 4, 48, 0, 0, 0) := by decide +kernel
theorem k175_48 : icode MCl 175 48 = some (.aload_n 0, 49, 0, 0, 0) := by decide +kernel
theorem k175_49 : icode MCl 175 49 = some (.getfield 37, 52, 815, 789, 1) := by decide +kernel
theorem k175_52 : icode MCl 175 52 = some (.iload 5, 54, 0, 0, 0) := by decide +kernel
theorem k175_54 : icode MCl 175 54 = some (.iaload, 55, 0, 0, 0) := by decide +kernel
theorem k175_55 : icode MCl 175 55 = some (.iload 5, 57, 0, 0, 0) := by decide +kernel
theorem k175_57 : icode MCl 175 57 = some (.if_icmp .eq 7, 60, 64, 0, 0) := by decide +kernel
theorem k175_60 : icode MCl 175 60 = some (.iconst 1, 61, 0, 0, 1) := by decide +kernel
theorem k175_61 : icode MCl 175 61 = some (.goto 4, 64, 65, 0, 0) := by decide +kernel
theorem k175_64 : icode MCl 175 64 = some (.iconst 0, 65, 0, 0, 0) := by decide +kernel
theorem k175_65 : icode MCl 175 65 = some (.istore 6, 67, 0, 0, 0) := by decide +kernel
theorem k175_67 : icode MCl 175 67 = some (.aload_n 0, 68, 0, 0, 0) := by decide +kernel
theorem k175_68 : icode MCl 175 68 = some (.getfield 37, 71, 815, 789, 1) := by decide +kernel
theorem k175_71 : icode MCl 175 71 = some (.iload 5, 73, 0, 0, 0) := by decide +kernel
theorem k175_73 : icode MCl 175 73 = some (.iaload, 74, 0, 0, 0) := by decide +kernel
theorem k175_74 : icode MCl 175 74 = some (.istore 5, 76, 0, 0, 0) := by decide +kernel
theorem k175_76 : icode MCl 175 76 = some (.iinc 7 1, 79, 0, 0, 1) := by decide +kernel
theorem k175_79 : icode MCl 175 79 = some (.goto (-67), 82, 12, 0, 0) := by decide +kernel
theorem k175_82 : icode MCl 175 82 = some (.iload 4, 84, 0, 0, 0) := by decide +kernel
theorem k175_84 : icode MCl 175 84 = some (.ireturn, 85, 0, 0, 0) := by decide +kernel
theorem k176_0 : icode MCl 176 0 = some (.iload_n 0, 1, 0, 0, 0) := by decide +kernel
theorem k176_1 : icode MCl 176 1 = some (.istore_n 2, 2, 0, 0, 0) := by decide +kernel
theorem k176_2 : icode MCl 176 2 = some (.iload_n 1, 3, 0, 0, 0) := by decide +kernel
theorem k176_3 : icode MCl 176 3 = some (.istore_n 3, 4, 0, 0, 0) := by decide +kernel
theorem k176_4 : icode MCl 176 4 = some (.iload_n 3, 5, 0, 0, 0) := by decide +kernel
theorem k176_5 : icode MCl 176 5 = some (.ifCond .eq 16, 8, 21, 0, 0) := by decide +kernel
theorem k176_8 : icode MCl 176 8 = some (.iload_n 2, 9, 0, 0, 0) := by decide +kernel
theorem k176_9 : icode MCl 176 9 = some (.iload_n 3, 10, 0, 0, 0) := by decide +kernel
theorem k176_10 : icode MCl 176 10 = some (.irem, 11, 0, 0, 0) := by decide +kernel
theorem k176_11 : icode MCl 176 11 = some (.istore 4, 13, 0, 0, 0) := by decide +kernel
theorem k176_13 : icode MCl 176 13 = some (.iload_n 3, 14, 0, 0, 0) := by decide +kernel
theorem k176_14 : icode MCl 176 14 = some (.istore_n 2, 15, 0, 0, 0) := by decide +kernel
theorem k176_15 : icode MCl 176 15 = some (.iload 4, 17, 0, 0, 0) := by decide +kernel
theorem k176_17 : icode MCl 176 17 = some (.istore_n 3, 18, 0, 0, 0) := by decide +kernel
theorem k176_18 : icode MCl 176 18 = some (.goto (-14), 21, 4, 0, 0) := by decide +kernel
theorem k176_21 : icode MCl 176 21 = some (.iload_n 2, 22, 0, 0, 0) := by decide +kernel
theorem k176_22 : icode MCl 176 22 = some (.ireturn, 23, 0, 0, 0) := by decide +kernel
theorem k177_0 : icode MCl 177 0 = some (.aload_n 0, 1, 0, 0, 0) := by decide +kernel
theorem k177_1 : icode MCl 177 1 = some (.iload_n 1, 2, 0, 0, 0) := by decide +kernel
theorem k177_2 : icode MCl 177 2 = some (.invokevirtual 139, 5, 78, 901, 0) := by decide +kernel
theorem k177_5 : icode MCl 177 5 = some (.ifCond .eq 30, 8, 35, 0, 0) := by decide +kernel
theorem k177_8 : icode MCl 177 8 = some (.iload_n 2, 9, 0, 0, 0) := by decide +kernel
theorem k177_9 : icode MCl 177 9 = some (.invokestatic 149, 12, 94, 924, 0) := by decide +kernel
theorem k177_12 : icode MCl 177 12 = some (.ifCond .eq 23, 15, 35, 0, 0) := by decide +kernel
theorem k177_15 : icode MCl 177 15 = some (.iload_n 3, 16, 0, 0, 0) := by decide +kernel
theorem k177_16 : icode MCl 177 16 = some (.iconst 0, 17, 0, 0, 0) := by decide +kernel
theorem k177_17 : icode MCl 177 17 = some (.bipush 10, 19, 0, 0, 10) := by decide +kernel
theorem k177_19 : icode MCl 177 19 = some (.invokestatic 73, 22, 59, 854, 0) := by decide +kernel
theorem k177_22 : icode MCl 177 22 = some (.ifCond .eq 13, 25, 35, 0, 0) := by decide +kernel
theorem k177_25 : icode MCl 177 25 = some (.iload 4, 27, 0, 0, 0) := by decide +kernel
theorem k177_27 : icode MCl 177 27 = some (.iconst 0, 28, 0, 0, 0) := by decide +kernel
theorem k177_28 : icode MCl 177 28 = some (.iconst 1, 29, 0, 0, 1) := by decide +kernel
theorem k177_29 : icode MCl 177 29 = some (.invokestatic 73, 32, 59, 854, 0) := by decide +kernel
theorem k177_32 : icode MCl 177 32 = some (.ifCond .ne 5, 35, 37, 0, 0) := by decide +kernel
theorem k177_35 : icode MCl 177 35 = some (.iconst (-1), 36, 0, 0, (-1)) := by decide +kernel
theorem k177_36 : icode MCl 177 36 = some (.ireturn, 37, 0, 0, 0) := by decide +kernel
theorem k177_37 : icode MCl 177 37 = some (.iconst 1, 38, 0, 0, 1) := by decide +kernel
theorem k177_38 : icode MCl 177 38 = some (.istore 5, 40, 0, 0, 0) := by decide +kernel
theorem k177_40 : icode MCl 177 40 = some (.bipush 10, 42, 0, 0, 10) := by decide +kernel
theorem k177_42 : icode MCl 177 42 = some (.istore 6, 44, 0, 0, 0) := by decide +kernel
theorem k177_44 : icode MCl 177 44 = some (.iload_n 1, 45, 0, 0, 0) := by decide +kernel
theorem k177_45 : icode MCl 177 45 = some (.istore 7, 47, 0, 0, 0) := by decide +kernel
theorem k177_47 : icode MCl 177 47 = some (.aload_n 0, 48, 0, 0, 0) := by decide +kernel
theorem k177_48 : icode MCl 177 48 = some (.getfield 37, 51, 815, 789, 1) := by decide +kernel
theorem k177_51 : icode MCl 177 51 = some (.iload 7, 53, 0, 0, 0) := by decide +kernel
theorem k177_53 : icode MCl 177 53 = some (.iaload, 54, 0, 0, 0) := by decide +kernel
theorem k177_54 : icode MCl 177 54 = some (.iload 7, 56, 0, 0, 0) := by decide +kernel
theorem k177_56 : icode MCl 177 56 = some (.if_icmp .eq 25, 59, 81, 0, 0) := by decide +kernel
theorem k177_59 : icode MCl 177 59 = some (.iinc 5 1, 62, 0, 0, 1) := by decide +kernel
theorem k177_62 : icode MCl 177 62 = some (.iload 6, 64, 0, 0, 0) := by decide +kernel
theorem k177_64 : icode MCl 177 64 = some (.bipush 10, 66, 0, 0, 10) := by decide +kernel
theorem k177_66 : icode MCl 177 66 = some (.imul, 67, 0, 0, 0) := by decide +kernel
theorem k177_67 : icode MCl 177 67 = some (.istore 6, 69, 0, 0, 0) := by decide +kernel
theorem k177_69 : icode MCl 177 69 = some (.aload_n 0, 70, 0, 0, 0) := by decide +kernel
theorem k177_70 : icode MCl 177 70 = some (.getfield 37, 73, 815, 789, 1) := by decide +kernel
theorem k177_73 : icode MCl 177 73 = some (.iload 7, 75, 0, 0, 0) := by decide +kernel
theorem k177_75 : icode MCl 177 75 = some (.iaload, 76, 0, 0, 0) := by decide +kernel
theorem k177_76 : icode MCl 177 76 = some (.istore 7, 78, 0, 0, 0) := by decide +kernel
theorem k177_78 : icode MCl 177 78 = some (.goto (-31), 81, 47, 0, 0) := by decide +kernel
theorem k177_81 : icode MCl 177 81 = some (.iconst 0, 82, 0, 0, 0) := by decide +kernel
theorem k177_82 : icode MCl 177 82 = some (.istore 7, 84, 0, 0, 0) := by decide +kernel
theorem k177_84 : icode MCl 177 84 = some (.iconst 0, 85, 0, 0, 0) := by decide +kernel
theorem k177_85 : icode MCl 177 85 = some (.istore 8, 87, 0, 0, 0) := by decide +kernel
theorem k177_87 : icode MCl 177 87 = some (.iload 8, 89, 0, 0, 0) := by decide +kernel
theorem k177_89 : icode MCl 177 89 = some (.iconst 1, 90, 0, 0, 1) := by decide +kernel
theorem k177_90 : icode MCl 177 90 = some (.iload 5, 92, 0, 0, 0) := by decide +kernel
theorem k177_92 : icode MCl 177 92 = some (.ishl, 93, 0, 0, 0) := by decide +kernel
theorem k177_93 : icode MCl 177 93 = some (.if_icmp .ge 79, 96, 172, 0, 0) := by decide +kernel
theorem k177_96 : icode MCl 177 96 = some (.iconst 1, 97, 0, 0, 1) := by decide +kernel
theorem k177_97 : icode MCl 177 97 = some (.istore 9, 99, 0, 0, 0) := by decide +kernel
theorem k177_99 : icode MCl 177 99 = some (.iconst 0, 100, 0, 0, 0) := by decide +kernel
theorem k177_100 : icode MCl 177 100 = some (.istore 10, 102, 0, 0, 0) := by decide +kernel
theorem k177_102 : icode MCl 177 102 = some (.iload 10, 104, 0, 0, 0) := by decide +kernel
theorem k177_104 : icode MCl 177 104 = some (.iload 5, 106, 0, 0, 0) := by decide +kernel
theorem k177_106 : icode MCl 177 106 = some (.if_icmp .ge 32, 109, 138, 0, 0) := by decide +kernel
theorem k177_109 : icode MCl 177 109 = some (.iload 9, 111, 0, 0, 0) := by decide +kernel
theorem k177_111 : icode MCl 177 111 = some (.iload 8, 113, 0, 0, 0) := by decide +kernel
theorem k177_113 : icode MCl 177 113 = some (.iload 10, 115, 0, 0, 0) := by decide +kernel
theorem k177_115 : icode MCl 177 115 = some (.invokestatic 156, 118, 108, 953, 0) := by decide +kernel
theorem k177_118 : icode MCl 177 118 = some (.ifCond .eq 7, 121, 125, 0, 0) := by decide +kernel
theorem k177_121 : icode MCl 177 121 = some (.iload_n 3, 122, 0, 0, 0) := by decide +kernel
theorem k177_122 : icode MCl 177 122 = some (.goto 7, 125, 129, 0, 0) := by decide +kernel
theorem k177_125 : icode MCl 177 125 = some (.bipush 10, 127, 0, 0, 10) := by decide +kernel
theorem k177_127 : icode MCl 177 127 = some (.iload_n 3, 128, 0, 0, 0) := by decide +kernel
theorem k177_128 : icode MCl 177 128 = some (.isub, 129, 0, 0, 0) := by decide +kernel
theorem k177_129 : icode MCl 177 129 = some (.imul, 130, 0, 0, 0) := by decide +kernel
theorem k177_130 : icode MCl 177 130 = some (.istore 9, 132, 0, 0, 0) := by decide +kernel
theorem k177_132 : icode MCl 177 132 = some (.iinc 10 1, 135, 0, 0, 1) := by decide +kernel
theorem k177_135 : icode MCl 177 135 = some (.goto (-33), 138, 102, 0, 0) := by decide +kernel
theorem k177_138 : icode MCl 177 138 = some (.iload 7, 140, 0, 0, 0) := by decide +kernel
theorem k177_140 : icode MCl 177 140 = some (.aload_n 0, 141, 0, 0, 0) := by decide +kernel
theorem k177_141 : icode MCl 177 141 = some (.iload_n 1, 142, 0, 0, 0) := by decide +kernel
theorem k177_142 : icode MCl 177 142 = some (.iload_n 2, 143, 0, 0, 0) := by decide +kernel
theorem k177_143 : icode MCl 177 143 = some (.iload 8, 145, 0, 0, 0) := by decide +kernel
theorem k177_145 : icode MCl 177 145 = some (.invokevirtual 207, 148, 175, 1053, 0) := by decide +kernel
theorem k177_148 : icode MCl 177 148 = some (.aload_n 0, 149, 0, 0, 0) := by decide +kernel
theorem k177_149 : icode MCl 177 149 = some (.iload_n 1, 150, 0, 0, 0) := by decide +kernel
theorem k177_150 : icode MCl 177 150 = some (.iload_n 2, 151, 0, 0, 0) := by decide +kernel
theorem k177_151 : icode MCl 177 151 = some (.invokevirtual 182, 154, 131, 979, 0) := by decide +kernel
theorem k177_154 : icode MCl 177 154 = some (.if_icmp .ne 8, 157, 162, 0, 0) := by decide +kernel
theorem k177_157 : icode MCl 177 157 = some (.iload 9, 159, 0, 0, 0) := by decide +kernel
theorem k177_159 : icode MCl 177 159 = some (.goto 4, 162, 163, 0, 0) := by decide +kernel
theorem k177_162 : icode MCl 177 162 = some (.iconst 0, 163, 0, 0, 0) := by decide +kernel
theorem k177_163 : icode MCl 177 163 = some (.iadd, 164, 0, 0, 0) := by decide +kernel
theorem k177_164 : icode MCl 177 164 = some (.istore 7, 166, 0, 0, 0) := by decide +kernel
theorem k177_166 : icode MCl 177 166 = some (.iinc 8 1, 169, 0, 0, 1) := by decide +kernel
theorem k177_169 : icode MCl 177 169 = some (.goto (-82), 172, 87, 0, 0) := by decide +kernel
theorem k177_172 : icode MCl 177 172 = some (.iload 7, 174, 0, 0, 0) := by decide +kernel
theorem k177_174 : icode MCl 177 174 = some (.iload 6, 176, 0, 0, 0) := by decide +kernel
theorem k177_176 : icode MCl 177 176 = some (.invokestatic 211, 179, 176, 1060, 0) := by decide +kernel
theorem k177_179 : icode MCl 177 179 = some (.istore 8, 181, 0, 0, 0) := by decide +kernel
theorem k177_181 : icode MCl 177 181 = some (.iload 4, 183, 0, 0, 0) := by decide +kernel
theorem k177_183 : icode MCl 177 183 = some (.ifCond .ne 11, 186, 194, 0, 0) := by decide +kernel
theorem k177_186 : icode MCl 177 186 = some (.iload 7, 188, 0, 0, 0) := by decide +kernel
theorem k177_188 : icode MCl 177 188 = some (.iload 8, 190, 0, 0, 0) := by decide +kernel
theorem k177_190 : icode MCl 177 190 = some (.idiv, 191, 0, 0, 0) := by decide +kernel
theorem k177_191 : icode MCl 177 191 = some (.goto 8, 194, 199, 0, 0) := by decide +kernel
theorem k177_194 : icode MCl 177 194 = some (.iload 6, 196, 0, 0, 0) := by decide +kernel
theorem k177_196 : icode MCl 177 196 = some (.iload 8, 198, 0, 0, 0) := by decide +kernel
theorem k177_198 : icode MCl 177 198 = some (.idiv, 199, 0, 0, 0) := by decide +kernel
theorem k177_199 : icode MCl 177 199 = some (.ireturn, 200, 0, 0, 0) := by decide +kernel
theorem k178_0 : icode MCl 178 0 = some (.ldc2_w 250, 3, 0, 721, 7919) := by decide +kernel
theorem k178_3 : icode MCl 178 3 = some (.iload_n 0, 4, 0, 0, 0) := by decide +kernel
theorem k178_4 : icode MCl 178 4 = some (.i2l, 5, 0, 0, 0) := by decide +kernel
theorem k178_5 : icode MCl 178 5 = some (.lmul, 6, 0, 0, 0) := by decide +kernel
theorem k178_6 : icode MCl 178 6 = some (.ldc2_w 252, 9, 0, 722, 6151) := by decide +kernel
theorem k178_9 : icode MCl 178 9 = some (.iload_n 1, 10, 0, 0, 0) := by decide +kernel
theorem k178_10 : icode MCl 178 10 = some (.i2l, 11, 0, 0, 0) := by decide +kernel
theorem k178_11 : icode MCl 178 11 = some (.lmul, 12, 0, 0, 0) := by decide +kernel
theorem k178_12 : icode MCl 178 12 = some (.ladd, 13, 0, 0, 0) := by decide +kernel
theorem k178_13 : icode MCl 178 13 = some (.lconst 1, 14, 0, 0, 1) := by decide +kernel
theorem k178_14 : icode MCl 178 14 = some (.ladd, 15, 0, 0, 0) := by decide +kernel
theorem k178_15 : icode MCl 178 15 = some (.lstore_n 2, 16, 0, 0, 0) := by decide +kernel
theorem k178_16 : icode MCl 178 16 = some (.lload_n 2, 17, 0, 0, 0) := by decide +kernel
theorem k178_17 : icode MCl 178 17 = some (.lload_n 2, 18, 0, 0, 0) := by decide +kernel
theorem k178_18 : icode MCl 178 18 = some (.lmul, 19, 0, 0, 0) := by decide +kernel
theorem k178_19 : icode MCl 178 19 = some (.ldc2_w 254, 22, 0, 723, 65521) := by decide +kernel
theorem k178_22 : icode MCl 178 22 = some (.lrem, 23, 0, 0, 0) := by decide +kernel
theorem k178_23 : icode MCl 178 23 = some (.l2i, 24, 0, 0, 0) := by decide +kernel
theorem k178_24 : icode MCl 178 24 = some (.ireturn, 25, 0, 0, 0) := by decide +kernel
theorem k179_0 : icode MCl 179 0 = some (.aload_n 0, 1, 0, 0, 0) := by decide +kernel
theorem k179_1 : icode MCl 179 1 = some (.getfield 24, 4, 702, 411, 1) := by decide +kernel
theorem k179_4 : icode MCl 179 4 = some (.invokevirtual 90, 7, 72, 453, 0) := by decide +kernel
theorem k179_7 : icode MCl 179 7 = some (.istore_n 2, 8, 0, 0, 0) := by decide +kernel
theorem k179_8 : icode MCl 179 8 = some (.iload_n 2, 9, 0, 0, 0) := by decide +kernel
theorem k179_9 : icode MCl 179 9 = some (.iconst 1, 10, 0, 0, 1) := by decide +kernel
theorem k179_10 : icode MCl 179 10 = some (.if_icmp .ge 4, 13, 14, 0, 0) := by decide +kernel
theorem k179_13 : icode MCl 179 13 = some (.return_, 14, 0, 0, 0) := by decide +kernel
theorem k179_14 : icode MCl 179 14 = some (.iload_n 1, 15, 0, 0, 0) := by decide +kernel
theorem k179_15 : icode MCl 179 15 = some (.bipush 8, 17, 0, 0, 8) := by decide +kernel
theorem k179_17 : icode MCl 179 17 = some (.idiv, 18, 0, 0, 0) := by decide +kernel
theorem k179_18 : icode MCl 179 18 = some (.iload_n 2, 19, 0, 0, 0) := by decide +kernel
theorem k179_19 : icode MCl 179 19 = some (.irem, 20, 0, 0, 0) := by decide +kernel
theorem k179_20 : icode MCl 179 20 = some (.istore_n 3, 21, 0, 0, 0) := by decide +kernel
theorem k179_21 : icode MCl 179 21 = some (.iload_n 1, 22, 0, 0, 0) := by decide +kernel
theorem k179_22 : icode MCl 179 22 = some (.bipush 8, 24, 0, 0, 8) := by decide +kernel
theorem k179_24 : icode MCl 179 24 = some (.irem, 25, 0, 0, 0) := by decide +kernel
theorem k179_25 : icode MCl 179 25 = some (.ifCond .ne 11, 28, 36, 0, 0) := by decide +kernel
theorem k179_28 : icode MCl 179 28 = some (.aload_n 0, 29, 0, 0, 0) := by decide +kernel
theorem k179_29 : icode MCl 179 29 = some (.getfield 35, 32, 704, 413, 1) := by decide +kernel
theorem k179_32 : icode MCl 179 32 = some (.iload_n 3, 33, 0, 0, 0) := by decide +kernel
theorem k179_33 : icode MCl 179 33 = some (.invokevirtual 158, 36, 36, 553, 0) := by decide +kernel
theorem k179_36 : icode MCl 179 36 = some (.iload_n 1, 37, 0, 0, 0) := by decide +kernel
theorem k179_37 : icode MCl 179 37 = some (.bipush 8, 39, 0, 0, 8) := by decide +kernel
theorem k179_39 : icode MCl 179 39 = some (.irem, 40, 0, 0, 0) := by decide +kernel
theorem k179_40 : icode MCl 179 40 = some (.iconst 1, 41, 0, 0, 1) := by decide +kernel
theorem k179_41 : icode MCl 179 41 = some (.if_icmp .ne 48, 44, 89, 0, 0) := by decide +kernel
theorem k179_44 : icode MCl 179 44 = some (.iconst 1, 45, 0, 0, 1) := by decide +kernel
theorem k179_45 : icode MCl 179 45 = some (.iload_n 1, 46, 0, 0, 0) := by decide +kernel
theorem k179_46 : icode MCl 179 46 = some (.sipush 128, 49, 0, 0, 128) := by decide +kernel
theorem k179_49 : icode MCl 179 49 = some (.idiv, 50, 0, 0, 0) := by decide +kernel
theorem k179_50 : icode MCl 179 50 = some (.iconst 3, 51, 0, 0, 3) := by decide +kernel
theorem k179_51 : icode MCl 179 51 = some (.irem, 52, 0, 0, 0) := by decide +kernel
theorem k179_52 : icode MCl 179 52 = some (.iadd, 53, 0, 0, 0) := by decide +kernel
theorem k179_53 : icode MCl 179 53 = some (.istore 4, 55, 0, 0, 0) := by decide +kernel
theorem k179_55 : icode MCl 179 55 = some (.iconst 1, 56, 0, 0, 1) := by decide +kernel
theorem k179_56 : icode MCl 179 56 = some (.iload_n 1, 57, 0, 0, 0) := by decide +kernel
theorem k179_57 : icode MCl 179 57 = some (.sipush 512, 60, 0, 0, 512) := by decide +kernel
theorem k179_60 : icode MCl 179 60 = some (.idiv, 61, 0, 0, 0) := by decide +kernel
theorem k179_61 : icode MCl 179 61 = some (.iconst 3, 62, 0, 0, 3) := by decide +kernel
theorem k179_62 : icode MCl 179 62 = some (.irem, 63, 0, 0, 0) := by decide +kernel
theorem k179_63 : icode MCl 179 63 = some (.iadd, 64, 0, 0, 0) := by decide +kernel
theorem k179_64 : icode MCl 179 64 = some (.istore 5, 66, 0, 0, 0) := by decide +kernel
theorem k179_66 : icode MCl 179 66 = some (.aload_n 0, 67, 0, 0, 0) := by decide +kernel
theorem k179_67 : icode MCl 179 67 = some (.getfield 35, 70, 704, 413, 1) := by decide +kernel
theorem k179_70 : icode MCl 179 70 = some (.iload_n 3, 71, 0, 0, 0) := by decide +kernel
theorem k179_71 : icode MCl 179 71 = some (.aload_n 0, 72, 0, 0, 0) := by decide +kernel
theorem k179_72 : icode MCl 179 72 = some (.getfield 35, 75, 704, 413, 1) := by decide +kernel
theorem k179_75 : icode MCl 179 75 = some (.invokevirtual 165, 78, 116, 563, 0) := by decide +kernel
theorem k179_78 : icode MCl 179 78 = some (.iload 4, 80, 0, 0, 0) := by decide +kernel
theorem k179_80 : icode MCl 179 80 = some (.iconst 4, 81, 0, 0, 4) := by decide +kernel
theorem k179_81 : icode MCl 179 81 = some (.imul, 82, 0, 0, 0) := by decide +kernel
theorem k179_82 : icode MCl 179 82 = some (.iload 5, 84, 0, 0, 0) := by decide +kernel
theorem k179_84 : icode MCl 179 84 = some (.iadd, 85, 0, 0, 0) := by decide +kernel
theorem k179_85 : icode MCl 179 85 = some (.invokevirtual 168, 88, 32, 567, 0) := by decide +kernel
theorem k179_88 : icode MCl 179 88 = some (.pop, 89, 0, 0, 0) := by decide +kernel
theorem k179_89 : icode MCl 179 89 = some (.return_, 90, 0, 0, 0) := by decide +kernel
theorem k180_0 : icode MCl 180 0 = some (.iconst 0, 1, 0, 0, 0) := by decide +kernel
theorem k180_1 : icode MCl 180 1 = some (.istore_n 1, 2, 0, 0, 0) := by decide +kernel
theorem k180_2 : icode MCl 180 2 = some (.iconst 0, 3, 0, 0, 0) := by decide +kernel
theorem k180_3 : icode MCl 180 3 = some (.istore_n 2, 4, 0, 0, 0) := by decide +kernel
theorem k180_4 : icode MCl 180 4 = some (.iload_n 2, 5, 0, 0, 0) := by decide +kernel
theorem k180_5 : icode MCl 180 5 = some (.aload_n 0, 6, 0, 0, 0) := by decide +kernel
theorem k180_6 : icode MCl 180 6 = some (.getfield 22, 9, 202, 145, 0) := by decide +kernel
theorem k180_9 : icode MCl 180 9 = some (.if_icmp .ge 36, 12, 45, 0, 0) := by decide +kernel
theorem k180_12 : icode MCl 180 12 = some (.iload_n 1, 13, 0, 0, 0) := by decide +kernel
theorem k180_13 : icode MCl 180 13 = some (.aload_n 0, 14, 0, 0, 0) := by decide +kernel
theorem k180_14 : icode MCl 180 14 = some (.iload_n 2, 15, 0, 0, 0) := by decide +kernel
theorem k180_15 : icode MCl 180 15 = some (.invokevirtual 32, 18, 30, 341, 0) := by decide +kernel
theorem k180_18 : icode MCl 180 18 = some (.getfield 62, 21, 101, 119, 0) := by decide +kernel
theorem k180_21 : icode MCl 180 21 = some (.iconst 2, 22, 0, 0, 2) := by decide +kernel
theorem k180_22 : icode MCl 180 22 = some (.if_icmp .ne 14, 25, 36, 0, 0) := by decide +kernel
theorem k180_25 : icode MCl 180 25 = some (.aload_n 0, 26, 0, 0, 0) := by decide +kernel
theorem k180_26 : icode MCl 180 26 = some (.iload_n 2, 27, 0, 0, 0) := by decide +kernel
theorem k180_27 : icode MCl 180 27 = some (.invokevirtual 32, 30, 30, 341, 0) := by decide +kernel
theorem k180_30 : icode MCl 180 30 = some (.getfield 72, 33, 103, 125, 0) := by decide +kernel
theorem k180_33 : icode MCl 180 33 = some (.goto 4, 36, 37, 0, 0) := by decide +kernel
theorem k180_36 : icode MCl 180 36 = some (.iconst 0, 37, 0, 0, 0) := by decide +kernel
theorem k180_37 : icode MCl 180 37 = some (.iadd, 38, 0, 0, 0) := by decide +kernel
theorem k180_38 : icode MCl 180 38 = some (.istore_n 1, 39, 0, 0, 0) := by decide +kernel
theorem k180_39 : icode MCl 180 39 = some (.iinc 2 1, 42, 0, 0, 1) := by decide +kernel
theorem k180_42 : icode MCl 180 42 = some (.goto (-38), 45, 4, 0, 0) := by decide +kernel
theorem k180_45 : icode MCl 180 45 = some (.iload_n 1, 46, 0, 0, 0) := by decide +kernel
theorem k180_46 : icode MCl 180 46 = some (.ireturn, 47, 0, 0, 0) := by decide +kernel
theorem k181_0 : icode MCl 181 0 = some (.iload_n 1, 1, 0, 0, 0) := by decide +kernel
theorem k181_1 : icode MCl 181 1 = some (.iconst 0, 2, 0, 0, 0) := by decide +kernel
theorem k181_2 : icode MCl 181 2 = some (.sipush 9999, 5, 0, 0, 9999) := by decide +kernel
theorem k181_5 : icode MCl 181 5 = some (.invokestatic 84, 8, 22, 439, 0) := by decide +kernel
theorem k181_8 : icode MCl 181 8 = some (.ifCond .eq 22, 11, 30, 0, 0) := by decide +kernel
theorem k181_11 : icode MCl 181 11 = some (.iload_n 2, 12, 0, 0, 0) := by decide +kernel
theorem k181_12 : icode MCl 181 12 = some (.iconst 1, 13, 0, 0, 1) := by decide +kernel
theorem k181_13 : icode MCl 181 13 = some (.bipush 60, 15, 0, 0, 60) := by decide +kernel
theorem k181_15 : icode MCl 181 15 = some (.invokestatic 84, 18, 22, 439, 0) := by decide +kernel
theorem k181_18 : icode MCl 181 18 = some (.ifCond .eq 12, 21, 30, 0, 0) := by decide +kernel
theorem k181_21 : icode MCl 181 21 = some (.iload_n 3, 22, 0, 0, 0) := by decide +kernel
theorem k181_22 : icode MCl 181 22 = some (.iconst 0, 23, 0, 0, 0) := by decide +kernel
theorem k181_23 : icode MCl 181 23 = some (.iconst 1, 24, 0, 0, 1) := by decide +kernel
theorem k181_24 : icode MCl 181 24 = some (.invokestatic 84, 27, 22, 439, 0) := by decide +kernel
theorem k181_27 : icode MCl 181 27 = some (.ifCond .ne 5, 30, 32, 0, 0) := by decide +kernel
theorem k181_30 : icode MCl 181 30 = some (.iconst (-1), 31, 0, 0, (-1)) := by decide +kernel
theorem k181_31 : icode MCl 181 31 = some (.ireturn, 32, 0, 0, 0) := by decide +kernel
theorem k181_32 : icode MCl 181 32 = some (.aload_n 0, 33, 0, 0, 0) := by decide +kernel
theorem k181_33 : icode MCl 181 33 = some (.getfield 35, 36, 704, 413, 1) := by decide +kernel
theorem k181_36 : icode MCl 181 36 = some (.aload_n 0, 37, 0, 0, 0) := by decide +kernel
theorem k181_37 : icode MCl 181 37 = some (.getfield 31, 40, 703, 412, 1) := by decide +kernel
theorem k181_40 : icode MCl 181 40 = some (.invokevirtual 193, 43, 46, 389, 0) := by decide +kernel
theorem k181_43 : icode MCl 181 43 = some (.iconst 0, 44, 0, 0, 0) := by decide +kernel
theorem k181_44 : icode MCl 181 44 = some (.istore 4, 46, 0, 0, 0) := by decide +kernel
theorem k181_46 : icode MCl 181 46 = some (.iload 4, 48, 0, 0, 0) := by decide +kernel
theorem k181_48 : icode MCl 181 48 = some (.iload_n 2, 49, 0, 0, 0) := by decide +kernel
theorem k181_49 : icode MCl 181 49 = some (.if_icmp .ge 30, 52, 79, 0, 0) := by decide +kernel
theorem k181_52 : icode MCl 181 52 = some (.aload_n 0, 53, 0, 0, 0) := by decide +kernel
theorem k181_53 : icode MCl 181 53 = some (.iload_n 1, 54, 0, 0, 0) := by decide +kernel
theorem k181_54 : icode MCl 181 54 = some (.iload 4, 56, 0, 0, 0) := by decide +kernel
theorem k181_56 : icode MCl 181 56 = some (.invokestatic 226, 59, 178, 718, 0) := by decide +kernel
theorem k181_59 : icode MCl 181 59 = some (.invokevirtual 229, 62, 179, 724, 0) := by decide +kernel
theorem k181_62 : icode MCl 181 62 = some (.aload_n 0, 63, 0, 0, 0) := by decide +kernel
theorem k181_63 : icode MCl 181 63 = some (.getfield 35, 66, 704, 413, 1) := by decide +kernel
theorem k181_66 : icode MCl 181 66 = some (.aload_n 0, 67, 0, 0, 0) := by decide +kernel
theorem k181_67 : icode MCl 181 67 = some (.getfield 24, 70, 702, 411, 1) := by decide +kernel
theorem k181_70 : icode MCl 181 70 = some (.invokevirtual 151, 73, 104, 524, 0) := by decide +kernel
theorem k181_73 : icode MCl 181 73 = some (.iinc 4 1, 76, 0, 0, 1) := by decide +kernel
theorem k181_76 : icode MCl 181 76 = some (.goto (-30), 79, 46, 0, 0) := by decide +kernel
theorem k181_79 : icode MCl 181 79 = some (.iload_n 3, 80, 0, 0, 0) := by decide +kernel
theorem k181_80 : icode MCl 181 80 = some (.ifCond .ne 14, 83, 94, 0, 0) := by decide +kernel
theorem k181_83 : icode MCl 181 83 = some (.aload_n 0, 84, 0, 0, 0) := by decide +kernel
theorem k181_84 : icode MCl 181 84 = some (.getfield 35, 87, 704, 413, 1) := by decide +kernel
theorem k181_87 : icode MCl 181 87 = some (.iconst 2, 88, 0, 0, 2) := by decide +kernel
theorem k181_88 : icode MCl 181 88 = some (.invokevirtual 155, 91, 105, 545, 0) := by decide +kernel
theorem k181_91 : icode MCl 181 91 = some (.goto 14, 94, 105, 0, 0) := by decide +kernel
theorem k181_94 : icode MCl 181 94 = some (.aload_n 0, 95, 0, 0, 0) := by decide +kernel
theorem k181_95 : icode MCl 181 95 = some (.getfield 35, 98, 704, 413, 1) := by decide +kernel
theorem k181_98 : icode MCl 181 98 = some (.invokevirtual 232, 101, 180, 728, 0) := by decide +kernel
theorem k181_101 : icode MCl 181 101 = some (.sipush 9973, 104, 0, 0, 9973) := by decide +kernel
theorem k181_104 : icode MCl 181 104 = some (.irem, 105, 0, 0, 0) := by decide +kernel
theorem k181_105 : icode MCl 181 105 = some (.ireturn, 106, 0, 0, 0) := by decide +kernel
theorem k182_0 : icode MCl 182 0 = some (.iload_n 1, 1, 0, 0, 0) := by decide +kernel
theorem k182_1 : icode MCl 182 1 = some (.iconst 0, 2, 0, 0, 0) := by decide +kernel
theorem k182_2 : icode MCl 182 2 = some (.sipush 9999, 5, 0, 0, 9999) := by decide +kernel
theorem k182_5 : icode MCl 182 5 = some (.invokestatic 73, 8, 59, 854, 0) := by decide +kernel
theorem k182_8 : icode MCl 182 8 = some (.ifCond .eq 22, 11, 30, 0, 0) := by decide +kernel
theorem k182_11 : icode MCl 182 11 = some (.iload_n 2, 12, 0, 0, 0) := by decide +kernel
theorem k182_12 : icode MCl 182 12 = some (.iconst 1, 13, 0, 0, 1) := by decide +kernel
theorem k182_13 : icode MCl 182 13 = some (.bipush 60, 15, 0, 0, 60) := by decide +kernel
theorem k182_15 : icode MCl 182 15 = some (.invokestatic 73, 18, 59, 854, 0) := by decide +kernel
theorem k182_18 : icode MCl 182 18 = some (.ifCond .eq 12, 21, 30, 0, 0) := by decide +kernel
theorem k182_21 : icode MCl 182 21 = some (.iload_n 3, 22, 0, 0, 0) := by decide +kernel
theorem k182_22 : icode MCl 182 22 = some (.iconst 0, 23, 0, 0, 0) := by decide +kernel
theorem k182_23 : icode MCl 182 23 = some (.iconst 1, 24, 0, 0, 1) := by decide +kernel
theorem k182_24 : icode MCl 182 24 = some (.invokestatic 73, 27, 59, 854, 0) := by decide +kernel
theorem k182_27 : icode MCl 182 27 = some (.ifCond .ne 5, 30, 32, 0, 0) := by decide +kernel
theorem k182_30 : icode MCl 182 30 = some (.iconst (-1), 31, 0, 0, (-1)) := by decide +kernel
theorem k182_31 : icode MCl 182 31 = some (.ireturn, 32, 0, 0, 0) := by decide +kernel
theorem k182_32 : icode MCl 182 32 = some (.aload_n 0, 33, 0, 0, 0) := by decide +kernel
theorem k182_33 : icode MCl 182 33 = some (.invokevirtual 185, 36, 137, 991, 0) := by decide +kernel
theorem k182_36 : icode MCl 182 36 = some (.iconst 0, 37, 0, 0, 0) := by decide +kernel
theorem k182_37 : icode MCl 182 37 = some (.istore 4, 39, 0, 0, 0) := by decide +kernel
theorem k182_39 : icode MCl 182 39 = some (.iload 4, 41, 0, 0, 0) := by decide +kernel
theorem k182_41 : icode MCl 182 41 = some (.iload_n 2, 42, 0, 0, 0) := by decide +kernel
theorem k182_42 : icode MCl 182 42 = some (.if_icmp .ge 142, 45, 184, 0, 0) := by decide +kernel
theorem k182_45 : icode MCl 182 45 = some (.ldc2_w 214, 48, 0, 1067, 7919) := by decide +kernel
theorem k182_48 : icode MCl 182 48 = some (.iload_n 1, 49, 0, 0, 0) := by decide +kernel
theorem k182_49 : icode MCl 182 49 = some (.i2l, 50, 0, 0, 0) := by decide +kernel
theorem k182_50 : icode MCl 182 50 = some (.lmul, 51, 0, 0, 0) := by decide +kernel
theorem k182_51 : icode MCl 182 51 = some (.ldc2_w 216, 54, 0, 1068, 6151) := by decide +kernel
theorem k182_54 : icode MCl 182 54 = some (.iload 4, 56, 0, 0, 0) := by decide +kernel
theorem k182_56 : icode MCl 182 56 = some (.i2l, 57, 0, 0, 0) := by decide +kernel
theorem k182_57 : icode MCl 182 57 = some (.lmul, 58, 0, 0, 0) := by decide +kernel
theorem k182_58 : icode MCl 182 58 = some (.ladd, 59, 0, 0, 0) := by decide +kernel
theorem k182_59 : icode MCl 182 59 = some (.lconst 1, 60, 0, 0, 1) := by decide +kernel
theorem k182_60 : icode MCl 182 60 = some (.ladd, 61, 0, 0, 0) := by decide +kernel
theorem k182_61 : icode MCl 182 61 = some (.lstore 5, 63, 0, 0, 0) := by decide +kernel
theorem k182_63 : icode MCl 182 63 = some (.lload 5, 65, 0, 0, 0) := by decide +kernel
theorem k182_65 : icode MCl 182 65 = some (.lload 5, 67, 0, 0, 0) := by decide +kernel
theorem k182_67 : icode MCl 182 67 = some (.lmul, 68, 0, 0, 0) := by decide +kernel
theorem k182_68 : icode MCl 182 68 = some (.ldc2_w 218, 71, 0, 1069, 65521) := by decide +kernel
theorem k182_71 : icode MCl 182 71 = some (.lrem, 72, 0, 0, 0) := by decide +kernel
theorem k182_72 : icode MCl 182 72 = some (.l2i, 73, 0, 0, 0) := by decide +kernel
theorem k182_73 : icode MCl 182 73 = some (.istore 7, 75, 0, 0, 0) := by decide +kernel
theorem k182_75 : icode MCl 182 75 = some (.iload 7, 77, 0, 0, 0) := by decide +kernel
theorem k182_77 : icode MCl 182 77 = some (.bipush 8, 79, 0, 0, 8) := by decide +kernel
theorem k182_79 : icode MCl 182 79 = some (.idiv, 80, 0, 0, 0) := by decide +kernel
theorem k182_80 : icode MCl 182 80 = some (.aload_n 0, 81, 0, 0, 0) := by decide +kernel
theorem k182_81 : icode MCl 182 81 = some (.getfield 119, 84, 812, 786, 0) := by decide +kernel
theorem k182_84 : icode MCl 182 84 = some (.irem, 85, 0, 0, 0) := by decide +kernel
theorem k182_85 : icode MCl 182 85 = some (.istore 8, 87, 0, 0, 0) := by decide +kernel
theorem k182_87 : icode MCl 182 87 = some (.aload_n 0, 88, 0, 0, 0) := by decide +kernel
theorem k182_88 : icode MCl 182 88 = some (.getfield 43, 91, 817, 791, 1) := by decide +kernel
theorem k182_91 : icode MCl 182 91 = some (.iconst 1, 92, 0, 0, 1) := by decide +kernel
theorem k182_92 : icode MCl 182 92 = some (.dup2, 93, 0, 0, 0) := by decide +kernel
theorem k182_93 : icode MCl 182 93 = some (.iaload, 94, 0, 0, 0) := by decide +kernel
theorem k182_94 : icode MCl 182 94 = some (.iload 7, 96, 0, 0, 0) := by decide +kernel
theorem k182_96 : icode MCl 182 96 = some (.bipush 8, 98, 0, 0, 8) := by decide +kernel
theorem k182_98 : icode MCl 182 98 = some (.irem, 99, 0, 0, 0) := by decide +kernel
theorem k182_99 : icode MCl 182 99 = some (.ifCond .ne 10, 102, 109, 0, 0) := by decide +kernel
theorem k182_102 : icode MCl 182 102 = some (.iconst 1, 103, 0, 0, 1) := by decide +kernel
theorem k182_103 : icode MCl 182 103 = some (.iload 8, 105, 0, 0, 0) := by decide +kernel
theorem k182_105 : icode MCl 182 105 = some (.ishl, 106, 0, 0, 0) := by decide +kernel
theorem k182_106 : icode MCl 182 106 = some (.goto 4, 109, 110, 0, 0) := by decide +kernel
theorem k182_109 : icode MCl 182 109 = some (.iconst 0, 110, 0, 0, 0) := by decide +kernel
theorem k182_110 : icode MCl 182 110 = some (.ixor, 111, 0, 0, 0) := by decide +kernel
theorem k182_111 : icode MCl 182 111 = some (.iastore, 112, 0, 0, 0) := by decide +kernel
theorem k182_112 : icode MCl 182 112 = some (.iload 7, 114, 0, 0, 0) := by decide +kernel
theorem k182_114 : icode MCl 182 114 = some (.bipush 8, 116, 0, 0, 8) := by decide +kernel
theorem k182_116 : icode MCl 182 116 = some (.irem, 117, 0, 0, 0) := by decide +kernel
theorem k182_117 : icode MCl 182 117 = some (.iconst 1, 118, 0, 0, 1) := by decide +kernel
theorem k182_118 : icode MCl 182 118 = some (.if_icmp .ne 52, 121, 170, 0, 0) := by decide +kernel
theorem k182_121 : icode MCl 182 121 = some (.aload_n 0, 122, 0, 0, 0) := by decide +kernel
theorem k182_122 : icode MCl 182 122 = some (.getfield 43, 125, 817, 791, 1) := by decide +kernel
theorem k182_125 : icode MCl 182 125 = some (.iconst 2, 126, 0, 0, 2) := by decide +kernel
theorem k182_126 : icode MCl 182 126 = some (.iaload, 127, 0, 0, 0) := by decide +kernel
theorem k182_127 : icode MCl 182 127 = some (.bipush 6, 129, 0, 0, 6) := by decide +kernel
theorem k182_129 : icode MCl 182 129 = some (.if_icmp .ge 41, 132, 170, 0, 0) := by decide +kernel
theorem k182_132 : icode MCl 182 132 = some (.aload_n 0, 133, 0, 0, 0) := by decide +kernel
theorem k182_133 : icode MCl 182 133 = some (.getfield 43, 136, 817, 791, 1) := by decide +kernel
theorem k182_136 : icode MCl 182 136 = some (.iload 8, 138, 0, 0, 0) := by decide +kernel
theorem k182_138 : icode MCl 182 138 = some (.aload_n 0, 139, 0, 0, 0) := by decide +kernel
theorem k182_139 : icode MCl 182 139 = some (.getfield 43, 142, 817, 791, 1) := by decide +kernel
theorem k182_142 : icode MCl 182 142 = some (.iconst 0, 143, 0, 0, 0) := by decide +kernel
theorem k182_143 : icode MCl 182 143 = some (.iaload, 144, 0, 0, 0) := by decide +kernel
theorem k182_144 : icode MCl 182 144 = some (.iconst 4, 145, 0, 0, 4) := by decide +kernel
theorem k182_145 : icode MCl 182 145 = some (.iconst 1, 146, 0, 0, 1) := by decide +kernel
theorem k182_146 : icode MCl 182 146 = some (.iload 7, 148, 0, 0, 0) := by decide +kernel
theorem k182_148 : icode MCl 182 148 = some (.sipush 128, 151, 0, 0, 128) := by decide +kernel
theorem k182_151 : icode MCl 182 151 = some (.idiv, 152, 0, 0, 0) := by decide +kernel
theorem k182_152 : icode MCl 182 152 = some (.iconst 3, 153, 0, 0, 3) := by decide +kernel
theorem k182_153 : icode MCl 182 153 = some (.irem, 154, 0, 0, 0) := by decide +kernel
theorem k182_154 : icode MCl 182 154 = some (.iadd, 155, 0, 0, 0) := by decide +kernel
theorem k182_155 : icode MCl 182 155 = some (.imul, 156, 0, 0, 0) := by decide +kernel
theorem k182_156 : icode MCl 182 156 = some (.iconst 1, 157, 0, 0, 1) := by decide +kernel
theorem k182_157 : icode MCl 182 157 = some (.iadd, 158, 0, 0, 0) := by decide +kernel
theorem k182_158 : icode MCl 182 158 = some (.iload 7, 160, 0, 0, 0) := by decide +kernel
theorem k182_160 : icode MCl 182 160 = some (.sipush 512, 163, 0, 0, 512) := by decide +kernel
theorem k182_163 : icode MCl 182 163 = some (.idiv, 164, 0, 0, 0) := by decide +kernel
theorem k182_164 : icode MCl 182 164 = some (.iconst 3, 165, 0, 0, 3) := by decide +kernel
theorem k182_165 : icode MCl 182 165 = some (.irem, 166, 0, 0, 0) := by decide +kernel
theorem k182_166 : icode MCl 182 166 = some (.iadd, 167, 0, 0, 0) := by decide +kernel
theorem k182_167 : icode MCl 182 167 = some (.invokestatic 122, 170, 55, 771, 0) := by decide +kernel
theorem k182_170 : icode MCl 182 170 = some (.aload_n 0, 171, 0, 0, 0) := by decide +kernel
theorem k182_171 : icode MCl 182 171 = some (.aload_n 0, 172, 0, 0, 0) := by decide +kernel
theorem k182_172 : icode MCl 182 172 = some (.getfield 43, 175, 817, 791, 1) := by decide +kernel
theorem k182_175 : icode MCl 182 175 = some (.invokevirtual 170, 178, 110, 945, 0) := by decide +kernel
theorem k182_178 : icode MCl 182 178 = some (.iinc 4 1, 181, 0, 0, 1) := by decide +kernel
theorem k182_181 : icode MCl 182 181 = some (.goto (-142), 184, 39, 0, 0) := by decide +kernel
theorem k182_184 : icode MCl 182 184 = some (.iconst 0, 185, 0, 0, 0) := by decide +kernel
theorem k182_185 : icode MCl 182 185 = some (.istore 4, 187, 0, 0, 0) := by decide +kernel
theorem k182_187 : icode MCl 182 187 = some (.iconst 0, 188, 0, 0, 0) := by decide +kernel
theorem k182_188 : icode MCl 182 188 = some (.istore 5, 190, 0, 0, 0) := by decide +kernel
theorem k182_190 : icode MCl 182 190 = some (.iload 5, 192, 0, 0, 0) := by decide +kernel
theorem k182_192 : icode MCl 182 192 = some (.aload_n 0, 193, 0, 0, 0) := by decide +kernel
theorem k182_193 : icode MCl 182 193 = some (.getfield 43, 196, 817, 791, 1) := by decide +kernel
theorem k182_196 : icode MCl 182 196 = some (.iconst 2, 197, 0, 0, 2) := by decide +kernel
theorem k182_197 : icode MCl 182 197 = some (.iaload, 198, 0, 0, 0) := by decide +kernel
theorem k182_198 : icode MCl 182 198 = some (.if_icmp .ge 42, 201, 240, 0, 0) := by decide +kernel
theorem k182_201 : icode MCl 182 201 = some (.iload 4, 203, 0, 0, 0) := by decide +kernel
theorem k182_203 : icode MCl 182 203 = some (.aload_n 0, 204, 0, 0, 0) := by decide +kernel
theorem k182_204 : icode MCl 182 204 = some (.getfield 43, 207, 817, 791, 1) := by decide +kernel
theorem k182_207 : icode MCl 182 207 = some (.iload 5, 209, 0, 0, 0) := by decide +kernel
theorem k182_209 : icode MCl 182 209 = some (.iconst 1, 210, 0, 0, 1) := by decide +kernel
theorem k182_210 : icode MCl 182 210 = some (.invokestatic 135, 213, 79, 909, 0) := by decide +kernel
theorem k182_213 : icode MCl 182 213 = some (.iconst 2, 214, 0, 0, 2) := by decide +kernel
theorem k182_214 : icode MCl 182 214 = some (.if_icmp .ne 16, 217, 230, 0, 0) := by decide +kernel
theorem k182_217 : icode MCl 182 217 = some (.aload_n 0, 218, 0, 0, 0) := by decide +kernel
theorem k182_218 : icode MCl 182 218 = some (.getfield 43, 221, 817, 791, 1) := by decide +kernel
theorem k182_221 : icode MCl 182 221 = some (.iload 5, 223, 0, 0, 0) := by decide +kernel
theorem k182_223 : icode MCl 182 223 = some (.iconst 3, 224, 0, 0, 3) := by decide +kernel
theorem k182_224 : icode MCl 182 224 = some (.invokestatic 135, 227, 79, 909, 0) := by decide +kernel
theorem k182_227 : icode MCl 182 227 = some (.goto 4, 230, 231, 0, 0) := by decide +kernel
theorem k182_230 : icode MCl 182 230 = some (.iconst 0, 231, 0, 0, 0) := by decide +kernel
theorem k182_231 : icode MCl 182 231 = some (.iadd, 232, 0, 0, 0) := by decide +kernel
theorem k182_232 : icode MCl 182 232 = some (.istore 4, 234, 0, 0, 0) := by decide +kernel
theorem k182_234 : icode MCl 182 234 = some (.iinc 5 1, 237, 0, 0, 1) := by decide +kernel
theorem k182_237 : icode MCl 182 237 = some (.goto (-47), 240, 190, 0, 0) := by decide +kernel
theorem k182_240 : icode MCl 182 240 = some (.iload_n 3, 241, 0, 0, 0) := by decide +kernel
theorem k182_241 : icode MCl 182 241 = some (.ifCond .ne 13, 244, 254, 0, 0) := by decide +kernel
theorem k182_244 : icode MCl 182 244 = some (.aload_n 0, 245, 0, 0, 0) := by decide +kernel
theorem k182_245 : icode MCl 182 245 = some (.getfield 43, 248, 817, 791, 1) := by decide +kernel
theorem k182_248 : icode MCl 182 248 = some (.invokestatic 174, 251, 111, 956, 0) := by decide +kernel
theorem k182_251 : icode MCl 182 251 = some (.goto 9, 254, 260, 0, 0) := by decide +kernel
theorem k182_254 : icode MCl 182 254 = some (.iload 4, 256, 0, 0, 0) := by decide +kernel
theorem k182_256 : icode MCl 182 256 = some (.sipush 9973, 259, 0, 0, 9973) := by decide +kernel
theorem k182_259 : icode MCl 182 259 = some (.irem, 260, 0, 0, 0) := by decide +kernel
theorem k182_260 : icode MCl 182 260 = some (.ireturn, 261, 0, 0, 0) := by decide +kernel
theorem k183_0 : icode MCl 183 0 = some (.aload_n 0, 1, 0, 0, 0) := by decide +kernel
theorem k183_1 : icode MCl 183 1 = some (.getfield 47, 4, 706, 415, 1) := by decide +kernel
theorem k183_4 : icode MCl 183 4 = some (.invokevirtual 174, 7, 122, 580, 0) := by decide +kernel
theorem k183_7 : icode MCl 183 7 = some (.iconst 2, 8, 0, 0, 2) := by decide +kernel
theorem k183_8 : icode MCl 183 8 = some (.if_icmp .lt 6, 11, 14, 0, 0) := by decide +kernel
theorem k183_11 : icode MCl 183 11 = some (.bipush (-3), 13, 0, 0, (-3)) := by decide +kernel
theorem k183_13 : icode MCl 183 13 = some (.ireturn, 14, 0, 0, 0) := by decide +kernel
theorem k183_14 : icode MCl 183 14 = some (.aload_n 0, 15, 0, 0, 0) := by decide +kernel
theorem k183_15 : icode MCl 183 15 = some (.getfield 47, 18, 706, 415, 1) := by decide +kernel
theorem k183_18 : icode MCl 183 18 = some (.aload_n 0, 19, 0, 0, 0) := by decide +kernel
theorem k183_19 : icode MCl 183 19 = some (.getfield 31, 22, 703, 412, 1) := by decide +kernel
theorem k183_22 : icode MCl 183 22 = some (.invokevirtual 147, 25, 100, 515, 0) := by decide +kernel
theorem k183_25 : icode MCl 183 25 = some (.aload_n 0, 26, 0, 0, 0) := by decide +kernel
theorem k183_26 : icode MCl 183 26 = some (.getfield 47, 29, 706, 415, 1) := by decide +kernel
theorem k183_29 : icode MCl 183 29 = some (.invokevirtual 174, 32, 122, 580, 0) := by decide +kernel
theorem k183_32 : icode MCl 183 32 = some (.ireturn, 33, 0, 0, 0) := by decide +kernel
theorem k184_0 : icode MCl 184 0 = some (.aload_n 0, 1, 0, 0, 0) := by decide +kernel
theorem k184_1 : icode MCl 184 1 = some (.getfield 129, 4, 823, 797, 0) := by decide +kernel
theorem k184_4 : icode MCl 184 4 = some (.iconst 2, 5, 0, 0, 2) := by decide +kernel
theorem k184_5 : icode MCl 184 5 = some (.if_icmp .ne 6, 8, 11, 0, 0) := by decide +kernel
theorem k184_8 : icode MCl 184 8 = some (.bipush (-3), 10, 0, 0, (-3)) := by decide +kernel
theorem k184_10 : icode MCl 184 10 = some (.ireturn, 11, 0, 0, 0) := by decide +kernel
theorem k184_11 : icode MCl 184 11 = some (.iconst 0, 12, 0, 0, 0) := by decide +kernel
theorem k184_12 : icode MCl 184 12 = some (.istore_n 1, 13, 0, 0, 0) := by decide +kernel
theorem k184_13 : icode MCl 184 13 = some (.iload_n 1, 14, 0, 0, 0) := by decide +kernel
theorem k184_14 : icode MCl 184 14 = some (.bipush 39, 16, 0, 0, 39) := by decide +kernel
theorem k184_16 : icode MCl 184 16 = some (.if_icmp .ge 29, 19, 45, 0, 0) := by decide +kernel
theorem k184_19 : icode MCl 184 19 = some (.aload_n 0, 20, 0, 0, 0) := by decide +kernel
theorem k184_20 : icode MCl 184 20 = some (.getfield 52, 23, 824, 798, 1) := by decide +kernel
theorem k184_23 : icode MCl 184 23 = some (.bipush 39, 25, 0, 0, 39) := by decide +kernel
theorem k184_25 : icode MCl 184 25 = some (.aload_n 0, 26, 0, 0, 0) := by decide +kernel
theorem k184_26 : icode MCl 184 26 = some (.getfield 129, 29, 823, 797, 0) := by decide +kernel
theorem k184_29 : icode MCl 184 29 = some (.imul, 30, 0, 0, 0) := by decide +kernel
theorem k184_30 : icode MCl 184 30 = some (.iload_n 1, 31, 0, 0, 0) := by decide +kernel
theorem k184_31 : icode MCl 184 31 = some (.iadd, 32, 0, 0, 0) := by decide +kernel
theorem k184_32 : icode MCl 184 32 = some (.aload_n 0, 33, 0, 0, 0) := by decide +kernel
theorem k184_33 : icode MCl 184 33 = some (.getfield 40, 36, 816, 790, 1) := by decide +kernel
theorem k184_36 : icode MCl 184 36 = some (.iload_n 1, 37, 0, 0, 0) := by decide +kernel
theorem k184_37 : icode MCl 184 37 = some (.iaload, 38, 0, 0, 0) := by decide +kernel
theorem k184_38 : icode MCl 184 38 = some (.iastore, 39, 0, 0, 0) := by decide +kernel
theorem k184_39 : icode MCl 184 39 = some (.iinc 1 1, 42, 0, 0, 1) := by decide +kernel
theorem k184_42 : icode MCl 184 42 = some (.goto (-29), 45, 13, 0, 0) := by decide +kernel
theorem k184_45 : icode MCl 184 45 = some (.aload_n 0, 46, 0, 0, 0) := by decide +kernel
theorem k184_46 : icode MCl 184 46 = some (.dup, 47, 0, 0, 0) := by decide +kernel
theorem k184_47 : icode MCl 184 47 = some (.getfield 129, 50, 823, 797, 0) := by decide +kernel
theorem k184_50 : icode MCl 184 50 = some (.iconst 1, 51, 0, 0, 1) := by decide +kernel
theorem k184_51 : icode MCl 184 51 = some (.iadd, 52, 0, 0, 0) := by decide +kernel
theorem k184_52 : icode MCl 184 52 = some (.putfield 129, 55, 823, 797, 0) := by decide +kernel
theorem k184_55 : icode MCl 184 55 = some (.aload_n 0, 56, 0, 0, 0) := by decide +kernel
theorem k184_56 : icode MCl 184 56 = some (.getfield 129, 59, 823, 797, 0) := by decide +kernel
theorem k184_59 : icode MCl 184 59 = some (.ireturn, 60, 0, 0, 0) := by decide +kernel
theorem k185_0 : icode MCl 185 0 = some (.aload_n 0, 1, 0, 0, 0) := by decide +kernel
theorem k185_1 : icode MCl 185 1 = some (.getfield 47, 4, 706, 415, 1) := by decide +kernel
theorem k185_4 : icode MCl 185 4 = some (.aload_n 0, 5, 0, 0, 0) := by decide +kernel
theorem k185_5 : icode MCl 185 5 = some (.getfield 31, 8, 703, 412, 1) := by decide +kernel
theorem k185_8 : icode MCl 185 8 = some (.invokevirtual 170, 11, 121, 576, 0) := by decide +kernel
theorem k185_11 : icode MCl 185 11 = some (.ifCond .ne 6, 14, 17, 0, 0) := by decide +kernel
theorem k185_14 : icode MCl 185 14 = some (.bipush (-2), 16, 0, 0, (-2)) := by decide +kernel
theorem k185_16 : icode MCl 185 16 = some (.ireturn, 17, 0, 0, 0) := by decide +kernel
theorem k185_17 : icode MCl 185 17 = some (.aload_n 0, 18, 0, 0, 0) := by decide +kernel
theorem k185_18 : icode MCl 185 18 = some (.getfield 43, 21, 705, 414, 1) := by decide +kernel
theorem k185_21 : icode MCl 185 21 = some (.invokevirtual 235, 24, 48, 401, 0) := by decide +kernel
theorem k185_24 : icode MCl 185 24 = some (.aload_n 0, 25, 0, 0, 0) := by decide +kernel
theorem k185_25 : icode MCl 185 25 = some (.getfield 47, 28, 706, 415, 1) := by decide +kernel
theorem k185_28 : icode MCl 185 28 = some (.invokevirtual 174, 31, 122, 580, 0) := by decide +kernel
theorem k185_31 : icode MCl 185 31 = some (.ireturn, 32, 0, 0, 0) := by decide +kernel
theorem k186_0 : icode MCl 186 0 = some (.aload_n 0, 1, 0, 0, 0) := by decide +kernel
theorem k186_1 : icode MCl 186 1 = some (.getfield 129, 4, 823, 797, 0) := by decide +kernel
theorem k186_4 : icode MCl 186 4 = some (.ifCond .ne 6, 7, 10, 0, 0) := by decide +kernel
theorem k186_7 : icode MCl 186 7 = some (.bipush (-2), 9, 0, 0, (-2)) := by decide +kernel
theorem k186_9 : icode MCl 186 9 = some (.ireturn, 10, 0, 0, 0) := by decide +kernel
theorem k186_10 : icode MCl 186 10 = some (.aload_n 0, 11, 0, 0, 0) := by decide +kernel
theorem k186_11 : icode MCl 186 11 = some (.dup, 12, 0, 0, 0) := by decide +kernel
theorem k186_12 : icode MCl 186 12 = some (.getfield 129, 15, 823, 797, 0) := by decide +kernel
theorem k186_15 : icode MCl 186 15 = some (.iconst 1, 16, 0, 0, 1) := by decide +kernel
theorem k186_16 : icode MCl 186 16 = some (.isub, 17, 0, 0, 0) := by decide +kernel
theorem k186_17 : icode MCl 186 17 = some (.putfield 129, 20, 823, 797, 0) := by decide +kernel
theorem k186_20 : icode MCl 186 20 = some (.iconst 0, 21, 0, 0, 0) := by decide +kernel
theorem k186_21 : icode MCl 186 21 = some (.istore_n 1, 22, 0, 0, 0) := by decide +kernel
theorem k186_22 : icode MCl 186 22 = some (.iload_n 1, 23, 0, 0, 0) := by decide +kernel
theorem k186_23 : icode MCl 186 23 = some (.bipush 39, 25, 0, 0, 39) := by decide +kernel
theorem k186_25 : icode MCl 186 25 = some (.if_icmp .ge 29, 28, 54, 0, 0) := by decide +kernel
theorem k186_28 : icode MCl 186 28 = some (.aload_n 0, 29, 0, 0, 0) := by decide +kernel
theorem k186_29 : icode MCl 186 29 = some (.getfield 40, 32, 816, 790, 1) := by decide +kernel
theorem k186_32 : icode MCl 186 32 = some (.iload_n 1, 33, 0, 0, 0) := by decide +kernel
theorem k186_33 : icode MCl 186 33 = some (.aload_n 0, 34, 0, 0, 0) := by decide +kernel
theorem k186_34 : icode MCl 186 34 = some (.getfield 52, 37, 824, 798, 1) := by decide +kernel
theorem k186_37 : icode MCl 186 37 = some (.bipush 39, 39, 0, 0, 39) := by decide +kernel
theorem k186_39 : icode MCl 186 39 = some (.aload_n 0, 40, 0, 0, 0) := by decide +kernel
theorem k186_40 : icode MCl 186 40 = some (.getfield 129, 43, 823, 797, 0) := by decide +kernel
theorem k186_43 : icode MCl 186 43 = some (.imul, 44, 0, 0, 0) := by decide +kernel
theorem k186_44 : icode MCl 186 44 = some (.iload_n 1, 45, 0, 0, 0) := by decide +kernel
theorem k186_45 : icode MCl 186 45 = some (.iadd, 46, 0, 0, 0) := by decide +kernel
theorem k186_46 : icode MCl 186 46 = some (.iaload, 47, 0, 0, 0) := by decide +kernel
theorem k186_47 : icode MCl 186 47 = some (.iastore, 48, 0, 0, 0) := by decide +kernel
theorem k186_48 : icode MCl 186 48 = some (.iinc 1 1, 51, 0, 0, 1) := by decide +kernel
theorem k186_51 : icode MCl 186 51 = some (.goto (-29), 54, 22, 0, 0) := by decide +kernel
theorem k186_54 : icode MCl 186 54 = some (.aload_n 0, 55, 0, 0, 0) := by decide +kernel
theorem k186_55 : icode MCl 186 55 = some (.iconst 0, 56, 0, 0, 0) := by decide +kernel
theorem k186_56 : icode MCl 186 56 = some (.putfield 126, 59, 818, 792, 0) := by decide +kernel
theorem k186_59 : icode MCl 186 59 = some (.aload_n 0, 60, 0, 0, 0) := by decide +kernel
theorem k186_60 : icode MCl 186 60 = some (.getfield 129, 63, 823, 797, 0) := by decide +kernel
theorem k186_63 : icode MCl 186 63 = some (.ireturn, 64, 0, 0, 0) := by decide +kernel
theorem k187_0 : icode MCl 187 0 = some (.aload_n 0, 1, 0, 0, 0) := by decide +kernel
theorem k187_1 : icode MCl 187 1 = some (.getfield 29, 4, 204, 147, 0) := by decide +kernel
theorem k187_4 : icode MCl 187 4 = some (.invokestatic 48, 7, 143, 748, 0) := by decide +kernel
theorem k187_7 : icode MCl 187 7 = some (.ireturn, 8, 0, 0, 0) := by decide +kernel
theorem k188_0 : icode MCl 188 0 = some (.iload_n 1, 1, 0, 0, 0) := by decide +kernel
theorem k188_1 : icode MCl 188 1 = some (.tableswitch 137 0 9 #[55, 63, 71, 79, 87, 96, 105, 113, 121, 129], 56, 0, 0, 0) := by decide +kernel
theorem k188_56 : icode MCl 188 56 = some (.aload_n 0, 57, 0, 0, 0) := by decide +kernel
theorem k188_57 : icode MCl 188 57 = some (.getfield 24, 60, 702, 411, 1) := by decide +kernel
theorem k188_60 : icode MCl 188 60 = some (.invokevirtual 90, 63, 72, 453, 0) := by decide +kernel
theorem k188_63 : icode MCl 188 63 = some (.ireturn, 64, 0, 0, 0) := by decide +kernel
theorem k188_64 : icode MCl 188 64 = some (.aload_n 0, 65, 0, 0, 0) := by decide +kernel
theorem k188_65 : icode MCl 188 65 = some (.getfield 31, 68, 703, 412, 1) := by decide +kernel
theorem k188_68 : icode MCl 188 68 = some (.invokevirtual 164, 71, 115, 559, 0) := by decide +kernel
theorem k188_71 : icode MCl 188 71 = some (.ireturn, 72, 0, 0, 0) := by decide +kernel
theorem k188_72 : icode MCl 188 72 = some (.aload_n 0, 73, 0, 0, 0) := by decide +kernel
theorem k188_73 : icode MCl 188 73 = some (.getfield 31, 76, 703, 412, 1) := by decide +kernel
theorem k188_76 : icode MCl 188 76 = some (.invokevirtual 165, 79, 116, 563, 0) := by decide +kernel
theorem k188_79 : icode MCl 188 79 = some (.ireturn, 80, 0, 0, 0) := by decide +kernel
theorem k188_80 : icode MCl 188 80 = some (.aload_n 0, 81, 0, 0, 0) := by decide +kernel
theorem k188_81 : icode MCl 188 81 = some (.getfield 31, 84, 703, 412, 1) := by decide +kernel
theorem k188_84 : icode MCl 188 84 = some (.invokevirtual 236, 87, 187, 744, 0) := by decide +kernel
theorem k188_87 : icode MCl 188 87 = some (.ireturn, 88, 0, 0, 0) := by decide +kernel
theorem k188_88 : icode MCl 188 88 = some (.aload_n 0, 89, 0, 0, 0) := by decide +kernel
theorem k188_89 : icode MCl 188 89 = some (.getfield 31, 92, 703, 412, 1) := by decide +kernel
theorem k188_92 : icode MCl 188 92 = some (.iconst 1, 93, 0, 0, 1) := by decide +kernel
theorem k188_93 : icode MCl 188 93 = some (.invokevirtual 155, 96, 105, 545, 0) := by decide +kernel
theorem k188_96 : icode MCl 188 96 = some (.ireturn, 97, 0, 0, 0) := by decide +kernel
theorem k188_97 : icode MCl 188 97 = some (.aload_n 0, 98, 0, 0, 0) := by decide +kernel
theorem k188_98 : icode MCl 188 98 = some (.getfield 31, 101, 703, 412, 1) := by decide +kernel
theorem k188_101 : icode MCl 188 101 = some (.iconst 2, 102, 0, 0, 2) := by decide +kernel
theorem k188_102 : icode MCl 188 102 = some (.invokevirtual 155, 105, 105, 545, 0) := by decide +kernel
theorem k188_105 : icode MCl 188 105 = some (.ireturn, 106, 0, 0, 0) := by decide +kernel
theorem k188_106 : icode MCl 188 106 = some (.aload_n 0, 107, 0, 0, 0) := by decide +kernel
theorem k188_107 : icode MCl 188 107 = some (.getfield 53, 110, 707, 416, 1) := by decide +kernel
theorem k188_110 : icode MCl 188 110 = some (.invokevirtual 204, 113, 157, 668, 0) := by decide +kernel
theorem k188_113 : icode MCl 188 113 = some (.ireturn, 114, 0, 0, 0) := by decide +kernel
theorem k188_114 : icode MCl 188 114 = some (.aload_n 0, 115, 0, 0, 0) := by decide +kernel
theorem k188_115 : icode MCl 188 115 = some (.getfield 43, 118, 705, 414, 1) := by decide +kernel
theorem k188_118 : icode MCl 188 118 = some (.invokevirtual 174, 121, 122, 580, 0) := by decide +kernel
theorem k188_121 : icode MCl 188 121 = some (.ireturn, 122, 0, 0, 0) := by decide +kernel
theorem k188_122 : icode MCl 188 122 = some (.aload_n 0, 123, 0, 0, 0) := by decide +kernel
theorem k188_123 : icode MCl 188 123 = some (.getfield 47, 126, 706, 415, 1) := by decide +kernel
theorem k188_126 : icode MCl 188 126 = some (.invokevirtual 174, 129, 122, 580, 0) := by decide +kernel
theorem k188_129 : icode MCl 188 129 = some (.ireturn, 130, 0, 0, 0) := by decide +kernel
theorem k188_130 : icode MCl 188 130 = some (.aload_n 0, 131, 0, 0, 0) := by decide +kernel
theorem k188_131 : icode MCl 188 131 = some (.getfield 20, 134, 701, 410, 1) := by decide +kernel
theorem k188_134 : icode MCl 188 134 = some (.invokevirtual 88, 137, 19, 440, 0) := by decide +kernel
theorem k188_137 : icode MCl 188 137 = some (.ireturn, 138, 0, 0, 0) := by decide +kernel
theorem k188_138 : icode MCl 188 138 = some (.iconst (-1), 139, 0, 0, (-1)) := by decide +kernel
theorem k188_139 : icode MCl 188 139 = some (.ireturn, 140, 0, 0, 0) := by decide +kernel
theorem k189_0 : icode MCl 189 0 = some (.iconst 0, 1, 0, 0, 0) := by decide +kernel
theorem k189_1 : icode MCl 189 1 = some (.istore_n 1, 2, 0, 0, 0) := by decide +kernel
theorem k189_2 : icode MCl 189 2 = some (.iconst 0, 3, 0, 0, 0) := by decide +kernel
theorem k189_3 : icode MCl 189 3 = some (.istore_n 2, 4, 0, 0, 0) := by decide +kernel
theorem k189_4 : icode MCl 189 4 = some (.iload_n 2, 5, 0, 0, 0) := by decide +kernel
theorem k189_5 : icode MCl 189 5 = some (.aload_n 0, 6, 0, 0, 0) := by decide +kernel
theorem k189_6 : icode MCl 189 6 = some (.getfield 40, 9, 816, 790, 1) := by decide +kernel
theorem k189_9 : icode MCl 189 9 = some (.iconst 2, 10, 0, 0, 2) := by decide +kernel
theorem k189_10 : icode MCl 189 10 = some (.iaload, 11, 0, 0, 0) := by decide +kernel
theorem k189_11 : icode MCl 189 11 = some (.if_icmp .ge 30, 14, 41, 0, 0) := by decide +kernel
theorem k189_14 : icode MCl 189 14 = some (.iload_n 1, 15, 0, 0, 0) := by decide +kernel
theorem k189_15 : icode MCl 189 15 = some (.aload_n 0, 16, 0, 0, 0) := by decide +kernel
theorem k189_16 : icode MCl 189 16 = some (.getfield 40, 19, 816, 790, 1) := by decide +kernel
theorem k189_19 : icode MCl 189 19 = some (.iload_n 2, 20, 0, 0, 0) := by decide +kernel
theorem k189_20 : icode MCl 189 20 = some (.iconst 1, 21, 0, 0, 1) := by decide +kernel
theorem k189_21 : icode MCl 189 21 = some (.invokestatic 135, 24, 79, 909, 0) := by decide +kernel
theorem k189_24 : icode MCl 189 24 = some (.iconst 1, 25, 0, 0, 1) := by decide +kernel
theorem k189_25 : icode MCl 189 25 = some (.if_icmp .ne 7, 28, 32, 0, 0) := by decide +kernel
theorem k189_28 : icode MCl 189 28 = some (.iconst 1, 29, 0, 0, 1) := by decide +kernel
theorem k189_29 : icode MCl 189 29 = some (.goto 4, 32, 33, 0, 0) := by decide +kernel
theorem k189_32 : icode MCl 189 32 = some (.iconst 0, 33, 0, 0, 0) := by decide +kernel
theorem k189_33 : icode MCl 189 33 = some (.iadd, 34, 0, 0, 0) := by decide +kernel
theorem k189_34 : icode MCl 189 34 = some (.istore_n 1, 35, 0, 0, 0) := by decide +kernel
theorem k189_35 : icode MCl 189 35 = some (.iinc 2 1, 38, 0, 0, 1) := by decide +kernel
theorem k189_38 : icode MCl 189 38 = some (.goto (-34), 41, 4, 0, 0) := by decide +kernel
theorem k189_41 : icode MCl 189 41 = some (.iload_n 1, 42, 0, 0, 0) := by decide +kernel
theorem k189_42 : icode MCl 189 42 = some (.ireturn, 43, 0, 0, 0) := by decide +kernel
theorem k190_0 : icode MCl 190 0 = some (.iload_n 1, 1, 0, 0, 0) := by decide +kernel
theorem k190_1 : icode MCl 190 1 = some (.tableswitch 117 0 9 #[55, 60, 67, 74, 84, 89, 97, 102, 107, 112], 56, 0, 0, 0) := by decide +kernel
theorem k190_56 : icode MCl 190 56 = some (.aload_n 0, 57, 0, 0, 0) := by decide +kernel
theorem k190_57 : icode MCl 190 57 = some (.getfield 119, 60, 812, 786, 0) := by decide +kernel
theorem k190_60 : icode MCl 190 60 = some (.ireturn, 61, 0, 0, 0) := by decide +kernel
theorem k190_61 : icode MCl 190 61 = some (.aload_n 0, 62, 0, 0, 0) := by decide +kernel
theorem k190_62 : icode MCl 190 62 = some (.getfield 40, 65, 816, 790, 1) := by decide +kernel
theorem k190_65 : icode MCl 190 65 = some (.iconst 2, 66, 0, 0, 2) := by decide +kernel
theorem k190_66 : icode MCl 190 66 = some (.iaload, 67, 0, 0, 0) := by decide +kernel
theorem k190_67 : icode MCl 190 67 = some (.ireturn, 68, 0, 0, 0) := by decide +kernel
theorem k190_68 : icode MCl 190 68 = some (.aload_n 0, 69, 0, 0, 0) := by decide +kernel
theorem k190_69 : icode MCl 190 69 = some (.getfield 40, 72, 816, 790, 1) := by decide +kernel
theorem k190_72 : icode MCl 190 72 = some (.iconst 0, 73, 0, 0, 0) := by decide +kernel
theorem k190_73 : icode MCl 190 73 = some (.iaload, 74, 0, 0, 0) := by decide +kernel
theorem k190_74 : icode MCl 190 74 = some (.ireturn, 75, 0, 0, 0) := by decide +kernel
theorem k190_75 : icode MCl 190 75 = some (.aload_n 0, 76, 0, 0, 0) := by decide +kernel
theorem k190_76 : icode MCl 190 76 = some (.getfield 40, 79, 816, 790, 1) := by decide +kernel
theorem k190_79 : icode MCl 190 79 = some (.iconst 1, 80, 0, 0, 1) := by decide +kernel
theorem k190_80 : icode MCl 190 80 = some (.iaload, 81, 0, 0, 0) := by decide +kernel
theorem k190_81 : icode MCl 190 81 = some (.invokestatic 188, 84, 145, 1007, 0) := by decide +kernel
theorem k190_84 : icode MCl 190 84 = some (.ireturn, 85, 0, 0, 0) := by decide +kernel
theorem k190_85 : icode MCl 190 85 = some (.aload_n 0, 86, 0, 0, 0) := by decide +kernel
theorem k190_86 : icode MCl 190 86 = some (.invokevirtual 220, 89, 189, 1082, 0) := by decide +kernel
theorem k190_89 : icode MCl 190 89 = some (.ireturn, 90, 0, 0, 0) := by decide +kernel
theorem k190_90 : icode MCl 190 90 = some (.aload_n 0, 91, 0, 0, 0) := by decide +kernel
theorem k190_91 : icode MCl 190 91 = some (.getfield 40, 94, 816, 790, 1) := by decide +kernel
theorem k190_94 : icode MCl 190 94 = some (.invokestatic 174, 97, 111, 956, 0) := by decide +kernel
theorem k190_97 : icode MCl 190 97 = some (.ireturn, 98, 0, 0, 0) := by decide +kernel
theorem k190_98 : icode MCl 190 98 = some (.aload_n 0, 99, 0, 0, 0) := by decide +kernel
theorem k190_99 : icode MCl 190 99 = some (.getfield 132, 102, 821, 795, 0) := by decide +kernel
theorem k190_102 : icode MCl 190 102 = some (.ireturn, 103, 0, 0, 0) := by decide +kernel
theorem k190_103 : icode MCl 190 103 = some (.aload_n 0, 104, 0, 0, 0) := by decide +kernel
theorem k190_104 : icode MCl 190 104 = some (.getfield 126, 107, 818, 792, 0) := by decide +kernel
theorem k190_107 : icode MCl 190 107 = some (.ireturn, 108, 0, 0, 0) := by decide +kernel
theorem k190_108 : icode MCl 190 108 = some (.aload_n 0, 109, 0, 0, 0) := by decide +kernel
theorem k190_109 : icode MCl 190 109 = some (.getfield 129, 112, 823, 797, 0) := by decide +kernel
theorem k190_112 : icode MCl 190 112 = some (.ireturn, 113, 0, 0, 0) := by decide +kernel
theorem k190_113 : icode MCl 190 113 = some (.aload_n 0, 114, 0, 0, 0) := by decide +kernel
theorem k190_114 : icode MCl 190 114 = some (.getfield 90, 117, 800, 774, 0) := by decide +kernel
theorem k190_117 : icode MCl 190 117 = some (.ireturn, 118, 0, 0, 0) := by decide +kernel
theorem k190_118 : icode MCl 190 118 = some (.iconst (-1), 119, 0, 0, (-1)) := by decide +kernel
theorem k190_119 : icode MCl 190 119 = some (.ireturn, 120, 0, 0, 0) := by decide +kernel
theorem k191_0 : icode MCl 191 0 = some (.new 7, 3, 7, 55, 0) := by decide +kernel
theorem k191_3 : icode MCl 191 3 = some (.dup, 4, 0, 0, 0) := by decide +kernel
theorem k191_4 : icode MCl 191 4 = some (.invokespecial 9, 7, 51, 57, 0) := by decide +kernel
theorem k191_7 : icode MCl 191 7 = some (.astore_n 1, 8, 0, 0, 0) := by decide +kernel
theorem k191_8 : icode MCl 191 8 = some (.new 10, 11, 8, 749, 0) := by decide +kernel
theorem k191_11 : icode MCl 191 11 = some (.dup, 12, 0, 0, 0) := by decide +kernel
theorem k191_12 : icode MCl 191 12 = some (.invokespecial 12, 15, 57, 751, 0) := by decide +kernel
theorem k191_15 : icode MCl 191 15 = some (.astore_n 2, 16, 0, 0, 0) := by decide +kernel
theorem k191_16 : icode MCl 191 16 = some (.iconst 0, 17, 0, 0, 0) := by decide +kernel
theorem k191_17 : icode MCl 191 17 = some (.istore_n 3, 18, 0, 0, 0) := by decide +kernel
theorem k191_18 : icode MCl 191 18 = some (.iload_n 3, 19, 0, 0, 0) := by decide +kernel
theorem k191_19 : icode MCl 191 19 = some (.aload_n 0, 20, 0, 0, 0) := by decide +kernel
theorem k191_20 : icode MCl 191 20 = some (.arraylength, 21, 0, 0, 0) := by decide +kernel
theorem k191_21 : icode MCl 191 21 = some (.iconst 5, 22, 0, 0, 5) := by decide +kernel
theorem k191_22 : icode MCl 191 22 = some (.isub, 23, 0, 0, 0) := by decide +kernel
theorem k191_23 : icode MCl 191 23 = some (.if_icmp .gt 887, 26, 910, 0, 0) := by decide +kernel
theorem k191_26 : icode MCl 191 26 = some (.aload_n 0, 27, 0, 0, 0) := by decide +kernel
theorem k191_27 : icode MCl 191 27 = some (.iload_n 3, 28, 0, 0, 0) := by decide +kernel
theorem k191_28 : icode MCl 191 28 = some (.iaload, 29, 0, 0, 0) := by decide +kernel
theorem k191_29 : icode MCl 191 29 = some (.bipush 31, 31, 0, 0, 31) := by decide +kernel
theorem k191_31 : icode MCl 191 31 = some (.iand, 32, 0, 0, 0) := by decide +kernel
theorem k191_32 : icode MCl 191 32 = some (.tableswitch 872 0 27 #[128, 151, 164, 177, 190, 223, 256, 289, 312, 335, 368, 401, 414, 457, 490, 523, 556, 579, 612, 635, 678, 691, 714, 727, 780, 823, 836, 849], 160, 0, 0, 0) := by decide +kernel
theorem k191_160 : icode MCl 191 160 = some (.aload_n 1, 161, 0, 0, 0) := by decide +kernel
theorem k191_161 : icode MCl 191 161 = some (.aload_n 0, 162, 0, 0, 0) := by decide +kernel
theorem k191_162 : icode MCl 191 162 = some (.iload_n 3, 163, 0, 0, 0) := by decide +kernel
theorem k191_163 : icode MCl 191 163 = some (.iconst 1, 164, 0, 0, 1) := by decide +kernel
theorem k191_164 : icode MCl 191 164 = some (.iadd, 165, 0, 0, 0) := by decide +kernel
theorem k191_165 : icode MCl 191 165 = some (.iaload, 166, 0, 0, 0) := by decide +kernel
theorem k191_166 : icode MCl 191 166 = some (.invokevirtual 13, 169, 58, 435, 0) := by decide +kernel
theorem k191_169 : icode MCl 191 169 = some (.aload_n 2, 170, 0, 0, 0) := by decide +kernel
theorem k191_170 : icode MCl 191 170 = some (.aload_n 0, 171, 0, 0, 0) := by decide +kernel
theorem k191_171 : icode MCl 191 171 = some (.iload_n 3, 172, 0, 0, 0) := by decide +kernel
theorem k191_172 : icode MCl 191 172 = some (.iconst 1, 173, 0, 0, 1) := by decide +kernel
theorem k191_173 : icode MCl 191 173 = some (.iadd, 174, 0, 0, 0) := by decide +kernel
theorem k191_174 : icode MCl 191 174 = some (.iaload, 175, 0, 0, 0) := by decide +kernel
theorem k191_175 : icode MCl 191 175 = some (.invokevirtual 17, 178, 60, 850, 0) := by decide +kernel
theorem k191_178 : icode MCl 191 178 = some (.if_icmp .eq 726, 181, 904, 0, 0) := by decide +kernel
theorem k191_181 : icode MCl 191 181 = some (.iconst 0, 182, 0, 0, 0) := by decide +kernel
theorem k191_182 : icode MCl 191 182 = some (.ireturn, 183, 0, 0, 0) := by decide +kernel
theorem k191_183 : icode MCl 191 183 = some (.aload_n 1, 184, 0, 0, 0) := by decide +kernel
theorem k191_184 : icode MCl 191 184 = some (.invokevirtual 18, 187, 61, 441, 0) := by decide +kernel
theorem k191_187 : icode MCl 191 187 = some (.aload_n 2, 188, 0, 0, 0) := by decide +kernel
theorem k191_188 : icode MCl 191 188 = some (.invokevirtual 22, 191, 62, 857, 0) := by decide +kernel
theorem k191_191 : icode MCl 191 191 = some (.if_icmp .eq 713, 194, 904, 0, 0) := by decide +kernel
theorem k191_194 : icode MCl 191 194 = some (.iconst 0, 195, 0, 0, 0) := by decide +kernel
theorem k191_195 : icode MCl 191 195 = some (.ireturn, 196, 0, 0, 0) := by decide +kernel
theorem k191_196 : icode MCl 191 196 = some (.aload_n 1, 197, 0, 0, 0) := by decide +kernel
theorem k191_197 : icode MCl 191 197 = some (.invokevirtual 23, 200, 63, 445, 0) := by decide +kernel
theorem k191_200 : icode MCl 191 200 = some (.aload_n 2, 201, 0, 0, 0) := by decide +kernel
theorem k191_201 : icode MCl 191 201 = some (.invokevirtual 26, 204, 71, 861, 0) := by decide +kernel
theorem k191_204 : icode MCl 191 204 = some (.if_icmp .eq 700, 207, 904, 0, 0) := by decide +kernel
theorem k191_207 : icode MCl 191 207 = some (.iconst 0, 208, 0, 0, 0) := by decide +kernel
theorem k191_208 : icode MCl 191 208 = some (.ireturn, 209, 0, 0, 0) := by decide +kernel
theorem k191_209 : icode MCl 191 209 = some (.aload_n 1, 210, 0, 0, 0) := by decide +kernel
theorem k191_210 : icode MCl 191 210 = some (.invokevirtual 27, 213, 73, 449, 0) := by decide +kernel
theorem k191_213 : icode MCl 191 213 = some (.aload_n 2, 214, 0, 0, 0) := by decide +kernel
theorem k191_214 : icode MCl 191 214 = some (.invokevirtual 30, 217, 74, 893, 0) := by decide +kernel
theorem k191_217 : icode MCl 191 217 = some (.if_icmp .eq 687, 220, 904, 0, 0) := by decide +kernel
theorem k191_220 : icode MCl 191 220 = some (.iconst 0, 221, 0, 0, 0) := by decide +kernel
theorem k191_221 : icode MCl 191 221 = some (.ireturn, 222, 0, 0, 0) := by decide +kernel
theorem k191_222 : icode MCl 191 222 = some (.aload_n 1, 223, 0, 0, 0) := by decide +kernel
theorem k191_223 : icode MCl 191 223 = some (.aload_n 0, 224, 0, 0, 0) := by decide +kernel
theorem k191_224 : icode MCl 191 224 = some (.iload_n 3, 225, 0, 0, 0) := by decide +kernel
theorem k191_225 : icode MCl 191 225 = some (.iconst 1, 226, 0, 0, 1) := by decide +kernel
theorem k191_226 : icode MCl 191 226 = some (.iadd, 227, 0, 0, 0) := by decide +kernel
theorem k191_227 : icode MCl 191 227 = some (.iaload, 228, 0, 0, 0) := by decide +kernel
theorem k191_228 : icode MCl 191 228 = some (.aload_n 0, 229, 0, 0, 0) := by decide +kernel
theorem k191_229 : icode MCl 191 229 = some (.iload_n 3, 230, 0, 0, 0) := by decide +kernel
theorem k191_230 : icode MCl 191 230 = some (.iconst 2, 231, 0, 0, 2) := by decide +kernel
theorem k191_231 : icode MCl 191 231 = some (.iadd, 232, 0, 0, 0) := by decide +kernel
theorem k191_232 : icode MCl 191 232 = some (.iaload, 233, 0, 0, 0) := by decide +kernel
theorem k191_233 : icode MCl 191 233 = some (.invokevirtual 31, 236, 77, 457, 0) := by decide +kernel
theorem k191_236 : icode MCl 191 236 = some (.aload_n 2, 237, 0, 0, 0) := by decide +kernel
theorem k191_237 : icode MCl 191 237 = some (.aload_n 0, 238, 0, 0, 0) := by decide +kernel
theorem k191_238 : icode MCl 191 238 = some (.iload_n 3, 239, 0, 0, 0) := by decide +kernel
theorem k191_239 : icode MCl 191 239 = some (.iconst 1, 240, 0, 0, 1) := by decide +kernel
theorem k191_240 : icode MCl 191 240 = some (.iadd, 241, 0, 0, 0) := by decide +kernel
theorem k191_241 : icode MCl 191 241 = some (.iaload, 242, 0, 0, 0) := by decide +kernel
theorem k191_242 : icode MCl 191 242 = some (.aload_n 0, 243, 0, 0, 0) := by decide +kernel
theorem k191_243 : icode MCl 191 243 = some (.iload_n 3, 244, 0, 0, 0) := by decide +kernel
theorem k191_244 : icode MCl 191 244 = some (.iconst 2, 245, 0, 0, 2) := by decide +kernel
theorem k191_245 : icode MCl 191 245 = some (.iadd, 246, 0, 0, 0) := by decide +kernel
theorem k191_246 : icode MCl 191 246 = some (.iaload, 247, 0, 0, 0) := by decide +kernel
theorem k191_247 : icode MCl 191 247 = some (.invokevirtual 35, 250, 81, 897, 0) := by decide +kernel
theorem k191_250 : icode MCl 191 250 = some (.if_icmp .eq 654, 253, 904, 0, 0) := by decide +kernel
theorem k191_253 : icode MCl 191 253 = some (.iconst 0, 254, 0, 0, 0) := by decide +kernel
theorem k191_254 : icode MCl 191 254 = some (.ireturn, 255, 0, 0, 0) := by decide +kernel
theorem k191_255 : icode MCl 191 255 = some (.aload_n 1, 256, 0, 0, 0) := by decide +kernel
theorem k191_256 : icode MCl 191 256 = some (.aload_n 0, 257, 0, 0, 0) := by decide +kernel
theorem k191_257 : icode MCl 191 257 = some (.iload_n 3, 258, 0, 0, 0) := by decide +kernel
theorem k191_258 : icode MCl 191 258 = some (.iconst 1, 259, 0, 0, 1) := by decide +kernel
theorem k191_259 : icode MCl 191 259 = some (.iadd, 260, 0, 0, 0) := by decide +kernel
theorem k191_260 : icode MCl 191 260 = some (.iaload, 261, 0, 0, 0) := by decide +kernel
theorem k191_261 : icode MCl 191 261 = some (.aload_n 0, 262, 0, 0, 0) := by decide +kernel
theorem k191_262 : icode MCl 191 262 = some (.iload_n 3, 263, 0, 0, 0) := by decide +kernel
theorem k191_263 : icode MCl 191 263 = some (.iconst 2, 264, 0, 0, 2) := by decide +kernel
theorem k191_264 : icode MCl 191 264 = some (.iadd, 265, 0, 0, 0) := by decide +kernel
theorem k191_265 : icode MCl 191 265 = some (.iaload, 266, 0, 0, 0) := by decide +kernel
theorem k191_266 : icode MCl 191 266 = some (.invokevirtual 36, 269, 83, 474, 0) := by decide +kernel
theorem k191_269 : icode MCl 191 269 = some (.aload_n 2, 270, 0, 0, 0) := by decide +kernel
theorem k191_270 : icode MCl 191 270 = some (.aload_n 0, 271, 0, 0, 0) := by decide +kernel
theorem k191_271 : icode MCl 191 271 = some (.iload_n 3, 272, 0, 0, 0) := by decide +kernel
theorem k191_272 : icode MCl 191 272 = some (.iconst 1, 273, 0, 0, 1) := by decide +kernel
theorem k191_273 : icode MCl 191 273 = some (.iadd, 274, 0, 0, 0) := by decide +kernel
theorem k191_274 : icode MCl 191 274 = some (.iaload, 275, 0, 0, 0) := by decide +kernel
theorem k191_275 : icode MCl 191 275 = some (.aload_n 0, 276, 0, 0, 0) := by decide +kernel
theorem k191_276 : icode MCl 191 276 = some (.iload_n 3, 277, 0, 0, 0) := by decide +kernel
theorem k191_277 : icode MCl 191 277 = some (.iconst 2, 278, 0, 0, 2) := by decide +kernel
theorem k191_278 : icode MCl 191 278 = some (.iadd, 279, 0, 0, 0) := by decide +kernel
theorem k191_279 : icode MCl 191 279 = some (.iaload, 280, 0, 0, 0) := by decide +kernel
theorem k191_280 : icode MCl 191 280 = some (.invokevirtual 39, 283, 85, 912, 0) := by decide +kernel
theorem k191_283 : icode MCl 191 283 = some (.if_icmp .eq 621, 286, 904, 0, 0) := by decide +kernel
theorem k191_286 : icode MCl 191 286 = some (.iconst 0, 287, 0, 0, 0) := by decide +kernel
theorem k191_287 : icode MCl 191 287 = some (.ireturn, 288, 0, 0, 0) := by decide +kernel
theorem k191_288 : icode MCl 191 288 = some (.aload_n 1, 289, 0, 0, 0) := by decide +kernel
theorem k191_289 : icode MCl 191 289 = some (.aload_n 0, 290, 0, 0, 0) := by decide +kernel
theorem k191_290 : icode MCl 191 290 = some (.iload_n 3, 291, 0, 0, 0) := by decide +kernel
theorem k191_291 : icode MCl 191 291 = some (.iconst 1, 292, 0, 0, 1) := by decide +kernel
theorem k191_292 : icode MCl 191 292 = some (.iadd, 293, 0, 0, 0) := by decide +kernel
theorem k191_293 : icode MCl 191 293 = some (.iaload, 294, 0, 0, 0) := by decide +kernel
theorem k191_294 : icode MCl 191 294 = some (.aload_n 0, 295, 0, 0, 0) := by decide +kernel
theorem k191_295 : icode MCl 191 295 = some (.iload_n 3, 296, 0, 0, 0) := by decide +kernel
theorem k191_296 : icode MCl 191 296 = some (.iconst 2, 297, 0, 0, 2) := by decide +kernel
theorem k191_297 : icode MCl 191 297 = some (.iadd, 298, 0, 0, 0) := by decide +kernel
theorem k191_298 : icode MCl 191 298 = some (.iaload, 299, 0, 0, 0) := by decide +kernel
theorem k191_299 : icode MCl 191 299 = some (.invokevirtual 40, 302, 93, 483, 0) := by decide +kernel
theorem k191_302 : icode MCl 191 302 = some (.aload_n 2, 303, 0, 0, 0) := by decide +kernel
theorem k191_303 : icode MCl 191 303 = some (.aload_n 0, 304, 0, 0, 0) := by decide +kernel
theorem k191_304 : icode MCl 191 304 = some (.iload_n 3, 305, 0, 0, 0) := by decide +kernel
theorem k191_305 : icode MCl 191 305 = some (.iconst 1, 306, 0, 0, 1) := by decide +kernel
theorem k191_306 : icode MCl 191 306 = some (.iadd, 307, 0, 0, 0) := by decide +kernel
theorem k191_307 : icode MCl 191 307 = some (.iaload, 308, 0, 0, 0) := by decide +kernel
theorem k191_308 : icode MCl 191 308 = some (.aload_n 0, 309, 0, 0, 0) := by decide +kernel
theorem k191_309 : icode MCl 191 309 = some (.iload_n 3, 310, 0, 0, 0) := by decide +kernel
theorem k191_310 : icode MCl 191 310 = some (.iconst 2, 311, 0, 0, 2) := by decide +kernel
theorem k191_311 : icode MCl 191 311 = some (.iadd, 312, 0, 0, 0) := by decide +kernel
theorem k191_312 : icode MCl 191 312 = some (.iaload, 313, 0, 0, 0) := by decide +kernel
theorem k191_313 : icode MCl 191 313 = some (.invokevirtual 43, 316, 98, 920, 0) := by decide +kernel
theorem k191_316 : icode MCl 191 316 = some (.if_icmp .eq 588, 319, 904, 0, 0) := by decide +kernel
theorem k191_319 : icode MCl 191 319 = some (.iconst 0, 320, 0, 0, 0) := by decide +kernel
theorem k191_320 : icode MCl 191 320 = some (.ireturn, 321, 0, 0, 0) := by decide +kernel
theorem k191_321 : icode MCl 191 321 = some (.aload_n 1, 322, 0, 0, 0) := by decide +kernel
theorem k191_322 : icode MCl 191 322 = some (.aload_n 0, 323, 0, 0, 0) := by decide +kernel
theorem k191_323 : icode MCl 191 323 = some (.iload_n 3, 324, 0, 0, 0) := by decide +kernel
theorem k191_324 : icode MCl 191 324 = some (.iconst 1, 325, 0, 0, 1) := by decide +kernel
theorem k191_325 : icode MCl 191 325 = some (.iadd, 326, 0, 0, 0) := by decide +kernel
theorem k191_326 : icode MCl 191 326 = some (.iaload, 327, 0, 0, 0) := by decide +kernel
theorem k191_327 : icode MCl 191 327 = some (.invokevirtual 44, 330, 106, 511, 0) := by decide +kernel
theorem k191_330 : icode MCl 191 330 = some (.aload_n 2, 331, 0, 0, 0) := by decide +kernel
theorem k191_331 : icode MCl 191 331 = some (.aload_n 0, 332, 0, 0, 0) := by decide +kernel
theorem k191_332 : icode MCl 191 332 = some (.iload_n 3, 333, 0, 0, 0) := by decide +kernel
theorem k191_333 : icode MCl 191 333 = some (.iconst 1, 334, 0, 0, 1) := by decide +kernel
theorem k191_334 : icode MCl 191 334 = some (.iadd, 335, 0, 0, 0) := by decide +kernel
theorem k191_335 : icode MCl 191 335 = some (.iaload, 336, 0, 0, 0) := by decide +kernel
theorem k191_336 : icode MCl 191 336 = some (.invokevirtual 47, 339, 112, 937, 0) := by decide +kernel
theorem k191_339 : icode MCl 191 339 = some (.if_icmp .eq 565, 342, 904, 0, 0) := by decide +kernel
theorem k191_342 : icode MCl 191 342 = some (.iconst 0, 343, 0, 0, 0) := by decide +kernel
theorem k191_343 : icode MCl 191 343 = some (.ireturn, 344, 0, 0, 0) := by decide +kernel
theorem k191_344 : icode MCl 191 344 = some (.aload_n 1, 345, 0, 0, 0) := by decide +kernel
theorem k191_345 : icode MCl 191 345 = some (.aload_n 0, 346, 0, 0, 0) := by decide +kernel
theorem k191_346 : icode MCl 191 346 = some (.iload_n 3, 347, 0, 0, 0) := by decide +kernel
theorem k191_347 : icode MCl 191 347 = some (.iconst 1, 348, 0, 0, 1) := by decide +kernel
theorem k191_348 : icode MCl 191 348 = some (.iadd, 349, 0, 0, 0) := by decide +kernel
theorem k191_349 : icode MCl 191 349 = some (.iaload, 350, 0, 0, 0) := by decide +kernel
theorem k191_350 : icode MCl 191 350 = some (.invokevirtual 48, 353, 113, 549, 0) := by decide +kernel
theorem k191_353 : icode MCl 191 353 = some (.aload_n 2, 354, 0, 0, 0) := by decide +kernel
theorem k191_354 : icode MCl 191 354 = some (.aload_n 0, 355, 0, 0, 0) := by decide +kernel
theorem k191_355 : icode MCl 191 355 = some (.iload_n 3, 356, 0, 0, 0) := by decide +kernel
theorem k191_356 : icode MCl 191 356 = some (.iconst 1, 357, 0, 0, 1) := by decide +kernel
theorem k191_357 : icode MCl 191 357 = some (.iadd, 358, 0, 0, 0) := by decide +kernel
theorem k191_358 : icode MCl 191 358 = some (.iaload, 359, 0, 0, 0) := by decide +kernel
theorem k191_359 : icode MCl 191 359 = some (.invokevirtual 51, 362, 114, 959, 0) := by decide +kernel
theorem k191_362 : icode MCl 191 362 = some (.if_icmp .eq 542, 365, 904, 0, 0) := by decide +kernel
theorem k191_365 : icode MCl 191 365 = some (.iconst 0, 366, 0, 0, 0) := by decide +kernel
theorem k191_366 : icode MCl 191 366 = some (.ireturn, 367, 0, 0, 0) := by decide +kernel
theorem k191_367 : icode MCl 191 367 = some (.aload_n 1, 368, 0, 0, 0) := by decide +kernel
theorem k191_368 : icode MCl 191 368 = some (.aload_n 0, 369, 0, 0, 0) := by decide +kernel
theorem k191_369 : icode MCl 191 369 = some (.iload_n 3, 370, 0, 0, 0) := by decide +kernel
theorem k191_370 : icode MCl 191 370 = some (.iconst 1, 371, 0, 0, 1) := by decide +kernel
theorem k191_371 : icode MCl 191 371 = some (.iadd, 372, 0, 0, 0) := by decide +kernel
theorem k191_372 : icode MCl 191 372 = some (.iaload, 373, 0, 0, 0) := by decide +kernel
theorem k191_373 : icode MCl 191 373 = some (.aload_n 0, 374, 0, 0, 0) := by decide +kernel
theorem k191_374 : icode MCl 191 374 = some (.iload_n 3, 375, 0, 0, 0) := by decide +kernel
theorem k191_375 : icode MCl 191 375 = some (.iconst 2, 376, 0, 0, 2) := by decide +kernel
theorem k191_376 : icode MCl 191 376 = some (.iadd, 377, 0, 0, 0) := by decide +kernel
theorem k191_377 : icode MCl 191 377 = some (.iaload, 378, 0, 0, 0) := by decide +kernel
theorem k191_378 : icode MCl 191 378 = some (.invokevirtual 52, 381, 117, 554, 0) := by decide +kernel
theorem k191_381 : icode MCl 191 381 = some (.aload_n 2, 382, 0, 0, 0) := by decide +kernel
theorem k191_382 : icode MCl 191 382 = some (.aload_n 0, 383, 0, 0, 0) := by decide +kernel
theorem k191_383 : icode MCl 191 383 = some (.iload_n 3, 384, 0, 0, 0) := by decide +kernel
theorem k191_384 : icode MCl 191 384 = some (.iconst 1, 385, 0, 0, 1) := by decide +kernel
theorem k191_385 : icode MCl 191 385 = some (.iadd, 386, 0, 0, 0) := by decide +kernel
theorem k191_386 : icode MCl 191 386 = some (.iaload, 387, 0, 0, 0) := by decide +kernel
theorem k191_387 : icode MCl 191 387 = some (.aload_n 0, 388, 0, 0, 0) := by decide +kernel
theorem k191_388 : icode MCl 191 388 = some (.iload_n 3, 389, 0, 0, 0) := by decide +kernel
theorem k191_389 : icode MCl 191 389 = some (.iconst 2, 390, 0, 0, 2) := by decide +kernel
theorem k191_390 : icode MCl 191 390 = some (.iadd, 391, 0, 0, 0) := by decide +kernel
theorem k191_391 : icode MCl 191 391 = some (.iaload, 392, 0, 0, 0) := by decide +kernel
theorem k191_392 : icode MCl 191 392 = some (.invokevirtual 55, 395, 118, 963, 0) := by decide +kernel
theorem k191_395 : icode MCl 191 395 = some (.if_icmp .eq 509, 398, 904, 0, 0) := by decide +kernel
theorem k191_398 : icode MCl 191 398 = some (.iconst 0, 399, 0, 0, 0) := by decide +kernel
theorem k191_399 : icode MCl 191 399 = some (.ireturn, 400, 0, 0, 0) := by decide +kernel
theorem k191_400 : icode MCl 191 400 = some (.aload_n 1, 401, 0, 0, 0) := by decide +kernel
theorem k191_401 : icode MCl 191 401 = some (.aload_n 0, 402, 0, 0, 0) := by decide +kernel
theorem k191_402 : icode MCl 191 402 = some (.iload_n 3, 403, 0, 0, 0) := by decide +kernel
theorem k191_403 : icode MCl 191 403 = some (.iconst 1, 404, 0, 0, 1) := by decide +kernel
theorem k191_404 : icode MCl 191 404 = some (.iadd, 405, 0, 0, 0) := by decide +kernel
theorem k191_405 : icode MCl 191 405 = some (.iaload, 406, 0, 0, 0) := by decide +kernel
theorem k191_406 : icode MCl 191 406 = some (.aload_n 0, 407, 0, 0, 0) := by decide +kernel
theorem k191_407 : icode MCl 191 407 = some (.iload_n 3, 408, 0, 0, 0) := by decide +kernel
theorem k191_408 : icode MCl 191 408 = some (.iconst 2, 409, 0, 0, 2) := by decide +kernel
theorem k191_409 : icode MCl 191 409 = some (.iadd, 410, 0, 0, 0) := by decide +kernel
theorem k191_410 : icode MCl 191 410 = some (.iaload, 411, 0, 0, 0) := by decide +kernel
theorem k191_411 : icode MCl 191 411 = some (.invokevirtual 56, 414, 119, 568, 0) := by decide +kernel
theorem k191_414 : icode MCl 191 414 = some (.aload_n 2, 415, 0, 0, 0) := by decide +kernel
theorem k191_415 : icode MCl 191 415 = some (.aload_n 0, 416, 0, 0, 0) := by decide +kernel
theorem k191_416 : icode MCl 191 416 = some (.iload_n 3, 417, 0, 0, 0) := by decide +kernel
theorem k191_417 : icode MCl 191 417 = some (.iconst 1, 418, 0, 0, 1) := by decide +kernel
theorem k191_418 : icode MCl 191 418 = some (.iadd, 419, 0, 0, 0) := by decide +kernel
theorem k191_419 : icode MCl 191 419 = some (.iaload, 420, 0, 0, 0) := by decide +kernel
theorem k191_420 : icode MCl 191 420 = some (.aload_n 0, 421, 0, 0, 0) := by decide +kernel
theorem k191_421 : icode MCl 191 421 = some (.iload_n 3, 422, 0, 0, 0) := by decide +kernel
theorem k191_422 : icode MCl 191 422 = some (.iconst 2, 423, 0, 0, 2) := by decide +kernel
theorem k191_423 : icode MCl 191 423 = some (.iadd, 424, 0, 0, 0) := by decide +kernel
theorem k191_424 : icode MCl 191 424 = some (.iaload, 425, 0, 0, 0) := by decide +kernel
theorem k191_425 : icode MCl 191 425 = some (.invokevirtual 59, 428, 120, 967, 0) := by decide +kernel
theorem k191_428 : icode MCl 191 428 = some (.if_icmp .eq 476, 431, 904, 0, 0) := by decide +kernel
theorem k191_431 : icode MCl 191 431 = some (.iconst 0, 432, 0, 0, 0) := by decide +kernel
theorem k191_432 : icode MCl 191 432 = some (.ireturn, 433, 0, 0, 0) := by decide +kernel
theorem k191_433 : icode MCl 191 433 = some (.aload_n 1, 434, 0, 0, 0) := by decide +kernel
theorem k191_434 : icode MCl 191 434 = some (.invokevirtual 60, 437, 123, 572, 0) := by decide +kernel
theorem k191_437 : icode MCl 191 437 = some (.aload_n 2, 438, 0, 0, 0) := by decide +kernel
theorem k191_438 : icode MCl 191 438 = some (.invokevirtual 63, 441, 124, 971, 0) := by decide +kernel
theorem k191_441 : icode MCl 191 441 = some (.if_icmp .eq 463, 444, 904, 0, 0) := by decide +kernel
theorem k191_444 : icode MCl 191 444 = some (.iconst 0, 445, 0, 0, 0) := by decide +kernel
theorem k191_445 : icode MCl 191 445 = some (.ireturn, 446, 0, 0, 0) := by decide +kernel
theorem k191_446 : icode MCl 191 446 = some (.aload_n 1, 447, 0, 0, 0) := by decide +kernel
theorem k191_447 : icode MCl 191 447 = some (.aload_n 0, 448, 0, 0, 0) := by decide +kernel
theorem k191_448 : icode MCl 191 448 = some (.iload_n 3, 449, 0, 0, 0) := by decide +kernel
theorem k191_449 : icode MCl 191 449 = some (.iconst 1, 450, 0, 0, 1) := by decide +kernel
theorem k191_450 : icode MCl 191 450 = some (.iadd, 451, 0, 0, 0) := by decide +kernel
theorem k191_451 : icode MCl 191 451 = some (.iaload, 452, 0, 0, 0) := by decide +kernel
theorem k191_452 : icode MCl 191 452 = some (.aload_n 0, 453, 0, 0, 0) := by decide +kernel
theorem k191_453 : icode MCl 191 453 = some (.iload_n 3, 454, 0, 0, 0) := by decide +kernel
theorem k191_454 : icode MCl 191 454 = some (.iconst 2, 455, 0, 0, 2) := by decide +kernel
theorem k191_455 : icode MCl 191 455 = some (.iadd, 456, 0, 0, 0) := by decide +kernel
theorem k191_456 : icode MCl 191 456 = some (.iaload, 457, 0, 0, 0) := by decide +kernel
theorem k191_457 : icode MCl 191 457 = some (.aload_n 0, 458, 0, 0, 0) := by decide +kernel
theorem k191_458 : icode MCl 191 458 = some (.iload_n 3, 459, 0, 0, 0) := by decide +kernel
theorem k191_459 : icode MCl 191 459 = some (.iconst 3, 460, 0, 0, 3) := by decide +kernel
theorem k191_460 : icode MCl 191 460 = some (.iadd, 461, 0, 0, 0) := by decide +kernel
theorem k191_461 : icode MCl 191 461 = some (.iaload, 462, 0, 0, 0) := by decide +kernel
theorem k191_462 : icode MCl 191 462 = some (.invokevirtual 64, 465, 129, 584, 0) := by decide +kernel
theorem k191_465 : icode MCl 191 465 = some (.aload_n 2, 466, 0, 0, 0) := by decide +kernel
theorem k191_466 : icode MCl 191 466 = some (.aload_n 0, 467, 0, 0, 0) := by decide +kernel
theorem k191_467 : icode MCl 191 467 = some (.iload_n 3, 468, 0, 0, 0) := by decide +kernel
theorem k191_468 : icode MCl 191 468 = some (.iconst 1, 469, 0, 0, 1) := by decide +kernel
theorem k191_469 : icode MCl 191 469 = some (.iadd, 470, 0, 0, 0) := by decide +kernel
theorem k191_470 : icode MCl 191 470 = some (.iaload, 471, 0, 0, 0) := by decide +kernel
theorem k191_471 : icode MCl 191 471 = some (.aload_n 0, 472, 0, 0, 0) := by decide +kernel
theorem k191_472 : icode MCl 191 472 = some (.iload_n 3, 473, 0, 0, 0) := by decide +kernel
theorem k191_473 : icode MCl 191 473 = some (.iconst 2, 474, 0, 0, 2) := by decide +kernel
theorem k191_474 : icode MCl 191 474 = some (.iadd, 475, 0, 0, 0) := by decide +kernel
theorem k191_475 : icode MCl 191 475 = some (.iaload, 476, 0, 0, 0) := by decide +kernel
theorem k191_476 : icode MCl 191 476 = some (.aload_n 0, 477, 0, 0, 0) := by decide +kernel
theorem k191_477 : icode MCl 191 477 = some (.iload_n 3, 478, 0, 0, 0) := by decide +kernel
theorem k191_478 : icode MCl 191 478 = some (.iconst 3, 479, 0, 0, 3) := by decide +kernel
theorem k191_479 : icode MCl 191 479 = some (.iadd, 480, 0, 0, 0) := by decide +kernel
theorem k191_480 : icode MCl 191 480 = some (.iaload, 481, 0, 0, 0) := by decide +kernel
theorem k191_481 : icode MCl 191 481 = some (.invokevirtual 68, 484, 132, 975, 0) := by decide +kernel
theorem k191_484 : icode MCl 191 484 = some (.if_icmp .eq 420, 487, 904, 0, 0) := by decide +kernel
theorem k191_487 : icode MCl 191 487 = some (.iconst 0, 488, 0, 0, 0) := by decide +kernel
theorem k191_488 : icode MCl 191 488 = some (.ireturn, 489, 0, 0, 0) := by decide +kernel
theorem k191_489 : icode MCl 191 489 = some (.aload_n 1, 490, 0, 0, 0) := by decide +kernel
theorem k191_490 : icode MCl 191 490 = some (.aload_n 0, 491, 0, 0, 0) := by decide +kernel
theorem k191_491 : icode MCl 191 491 = some (.iload_n 3, 492, 0, 0, 0) := by decide +kernel
theorem k191_492 : icode MCl 191 492 = some (.iconst 1, 493, 0, 0, 1) := by decide +kernel
theorem k191_493 : icode MCl 191 493 = some (.iadd, 494, 0, 0, 0) := by decide +kernel
theorem k191_494 : icode MCl 191 494 = some (.iaload, 495, 0, 0, 0) := by decide +kernel
theorem k191_495 : icode MCl 191 495 = some (.aload_n 0, 496, 0, 0, 0) := by decide +kernel
theorem k191_496 : icode MCl 191 496 = some (.iload_n 3, 497, 0, 0, 0) := by decide +kernel
theorem k191_497 : icode MCl 191 497 = some (.iconst 2, 498, 0, 0, 2) := by decide +kernel
theorem k191_498 : icode MCl 191 498 = some (.iadd, 499, 0, 0, 0) := by decide +kernel
theorem k191_499 : icode MCl 191 499 = some (.iaload, 500, 0, 0, 0) := by decide +kernel
theorem k191_500 : icode MCl 191 500 = some (.invokevirtual 69, 503, 136, 607, 0) := by decide +kernel
theorem k191_503 : icode MCl 191 503 = some (.aload_n 2, 504, 0, 0, 0) := by decide +kernel
theorem k191_504 : icode MCl 191 504 = some (.aload_n 0, 505, 0, 0, 0) := by decide +kernel
theorem k191_505 : icode MCl 191 505 = some (.iload_n 3, 506, 0, 0, 0) := by decide +kernel
theorem k191_506 : icode MCl 191 506 = some (.iconst 1, 507, 0, 0, 1) := by decide +kernel
theorem k191_507 : icode MCl 191 507 = some (.iadd, 508, 0, 0, 0) := by decide +kernel
theorem k191_508 : icode MCl 191 508 = some (.iaload, 509, 0, 0, 0) := by decide +kernel
theorem k191_509 : icode MCl 191 509 = some (.aload_n 0, 510, 0, 0, 0) := by decide +kernel
theorem k191_510 : icode MCl 191 510 = some (.iload_n 3, 511, 0, 0, 0) := by decide +kernel
theorem k191_511 : icode MCl 191 511 = some (.iconst 2, 512, 0, 0, 2) := by decide +kernel
theorem k191_512 : icode MCl 191 512 = some (.iadd, 513, 0, 0, 0) := by decide +kernel
theorem k191_513 : icode MCl 191 513 = some (.iaload, 514, 0, 0, 0) := by decide +kernel
theorem k191_514 : icode MCl 191 514 = some (.invokevirtual 72, 517, 138, 987, 0) := by decide +kernel
theorem k191_517 : icode MCl 191 517 = some (.if_icmp .eq 387, 520, 904, 0, 0) := by decide +kernel
theorem k191_520 : icode MCl 191 520 = some (.iconst 0, 521, 0, 0, 0) := by decide +kernel
theorem k191_521 : icode MCl 191 521 = some (.ireturn, 522, 0, 0, 0) := by decide +kernel
theorem k191_522 : icode MCl 191 522 = some (.aload_n 1, 523, 0, 0, 0) := by decide +kernel
theorem k191_523 : icode MCl 191 523 = some (.aload_n 0, 524, 0, 0, 0) := by decide +kernel
theorem k191_524 : icode MCl 191 524 = some (.iload_n 3, 525, 0, 0, 0) := by decide +kernel
theorem k191_525 : icode MCl 191 525 = some (.iconst 1, 526, 0, 0, 1) := by decide +kernel
theorem k191_526 : icode MCl 191 526 = some (.iadd, 527, 0, 0, 0) := by decide +kernel
theorem k191_527 : icode MCl 191 527 = some (.iaload, 528, 0, 0, 0) := by decide +kernel
theorem k191_528 : icode MCl 191 528 = some (.aload_n 0, 529, 0, 0, 0) := by decide +kernel
theorem k191_529 : icode MCl 191 529 = some (.iload_n 3, 530, 0, 0, 0) := by decide +kernel
theorem k191_530 : icode MCl 191 530 = some (.iconst 2, 531, 0, 0, 2) := by decide +kernel
theorem k191_531 : icode MCl 191 531 = some (.iadd, 532, 0, 0, 0) := by decide +kernel
theorem k191_532 : icode MCl 191 532 = some (.iaload, 533, 0, 0, 0) := by decide +kernel
theorem k191_533 : icode MCl 191 533 = some (.invokevirtual 73, 536, 139, 625, 0) := by decide +kernel
theorem k191_536 : icode MCl 191 536 = some (.aload_n 2, 537, 0, 0, 0) := by decide +kernel
theorem k191_537 : icode MCl 191 537 = some (.aload_n 0, 538, 0, 0, 0) := by decide +kernel
theorem k191_538 : icode MCl 191 538 = some (.iload_n 3, 539, 0, 0, 0) := by decide +kernel
theorem k191_539 : icode MCl 191 539 = some (.iconst 1, 540, 0, 0, 1) := by decide +kernel
theorem k191_540 : icode MCl 191 540 = some (.iadd, 541, 0, 0, 0) := by decide +kernel
theorem k191_541 : icode MCl 191 541 = some (.iaload, 542, 0, 0, 0) := by decide +kernel
theorem k191_542 : icode MCl 191 542 = some (.aload_n 0, 543, 0, 0, 0) := by decide +kernel
theorem k191_543 : icode MCl 191 543 = some (.iload_n 3, 544, 0, 0, 0) := by decide +kernel
theorem k191_544 : icode MCl 191 544 = some (.iconst 2, 545, 0, 0, 2) := by decide +kernel
theorem k191_545 : icode MCl 191 545 = some (.iadd, 546, 0, 0, 0) := by decide +kernel
theorem k191_546 : icode MCl 191 546 = some (.iaload, 547, 0, 0, 0) := by decide +kernel
theorem k191_547 : icode MCl 191 547 = some (.invokevirtual 76, 550, 140, 995, 0) := by decide +kernel
theorem k191_550 : icode MCl 191 550 = some (.if_icmp .eq 354, 553, 904, 0, 0) := by decide +kernel
theorem k191_553 : icode MCl 191 553 = some (.iconst 0, 554, 0, 0, 0) := by decide +kernel
theorem k191_554 : icode MCl 191 554 = some (.ireturn, 555, 0, 0, 0) := by decide +kernel
theorem k191_555 : icode MCl 191 555 = some (.aload_n 1, 556, 0, 0, 0) := by decide +kernel
theorem k191_556 : icode MCl 191 556 = some (.aload_n 0, 557, 0, 0, 0) := by decide +kernel
theorem k191_557 : icode MCl 191 557 = some (.iload_n 3, 558, 0, 0, 0) := by decide +kernel
theorem k191_558 : icode MCl 191 558 = some (.iconst 1, 559, 0, 0, 1) := by decide +kernel
theorem k191_559 : icode MCl 191 559 = some (.iadd, 560, 0, 0, 0) := by decide +kernel
theorem k191_560 : icode MCl 191 560 = some (.iaload, 561, 0, 0, 0) := by decide +kernel
theorem k191_561 : icode MCl 191 561 = some (.aload_n 0, 562, 0, 0, 0) := by decide +kernel
theorem k191_562 : icode MCl 191 562 = some (.iload_n 3, 563, 0, 0, 0) := by decide +kernel
theorem k191_563 : icode MCl 191 563 = some (.iconst 2, 564, 0, 0, 2) := by decide +kernel
theorem k191_564 : icode MCl 191 564 = some (.iadd, 565, 0, 0, 0) := by decide +kernel
theorem k191_565 : icode MCl 191 565 = some (.iaload, 566, 0, 0, 0) := by decide +kernel
theorem k191_566 : icode MCl 191 566 = some (.invokevirtual 77, 569, 141, 629, 0) := by decide +kernel
theorem k191_569 : icode MCl 191 569 = some (.aload_n 2, 570, 0, 0, 0) := by decide +kernel
theorem k191_570 : icode MCl 191 570 = some (.aload_n 0, 571, 0, 0, 0) := by decide +kernel
theorem k191_571 : icode MCl 191 571 = some (.iload_n 3, 572, 0, 0, 0) := by decide +kernel
theorem k191_572 : icode MCl 191 572 = some (.iconst 1, 573, 0, 0, 1) := by decide +kernel
theorem k191_573 : icode MCl 191 573 = some (.iadd, 574, 0, 0, 0) := by decide +kernel
theorem k191_574 : icode MCl 191 574 = some (.iaload, 575, 0, 0, 0) := by decide +kernel
theorem k191_575 : icode MCl 191 575 = some (.aload_n 0, 576, 0, 0, 0) := by decide +kernel
theorem k191_576 : icode MCl 191 576 = some (.iload_n 3, 577, 0, 0, 0) := by decide +kernel
theorem k191_577 : icode MCl 191 577 = some (.iconst 2, 578, 0, 0, 2) := by decide +kernel
theorem k191_578 : icode MCl 191 578 = some (.iadd, 579, 0, 0, 0) := by decide +kernel
theorem k191_579 : icode MCl 191 579 = some (.iaload, 580, 0, 0, 0) := by decide +kernel
theorem k191_580 : icode MCl 191 580 = some (.invokevirtual 80, 583, 142, 999, 0) := by decide +kernel
theorem k191_583 : icode MCl 191 583 = some (.if_icmp .eq 321, 586, 904, 0, 0) := by decide +kernel
theorem k191_586 : icode MCl 191 586 = some (.iconst 0, 587, 0, 0, 0) := by decide +kernel
theorem k191_587 : icode MCl 191 587 = some (.ireturn, 588, 0, 0, 0) := by decide +kernel
theorem k191_588 : icode MCl 191 588 = some (.aload_n 1, 589, 0, 0, 0) := by decide +kernel
theorem k191_589 : icode MCl 191 589 = some (.aload_n 0, 590, 0, 0, 0) := by decide +kernel
theorem k191_590 : icode MCl 191 590 = some (.iload_n 3, 591, 0, 0, 0) := by decide +kernel
theorem k191_591 : icode MCl 191 591 = some (.iconst 1, 592, 0, 0, 1) := by decide +kernel
theorem k191_592 : icode MCl 191 592 = some (.iadd, 593, 0, 0, 0) := by decide +kernel
theorem k191_593 : icode MCl 191 593 = some (.iaload, 594, 0, 0, 0) := by decide +kernel
theorem k191_594 : icode MCl 191 594 = some (.invokevirtual 81, 597, 144, 633, 0) := by decide +kernel
theorem k191_597 : icode MCl 191 597 = some (.aload_n 2, 598, 0, 0, 0) := by decide +kernel
theorem k191_598 : icode MCl 191 598 = some (.aload_n 0, 599, 0, 0, 0) := by decide +kernel
theorem k191_599 : icode MCl 191 599 = some (.iload_n 3, 600, 0, 0, 0) := by decide +kernel
theorem k191_600 : icode MCl 191 600 = some (.iconst 1, 601, 0, 0, 1) := by decide +kernel
theorem k191_601 : icode MCl 191 601 = some (.iadd, 602, 0, 0, 0) := by decide +kernel
theorem k191_602 : icode MCl 191 602 = some (.iaload, 603, 0, 0, 0) := by decide +kernel
theorem k191_603 : icode MCl 191 603 = some (.invokevirtual 84, 606, 147, 1003, 0) := by decide +kernel
theorem k191_606 : icode MCl 191 606 = some (.if_icmp .eq 298, 609, 904, 0, 0) := by decide +kernel
theorem k191_609 : icode MCl 191 609 = some (.iconst 0, 610, 0, 0, 0) := by decide +kernel
theorem k191_610 : icode MCl 191 610 = some (.ireturn, 611, 0, 0, 0) := by decide +kernel
theorem k191_611 : icode MCl 191 611 = some (.aload_n 1, 612, 0, 0, 0) := by decide +kernel
theorem k191_612 : icode MCl 191 612 = some (.aload_n 0, 613, 0, 0, 0) := by decide +kernel
theorem k191_613 : icode MCl 191 613 = some (.iload_n 3, 614, 0, 0, 0) := by decide +kernel
theorem k191_614 : icode MCl 191 614 = some (.iconst 1, 615, 0, 0, 1) := by decide +kernel
theorem k191_615 : icode MCl 191 615 = some (.iadd, 616, 0, 0, 0) := by decide +kernel
theorem k191_616 : icode MCl 191 616 = some (.iaload, 617, 0, 0, 0) := by decide +kernel
theorem k191_617 : icode MCl 191 617 = some (.aload_n 0, 618, 0, 0, 0) := by decide +kernel
theorem k191_618 : icode MCl 191 618 = some (.iload_n 3, 619, 0, 0, 0) := by decide +kernel
theorem k191_619 : icode MCl 191 619 = some (.iconst 2, 620, 0, 0, 2) := by decide +kernel
theorem k191_620 : icode MCl 191 620 = some (.iadd, 621, 0, 0, 0) := by decide +kernel
theorem k191_621 : icode MCl 191 621 = some (.iaload, 622, 0, 0, 0) := by decide +kernel
theorem k191_622 : icode MCl 191 622 = some (.invokevirtual 85, 625, 149, 643, 0) := by decide +kernel
theorem k191_625 : icode MCl 191 625 = some (.aload_n 2, 626, 0, 0, 0) := by decide +kernel
theorem k191_626 : icode MCl 191 626 = some (.aload_n 0, 627, 0, 0, 0) := by decide +kernel
theorem k191_627 : icode MCl 191 627 = some (.iload_n 3, 628, 0, 0, 0) := by decide +kernel
theorem k191_628 : icode MCl 191 628 = some (.iconst 1, 629, 0, 0, 1) := by decide +kernel
theorem k191_629 : icode MCl 191 629 = some (.iadd, 630, 0, 0, 0) := by decide +kernel
theorem k191_630 : icode MCl 191 630 = some (.iaload, 631, 0, 0, 0) := by decide +kernel
theorem k191_631 : icode MCl 191 631 = some (.aload_n 0, 632, 0, 0, 0) := by decide +kernel
theorem k191_632 : icode MCl 191 632 = some (.iload_n 3, 633, 0, 0, 0) := by decide +kernel
theorem k191_633 : icode MCl 191 633 = some (.iconst 2, 634, 0, 0, 2) := by decide +kernel
theorem k191_634 : icode MCl 191 634 = some (.iadd, 635, 0, 0, 0) := by decide +kernel
theorem k191_635 : icode MCl 191 635 = some (.iaload, 636, 0, 0, 0) := by decide +kernel
theorem k191_636 : icode MCl 191 636 = some (.invokevirtual 88, 639, 151, 1014, 0) := by decide +kernel
theorem k191_639 : icode MCl 191 639 = some (.if_icmp .eq 265, 642, 904, 0, 0) := by decide +kernel
theorem k191_642 : icode MCl 191 642 = some (.iconst 0, 643, 0, 0, 0) := by decide +kernel
theorem k191_643 : icode MCl 191 643 = some (.ireturn, 644, 0, 0, 0) := by decide +kernel
theorem k191_644 : icode MCl 191 644 = some (.aload_n 1, 645, 0, 0, 0) := by decide +kernel
theorem k191_645 : icode MCl 191 645 = some (.aload_n 0, 646, 0, 0, 0) := by decide +kernel
theorem k191_646 : icode MCl 191 646 = some (.iload_n 3, 647, 0, 0, 0) := by decide +kernel
theorem k191_647 : icode MCl 191 647 = some (.iconst 1, 648, 0, 0, 1) := by decide +kernel
theorem k191_648 : icode MCl 191 648 = some (.iadd, 649, 0, 0, 0) := by decide +kernel
theorem k191_649 : icode MCl 191 649 = some (.iaload, 650, 0, 0, 0) := by decide +kernel
theorem k191_650 : icode MCl 191 650 = some (.invokevirtual 89, 653, 153, 651, 0) := by decide +kernel
theorem k191_653 : icode MCl 191 653 = some (.aload_n 2, 654, 0, 0, 0) := by decide +kernel
theorem k191_654 : icode MCl 191 654 = some (.aload_n 0, 655, 0, 0, 0) := by decide +kernel
theorem k191_655 : icode MCl 191 655 = some (.iload_n 3, 656, 0, 0, 0) := by decide +kernel
theorem k191_656 : icode MCl 191 656 = some (.iconst 1, 657, 0, 0, 1) := by decide +kernel
theorem k191_657 : icode MCl 191 657 = some (.iadd, 658, 0, 0, 0) := by decide +kernel
theorem k191_658 : icode MCl 191 658 = some (.iaload, 659, 0, 0, 0) := by decide +kernel
theorem k191_659 : icode MCl 191 659 = some (.invokevirtual 92, 662, 155, 1021, 0) := by decide +kernel
theorem k191_662 : icode MCl 191 662 = some (.if_icmp .eq 242, 665, 904, 0, 0) := by decide +kernel
theorem k191_665 : icode MCl 191 665 = some (.iconst 0, 666, 0, 0, 0) := by decide +kernel
theorem k191_666 : icode MCl 191 666 = some (.ireturn, 667, 0, 0, 0) := by decide +kernel
theorem k191_667 : icode MCl 191 667 = some (.aload_n 1, 668, 0, 0, 0) := by decide +kernel
theorem k191_668 : icode MCl 191 668 = some (.aload_n 0, 669, 0, 0, 0) := by decide +kernel
theorem k191_669 : icode MCl 191 669 = some (.iload_n 3, 670, 0, 0, 0) := by decide +kernel
theorem k191_670 : icode MCl 191 670 = some (.iconst 1, 671, 0, 0, 1) := by decide +kernel
theorem k191_671 : icode MCl 191 671 = some (.iadd, 672, 0, 0, 0) := by decide +kernel
theorem k191_672 : icode MCl 191 672 = some (.iaload, 673, 0, 0, 0) := by decide +kernel
theorem k191_673 : icode MCl 191 673 = some (.aload_n 0, 674, 0, 0, 0) := by decide +kernel
theorem k191_674 : icode MCl 191 674 = some (.iload_n 3, 675, 0, 0, 0) := by decide +kernel
theorem k191_675 : icode MCl 191 675 = some (.iconst 2, 676, 0, 0, 2) := by decide +kernel
theorem k191_676 : icode MCl 191 676 = some (.iadd, 677, 0, 0, 0) := by decide +kernel
theorem k191_677 : icode MCl 191 677 = some (.iaload, 678, 0, 0, 0) := by decide +kernel
theorem k191_678 : icode MCl 191 678 = some (.aload_n 0, 679, 0, 0, 0) := by decide +kernel
theorem k191_679 : icode MCl 191 679 = some (.iload_n 3, 680, 0, 0, 0) := by decide +kernel
theorem k191_680 : icode MCl 191 680 = some (.iconst 3, 681, 0, 0, 3) := by decide +kernel
theorem k191_681 : icode MCl 191 681 = some (.iadd, 682, 0, 0, 0) := by decide +kernel
theorem k191_682 : icode MCl 191 682 = some (.iaload, 683, 0, 0, 0) := by decide +kernel
theorem k191_683 : icode MCl 191 683 = some (.invokevirtual 93, 686, 158, 659, 0) := by decide +kernel
theorem k191_686 : icode MCl 191 686 = some (.aload_n 2, 687, 0, 0, 0) := by decide +kernel
theorem k191_687 : icode MCl 191 687 = some (.aload_n 0, 688, 0, 0, 0) := by decide +kernel
theorem k191_688 : icode MCl 191 688 = some (.iload_n 3, 689, 0, 0, 0) := by decide +kernel
theorem k191_689 : icode MCl 191 689 = some (.iconst 1, 690, 0, 0, 1) := by decide +kernel
theorem k191_690 : icode MCl 191 690 = some (.iadd, 691, 0, 0, 0) := by decide +kernel
theorem k191_691 : icode MCl 191 691 = some (.iaload, 692, 0, 0, 0) := by decide +kernel
theorem k191_692 : icode MCl 191 692 = some (.aload_n 0, 693, 0, 0, 0) := by decide +kernel
theorem k191_693 : icode MCl 191 693 = some (.iload_n 3, 694, 0, 0, 0) := by decide +kernel
theorem k191_694 : icode MCl 191 694 = some (.iconst 2, 695, 0, 0, 2) := by decide +kernel
theorem k191_695 : icode MCl 191 695 = some (.iadd, 696, 0, 0, 0) := by decide +kernel
theorem k191_696 : icode MCl 191 696 = some (.iaload, 697, 0, 0, 0) := by decide +kernel
theorem k191_697 : icode MCl 191 697 = some (.aload_n 0, 698, 0, 0, 0) := by decide +kernel
theorem k191_698 : icode MCl 191 698 = some (.iload_n 3, 699, 0, 0, 0) := by decide +kernel
theorem k191_699 : icode MCl 191 699 = some (.iconst 3, 700, 0, 0, 3) := by decide +kernel
theorem k191_700 : icode MCl 191 700 = some (.iadd, 701, 0, 0, 0) := by decide +kernel
theorem k191_701 : icode MCl 191 701 = some (.iaload, 702, 0, 0, 0) := by decide +kernel
theorem k191_702 : icode MCl 191 702 = some (.invokevirtual 96, 705, 159, 1029, 0) := by decide +kernel
theorem k191_705 : icode MCl 191 705 = some (.if_icmp .eq 199, 708, 904, 0, 0) := by decide +kernel
theorem k191_708 : icode MCl 191 708 = some (.iconst 0, 709, 0, 0, 0) := by decide +kernel
theorem k191_709 : icode MCl 191 709 = some (.ireturn, 710, 0, 0, 0) := by decide +kernel
theorem k191_710 : icode MCl 191 710 = some (.aload_n 1, 711, 0, 0, 0) := by decide +kernel
theorem k191_711 : icode MCl 191 711 = some (.invokevirtual 97, 714, 160, 672, 0) := by decide +kernel
theorem k191_714 : icode MCl 191 714 = some (.aload_n 2, 715, 0, 0, 0) := by decide +kernel
theorem k191_715 : icode MCl 191 715 = some (.invokevirtual 100, 718, 161, 1033, 0) := by decide +kernel
theorem k191_718 : icode MCl 191 718 = some (.if_icmp .eq 186, 721, 904, 0, 0) := by decide +kernel
theorem k191_721 : icode MCl 191 721 = some (.iconst 0, 722, 0, 0, 0) := by decide +kernel
theorem k191_722 : icode MCl 191 722 = some (.ireturn, 723, 0, 0, 0) := by decide +kernel
theorem k191_723 : icode MCl 191 723 = some (.aload_n 1, 724, 0, 0, 0) := by decide +kernel
theorem k191_724 : icode MCl 191 724 = some (.aload_n 0, 725, 0, 0, 0) := by decide +kernel
theorem k191_725 : icode MCl 191 725 = some (.iload_n 3, 726, 0, 0, 0) := by decide +kernel
theorem k191_726 : icode MCl 191 726 = some (.iconst 1, 727, 0, 0, 1) := by decide +kernel
theorem k191_727 : icode MCl 191 727 = some (.iadd, 728, 0, 0, 0) := by decide +kernel
theorem k191_728 : icode MCl 191 728 = some (.iaload, 729, 0, 0, 0) := by decide +kernel
theorem k191_729 : icode MCl 191 729 = some (.invokevirtual 101, 732, 164, 676, 0) := by decide +kernel
theorem k191_732 : icode MCl 191 732 = some (.aload_n 2, 733, 0, 0, 0) := by decide +kernel
theorem k191_733 : icode MCl 191 733 = some (.aload_n 0, 734, 0, 0, 0) := by decide +kernel
theorem k191_734 : icode MCl 191 734 = some (.iload_n 3, 735, 0, 0, 0) := by decide +kernel
theorem k191_735 : icode MCl 191 735 = some (.iconst 1, 736, 0, 0, 1) := by decide +kernel
theorem k191_736 : icode MCl 191 736 = some (.iadd, 737, 0, 0, 0) := by decide +kernel
theorem k191_737 : icode MCl 191 737 = some (.iaload, 738, 0, 0, 0) := by decide +kernel
theorem k191_738 : icode MCl 191 738 = some (.invokevirtual 104, 741, 166, 1037, 0) := by decide +kernel
theorem k191_741 : icode MCl 191 741 = some (.if_icmp .eq 163, 744, 904, 0, 0) := by decide +kernel
theorem k191_744 : icode MCl 191 744 = some (.iconst 0, 745, 0, 0, 0) := by decide +kernel
theorem k191_745 : icode MCl 191 745 = some (.ireturn, 746, 0, 0, 0) := by decide +kernel
theorem k191_746 : icode MCl 191 746 = some (.aload_n 1, 747, 0, 0, 0) := by decide +kernel
theorem k191_747 : icode MCl 191 747 = some (.invokevirtual 105, 750, 167, 690, 0) := by decide +kernel
theorem k191_750 : icode MCl 191 750 = some (.aload_n 2, 751, 0, 0, 0) := by decide +kernel
theorem k191_751 : icode MCl 191 751 = some (.invokevirtual 108, 754, 168, 1045, 0) := by decide +kernel
theorem k191_754 : icode MCl 191 754 = some (.if_icmp .eq 150, 757, 904, 0, 0) := by decide +kernel
theorem k191_757 : icode MCl 191 757 = some (.iconst 0, 758, 0, 0, 0) := by decide +kernel
theorem k191_758 : icode MCl 191 758 = some (.ireturn, 759, 0, 0, 0) := by decide +kernel
theorem k191_759 : icode MCl 191 759 = some (.aload_n 1, 760, 0, 0, 0) := by decide +kernel
theorem k191_760 : icode MCl 191 760 = some (.aload_n 0, 761, 0, 0, 0) := by decide +kernel
theorem k191_761 : icode MCl 191 761 = some (.iload_n 3, 762, 0, 0, 0) := by decide +kernel
theorem k191_762 : icode MCl 191 762 = some (.iconst 1, 763, 0, 0, 1) := by decide +kernel
theorem k191_763 : icode MCl 191 763 = some (.iadd, 764, 0, 0, 0) := by decide +kernel
theorem k191_764 : icode MCl 191 764 = some (.iaload, 765, 0, 0, 0) := by decide +kernel
theorem k191_765 : icode MCl 191 765 = some (.aload_n 0, 766, 0, 0, 0) := by decide +kernel
theorem k191_766 : icode MCl 191 766 = some (.iload_n 3, 767, 0, 0, 0) := by decide +kernel
theorem k191_767 : icode MCl 191 767 = some (.iconst 2, 768, 0, 0, 2) := by decide +kernel
theorem k191_768 : icode MCl 191 768 = some (.iadd, 769, 0, 0, 0) := by decide +kernel
theorem k191_769 : icode MCl 191 769 = some (.iaload, 770, 0, 0, 0) := by decide +kernel
theorem k191_770 : icode MCl 191 770 = some (.aload_n 0, 771, 0, 0, 0) := by decide +kernel
theorem k191_771 : icode MCl 191 771 = some (.iload_n 3, 772, 0, 0, 0) := by decide +kernel
theorem k191_772 : icode MCl 191 772 = some (.iconst 3, 773, 0, 0, 3) := by decide +kernel
theorem k191_773 : icode MCl 191 773 = some (.iadd, 774, 0, 0, 0) := by decide +kernel
theorem k191_774 : icode MCl 191 774 = some (.iaload, 775, 0, 0, 0) := by decide +kernel
theorem k191_775 : icode MCl 191 775 = some (.aload_n 0, 776, 0, 0, 0) := by decide +kernel
theorem k191_776 : icode MCl 191 776 = some (.iload_n 3, 777, 0, 0, 0) := by decide +kernel
theorem k191_777 : icode MCl 191 777 = some (.iconst 4, 778, 0, 0, 4) := by decide +kernel
theorem k191_778 : icode MCl 191 778 = some (.iadd, 779, 0, 0, 0) := by decide +kernel
theorem k191_779 : icode MCl 191 779 = some (.iaload, 780, 0, 0, 0) := by decide +kernel
theorem k191_780 : icode MCl 191 780 = some (.invokevirtual 109, 783, 173, 694, 0) := by decide +kernel
theorem k191_783 : icode MCl 191 783 = some (.aload_n 2, 784, 0, 0, 0) := by decide +kernel
theorem k191_784 : icode MCl 191 784 = some (.aload_n 0, 785, 0, 0, 0) := by decide +kernel
theorem k191_785 : icode MCl 191 785 = some (.iload_n 3, 786, 0, 0, 0) := by decide +kernel
theorem k191_786 : icode MCl 191 786 = some (.iconst 1, 787, 0, 0, 1) := by decide +kernel
theorem k191_787 : icode MCl 191 787 = some (.iadd, 788, 0, 0, 0) := by decide +kernel
theorem k191_788 : icode MCl 191 788 = some (.iaload, 789, 0, 0, 0) := by decide +kernel
theorem k191_789 : icode MCl 191 789 = some (.aload_n 0, 790, 0, 0, 0) := by decide +kernel
theorem k191_790 : icode MCl 191 790 = some (.iload_n 3, 791, 0, 0, 0) := by decide +kernel
theorem k191_791 : icode MCl 191 791 = some (.iconst 2, 792, 0, 0, 2) := by decide +kernel
theorem k191_792 : icode MCl 191 792 = some (.iadd, 793, 0, 0, 0) := by decide +kernel
theorem k191_793 : icode MCl 191 793 = some (.iaload, 794, 0, 0, 0) := by decide +kernel
theorem k191_794 : icode MCl 191 794 = some (.aload_n 0, 795, 0, 0, 0) := by decide +kernel
theorem k191_795 : icode MCl 191 795 = some (.iload_n 3, 796, 0, 0, 0) := by decide +kernel
theorem k191_796 : icode MCl 191 796 = some (.iconst 3, 797, 0, 0, 3) := by decide +kernel
theorem k191_797 : icode MCl 191 797 = some (.iadd, 798, 0, 0, 0) := by decide +kernel
theorem k191_798 : icode MCl 191 798 = some (.iaload, 799, 0, 0, 0) := by decide +kernel
theorem k191_799 : icode MCl 191 799 = some (.aload_n 0, 800, 0, 0, 0) := by decide +kernel
theorem k191_800 : icode MCl 191 800 = some (.iload_n 3, 801, 0, 0, 0) := by decide +kernel
theorem k191_801 : icode MCl 191 801 = some (.iconst 4, 802, 0, 0, 4) := by decide +kernel
theorem k191_802 : icode MCl 191 802 = some (.iadd, 803, 0, 0, 0) := by decide +kernel
theorem k191_803 : icode MCl 191 803 = some (.iaload, 804, 0, 0, 0) := by decide +kernel
theorem k191_804 : icode MCl 191 804 = some (.invokevirtual 113, 807, 177, 1049, 0) := by decide +kernel
theorem k191_807 : icode MCl 191 807 = some (.if_icmp .eq 97, 810, 904, 0, 0) := by decide +kernel
theorem k191_810 : icode MCl 191 810 = some (.iconst 0, 811, 0, 0, 0) := by decide +kernel
theorem k191_811 : icode MCl 191 811 = some (.ireturn, 812, 0, 0, 0) := by decide +kernel
theorem k191_812 : icode MCl 191 812 = some (.aload_n 1, 813, 0, 0, 0) := by decide +kernel
theorem k191_813 : icode MCl 191 813 = some (.aload_n 0, 814, 0, 0, 0) := by decide +kernel
theorem k191_814 : icode MCl 191 814 = some (.iload_n 3, 815, 0, 0, 0) := by decide +kernel
theorem k191_815 : icode MCl 191 815 = some (.iconst 1, 816, 0, 0, 1) := by decide +kernel
theorem k191_816 : icode MCl 191 816 = some (.iadd, 817, 0, 0, 0) := by decide +kernel
theorem k191_817 : icode MCl 191 817 = some (.iaload, 818, 0, 0, 0) := by decide +kernel
theorem k191_818 : icode MCl 191 818 = some (.aload_n 0, 819, 0, 0, 0) := by decide +kernel
theorem k191_819 : icode MCl 191 819 = some (.iload_n 3, 820, 0, 0, 0) := by decide +kernel
theorem k191_820 : icode MCl 191 820 = some (.iconst 2, 821, 0, 0, 2) := by decide +kernel
theorem k191_821 : icode MCl 191 821 = some (.iadd, 822, 0, 0, 0) := by decide +kernel
theorem k191_822 : icode MCl 191 822 = some (.iaload, 823, 0, 0, 0) := by decide +kernel
theorem k191_823 : icode MCl 191 823 = some (.aload_n 0, 824, 0, 0, 0) := by decide +kernel
theorem k191_824 : icode MCl 191 824 = some (.iload_n 3, 825, 0, 0, 0) := by decide +kernel
theorem k191_825 : icode MCl 191 825 = some (.iconst 3, 826, 0, 0, 3) := by decide +kernel
theorem k191_826 : icode MCl 191 826 = some (.iadd, 827, 0, 0, 0) := by decide +kernel
theorem k191_827 : icode MCl 191 827 = some (.iaload, 828, 0, 0, 0) := by decide +kernel
theorem k191_828 : icode MCl 191 828 = some (.invokevirtual 114, 831, 181, 714, 0) := by decide +kernel
theorem k191_831 : icode MCl 191 831 = some (.aload_n 2, 832, 0, 0, 0) := by decide +kernel
theorem k191_832 : icode MCl 191 832 = some (.aload_n 0, 833, 0, 0, 0) := by decide +kernel
theorem k191_833 : icode MCl 191 833 = some (.iload_n 3, 834, 0, 0, 0) := by decide +kernel
theorem k191_834 : icode MCl 191 834 = some (.iconst 1, 835, 0, 0, 1) := by decide +kernel
theorem k191_835 : icode MCl 191 835 = some (.iadd, 836, 0, 0, 0) := by decide +kernel
theorem k191_836 : icode MCl 191 836 = some (.iaload, 837, 0, 0, 0) := by decide +kernel
theorem k191_837 : icode MCl 191 837 = some (.aload_n 0, 838, 0, 0, 0) := by decide +kernel
theorem k191_838 : icode MCl 191 838 = some (.iload_n 3, 839, 0, 0, 0) := by decide +kernel
theorem k191_839 : icode MCl 191 839 = some (.iconst 2, 840, 0, 0, 2) := by decide +kernel
theorem k191_840 : icode MCl 191 840 = some (.iadd, 841, 0, 0, 0) := by decide +kernel
theorem k191_841 : icode MCl 191 841 = some (.iaload, 842, 0, 0, 0) := by decide +kernel
theorem k191_842 : icode MCl 191 842 = some (.aload_n 0, 843, 0, 0, 0) := by decide +kernel
theorem k191_843 : icode MCl 191 843 = some (.iload_n 3, 844, 0, 0, 0) := by decide +kernel
theorem k191_844 : icode MCl 191 844 = some (.iconst 3, 845, 0, 0, 3) := by decide +kernel
theorem k191_845 : icode MCl 191 845 = some (.iadd, 846, 0, 0, 0) := by decide +kernel
theorem k191_846 : icode MCl 191 846 = some (.iaload, 847, 0, 0, 0) := by decide +kernel
theorem k191_847 : icode MCl 191 847 = some (.invokevirtual 117, 850, 182, 1063, 0) := by decide +kernel
theorem k191_850 : icode MCl 191 850 = some (.if_icmp .eq 54, 853, 904, 0, 0) := by decide +kernel
theorem k191_853 : icode MCl 191 853 = some (.iconst 0, 854, 0, 0, 0) := by decide +kernel
theorem k191_854 : icode MCl 191 854 = some (.ireturn, 855, 0, 0, 0) := by decide +kernel
theorem k191_855 : icode MCl 191 855 = some (.aload_n 1, 856, 0, 0, 0) := by decide +kernel
theorem k191_856 : icode MCl 191 856 = some (.invokevirtual 118, 859, 183, 732, 0) := by decide +kernel
theorem k191_859 : icode MCl 191 859 = some (.aload_n 2, 860, 0, 0, 0) := by decide +kernel
theorem k191_860 : icode MCl 191 860 = some (.invokevirtual 121, 863, 184, 1070, 0) := by decide +kernel
theorem k191_863 : icode MCl 191 863 = some (.if_icmp .eq 41, 866, 904, 0, 0) := by decide +kernel
theorem k191_866 : icode MCl 191 866 = some (.iconst 0, 867, 0, 0, 0) := by decide +kernel
theorem k191_867 : icode MCl 191 867 = some (.ireturn, 868, 0, 0, 0) := by decide +kernel
theorem k191_868 : icode MCl 191 868 = some (.aload_n 1, 869, 0, 0, 0) := by decide +kernel
theorem k191_869 : icode MCl 191 869 = some (.invokevirtual 122, 872, 185, 736, 0) := by decide +kernel
theorem k191_872 : icode MCl 191 872 = some (.aload_n 2, 873, 0, 0, 0) := by decide +kernel
theorem k191_873 : icode MCl 191 873 = some (.invokevirtual 125, 876, 186, 1074, 0) := by decide +kernel
theorem k191_876 : icode MCl 191 876 = some (.if_icmp .eq 28, 879, 904, 0, 0) := by decide +kernel
theorem k191_879 : icode MCl 191 879 = some (.iconst 0, 880, 0, 0, 0) := by decide +kernel
theorem k191_880 : icode MCl 191 880 = some (.ireturn, 881, 0, 0, 0) := by decide +kernel
theorem k191_881 : icode MCl 191 881 = some (.aload_n 1, 882, 0, 0, 0) := by decide +kernel
theorem k191_882 : icode MCl 191 882 = some (.aload_n 0, 883, 0, 0, 0) := by decide +kernel
theorem k191_883 : icode MCl 191 883 = some (.iload_n 3, 884, 0, 0, 0) := by decide +kernel
theorem k191_884 : icode MCl 191 884 = some (.iconst 1, 885, 0, 0, 1) := by decide +kernel
theorem k191_885 : icode MCl 191 885 = some (.iadd, 886, 0, 0, 0) := by decide +kernel
theorem k191_886 : icode MCl 191 886 = some (.iaload, 887, 0, 0, 0) := by decide +kernel
theorem k191_887 : icode MCl 191 887 = some (.invokevirtual 126, 890, 188, 740, 0) := by decide +kernel
theorem k191_890 : icode MCl 191 890 = some (.aload_n 2, 891, 0, 0, 0) := by decide +kernel
theorem k191_891 : icode MCl 191 891 = some (.aload_n 0, 892, 0, 0, 0) := by decide +kernel
theorem k191_892 : icode MCl 191 892 = some (.iload_n 3, 893, 0, 0, 0) := by decide +kernel
theorem k191_893 : icode MCl 191 893 = some (.iconst 1, 894, 0, 0, 1) := by decide +kernel
theorem k191_894 : icode MCl 191 894 = some (.iadd, 895, 0, 0, 0) := by decide +kernel
theorem k191_895 : icode MCl 191 895 = some (.iaload, 896, 0, 0, 0) := by decide +kernel
theorem k191_896 : icode MCl 191 896 = some (.invokevirtual 129, 899, 190, 1078, 0) := by decide +kernel
theorem k191_899 : icode MCl 191 899 = some (.if_icmp .eq 5, 902, 904, 0, 0) := by decide +kernel
theorem k191_902 : icode MCl 191 902 = some (.iconst 0, 903, 0, 0, 0) := by decide +kernel
theorem k191_903 : icode MCl 191 903 = some (.ireturn, 904, 0, 0, 0) := by decide +kernel
theorem k191_904 : icode MCl 191 904 = some (.iinc 3 5, 907, 0, 0, 5) := by decide +kernel
theorem k191_907 : icode MCl 191 907 = some (.goto (-889), 910, 18, 0, 0) := by decide +kernel
theorem k191_910 : icode MCl 191 910 = some (.iconst 1, 911, 0, 0, 1) := by decide +kernel
theorem k191_911 : icode MCl 191 911 = some (.ireturn, 912, 0, 0, 0) := by decide +kernel
