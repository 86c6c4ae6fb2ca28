theorem dX4_place_0 : decode cX4_place 0 = .ok (.iload_n 1, 1) := by decide +kernel
theorem dX4_place_1 : decode cX4_place 1 = .ok (.invokestatic 19, 3) := by decide +kernel
theorem dX4_place_4 : decode cX4_place 4 = .ok (.iload_n 2, 1) := by decide +kernel
theorem dX4_place_5 : decode cX4_place 5 = .ok (.iconst 0, 1) := by decide +kernel
theorem dX4_place_6 : decode cX4_place 6 = .ok (.iconst 4, 1) := by decide +kernel
theorem dX4_place_7 : decode cX4_place 7 = .ok (.invokestatic 142, 3) := by decide +kernel
theorem dX4_place_10 : decode cX4_place 10 = .ok (.aload_n 0, 1) := by decide +kernel
theorem dX4_place_11 : decode cX4_place 11 = .ok (.getfield 10, 3) := by decide +kernel
theorem dX4_place_14 : decode cX4_place 14 = .ok (.iload_n 1, 1) := by decide +kernel
theorem dX4_place_15 : decode cX4_place 15 = .ok (.iload_n 2, 1) := by decide +kernel
theorem dX4_place_16 : decode cX4_place 16 = .ok (.invokevirtual 165, 3) := by decide +kernel
theorem dX4_place_19 : decode cX4_place 19 = .ok (.ireturn, 1) := by decide +kernel
theorem dX4_moon_0 : decode cX4_moon 0 = .ok (.iload_n 1, 1) := by decide +kernel
theorem dX4_moon_1 : decode cX4_moon 1 = .ok (.ifCond .lt 10, 3) := by decide +kernel
theorem dX4_moon_4 : decode cX4_moon 4 = .ok (.iload_n 1, 1) := by decide +kernel
theorem dX4_moon_5 : decode cX4_moon 5 = .ok (.sipush 999, 3) := by decide +kernel
theorem dX4_moon_8 : decode cX4_moon 8 = .ok (.if_icmp .le 13, 3) := by decide +kernel
theorem dX4_moon_11 : decode cX4_moon 11 = .ok (.new 23, 3) := by decide +kernel
theorem dX4_moon_14 : decode cX4_moon 14 = .ok (.dup, 1) := by decide +kernel
theorem dX4_moon_15 : decode cX4_moon 15 = .ok (.ldc 168, 2) := by decide +kernel
theorem dX4_moon_17 : decode cX4_moon 17 = .ok (.invokespecial 27, 3) := by decide +kernel
theorem dX4_moon_20 : decode cX4_moon 20 = .ok (.athrow, 1) := by decide +kernel
theorem dX4_moon_21 : decode cX4_moon 21 = .ok (.iload_n 1, 1) := by decide +kernel
theorem dX4_moon_22 : decode cX4_moon 22 = .ok (.invokestatic 170, 3) := by decide +kernel
theorem dX4_moon_25 : decode cX4_moon 25 = .ok (.ireturn, 1) := by decide +kernel
theorem dX4_count_0 : decode cX4_count 0 = .ok (.iload_n 1, 1) := by decide +kernel
theorem dX4_count_1 : decode cX4_count 1 = .ok (.iconst 0, 1) := by decide +kernel
theorem dX4_count_2 : decode cX4_count 2 = .ok (.bipush 10, 2) := by decide +kernel
theorem dX4_count_4 : decode cX4_count 4 = .ok (.invokestatic 142, 3) := by decide +kernel
theorem dX4_count_7 : decode cX4_count 7 = .ok (.aload_n 0, 1) := by decide +kernel
theorem dX4_count_8 : decode cX4_count 8 = .ok (.getfield 10, 3) := by decide +kernel
theorem dX4_count_11 : decode cX4_count 11 = .ok (.iload_n 1, 1) := by decide +kernel
theorem dX4_count_12 : decode cX4_count 12 = .ok (.invokevirtual 173, 3) := by decide +kernel
theorem dX4_count_15 : decode cX4_count 15 = .ok (.ireturn, 1) := by decide +kernel
theorem dX4_pass_0 : decode cX4_pass 0 = .ok (.iload_n 1, 1) := by decide +kernel
theorem dX4_pass_1 : decode cX4_pass 1 = .ok (.invokestatic 176, 3) := by decide +kernel
theorem dX4_pass_4 : decode cX4_pass 4 = .ok (.aload_n 0, 1) := by decide +kernel
theorem dX4_pass_5 : decode cX4_pass 5 = .ok (.getfield 10, 3) := by decide +kernel
theorem dX4_pass_8 : decode cX4_pass 8 = .ok (.invokevirtual 179, 3) := by decide +kernel
theorem dX4_pass_11 : decode cX4_pass 11 = .ok (.istore_n 2, 1) := by decide +kernel
theorem dX4_pass_12 : decode cX4_pass 12 = .ok (.aload_n 0, 1) := by decide +kernel
theorem dX4_pass_13 : decode cX4_pass 13 = .ok (.getfield 10, 3) := by decide +kernel
theorem dX4_pass_16 : decode cX4_pass 16 = .ok (.iload_n 1, 1) := by decide +kernel
theorem dX4_pass_17 : decode cX4_pass 17 = .ok (.invokevirtual 182, 3) := by decide +kernel
theorem dX4_pass_20 : decode cX4_pass 20 = .ok (.aload_n 0, 1) := by decide +kernel
theorem dX4_pass_21 : decode cX4_pass 21 = .ok (.getfield 10, 3) := by decide +kernel
theorem dX4_pass_24 : decode cX4_pass 24 = .ok (.invokevirtual 179, 3) := by decide +kernel
theorem dX4_pass_27 : decode cX4_pass 27 = .ok (.iload_n 2, 1) := by decide +kernel
theorem dX4_pass_28 : decode cX4_pass 28 = .ok (.isub, 1) := by decide +kernel
theorem dX4_pass_29 : decode cX4_pass 29 = .ok (.ireturn, 1) := by decide +kernel
theorem dX4_until_0 : decode cX4_until 0 = .ok (.aload_n 0, 1) := by decide +kernel
theorem dX4_until_1 : decode cX4_until 1 = .ok (.iload_n 1, 1) := by decide +kernel
theorem dX4_until_2 : decode cX4_until 2 = .ok (.invokevirtual 123, 3) := by decide +kernel
theorem dX4_until_5 : decode cX4_until 5 = .ok (.aload_n 0, 1) := by decide +kernel
theorem dX4_until_6 : decode cX4_until 6 = .ok (.getfield 16, 3) := by decide +kernel
theorem dX4_until_9 : decode cX4_until 9 = .ok (.aload_n 0, 1) := by decide +kernel
theorem dX4_until_10 : decode cX4_until 10 = .ok (.getfield 10, 3) := by decide +kernel
theorem dX4_until_13 : decode cX4_until 13 = .ok (.invokevirtual 185, 3) := by decide +kernel
theorem dX4_until_16 : decode cX4_until 16 = .ok (.aload_n 0, 1) := by decide +kernel
theorem dX4_until_17 : decode cX4_until 17 = .ok (.getfield 16, 3) := by decide +kernel
theorem dX4_until_20 : decode cX4_until 20 = .ok (.getfield 114, 3) := by decide +kernel
theorem dX4_until_23 : decode cX4_until 23 = .ok (.iload_n 1, 1) := by decide +kernel
theorem dX4_until_24 : decode cX4_until 24 = .ok (.aaload, 1) := by decide +kernel
theorem dX4_until_25 : decode cX4_until 25 = .ok (.astore_n 2, 1) := by decide +kernel
theorem dX4_until_26 : decode cX4_until 26 = .ok (.iconst 0, 1) := by decide +kernel
theorem dX4_until_27 : decode cX4_until 27 = .ok (.istore_n 3, 1) := by decide +kernel
theorem dX4_until_28 : decode cX4_until 28 = .ok (.iload_n 3, 1) := by decide +kernel
theorem dX4_until_29 : decode cX4_until 29 = .ok (.bipush 120, 2) := by decide +kernel
theorem dX4_until_31 : decode cX4_until 31 = .ok (.if_icmp .ge 23, 3) := by decide +kernel
theorem dX4_until_34 : decode cX4_until 34 = .ok (.aload_n 2, 1) := by decide +kernel
theorem dX4_until_35 : decode cX4_until 35 = .ok (.getfield 189, 3) := by decide +kernel
theorem dX4_until_38 : decode cX4_until 38 = .ok (.ifCond .ne 16, 3) := by decide +kernel
theorem dX4_until_41 : decode cX4_until 41 = .ok (.aload_n 0, 1) := by decide +kernel
theorem dX4_until_42 : decode cX4_until 42 = .ok (.getfield 16, 3) := by decide +kernel
theorem dX4_until_45 : decode cX4_until 45 = .ok (.invokevirtual 192, 3) := by decide +kernel
theorem dX4_until_48 : decode cX4_until 48 = .ok (.iinc 3 1, 3) := by decide +kernel
theorem dX4_until_51 : decode cX4_until 51 = .ok (.goto (-23), 3) := by decide +kernel
theorem dX4_until_54 : decode cX4_until 54 = .ok (.aload_n 2, 1) := by decide +kernel
theorem dX4_until_55 : decode cX4_until 55 = .ok (.getfield 189, 3) := by decide +kernel
theorem dX4_until_58 : decode cX4_until 58 = .ok (.iconst 1, 1) := by decide +kernel
theorem dX4_until_59 : decode cX4_until 59 = .ok (.if_icmp .ne 7, 3) := by decide +kernel
theorem dX4_until_62 : decode cX4_until 62 = .ok (.iload_n 3, 1) := by decide +kernel
theorem dX4_until_63 : decode cX4_until 63 = .ok (.goto 4, 3) := by decide +kernel
theorem dX4_until_66 : decode cX4_until 66 = .ok (.iconst (-1), 1) := by decide +kernel
theorem dX4_until_67 : decode cX4_until 67 = .ok (.ireturn, 1) := by decide +kernel
theorem dX4_foresee_0 : decode cX4_foresee 0 = .ok (.iload_n 1, 1) := by decide +kernel
theorem dX4_foresee_1 : decode cX4_foresee 1 = .ok (.invokestatic 176, 3) := by decide +kernel
theorem dX4_foresee_4 : decode cX4_foresee 4 = .ok (.iload_n 2, 1) := by decide +kernel
theorem dX4_foresee_5 : decode cX4_foresee 5 = .ok (.iconst 4, 1) := by decide +kernel
theorem dX4_foresee_6 : decode cX4_foresee 6 = .ok (.bipush 10, 2) := by decide +kernel
theorem dX4_foresee_8 : decode cX4_foresee 8 = .ok (.invokestatic 142, 3) := by decide +kernel
theorem dX4_foresee_11 : decode cX4_foresee 11 = .ok (.aload_n 0, 1) := by decide +kernel
theorem dX4_foresee_12 : decode cX4_foresee 12 = .ok (.getfield 16, 3) := by decide +kernel
theorem dX4_foresee_15 : decode cX4_foresee 15 = .ok (.aload_n 0, 1) := by decide +kernel
theorem dX4_foresee_16 : decode cX4_foresee 16 = .ok (.getfield 10, 3) := by decide +kernel
theorem dX4_foresee_19 : decode cX4_foresee 19 = .ok (.invokevirtual 185, 3) := by decide +kernel
theorem dX4_foresee_22 : decode cX4_foresee 22 = .ok (.aload_n 0, 1) := by decide +kernel
theorem dX4_foresee_23 : decode cX4_foresee 23 = .ok (.getfield 16, 3) := by decide +kernel
theorem dX4_foresee_26 : decode cX4_foresee 26 = .ok (.iload_n 1, 1) := by decide +kernel
theorem dX4_foresee_27 : decode cX4_foresee 27 = .ok (.invokevirtual 182, 3) := by decide +kernel
theorem dX4_foresee_30 : decode cX4_foresee 30 = .ok (.aload_n 0, 1) := by decide +kernel
theorem dX4_foresee_31 : decode cX4_foresee 31 = .ok (.getfield 16, 3) := by decide +kernel
theorem dX4_foresee_34 : decode cX4_foresee 34 = .ok (.iload_n 2, 1) := by decide +kernel
theorem dX4_foresee_35 : decode cX4_foresee 35 = .ok (.invokevirtual 173, 3) := by decide +kernel
theorem dX4_foresee_38 : decode cX4_foresee 38 = .ok (.ireturn, 1) := by decide +kernel
theorem dX4_mean_0 : decode cX4_mean 0 = .ok (.aload_n 0, 1) := by decide +kernel
theorem dX4_mean_1 : decode cX4_mean 1 = .ok (.getfield 10, 3) := by decide +kernel
theorem dX4_mean_4 : decode cX4_mean 4 = .ok (.iconst 0, 1) := by decide +kernel
theorem dX4_mean_5 : decode cX4_mean 5 = .ok (.invokevirtual 201, 3) := by decide +kernel
theorem dX4_mean_8 : decode cX4_mean 8 = .ok (.istore_n 1, 1) := by decide +kernel
theorem dX4_mean_9 : decode cX4_mean 9 = .ok (.iload_n 1, 1) := by decide +kernel
theorem dX4_mean_10 : decode cX4_mean 10 = .ok (.ifCond .ne 5, 3) := by decide +kernel
theorem dX4_mean_13 : decode cX4_mean 13 = .ok (.dconst 0, 1) := by decide +kernel
theorem dX4_mean_14 : decode cX4_mean 14 = .ok (.dreturn, 1) := by decide +kernel
theorem dX4_mean_15 : decode cX4_mean 15 = .ok (.aload_n 0, 1) := by decide +kernel
theorem dX4_mean_16 : decode cX4_mean 16 = .ok (.getfield 10, 3) := by decide +kernel
theorem dX4_mean_19 : decode cX4_mean 19 = .ok (.invokevirtual 204, 3) := by decide +kernel
theorem dX4_mean_22 : decode cX4_mean 22 = .ok (.i2d, 1) := by decide +kernel
theorem dX4_mean_23 : decode cX4_mean 23 = .ok (.iload_n 1, 1) := by decide +kernel
theorem dX4_mean_24 : decode cX4_mean 24 = .ok (.i2d, 1) := by decide +kernel
theorem dX4_mean_25 : decode cX4_mean 25 = .ok (.ddiv, 1) := by decide +kernel
theorem dX4_mean_26 : decode cX4_mean 26 = .ok (.dreturn, 1) := by decide +kernel
theorem dX4_digest_0 : decode cX4_digest 0 = .ok (.ldc2_w 207, 3) := by decide +kernel
theorem dX4_digest_3 : decode cX4_digest 3 = .ok (.lstore_n 1, 1) := by decide +kernel
theorem dX4_digest_4 : decode cX4_digest 4 = .ok (.iconst 0, 1) := by decide +kernel
theorem dX4_digest_5 : decode cX4_digest 5 = .ok (.istore_n 3, 1) := by decide +kernel
theorem dX4_digest_6 : decode cX4_digest 6 = .ok (.iload_n 3, 1) := by decide +kernel
theorem dX4_digest_7 : decode cX4_digest 7 = .ok (.bipush 10, 2) := by decide +kernel
theorem dX4_digest_9 : decode cX4_digest 9 = .ok (.if_icmp .gt 22, 3) := by decide +kernel
theorem dX4_digest_12 : decode cX4_digest 12 = .ok (.lload_n 1, 1) := by decide +kernel
theorem dX4_digest_13 : decode cX4_digest 13 = .ok (.ldc2_w 209, 3) := by decide +kernel
theorem dX4_digest_16 : decode cX4_digest 16 = .ok (.lmul, 1) := by decide +kernel
theorem dX4_digest_17 : decode cX4_digest 17 = .ok (.aload_n 0, 1) := by decide +kernel
theorem dX4_digest_18 : decode cX4_digest 18 = .ok (.iload_n 3, 1) := by decide +kernel
theorem dX4_digest_19 : decode cX4_digest 19 = .ok (.invokevirtual 211, 3) := by decide +kernel
theorem dX4_digest_22 : decode cX4_digest 22 = .ok (.i2l, 1) := by decide +kernel
theorem dX4_digest_23 : decode cX4_digest 23 = .ok (.ladd, 1) := by decide +kernel
theorem dX4_digest_24 : decode cX4_digest 24 = .ok (.lstore_n 1, 1) := by decide +kernel
theorem dX4_digest_25 : decode cX4_digest 25 = .ok (.iinc 3 1, 3) := by decide +kernel
theorem dX4_digest_28 : decode cX4_digest 28 = .ok (.goto (-22), 3) := by decide +kernel
theorem dX4_digest_31 : decode cX4_digest 31 = .ok (.iconst 0, 1) := by decide +kernel
theorem dX4_digest_32 : decode cX4_digest 32 = .ok (.istore_n 3, 1) := by decide +kernel
theorem dX4_digest_33 : decode cX4_digest 33 = .ok (.iload_n 3, 1) := by decide +kernel
theorem dX4_digest_34 : decode cX4_digest 34 = .ok (.bipush 16, 2) := by decide +kernel
theorem dX4_digest_36 : decode cX4_digest 36 = .ok (.if_icmp .ge 39, 3) := by decide +kernel
theorem dX4_digest_39 : decode cX4_digest 39 = .ok (.iconst 0, 1) := by decide +kernel
theorem dX4_digest_40 : decode cX4_digest 40 = .ok (.istore 4, 2) := by decide +kernel
theorem dX4_digest_42 : decode cX4_digest 42 = .ok (.iload 4, 2) := by decide +kernel
theorem dX4_digest_44 : decode cX4_digest 44 = .ok (.iconst 4, 1) := by decide +kernel
theorem dX4_digest_45 : decode cX4_digest 45 = .ok (.if_icmp .gt 24, 3) := by decide +kernel
theorem dX4_digest_48 : decode cX4_digest 48 = .ok (.lload_n 1, 1) := by decide +kernel
theorem dX4_digest_49 : decode cX4_digest 49 = .ok (.ldc2_w 209, 3) := by decide +kernel
theorem dX4_digest_52 : decode cX4_digest 52 = .ok (.lmul, 1) := by decide +kernel
theorem dX4_digest_53 : decode cX4_digest 53 = .ok (.aload_n 0, 1) := by decide +kernel
theorem dX4_digest_54 : decode cX4_digest 54 = .ok (.iload_n 3, 1) := by decide +kernel
theorem dX4_digest_55 : decode cX4_digest 55 = .ok (.iload 4, 2) := by decide +kernel
theorem dX4_digest_57 : decode cX4_digest 57 = .ok (.invokevirtual 214, 3) := by decide +kernel
theorem dX4_digest_60 : decode cX4_digest 60 = .ok (.i2l, 1) := by decide +kernel
theorem dX4_digest_61 : decode cX4_digest 61 = .ok (.ladd, 1) := by decide +kernel
theorem dX4_digest_62 : decode cX4_digest 62 = .ok (.lstore_n 1, 1) := by decide +kernel
theorem dX4_digest_63 : decode cX4_digest 63 = .ok (.iinc 4 1, 3) := by decide +kernel
theorem dX4_digest_66 : decode cX4_digest 66 = .ok (.goto (-24), 3) := by decide +kernel
theorem dX4_digest_69 : decode cX4_digest 69 = .ok (.iinc 3 1, 3) := by decide +kernel
theorem dX4_digest_72 : decode cX4_digest 72 = .ok (.goto (-39), 3) := by decide +kernel
theorem dX4_digest_75 : decode cX4_digest 75 = .ok (.iconst 1, 1) := by decide +kernel
theorem dX4_digest_76 : decode cX4_digest 76 = .ok (.istore_n 3, 1) := by decide +kernel
theorem dX4_digest_77 : decode cX4_digest 77 = .ok (.iload_n 3, 1) := by decide +kernel
theorem dX4_digest_78 : decode cX4_digest 78 = .ok (.bipush 7, 2) := by decide +kernel
theorem dX4_digest_80 : decode cX4_digest 80 = .ok (.if_icmp .gt 39, 3) := by decide +kernel
theorem dX4_digest_83 : decode cX4_digest 83 = .ok (.iconst 0, 1) := by decide +kernel
theorem dX4_digest_84 : decode cX4_digest 84 = .ok (.istore 4, 2) := by decide +kernel
theorem dX4_digest_86 : decode cX4_digest 86 = .ok (.iload 4, 2) := by decide +kernel
theorem dX4_digest_88 : decode cX4_digest 88 = .ok (.iconst 3, 1) := by decide +kernel
theorem dX4_digest_89 : decode cX4_digest 89 = .ok (.if_icmp .gt 24, 3) := by decide +kernel
theorem dX4_digest_92 : decode cX4_digest 92 = .ok (.lload_n 1, 1) := by decide +kernel
theorem dX4_digest_93 : decode cX4_digest 93 = .ok (.ldc2_w 209, 3) := by decide +kernel
theorem dX4_digest_96 : decode cX4_digest 96 = .ok (.lmul, 1) := by decide +kernel
theorem dX4_digest_97 : decode cX4_digest 97 = .ok (.aload_n 0, 1) := by decide +kernel
theorem dX4_digest_98 : decode cX4_digest 98 = .ok (.iload_n 3, 1) := by decide +kernel
theorem dX4_digest_99 : decode cX4_digest 99 = .ok (.iload 4, 2) := by decide +kernel
theorem dX4_digest_101 : decode cX4_digest 101 = .ok (.invokevirtual 216, 3) := by decide +kernel
theorem dX4_digest_104 : decode cX4_digest 104 = .ok (.i2l, 1) := by decide +kernel
theorem dX4_digest_105 : decode cX4_digest 105 = .ok (.ladd, 1) := by decide +kernel
theorem dX4_digest_106 : decode cX4_digest 106 = .ok (.lstore_n 1, 1) := by decide +kernel
theorem dX4_digest_107 : decode cX4_digest 107 = .ok (.iinc 4 1, 3) := by decide +kernel
theorem dX4_digest_110 : decode cX4_digest 110 = .ok (.goto (-24), 3) := by decide +kernel
theorem dX4_digest_113 : decode cX4_digest 113 = .ok (.iinc 3 1, 3) := by decide +kernel
theorem dX4_digest_116 : decode cX4_digest 116 = .ok (.goto (-39), 3) := by decide +kernel
theorem dX4_digest_119 : decode cX4_digest 119 = .ok (.aload_n 0, 1) := by decide +kernel
theorem dX4_digest_120 : decode cX4_digest 120 = .ok (.aload_n 0, 1) := by decide +kernel
theorem dX4_digest_121 : decode cX4_digest 121 = .ok (.aload_n 0, 1) := by decide +kernel
theorem dX4_digest_122 : decode cX4_digest 122 = .ok (.lload_n 1, 1) := by decide +kernel
theorem dX4_digest_123 : decode cX4_digest 123 = .ok (.invokevirtual 219, 3) := by decide +kernel
theorem dX4_digest_126 : decode cX4_digest 126 = .ok (.invokevirtual 223, 3) := by decide +kernel
theorem dX4_digest_129 : decode cX4_digest 129 = .ok (.invokevirtual 226, 3) := by decide +kernel
theorem dX4_digest_132 : decode cX4_digest 132 = .ok (.lreturn, 1) := by decide +kernel
theorem dX4_digestOfLanterns_0 : decode cX4_digestOfLanterns 0 = .ok (.lload_n 1, 1) := by decide +kernel
theorem dX4_digestOfLanterns_1 : decode cX4_digestOfLanterns 1 = .ok (.lstore_n 3, 1) := by decide +kernel
theorem dX4_digestOfLanterns_2 : decode cX4_digestOfLanterns 2 = .ok (.iconst 0, 1) := by decide +kernel
theorem dX4_digestOfLanterns_3 : decode cX4_digestOfLanterns 3 = .ok (.istore 5, 2) := by decide +kernel
theorem dX4_digestOfLanterns_5 : decode cX4_digestOfLanterns 5 = .ok (.iload 5, 2) := by decide +kernel
theorem dX4_digestOfLanterns_7 : decode cX4_digestOfLanterns 7 = .ok (.aload_n 0, 1) := by decide +kernel
theorem dX4_digestOfLanterns_8 : decode cX4_digestOfLanterns 8 = .ok (.getfield 10, 3) := by decide +kernel
theorem dX4_digestOfLanterns_11 : decode cX4_digestOfLanterns 11 = .ok (.getfield 54, 3) := by decide +kernel
theorem dX4_digestOfLanterns_14 : decode cX4_digestOfLanterns 14 = .ok (.if_icmp .ge 80, 3) := by decide +kernel
theorem dX4_digestOfLanterns_17 : decode cX4_digestOfLanterns 17 = .ok (.iconst 0, 1) := by decide +kernel
theorem dX4_digestOfLanterns_18 : decode cX4_digestOfLanterns 18 = .ok (.istore 6, 2) := by decide +kernel
theorem dX4_digestOfLanterns_20 : decode cX4_digestOfLanterns 20 = .ok (.iload 6, 2) := by decide +kernel
theorem dX4_digestOfLanterns_22 : decode cX4_digestOfLanterns 22 = .ok (.iconst 3, 1) := by decide +kernel
theorem dX4_digestOfLanterns_23 : decode cX4_digestOfLanterns 23 = .ok (.if_icmp .gt 25, 3) := by decide +kernel
theorem dX4_digestOfLanterns_26 : decode cX4_digestOfLanterns 26 = .ok (.lload_n 3, 1) := by decide +kernel
theorem dX4_digestOfLanterns_27 : decode cX4_digestOfLanterns 27 = .ok (.ldc2_w 209, 3) := by decide +kernel
theorem dX4_digestOfLanterns_30 : decode cX4_digestOfLanterns 30 = .ok (.lmul, 1) := by decide +kernel
theorem dX4_digestOfLanterns_31 : decode cX4_digestOfLanterns 31 = .ok (.aload_n 0, 1) := by decide +kernel
theorem dX4_digestOfLanterns_32 : decode cX4_digestOfLanterns 32 = .ok (.iload 5, 2) := by decide +kernel
theorem dX4_digestOfLanterns_34 : decode cX4_digestOfLanterns 34 = .ok (.iload 6, 2) := by decide +kernel
theorem dX4_digestOfLanterns_36 : decode cX4_digestOfLanterns 36 = .ok (.invokevirtual 229, 3) := by decide +kernel
theorem dX4_digestOfLanterns_39 : decode cX4_digestOfLanterns 39 = .ok (.i2l, 1) := by decide +kernel
theorem dX4_digestOfLanterns_40 : decode cX4_digestOfLanterns 40 = .ok (.ladd, 1) := by decide +kernel
theorem dX4_digestOfLanterns_41 : decode cX4_digestOfLanterns 41 = .ok (.lstore_n 3, 1) := by decide +kernel
theorem dX4_digestOfLanterns_42 : decode cX4_digestOfLanterns 42 = .ok (.iinc 6 1, 3) := by decide +kernel
theorem dX4_digestOfLanterns_45 : decode cX4_digestOfLanterns 45 = .ok (.goto (-25), 3) := by decide +kernel
theorem dX4_digestOfLanterns_48 : decode cX4_digestOfLanterns 48 = .ok (.iconst 0, 1) := by decide +kernel
theorem dX4_digestOfLanterns_49 : decode cX4_digestOfLanterns 49 = .ok (.istore 6, 2) := by decide +kernel
theorem dX4_digestOfLanterns_51 : decode cX4_digestOfLanterns 51 = .ok (.iload 6, 2) := by decide +kernel
theorem dX4_digestOfLanterns_53 : decode cX4_digestOfLanterns 53 = .ok (.bipush 10, 2) := by decide +kernel
theorem dX4_digestOfLanterns_55 : decode cX4_digestOfLanterns 55 = .ok (.if_icmp .ge 33, 3) := by decide +kernel
theorem dX4_digestOfLanterns_58 : decode cX4_digestOfLanterns 58 = .ok (.lload_n 3, 1) := by decide +kernel
theorem dX4_digestOfLanterns_59 : decode cX4_digestOfLanterns 59 = .ok (.ldc2_w 209, 3) := by decide +kernel
theorem dX4_digestOfLanterns_62 : decode cX4_digestOfLanterns 62 = .ok (.lmul, 1) := by decide +kernel
theorem dX4_digestOfLanterns_63 : decode cX4_digestOfLanterns 63 = .ok (.aload_n 0, 1) := by decide +kernel
theorem dX4_digestOfLanterns_64 : decode cX4_digestOfLanterns 64 = .ok (.getfield 10, 3) := by decide +kernel
theorem dX4_digestOfLanterns_67 : decode cX4_digestOfLanterns 67 = .ok (.getfield 66, 3) := by decide +kernel
theorem dX4_digestOfLanterns_70 : decode cX4_digestOfLanterns 70 = .ok (.iload 5, 2) := by decide +kernel
theorem dX4_digestOfLanterns_72 : decode cX4_digestOfLanterns 72 = .ok (.aaload, 1) := by decide +kernel
theorem dX4_digestOfLanterns_73 : decode cX4_digestOfLanterns 73 = .ok (.getfield 85, 3) := by decide +kernel
theorem dX4_digestOfLanterns_76 : decode cX4_digestOfLanterns 76 = .ok (.iload 6, 2) := by decide +kernel
theorem dX4_digestOfLanterns_78 : decode cX4_digestOfLanterns 78 = .ok (.iaload, 1) := by decide +kernel
theorem dX4_digestOfLanterns_79 : decode cX4_digestOfLanterns 79 = .ok (.i2l, 1) := by decide +kernel
theorem dX4_digestOfLanterns_80 : decode cX4_digestOfLanterns 80 = .ok (.ladd, 1) := by decide +kernel
theorem dX4_digestOfLanterns_81 : decode cX4_digestOfLanterns 81 = .ok (.lstore_n 3, 1) := by decide +kernel
theorem dX4_digestOfLanterns_82 : decode cX4_digestOfLanterns 82 = .ok (.iinc 6 1, 3) := by decide +kernel
theorem dX4_digestOfLanterns_85 : decode cX4_digestOfLanterns 85 = .ok (.goto (-34), 3) := by decide +kernel
theorem dX4_digestOfLanterns_88 : decode cX4_digestOfLanterns 88 = .ok (.iinc 5 1, 3) := by decide +kernel
theorem dX4_digestOfLanterns_91 : decode cX4_digestOfLanterns 91 = .ok (.goto (-86), 3) := by decide +kernel
theorem dX4_digestOfLanterns_94 : decode cX4_digestOfLanterns 94 = .ok (.lload_n 3, 1) := by decide +kernel
theorem dX4_digestOfLanterns_95 : decode cX4_digestOfLanterns 95 = .ok (.lreturn, 1) := by decide +kernel
theorem dX4_digestOfWatchmen_0 : decode cX4_digestOfWatchmen 0 = .ok (.lload_n 1, 1) := by decide +kernel
theorem dX4_digestOfWatchmen_1 : decode cX4_digestOfWatchmen 1 = .ok (.lstore_n 3, 1) := by decide +kernel
theorem dX4_digestOfWatchmen_2 : decode cX4_digestOfWatchmen 2 = .ok (.iconst 0, 1) := by decide +kernel
theorem dX4_digestOfWatchmen_3 : decode cX4_digestOfWatchmen 3 = .ok (.istore 5, 2) := by decide +kernel
theorem dX4_digestOfWatchmen_5 : decode cX4_digestOfWatchmen 5 = .ok (.iload 5, 2) := by decide +kernel
theorem dX4_digestOfWatchmen_7 : decode cX4_digestOfWatchmen 7 = .ok (.aload_n 0, 1) := by decide +kernel
theorem dX4_digestOfWatchmen_8 : decode cX4_digestOfWatchmen 8 = .ok (.getfield 10, 3) := by decide +kernel
theorem dX4_digestOfWatchmen_11 : decode cX4_digestOfWatchmen 11 = .ok (.getfield 92, 3) := by decide +kernel
theorem dX4_digestOfWatchmen_14 : decode cX4_digestOfWatchmen 14 = .ok (.if_icmp .ge 40, 3) := by decide +kernel
theorem dX4_digestOfWatchmen_17 : decode cX4_digestOfWatchmen 17 = .ok (.iconst 0, 1) := by decide +kernel
theorem dX4_digestOfWatchmen_18 : decode cX4_digestOfWatchmen 18 = .ok (.istore 6, 2) := by decide +kernel
theorem dX4_digestOfWatchmen_20 : decode cX4_digestOfWatchmen 20 = .ok (.iload 6, 2) := by decide +kernel
theorem dX4_digestOfWatchmen_22 : decode cX4_digestOfWatchmen 22 = .ok (.iconst 4, 1) := by decide +kernel
theorem dX4_digestOfWatchmen_23 : decode cX4_digestOfWatchmen 23 = .ok (.if_icmp .gt 25, 3) := by decide +kernel
theorem dX4_digestOfWatchmen_26 : decode cX4_digestOfWatchmen 26 = .ok (.lload_n 3, 1) := by decide +kernel
theorem dX4_digestOfWatchmen_27 : decode cX4_digestOfWatchmen 27 = .ok (.ldc2_w 209, 3) := by decide +kernel
theorem dX4_digestOfWatchmen_30 : decode cX4_digestOfWatchmen 30 = .ok (.lmul, 1) := by decide +kernel
theorem dX4_digestOfWatchmen_31 : decode cX4_digestOfWatchmen 31 = .ok (.aload_n 0, 1) := by decide +kernel
theorem dX4_digestOfWatchmen_32 : decode cX4_digestOfWatchmen 32 = .ok (.iload 5, 2) := by decide +kernel
theorem dX4_digestOfWatchmen_34 : decode cX4_digestOfWatchmen 34 = .ok (.iload 6, 2) := by decide +kernel
theorem dX4_digestOfWatchmen_36 : decode cX4_digestOfWatchmen 36 = .ok (.invokevirtual 232, 3) := by decide +kernel
theorem dX4_digestOfWatchmen_39 : decode cX4_digestOfWatchmen 39 = .ok (.i2l, 1) := by decide +kernel
theorem dX4_digestOfWatchmen_40 : decode cX4_digestOfWatchmen 40 = .ok (.ladd, 1) := by decide +kernel
theorem dX4_digestOfWatchmen_41 : decode cX4_digestOfWatchmen 41 = .ok (.lstore_n 3, 1) := by decide +kernel
theorem dX4_digestOfWatchmen_42 : decode cX4_digestOfWatchmen 42 = .ok (.iinc 6 1, 3) := by decide +kernel
theorem dX4_digestOfWatchmen_45 : decode cX4_digestOfWatchmen 45 = .ok (.goto (-25), 3) := by decide +kernel
theorem dX4_digestOfWatchmen_48 : decode cX4_digestOfWatchmen 48 = .ok (.iinc 5 1, 3) := by decide +kernel
theorem dX4_digestOfWatchmen_51 : decode cX4_digestOfWatchmen 51 = .ok (.goto (-46), 3) := by decide +kernel
theorem dX4_digestOfWatchmen_54 : decode cX4_digestOfWatchmen 54 = .ok (.lload_n 3, 1) := by decide +kernel
theorem dX4_digestOfWatchmen_55 : decode cX4_digestOfWatchmen 55 = .ok (.lreturn, 1) := by decide +kernel
theorem dX4_digestOfBoats_0 : decode cX4_digestOfBoats 0 = .ok (.lload_n 1, 1) := by decide +kernel
theorem dX4_digestOfBoats_1 : decode cX4_digestOfBoats 1 = .ok (.lstore_n 3, 1) := by decide +kernel
theorem dX4_digestOfBoats_2 : decode cX4_digestOfBoats 2 = .ok (.iconst 0, 1) := by decide +kernel
theorem dX4_digestOfBoats_3 : decode cX4_digestOfBoats 3 = .ok (.istore 5, 2) := by decide +kernel
theorem dX4_digestOfBoats_5 : decode cX4_digestOfBoats 5 = .ok (.iload 5, 2) := by decide +kernel
theorem dX4_digestOfBoats_7 : decode cX4_digestOfBoats 7 = .ok (.aload_n 0, 1) := by decide +kernel
theorem dX4_digestOfBoats_8 : decode cX4_digestOfBoats 8 = .ok (.getfield 10, 3) := by decide +kernel
theorem dX4_digestOfBoats_11 : decode cX4_digestOfBoats 11 = .ok (.getfield 109, 3) := by decide +kernel
theorem dX4_digestOfBoats_14 : decode cX4_digestOfBoats 14 = .ok (.if_icmp .ge 41, 3) := by decide +kernel
theorem dX4_digestOfBoats_17 : decode cX4_digestOfBoats 17 = .ok (.iconst 0, 1) := by decide +kernel
theorem dX4_digestOfBoats_18 : decode cX4_digestOfBoats 18 = .ok (.istore 6, 2) := by decide +kernel
theorem dX4_digestOfBoats_20 : decode cX4_digestOfBoats 20 = .ok (.iload 6, 2) := by decide +kernel
theorem dX4_digestOfBoats_22 : decode cX4_digestOfBoats 22 = .ok (.bipush 6, 2) := by decide +kernel
theorem dX4_digestOfBoats_24 : decode cX4_digestOfBoats 24 = .ok (.if_icmp .gt 25, 3) := by decide +kernel
theorem dX4_digestOfBoats_27 : decode cX4_digestOfBoats 27 = .ok (.lload_n 3, 1) := by decide +kernel
theorem dX4_digestOfBoats_28 : decode cX4_digestOfBoats 28 = .ok (.ldc2_w 209, 3) := by decide +kernel
theorem dX4_digestOfBoats_31 : decode cX4_digestOfBoats 31 = .ok (.lmul, 1) := by decide +kernel
theorem dX4_digestOfBoats_32 : decode cX4_digestOfBoats 32 = .ok (.aload_n 0, 1) := by decide +kernel
theorem dX4_digestOfBoats_33 : decode cX4_digestOfBoats 33 = .ok (.iload 5, 2) := by decide +kernel
theorem dX4_digestOfBoats_35 : decode cX4_digestOfBoats 35 = .ok (.iload 6, 2) := by decide +kernel
theorem dX4_digestOfBoats_37 : decode cX4_digestOfBoats 37 = .ok (.invokevirtual 235, 3) := by decide +kernel
theorem dX4_digestOfBoats_40 : decode cX4_digestOfBoats 40 = .ok (.i2l, 1) := by decide +kernel
theorem dX4_digestOfBoats_41 : decode cX4_digestOfBoats 41 = .ok (.ladd, 1) := by decide +kernel
theorem dX4_digestOfBoats_42 : decode cX4_digestOfBoats 42 = .ok (.lstore_n 3, 1) := by decide +kernel
theorem dX4_digestOfBoats_43 : decode cX4_digestOfBoats 43 = .ok (.iinc 6 1, 3) := by decide +kernel
theorem dX4_digestOfBoats_46 : decode cX4_digestOfBoats 46 = .ok (.goto (-26), 3) := by decide +kernel
theorem dX4_digestOfBoats_49 : decode cX4_digestOfBoats 49 = .ok (.iinc 5 1, 3) := by decide +kernel
theorem dX4_digestOfBoats_52 : decode cX4_digestOfBoats 52 = .ok (.goto (-47), 3) := by decide +kernel
theorem dX4_digestOfBoats_55 : decode cX4_digestOfBoats 55 = .ok (.lload_n 3, 1) := by decide +kernel
theorem dX4_digestOfBoats_56 : decode cX4_digestOfBoats 56 = .ok (.lreturn, 1) := by decide +kernel
theorem dX4_requirePlace_0 : decode cX4_requirePlace 0 = .ok (.iload_n 0, 1) := by decide +kernel
theorem dX4_requirePlace_1 : decode cX4_requirePlace 1 = .ok (.ifCond .lt 9, 3) := by decide +kernel
theorem dX4_requirePlace_4 : decode cX4_requirePlace 4 = .ok (.iload_n 0, 1) := by decide +kernel
theorem dX4_requirePlace_5 : decode cX4_requirePlace 5 = .ok (.bipush 16, 2) := by decide +kernel
theorem dX4_requirePlace_7 : decode cX4_requirePlace 7 = .ok (.if_icmp .lt 13, 3) := by decide +kernel
theorem dX4_requirePlace_10 : decode cX4_requirePlace 10 = .ok (.new 78, 3) := by decide +kernel
theorem dX4_requirePlace_13 : decode cX4_requirePlace 13 = .ok (.dup, 1) := by decide +kernel
theorem dX4_requirePlace_14 : decode cX4_requirePlace 14 = .ok (.ldc 241, 2) := by decide +kernel
theorem dX4_requirePlace_16 : decode cX4_requirePlace 16 = .ok (.invokespecial 82, 3) := by decide +kernel
theorem dX4_requirePlace_19 : decode cX4_requirePlace 19 = .ok (.athrow, 1) := by decide +kernel
theorem dX4_requirePlace_20 : decode cX4_requirePlace 20 = .ok (.return_, 1) := by decide +kernel
theorem dX4_requirePlaceOrNone_0 : decode cX4_requirePlaceOrNone 0 = .ok (.iload_n 0, 1) := by decide +kernel
theorem dX4_requirePlaceOrNone_1 : decode cX4_requirePlaceOrNone 1 = .ok (.iconst (-1), 1) := by decide +kernel
theorem dX4_requirePlaceOrNone_2 : decode cX4_requirePlaceOrNone 2 = .ok (.if_icmp .lt 9, 3) := by decide +kernel
theorem dX4_requirePlaceOrNone_5 : decode cX4_requirePlaceOrNone 5 = .ok (.iload_n 0, 1) := by decide +kernel
theorem dX4_requirePlaceOrNone_6 : decode cX4_requirePlaceOrNone 6 = .ok (.bipush 16, 2) := by decide +kernel
theorem dX4_requirePlaceOrNone_8 : decode cX4_requirePlaceOrNone 8 = .ok (.if_icmp .lt 13, 3) := by decide +kernel
theorem dX4_requirePlaceOrNone_11 : decode cX4_requirePlaceOrNone 11 = .ok (.new 78, 3) := by decide +kernel
theorem dX4_requirePlaceOrNone_14 : decode cX4_requirePlaceOrNone 14 = .ok (.dup, 1) := by decide +kernel
theorem dX4_requirePlaceOrNone_15 : decode cX4_requirePlaceOrNone 15 = .ok (.ldc 243, 2) := by decide +kernel
theorem dX4_requirePlaceOrNone_17 : decode cX4_requirePlaceOrNone 17 = .ok (.invokespecial 82, 3) := by decide +kernel
theorem dX4_requirePlaceOrNone_20 : decode cX4_requirePlaceOrNone 20 = .ok (.athrow, 1) := by decide +kernel
theorem dX4_requirePlaceOrNone_21 : decode cX4_requirePlaceOrNone 21 = .ok (.return_, 1) := by decide +kernel
theorem dX4_requireCode_0 : decode cX4_requireCode 0 = .ok (.iload_n 0, 1) := by decide +kernel
theorem dX4_requireCode_1 : decode cX4_requireCode 1 = .ok (.iconst 1, 1) := by decide +kernel
theorem dX4_requireCode_2 : decode cX4_requireCode 2 = .ok (.if_icmp .lt 9, 3) := by decide +kernel
theorem dX4_requireCode_5 : decode cX4_requireCode 5 = .ok (.iload_n 0, 1) := by decide +kernel
theorem dX4_requireCode_6 : decode cX4_requireCode 6 = .ok (.bipush 7, 2) := by decide +kernel
theorem dX4_requireCode_8 : decode cX4_requireCode 8 = .ok (.if_icmp .le 13, 3) := by decide +kernel
theorem dX4_requireCode_11 : decode cX4_requireCode 11 = .ok (.new 78, 3) := by decide +kernel
theorem dX4_requireCode_14 : decode cX4_requireCode 14 = .ok (.dup, 1) := by decide +kernel
theorem dX4_requireCode_15 : decode cX4_requireCode 15 = .ok (.ldc 245, 2) := by decide +kernel
theorem dX4_requireCode_17 : decode cX4_requireCode 17 = .ok (.invokespecial 82, 3) := by decide +kernel
theorem dX4_requireCode_20 : decode cX4_requireCode 20 = .ok (.athrow, 1) := by decide +kernel
theorem dX4_requireCode_21 : decode cX4_requireCode 21 = .ok (.return_, 1) := by decide +kernel
theorem dX4_requireWhat_0 : decode cX4_requireWhat 0 = .ok (.iload_n 0, 1) := by decide +kernel
theorem dX4_requireWhat_1 : decode cX4_requireWhat 1 = .ok (.iload_n 1, 1) := by decide +kernel
theorem dX4_requireWhat_2 : decode cX4_requireWhat 2 = .ok (.if_icmp .lt 8, 3) := by decide +kernel
theorem dX4_requireWhat_5 : decode cX4_requireWhat 5 = .ok (.iload_n 0, 1) := by decide +kernel
theorem dX4_requireWhat_6 : decode cX4_requireWhat 6 = .ok (.iload_n 2, 1) := by decide +kernel
theorem dX4_requireWhat_7 : decode cX4_requireWhat 7 = .ok (.if_icmp .le 13, 3) := by decide +kernel
theorem dX4_requireWhat_10 : decode cX4_requireWhat 10 = .ok (.new 78, 3) := by decide +kernel
theorem dX4_requireWhat_13 : decode cX4_requireWhat 13 = .ok (.dup, 1) := by decide +kernel
theorem dX4_requireWhat_14 : decode cX4_requireWhat 14 = .ok (.ldc 247, 2) := by decide +kernel
theorem dX4_requireWhat_16 : decode cX4_requireWhat 16 = .ok (.invokespecial 82, 3) := by decide +kernel
theorem dX4_requireWhat_19 : decode cX4_requireWhat 19 = .ok (.athrow, 1) := by decide +kernel
theorem dX4_requireWhat_20 : decode cX4_requireWhat 20 = .ok (.return_, 1) := by decide +kernel
theorem dX4_requireHours_0 : decode cX4_requireHours 0 = .ok (.iload_n 0, 1) := by decide +kernel
theorem dX4_requireHours_1 : decode cX4_requireHours 1 = .ok (.iconst 1, 1) := by decide +kernel
theorem dX4_requireHours_2 : decode cX4_requireHours 2 = .ok (.if_icmp .lt 9, 3) := by decide +kernel
theorem dX4_requireHours_5 : decode cX4_requireHours 5 = .ok (.iload_n 0, 1) := by decide +kernel
theorem dX4_requireHours_6 : decode cX4_requireHours 6 = .ok (.bipush 60, 2) := by decide +kernel
theorem dX4_requireHours_8 : decode cX4_requireHours 8 = .ok (.if_icmp .le 13, 3) := by decide +kernel
theorem dX4_requireHours_11 : decode cX4_requireHours 11 = .ok (.new 23, 3) := by decide +kernel
theorem dX4_requireHours_14 : decode cX4_requireHours 14 = .ok (.dup, 1) := by decide +kernel
theorem dX4_requireHours_15 : decode cX4_requireHours 15 = .ok (.ldc 249, 2) := by decide +kernel
theorem dX4_requireHours_17 : decode cX4_requireHours 17 = .ok (.invokespecial 27, 3) := by decide +kernel
theorem dX4_requireHours_20 : decode cX4_requireHours 20 = .ok (.athrow, 1) := by decide +kernel
theorem dX4_requireHours_21 : decode cX4_requireHours 21 = .ok (.return_, 1) := by decide +kernel
theorem dX4_requireLantern_0 : decode cX4_requireLantern 0 = .ok (.iload_n 1, 1) := by decide +kernel
theorem dX4_requireLantern_1 : decode cX4_requireLantern 1 = .ok (.ifCond .lt 14, 3) := by decide +kernel
theorem dX4_requireLantern_4 : decode cX4_requireLantern 4 = .ok (.iload_n 1, 1) := by decide +kernel
theorem dX4_requireLantern_5 : decode cX4_requireLantern 5 = .ok (.aload_n 0, 1) := by decide +kernel
theorem dX4_requireLantern_6 : decode cX4_requireLantern 6 = .ok (.getfield 10, 3) := by decide +kernel
theorem dX4_requireLantern_9 : decode cX4_requireLantern 9 = .ok (.getfield 54, 3) := by decide +kernel
theorem dX4_requireLantern_12 : decode cX4_requireLantern 12 = .ok (.if_icmp .lt 13, 3) := by decide +kernel
theorem dX4_requireLantern_15 : decode cX4_requireLantern 15 = .ok (.new 78, 3) := by decide +kernel
theorem dX4_requireLantern_18 : decode cX4_requireLantern 18 = .ok (.dup, 1) := by decide +kernel
theorem dX4_requireLantern_19 : decode cX4_requireLantern 19 = .ok (.ldc 251, 2) := by decide +kernel
theorem dX4_requireLantern_21 : decode cX4_requireLantern 21 = .ok (.invokespecial 82, 3) := by decide +kernel
theorem dX4_requireLantern_24 : decode cX4_requireLantern 24 = .ok (.athrow, 1) := by decide +kernel
theorem dX4_requireLantern_25 : decode cX4_requireLantern 25 = .ok (.return_, 1) := by decide +kernel
theorem dX4_requireBoat_0 : decode cX4_requireBoat 0 = .ok (.iload_n 1, 1) := by decide +kernel
theorem dX4_requireBoat_1 : decode cX4_requireBoat 1 = .ok (.ifCond .lt 14, 3) := by decide +kernel
theorem dX4_requireBoat_4 : decode cX4_requireBoat 4 = .ok (.iload_n 1, 1) := by decide +kernel
theorem dX4_requireBoat_5 : decode cX4_requireBoat 5 = .ok (.aload_n 0, 1) := by decide +kernel
theorem dX4_requireBoat_6 : decode cX4_requireBoat 6 = .ok (.getfield 10, 3) := by decide +kernel
theorem dX4_requireBoat_9 : decode cX4_requireBoat 9 = .ok (.getfield 109, 3) := by decide +kernel
theorem dX4_requireBoat_12 : decode cX4_requireBoat 12 = .ok (.if_icmp .lt 13, 3) := by decide +kernel
theorem dX4_requireBoat_15 : decode cX4_requireBoat 15 = .ok (.new 78, 3) := by decide +kernel
theorem dX4_requireBoat_18 : decode cX4_requireBoat 18 = .ok (.dup, 1) := by decide +kernel
theorem dX4_requireBoat_19 : decode cX4_requireBoat 19 = .ok (.ldc 253, 2) := by decide +kernel
theorem dX4_requireBoat_21 : decode cX4_requireBoat 21 = .ok (.invokespecial 82, 3) := by decide +kernel
theorem dX4_requireBoat_24 : decode cX4_requireBoat 24 = .ok (.athrow, 1) := by decide +kernel
theorem dX4_requireBoat_25 : decode cX4_requireBoat 25 = .ok (.return_, 1) := by decide +kernel
theorem dX4_requireAtSea_0 : decode cX4_requireAtSea 0 = .ok (.aload_n 0, 1) := by decide +kernel
theorem dX4_requireAtSea_1 : decode cX4_requireAtSea 1 = .ok (.getfield 10, 3) := by decide +kernel
theorem dX4_requireAtSea_4 : decode cX4_requireAtSea 4 = .ok (.getfield 114, 3) := by decide +kernel
theorem dX4_requireAtSea_7 : decode cX4_requireAtSea 7 = .ok (.iload_n 1, 1) := by decide +kernel
theorem dX4_requireAtSea_8 : decode cX4_requireAtSea 8 = .ok (.aaload, 1) := by decide +kernel
theorem dX4_requireAtSea_9 : decode cX4_requireAtSea 9 = .ok (.getfield 189, 3) := by decide +kernel
theorem dX4_requireAtSea_12 : decode cX4_requireAtSea 12 = .ok (.ifCond .eq 13, 3) := by decide +kernel
theorem dX4_requireAtSea_15 : decode cX4_requireAtSea 15 = .ok (.new 34, 3) := by decide +kernel
theorem dX4_requireAtSea_18 : decode cX4_requireAtSea 18 = .ok (.dup, 1) := by decide +kernel
theorem dX4_requireAtSea_19 : decode cX4_requireAtSea 19 = .ok (.ldc 255, 2) := by decide +kernel
theorem dX4_requireAtSea_21 : decode cX4_requireAtSea 21 = .ok (.invokespecial 38, 3) := by decide +kernel
theorem dX4_requireAtSea_24 : decode cX4_requireAtSea 24 = .ok (.athrow, 1) := by decide +kernel
theorem dX4_requireAtSea_25 : decode cX4_requireAtSea 25 = .ok (.return_, 1) := by decide +kernel
theorem dX4_moonOf_0 : decode cX4_moonOf 0 = .ok (.iload_n 0, 1) := by decide +kernel
theorem dX4_moonOf_1 : decode cX4_moonOf 1 = .ok (.bipush 12, 2) := by decide +kernel
theorem dX4_moonOf_3 : decode cX4_moonOf 3 = .ok (.invokestatic 257, 3) := by decide +kernel
theorem dX4_moonOf_6 : decode cX4_moonOf 6 = .ok (.bipush 6, 2) := by decide +kernel
theorem dX4_moonOf_8 : decode cX4_moonOf 8 = .ok (.isub, 1) := by decide +kernel
theorem dX4_moonOf_9 : decode cX4_moonOf 9 = .ok (.istore_n 1, 1) := by decide +kernel
theorem dX4_moonOf_10 : decode cX4_moonOf 10 = .ok (.iload_n 1, 1) := by decide +kernel
theorem dX4_moonOf_11 : decode cX4_moonOf 11 = .ok (.ifCond .ge 8, 3) := by decide +kernel
theorem dX4_moonOf_14 : decode cX4_moonOf 14 = .ok (.iload_n 1, 1) := by decide +kernel
theorem dX4_moonOf_15 : decode cX4_moonOf 15 = .ok (.ineg, 1) := by decide +kernel
theorem dX4_moonOf_16 : decode cX4_moonOf 16 = .ok (.goto 4, 3) := by decide +kernel
theorem dX4_moonOf_19 : decode cX4_moonOf 19 = .ok (.iload_n 1, 1) := by decide +kernel
theorem dX4_moonOf_20 : decode cX4_moonOf 20 = .ok (.ireturn, 1) := by decide +kernel
theorem dX4_distance_0 : decode cX4_distance 0 = .ok (.iload_n 0, 1) := by decide +kernel
theorem dX4_distance_1 : decode cX4_distance 1 = .ok (.iload_n 1, 1) := by decide +kernel
theorem dX4_distance_2 : decode cX4_distance 2 = .ok (.if_icmp .ge 9, 3) := by decide +kernel
theorem dX4_distance_5 : decode cX4_distance 5 = .ok (.iload_n 1, 1) := by decide +kernel
theorem dX4_distance_6 : decode cX4_distance 6 = .ok (.iload_n 0, 1) := by decide +kernel
theorem dX4_distance_7 : decode cX4_distance 7 = .ok (.isub, 1) := by decide +kernel
theorem dX4_distance_8 : decode cX4_distance 8 = .ok (.goto 6, 3) := by decide +kernel
theorem dX4_distance_11 : decode cX4_distance 11 = .ok (.iload_n 0, 1) := by decide +kernel
theorem dX4_distance_12 : decode cX4_distance 12 = .ok (.iload_n 1, 1) := by decide +kernel
theorem dX4_distance_13 : decode cX4_distance 13 = .ok (.isub, 1) := by decide +kernel
theorem dX4_distance_14 : decode cX4_distance 14 = .ok (.ireturn, 1) := by decide +kernel
theorem dX5_init_0 : decode cX5_init 0 = .ok (.aload_n 0, 1) := by decide +kernel
theorem dX5_init_1 : decode cX5_init 1 = .ok (.invokespecial 1, 3) := by decide +kernel
theorem dX5_init_4 : decode cX5_init 4 = .ok (.aload_n 0, 1) := by decide +kernel
theorem dX5_init_5 : decode cX5_init 5 = .ok (.bipush 16, 2) := by decide +kernel
theorem dX5_init_7 : decode cX5_init 7 = .ok (.newarray .int, 2) := by decide +kernel
theorem dX5_init_9 : decode cX5_init 9 = .ok (.putfield 7, 3) := by decide +kernel
theorem dX5_init_12 : decode cX5_init 12 = .ok (.aload_n 0, 1) := by decide +kernel
theorem dX5_init_13 : decode cX5_init 13 = .ok (.bipush 16, 2) := by decide +kernel
theorem dX5_init_15 : decode cX5_init 15 = .ok (.newarray .int, 2) := by decide +kernel
theorem dX5_init_17 : decode cX5_init 17 = .ok (.putfield 13, 3) := by decide +kernel
theorem dX5_init_20 : decode cX5_init 20 = .ok (.aload_n 0, 1) := by decide +kernel
theorem dX5_init_21 : decode cX5_init 21 = .ok (.bipush 8, 2) := by decide +kernel
theorem dX5_init_23 : decode cX5_init 23 = .ok (.newarray .int, 2) := by decide +kernel
theorem dX5_init_25 : decode cX5_init 25 = .ok (.dup, 1) := by decide +kernel
theorem dX5_init_26 : decode cX5_init 26 = .ok (.iconst 0, 1) := by decide +kernel
theorem dX5_init_27 : decode cX5_init 27 = .ok (.iconst (-1), 1) := by decide +kernel
theorem dX5_init_28 : decode cX5_init 28 = .ok (.iastore, 1) := by decide +kernel
theorem dX5_init_29 : decode cX5_init 29 = .ok (.dup, 1) := by decide +kernel
theorem dX5_init_30 : decode cX5_init 30 = .ok (.iconst 1, 1) := by decide +kernel
theorem dX5_init_31 : decode cX5_init 31 = .ok (.iconst (-1), 1) := by decide +kernel
theorem dX5_init_32 : decode cX5_init 32 = .ok (.iastore, 1) := by decide +kernel
theorem dX5_init_33 : decode cX5_init 33 = .ok (.dup, 1) := by decide +kernel
theorem dX5_init_34 : decode cX5_init 34 = .ok (.iconst 2, 1) := by decide +kernel
theorem dX5_init_35 : decode cX5_init 35 = .ok (.iconst (-1), 1) := by decide +kernel
theorem dX5_init_36 : decode cX5_init 36 = .ok (.iastore, 1) := by decide +kernel
theorem dX5_init_37 : decode cX5_init 37 = .ok (.dup, 1) := by decide +kernel
theorem dX5_init_38 : decode cX5_init 38 = .ok (.iconst 3, 1) := by decide +kernel
theorem dX5_init_39 : decode cX5_init 39 = .ok (.iconst (-1), 1) := by decide +kernel
theorem dX5_init_40 : decode cX5_init 40 = .ok (.iastore, 1) := by decide +kernel
theorem dX5_init_41 : decode cX5_init 41 = .ok (.dup, 1) := by decide +kernel
theorem dX5_init_42 : decode cX5_init 42 = .ok (.iconst 4, 1) := by decide +kernel
theorem dX5_init_43 : decode cX5_init 43 = .ok (.iconst (-1), 1) := by decide +kernel
theorem dX5_init_44 : decode cX5_init 44 = .ok (.iastore, 1) := by decide +kernel
theorem dX5_init_45 : decode cX5_init 45 = .ok (.dup, 1) := by decide +kernel
theorem dX5_init_46 : decode cX5_init 46 = .ok (.iconst 5, 1) := by decide +kernel
theorem dX5_init_47 : decode cX5_init 47 = .ok (.iconst (-1), 1) := by decide +kernel
theorem dX5_init_48 : decode cX5_init 48 = .ok (.iastore, 1) := by decide +kernel
theorem dX5_init_49 : decode cX5_init 49 = .ok (.dup, 1) := by decide +kernel
theorem dX5_init_50 : decode cX5_init 50 = .ok (.bipush 6, 2) := by decide +kernel
theorem dX5_init_52 : decode cX5_init 52 = .ok (.iconst (-1), 1) := by decide +kernel
theorem dX5_init_53 : decode cX5_init 53 = .ok (.iastore, 1) := by decide +kernel
theorem dX5_init_54 : decode cX5_init 54 = .ok (.dup, 1) := by decide +kernel
theorem dX5_init_55 : decode cX5_init 55 = .ok (.bipush 7, 2) := by decide +kernel
theorem dX5_init_57 : decode cX5_init 57 = .ok (.iconst (-1), 1) := by decide +kernel
theorem dX5_init_58 : decode cX5_init 58 = .ok (.iastore, 1) := by decide +kernel
theorem dX5_init_59 : decode cX5_init 59 = .ok (.putfield 16, 3) := by decide +kernel
theorem dX5_init_62 : decode cX5_init 62 = .ok (.aload_n 0, 1) := by decide +kernel
theorem dX5_init_63 : decode cX5_init 63 = .ok (.bipush 8, 2) := by decide +kernel
theorem dX5_init_65 : decode cX5_init 65 = .ok (.newarray .int, 2) := by decide +kernel
theorem dX5_init_67 : decode cX5_init 67 = .ok (.putfield 19, 3) := by decide +kernel
theorem dX5_init_70 : decode cX5_init 70 = .ok (.aload_n 0, 1) := by decide +kernel
theorem dX5_init_71 : decode cX5_init 71 = .ok (.iconst 0, 1) := by decide +kernel
theorem dX5_init_72 : decode cX5_init 72 = .ok (.anewarray 22, 3) := by decide +kernel
theorem dX5_init_75 : decode cX5_init 75 = .ok (.putfield 23, 3) := by decide +kernel
theorem dX5_init_78 : decode cX5_init 78 = .ok (.aload_n 0, 1) := by decide +kernel
theorem dX5_init_79 : decode cX5_init 79 = .ok (.iconst 0, 1) := by decide +kernel
theorem dX5_init_80 : decode cX5_init 80 = .ok (.anewarray 22, 3) := by decide +kernel
theorem dX5_init_83 : decode cX5_init 83 = .ok (.putfield 27, 3) := by decide +kernel
theorem dX5_init_86 : decode cX5_init 86 = .ok (.aload_n 0, 1) := by decide +kernel
theorem dX5_init_87 : decode cX5_init 87 = .ok (.iconst 0, 1) := by decide +kernel
theorem dX5_init_88 : decode cX5_init 88 = .ok (.anewarray 22, 3) := by decide +kernel
theorem dX5_init_91 : decode cX5_init 91 = .ok (.putfield 30, 3) := by decide +kernel
theorem dX5_init_94 : decode cX5_init 94 = .ok (.return_, 1) := by decide +kernel
theorem dX5_with_0 : decode cX5_with 0 = .ok (.aload_n 0, 1) := by decide +kernel
theorem dX5_with_1 : decode cX5_with 1 = .ok (.arraylength, 1) := by decide +kernel
theorem dX5_with_2 : decode cX5_with 2 = .ok (.iconst 1, 1) := by decide +kernel
theorem dX5_with_3 : decode cX5_with 3 = .ok (.iadd, 1) := by decide +kernel
theorem dX5_with_4 : decode cX5_with 4 = .ok (.anewarray 22, 3) := by decide +kernel
theorem dX5_with_7 : decode cX5_with 7 = .ok (.astore_n 2, 1) := by decide +kernel
theorem dX5_with_8 : decode cX5_with 8 = .ok (.iconst 0, 1) := by decide +kernel
theorem dX5_with_9 : decode cX5_with 9 = .ok (.istore_n 3, 1) := by decide +kernel
theorem dX5_with_10 : decode cX5_with 10 = .ok (.iload_n 3, 1) := by decide +kernel
theorem dX5_with_11 : decode cX5_with 11 = .ok (.aload_n 0, 1) := by decide +kernel
theorem dX5_with_12 : decode cX5_with 12 = .ok (.arraylength, 1) := by decide +kernel
theorem dX5_with_13 : decode cX5_with 13 = .ok (.if_icmp .ge 15, 3) := by decide +kernel
theorem dX5_with_16 : decode cX5_with 16 = .ok (.aload_n 2, 1) := by decide +kernel
theorem dX5_with_17 : decode cX5_with 17 = .ok (.iload_n 3, 1) := by decide +kernel
theorem dX5_with_18 : decode cX5_with 18 = .ok (.aload_n 0, 1) := by decide +kernel
theorem dX5_with_19 : decode cX5_with 19 = .ok (.iload_n 3, 1) := by decide +kernel
theorem dX5_with_20 : decode cX5_with 20 = .ok (.aaload, 1) := by decide +kernel
theorem dX5_with_21 : decode cX5_with 21 = .ok (.aastore, 1) := by decide +kernel
theorem dX5_with_22 : decode cX5_with 22 = .ok (.iinc 3 1, 3) := by decide +kernel
theorem dX5_with_25 : decode cX5_with 25 = .ok (.goto (-15), 3) := by decide +kernel
theorem dX5_with_28 : decode cX5_with 28 = .ok (.aload_n 2, 1) := by decide +kernel
theorem dX5_with_29 : decode cX5_with 29 = .ok (.aload_n 0, 1) := by decide +kernel
theorem dX5_with_30 : decode cX5_with 30 = .ok (.arraylength, 1) := by decide +kernel
theorem dX5_with_31 : decode cX5_with 31 = .ok (.aload_n 1, 1) := by decide +kernel
theorem dX5_with_32 : decode cX5_with 32 = .ok (.aastore, 1) := by decide +kernel
theorem dX5_with_33 : decode cX5_with 33 = .ok (.aload_n 2, 1) := by decide +kernel
theorem dX5_with_34 : decode cX5_with 34 = .ok (.areturn, 1) := by decide +kernel
theorem dX5_moon_0 : decode cX5_moon 0 = .ok (.aload_n 0, 1) := by decide +kernel
theorem dX5_moon_1 : decode cX5_moon 1 = .ok (.getfield 40, 3) := by decide +kernel
theorem dX5_moon_4 : decode cX5_moon 4 = .ok (.bipush 10, 2) := by decide +kernel
theorem dX5_moon_6 : decode cX5_moon 6 = .ok (.idiv, 1) := by decide +kernel
theorem dX5_moon_7 : decode cX5_moon 7 = .ok (.bipush 12, 2) := by decide +kernel
theorem dX5_moon_9 : decode cX5_moon 9 = .ok (.irem, 1) := by decide +kernel
theorem dX5_moon_10 : decode cX5_moon 10 = .ok (.istore_n 1, 1) := by decide +kernel
theorem dX5_moon_11 : decode cX5_moon 11 = .ok (.iload_n 1, 1) := by decide +kernel
theorem dX5_moon_12 : decode cX5_moon 12 = .ok (.bipush 6, 2) := by decide +kernel
theorem dX5_moon_14 : decode cX5_moon 14 = .ok (.if_icmp .ge 10, 3) := by decide +kernel
theorem dX5_moon_17 : decode cX5_moon 17 = .ok (.bipush 6, 2) := by decide +kernel
theorem dX5_moon_19 : decode cX5_moon 19 = .ok (.iload_n 1, 1) := by decide +kernel
theorem dX5_moon_20 : decode cX5_moon 20 = .ok (.isub, 1) := by decide +kernel
theorem dX5_moon_21 : decode cX5_moon 21 = .ok (.goto 7, 3) := by decide +kernel
theorem dX5_moon_24 : decode cX5_moon 24 = .ok (.iload_n 1, 1) := by decide +kernel
theorem dX5_moon_25 : decode cX5_moon 25 = .ok (.bipush 6, 2) := by decide +kernel
theorem dX5_moon_27 : decode cX5_moon 27 = .ok (.isub, 1) := by decide +kernel
theorem dX5_moon_28 : decode cX5_moon 28 = .ok (.ireturn, 1) := by decide +kernel
theorem dX5_shown_0 : decode cX5_shown 0 = .ok (.aload_n 0, 1) := by decide +kernel
theorem dX5_shown_1 : decode cX5_shown 1 = .ok (.getfield 23, 3) := by decide +kernel
theorem dX5_shown_4 : decode cX5_shown 4 = .ok (.iload_n 1, 1) := by decide +kernel
theorem dX5_shown_5 : decode cX5_shown 5 = .ok (.aaload, 1) := by decide +kernel
theorem dX5_shown_6 : decode cX5_shown 6 = .ok (.iconst 1, 1) := by decide +kernel
theorem dX5_shown_7 : decode cX5_shown 7 = .ok (.aload_n 0, 1) := by decide +kernel
theorem dX5_shown_8 : decode cX5_shown 8 = .ok (.getfield 40, 3) := by decide +kernel
theorem dX5_shown_11 : decode cX5_shown 11 = .ok (.bipush 10, 2) := by decide +kernel
theorem dX5_shown_13 : decode cX5_shown 13 = .ok (.irem, 1) := by decide +kernel
theorem dX5_shown_14 : decode cX5_shown 14 = .ok (.iadd, 1) := by decide +kernel
theorem dX5_shown_15 : decode cX5_shown 15 = .ok (.iaload, 1) := by decide +kernel
theorem dX5_shown_16 : decode cX5_shown 16 = .ok (.ireturn, 1) := by decide +kernel
theorem dX5_far_0 : decode cX5_far 0 = .ok (.iload_n 0, 1) := by decide +kernel
theorem dX5_far_1 : decode cX5_far 1 = .ok (.iload_n 1, 1) := by decide +kernel
theorem dX5_far_2 : decode cX5_far 2 = .ok (.if_icmp .ge 9, 3) := by decide +kernel
theorem dX5_far_5 : decode cX5_far 5 = .ok (.iload_n 1, 1) := by decide +kernel
theorem dX5_far_6 : decode cX5_far 6 = .ok (.iload_n 0, 1) := by decide +kernel
theorem dX5_far_7 : decode cX5_far 7 = .ok (.isub, 1) := by decide +kernel
theorem dX5_far_8 : decode cX5_far 8 = .ok (.goto 6, 3) := by decide +kernel
theorem dX5_far_11 : decode cX5_far 11 = .ok (.iload_n 0, 1) := by decide +kernel
theorem dX5_far_12 : decode cX5_far 12 = .ok (.iload_n 1, 1) := by decide +kernel
theorem dX5_far_13 : decode cX5_far 13 = .ok (.isub, 1) := by decide +kernel
theorem dX5_far_14 : decode cX5_far 14 = .ok (.ireturn, 1) := by decide +kernel
theorem dX5_sees_0 : decode cX5_sees 0 = .ok (.aload_n 0, 1) := by decide +kernel
theorem dX5_sees_1 : decode cX5_sees 1 = .ok (.getfield 27, 3) := by decide +kernel
theorem dX5_sees_4 : decode cX5_sees 4 = .ok (.iload_n 1, 1) := by decide +kernel
theorem dX5_sees_5 : decode cX5_sees 5 = .ok (.aaload, 1) := by decide +kernel
theorem dX5_sees_6 : decode cX5_sees 6 = .ok (.iconst 3, 1) := by decide +kernel
theorem dX5_sees_7 : decode cX5_sees 7 = .ok (.iaload, 1) := by decide +kernel
theorem dX5_sees_8 : decode cX5_sees 8 = .ok (.iload_n 2, 1) := by decide +kernel
theorem dX5_sees_9 : decode cX5_sees 9 = .ok (.invokestatic 54, 3) := by decide +kernel
theorem dX5_sees_12 : decode cX5_sees 12 = .ok (.aload_n 0, 1) := by decide +kernel
theorem dX5_sees_13 : decode cX5_sees 13 = .ok (.getfield 27, 3) := by decide +kernel
theorem dX5_sees_16 : decode cX5_sees 16 = .ok (.iload_n 1, 1) := by decide +kernel
theorem dX5_sees_17 : decode cX5_sees 17 = .ok (.aaload, 1) := by decide +kernel
theorem dX5_sees_18 : decode cX5_sees 18 = .ok (.iconst 2, 1) := by decide +kernel
theorem dX5_sees_19 : decode cX5_sees 19 = .ok (.iaload, 1) := by decide +kernel
theorem dX5_sees_20 : decode cX5_sees 20 = .ok (.aload_n 0, 1) := by decide +kernel
theorem dX5_sees_21 : decode cX5_sees 21 = .ok (.invokevirtual 58, 3) := by decide +kernel
theorem dX5_sees_24 : decode cX5_sees 24 = .ok (.iconst 2, 1) := by decide +kernel
theorem dX5_sees_25 : decode cX5_sees 25 = .ok (.idiv, 1) := by decide +kernel
theorem dX5_sees_26 : decode cX5_sees 26 = .ok (.iadd, 1) := by decide +kernel
theorem dX5_sees_27 : decode cX5_sees 27 = .ok (.iload_n 3, 1) := by decide +kernel
theorem dX5_sees_28 : decode cX5_sees 28 = .ok (.iadd, 1) := by decide +kernel
theorem dX5_sees_29 : decode cX5_sees 29 = .ok (.if_icmp .gt 7, 3) := by decide +kernel
theorem dX5_sees_32 : decode cX5_sees 32 = .ok (.iconst 1, 1) := by decide +kernel
theorem dX5_sees_33 : decode cX5_sees 33 = .ok (.goto 4, 3) := by decide +kernel
theorem dX5_sees_36 : decode cX5_sees 36 = .ok (.iconst 0, 1) := by decide +kernel
theorem dX5_sees_37 : decode cX5_sees 37 = .ok (.ireturn, 1) := by decide +kernel
theorem dX5_seesLight_0 : decode cX5_seesLight 0 = .ok (.aload_n 0, 1) := by decide +kernel
theorem dX5_seesLight_1 : decode cX5_seesLight 1 = .ok (.getfield 27, 3) := by decide +kernel
theorem dX5_seesLight_4 : decode cX5_seesLight 4 = .ok (.iload_n 1, 1) := by decide +kernel
theorem dX5_seesLight_5 : decode cX5_seesLight 5 = .ok (.aaload, 1) := by decide +kernel
theorem dX5_seesLight_6 : decode cX5_seesLight 6 = .ok (.iconst 3, 1) := by decide +kernel
theorem dX5_seesLight_7 : decode cX5_seesLight 7 = .ok (.iaload, 1) := by decide +kernel
theorem dX5_seesLight_8 : decode cX5_seesLight 8 = .ok (.aload_n 0, 1) := by decide +kernel
theorem dX5_seesLight_9 : decode cX5_seesLight 9 = .ok (.getfield 23, 3) := by decide +kernel
theorem dX5_seesLight_12 : decode cX5_seesLight 12 = .ok (.iload_n 2, 1) := by decide +kernel
theorem dX5_seesLight_13 : decode cX5_seesLight 13 = .ok (.aaload, 1) := by decide +kernel
theorem dX5_seesLight_14 : decode cX5_seesLight 14 = .ok (.iconst 0, 1) := by decide +kernel
theorem dX5_seesLight_15 : decode cX5_seesLight 15 = .ok (.iaload, 1) := by decide +kernel
theorem dX5_seesLight_16 : decode cX5_seesLight 16 = .ok (.invokestatic 54, 3) := by decide +kernel
theorem dX5_seesLight_19 : decode cX5_seesLight 19 = .ok (.iconst 2, 1) := by decide +kernel
theorem dX5_seesLight_20 : decode cX5_seesLight 20 = .ok (.aload_n 0, 1) := by decide +kernel
theorem dX5_seesLight_21 : decode cX5_seesLight 21 = .ok (.getfield 27, 3) := by decide +kernel
theorem dX5_seesLight_24 : decode cX5_seesLight 24 = .ok (.iload_n 1, 1) := by decide +kernel
theorem dX5_seesLight_25 : decode cX5_seesLight 25 = .ok (.aaload, 1) := by decide +kernel
theorem dX5_seesLight_26 : decode cX5_seesLight 26 = .ok (.iconst 2, 1) := by decide +kernel
theorem dX5_seesLight_27 : decode cX5_seesLight 27 = .ok (.iaload, 1) := by decide +kernel
theorem dX5_seesLight_28 : decode cX5_seesLight 28 = .ok (.imul, 1) := by decide +kernel
theorem dX5_seesLight_29 : decode cX5_seesLight 29 = .ok (.bipush 6, 2) := by decide +kernel
theorem dX5_seesLight_31 : decode cX5_seesLight 31 = .ok (.iadd, 1) := by decide +kernel
theorem dX5_seesLight_32 : decode cX5_seesLight 32 = .ok (.aload_n 0, 1) := by decide +kernel
theorem dX5_seesLight_33 : decode cX5_seesLight 33 = .ok (.invokevirtual 58, 3) := by decide +kernel
theorem dX5_seesLight_36 : decode cX5_seesLight 36 = .ok (.isub, 1) := by decide +kernel
theorem dX5_seesLight_37 : decode cX5_seesLight 37 = .ok (.if_icmp .gt 7, 3) := by decide +kernel
theorem dX5_seesLight_40 : decode cX5_seesLight 40 = .ok (.iconst 1, 1) := by decide +kernel
theorem dX5_seesLight_41 : decode cX5_seesLight 41 = .ok (.goto 4, 3) := by decide +kernel
theorem dX5_seesLight_44 : decode cX5_seesLight 44 = .ok (.iconst 0, 1) := by decide +kernel
theorem dX5_seesLight_45 : decode cX5_seesLight 45 = .ok (.ireturn, 1) := by decide +kernel
theorem dX5_watchers_0 : decode cX5_watchers 0 = .ok (.iconst 0, 1) := by decide +kernel
theorem dX5_watchers_1 : decode cX5_watchers 1 = .ok (.istore_n 2, 1) := by decide +kernel
theorem dX5_watchers_2 : decode cX5_watchers 2 = .ok (.iconst 0, 1) := by decide +kernel
theorem dX5_watchers_3 : decode cX5_watchers 3 = .ok (.istore_n 3, 1) := by decide +kernel
theorem dX5_watchers_4 : decode cX5_watchers 4 = .ok (.iload_n 3, 1) := by decide +kernel
theorem dX5_watchers_5 : decode cX5_watchers 5 = .ok (.aload_n 0, 1) := by decide +kernel
theorem dX5_watchers_6 : decode cX5_watchers 6 = .ok (.getfield 27, 3) := by decide +kernel
theorem dX5_watchers_9 : decode cX5_watchers 9 = .ok (.arraylength, 1) := by decide +kernel
theorem dX5_watchers_10 : decode cX5_watchers 10 = .ok (.if_icmp .ge 27, 3) := by decide +kernel
theorem dX5_watchers_13 : decode cX5_watchers 13 = .ok (.iload_n 2, 1) := by decide +kernel
theorem dX5_watchers_14 : decode cX5_watchers 14 = .ok (.aload_n 0, 1) := by decide +kernel
theorem dX5_watchers_15 : decode cX5_watchers 15 = .ok (.iload_n 3, 1) := by decide +kernel
theorem dX5_watchers_16 : decode cX5_watchers 16 = .ok (.iload_n 1, 1) := by decide +kernel
theorem dX5_watchers_17 : decode cX5_watchers 17 = .ok (.iconst 0, 1) := by decide +kernel
theorem dX5_watchers_18 : decode cX5_watchers 18 = .ok (.invokevirtual 62, 3) := by decide +kernel
theorem dX5_watchers_21 : decode cX5_watchers 21 = .ok (.ifCond .eq 7, 3) := by decide +kernel
theorem dX5_watchers_24 : decode cX5_watchers 24 = .ok (.iconst 1, 1) := by decide +kernel
theorem dX5_watchers_25 : decode cX5_watchers 25 = .ok (.goto 4, 3) := by decide +kernel
theorem dX5_watchers_28 : decode cX5_watchers 28 = .ok (.iconst 0, 1) := by decide +kernel
theorem dX5_watchers_29 : decode cX5_watchers 29 = .ok (.iadd, 1) := by decide +kernel
theorem dX5_watchers_30 : decode cX5_watchers 30 = .ok (.istore_n 2, 1) := by decide +kernel
theorem dX5_watchers_31 : decode cX5_watchers 31 = .ok (.iinc 3 1, 3) := by decide +kernel
theorem dX5_watchers_34 : decode cX5_watchers 34 = .ok (.goto (-30), 3) := by decide +kernel
theorem dX5_watchers_37 : decode cX5_watchers 37 = .ok (.iload_n 2, 1) := by decide +kernel
theorem dX5_watchers_38 : decode cX5_watchers 38 = .ok (.ireturn, 1) := by decide +kernel
theorem dX5_lightWatchers_0 : decode cX5_lightWatchers 0 = .ok (.iconst 0, 1) := by decide +kernel
theorem dX5_lightWatchers_1 : decode cX5_lightWatchers 1 = .ok (.istore_n 2, 1) := by decide +kernel
theorem dX5_lightWatchers_2 : decode cX5_lightWatchers 2 = .ok (.iconst 0, 1) := by decide +kernel
theorem dX5_lightWatchers_3 : decode cX5_lightWatchers 3 = .ok (.istore_n 3, 1) := by decide +kernel
theorem dX5_lightWatchers_4 : decode cX5_lightWatchers 4 = .ok (.iload_n 3, 1) := by decide +kernel
theorem dX5_lightWatchers_5 : decode cX5_lightWatchers 5 = .ok (.aload_n 0, 1) := by decide +kernel
theorem dX5_lightWatchers_6 : decode cX5_lightWatchers 6 = .ok (.getfield 27, 3) := by decide +kernel
theorem dX5_lightWatchers_9 : decode cX5_lightWatchers 9 = .ok (.arraylength, 1) := by decide +kernel
theorem dX5_lightWatchers_10 : decode cX5_lightWatchers 10 = .ok (.if_icmp .ge 26, 3) := by decide +kernel
theorem dX5_lightWatchers_13 : decode cX5_lightWatchers 13 = .ok (.iload_n 2, 1) := by decide +kernel
theorem dX5_lightWatchers_14 : decode cX5_lightWatchers 14 = .ok (.aload_n 0, 1) := by decide +kernel
theorem dX5_lightWatchers_15 : decode cX5_lightWatchers 15 = .ok (.iload_n 3, 1) := by decide +kernel
theorem dX5_lightWatchers_16 : decode cX5_lightWatchers 16 = .ok (.iload_n 1, 1) := by decide +kernel
theorem dX5_lightWatchers_17 : decode cX5_lightWatchers 17 = .ok (.invokevirtual 66, 3) := by decide +kernel
theorem dX5_lightWatchers_20 : decode cX5_lightWatchers 20 = .ok (.ifCond .eq 7, 3) := by decide +kernel
theorem dX5_lightWatchers_23 : decode cX5_lightWatchers 23 = .ok (.iconst 1, 1) := by decide +kernel
theorem dX5_lightWatchers_24 : decode cX5_lightWatchers 24 = .ok (.goto 4, 3) := by decide +kernel
theorem dX5_lightWatchers_27 : decode cX5_lightWatchers 27 = .ok (.iconst 0, 1) := by decide +kernel
theorem dX5_lightWatchers_28 : decode cX5_lightWatchers 28 = .ok (.iadd, 1) := by decide +kernel
theorem dX5_lightWatchers_29 : decode cX5_lightWatchers 29 = .ok (.istore_n 2, 1) := by decide +kernel
theorem dX5_lightWatchers_30 : decode cX5_lightWatchers 30 = .ok (.iinc 3 1, 3) := by decide +kernel
theorem dX5_lightWatchers_33 : decode cX5_lightWatchers 33 = .ok (.goto (-29), 3) := by decide +kernel
theorem dX5_lightWatchers_36 : decode cX5_lightWatchers 36 = .ok (.iload_n 2, 1) := by decide +kernel
theorem dX5_lightWatchers_37 : decode cX5_lightWatchers 37 = .ok (.ireturn, 1) := by decide +kernel
theorem dX5_leads_0 : decode cX5_leads 0 = .ok (.iconst 0, 1) := by decide +kernel
theorem dX5_leads_1 : decode cX5_leads 1 = .ok (.istore_n 2, 1) := by decide +kernel
theorem dX5_leads_2 : decode cX5_leads 2 = .ok (.iload_n 2, 1) := by decide +kernel
theorem dX5_leads_3 : decode cX5_leads 3 = .ok (.bipush 9, 2) := by decide +kernel
theorem dX5_leads_5 : decode cX5_leads 5 = .ok (.aload_n 0, 1) := by decide +kernel
theorem dX5_leads_6 : decode cX5_leads 6 = .ok (.invokevirtual 58, 3) := by decide +kernel
theorem dX5_leads_9 : decode cX5_leads 9 = .ok (.isub, 1) := by decide +kernel
theorem dX5_leads_10 : decode cX5_leads 10 = .ok (.if_icmp .gt 67, 3) := by decide +kernel
theorem dX5_leads_13 : decode cX5_leads 13 = .ok (.iconst 0, 1) := by decide +kernel
theorem dX5_leads_14 : decode cX5_leads 14 = .ok (.istore_n 3, 1) := by decide +kernel
theorem dX5_leads_15 : decode cX5_leads 15 = .ok (.iload_n 3, 1) := by decide +kernel
theorem dX5_leads_16 : decode cX5_leads 16 = .ok (.aload_n 0, 1) := by decide +kernel
theorem dX5_leads_17 : decode cX5_leads 17 = .ok (.getfield 23, 3) := by decide +kernel
theorem dX5_leads_20 : decode cX5_leads 20 = .ok (.arraylength, 1) := by decide +kernel
theorem dX5_leads_21 : decode cX5_leads 21 = .ok (.if_icmp .ge 50, 3) := by decide +kernel
theorem dX5_leads_24 : decode cX5_leads 24 = .ok (.aload_n 0, 1) := by decide +kernel
theorem dX5_leads_25 : decode cX5_leads 25 = .ok (.getfield 23, 3) := by decide +kernel
theorem dX5_leads_28 : decode cX5_leads 28 = .ok (.iload_n 3, 1) := by decide +kernel
theorem dX5_leads_29 : decode cX5_leads 29 = .ok (.aaload, 1) := by decide +kernel
theorem dX5_leads_30 : decode cX5_leads 30 = .ok (.iconst 0, 1) := by decide +kernel
theorem dX5_leads_31 : decode cX5_leads 31 = .ok (.iaload, 1) := by decide +kernel
theorem dX5_leads_32 : decode cX5_leads 32 = .ok (.aload_n 1, 1) := by decide +kernel
theorem dX5_leads_33 : decode cX5_leads 33 = .ok (.iconst 0, 1) := by decide +kernel
theorem dX5_leads_34 : decode cX5_leads 34 = .ok (.iaload, 1) := by decide +kernel
theorem dX5_leads_35 : decode cX5_leads 35 = .ok (.invokestatic 54, 3) := by decide +kernel
theorem dX5_leads_38 : decode cX5_leads 38 = .ok (.iload_n 2, 1) := by decide +kernel
theorem dX5_leads_39 : decode cX5_leads 39 = .ok (.if_icmp .ne 26, 3) := by decide +kernel
theorem dX5_leads_42 : decode cX5_leads 42 = .ok (.aload_n 0, 1) := by decide +kernel
theorem dX5_leads_43 : decode cX5_leads 43 = .ok (.iload_n 3, 1) := by decide +kernel
theorem dX5_leads_44 : decode cX5_leads 44 = .ok (.invokevirtual 70, 3) := by decide +kernel
theorem dX5_leads_47 : decode cX5_leads 47 = .ok (.ifCond .le 18, 3) := by decide +kernel
theorem dX5_leads_50 : decode cX5_leads 50 = .ok (.aload_n 0, 1) := by decide +kernel
theorem dX5_leads_51 : decode cX5_leads 51 = .ok (.getfield 16, 3) := by decide +kernel
theorem dX5_leads_54 : decode cX5_leads 54 = .ok (.aload_n 0, 1) := by decide +kernel
theorem dX5_leads_55 : decode cX5_leads 55 = .ok (.iload_n 3, 1) := by decide +kernel
theorem dX5_leads_56 : decode cX5_leads 56 = .ok (.invokevirtual 70, 3) := by decide +kernel
theorem dX5_leads_59 : decode cX5_leads 59 = .ok (.iaload, 1) := by decide +kernel
theorem dX5_leads_60 : decode cX5_leads 60 = .ok (.ifCond .lt 5, 3) := by decide +kernel
theorem dX5_leads_63 : decode cX5_leads 63 = .ok (.iload_n 3, 1) := by decide +kernel
theorem dX5_leads_64 : decode cX5_leads 64 = .ok (.ireturn, 1) := by decide +kernel
theorem dX5_leads_65 : decode cX5_leads 65 = .ok (.iinc 3 1, 3) := by decide +kernel
theorem dX5_leads_68 : decode cX5_leads 68 = .ok (.goto (-53), 3) := by decide +kernel
theorem dX5_leads_71 : decode cX5_leads 71 = .ok (.iinc 2 1, 3) := by decide +kernel
theorem dX5_leads_74 : decode cX5_leads 74 = .ok (.goto (-72), 3) := by decide +kernel
theorem dX5_leads_77 : decode cX5_leads 77 = .ok (.iconst (-1), 1) := by decide +kernel
theorem dX5_leads_78 : decode cX5_leads 78 = .ok (.ireturn, 1) := by decide +kernel
theorem dX5_go_0 : decode cX5_go 0 = .ok (.iconst 0, 1) := by decide +kernel
theorem dX5_go_1 : decode cX5_go 1 = .ok (.istore_n 1, 1) := by decide +kernel
theorem dX5_go_2 : decode cX5_go 2 = .ok (.iconst 0, 1) := by decide +kernel
theorem dX5_go_3 : decode cX5_go 3 = .ok (.istore_n 2, 1) := by decide +kernel
theorem dX5_go_4 : decode cX5_go 4 = .ok (.iload_n 2, 1) := by decide +kernel
theorem dX5_go_5 : decode cX5_go 5 = .ok (.aload_n 0, 1) := by decide +kernel
theorem dX5_go_6 : decode cX5_go 6 = .ok (.getfield 23, 3) := by decide +kernel
theorem dX5_go_9 : decode cX5_go 9 = .ok (.arraylength, 1) := by decide +kernel
theorem dX5_go_10 : decode cX5_go 10 = .ok (.if_icmp .ge 55, 3) := by decide +kernel
theorem dX5_go_13 : decode cX5_go 13 = .ok (.aload_n 0, 1) := by decide +kernel
theorem dX5_go_14 : decode cX5_go 14 = .ok (.iload_n 2, 1) := by decide +kernel
theorem dX5_go_15 : decode cX5_go 15 = .ok (.invokevirtual 70, 3) := by decide +kernel
theorem dX5_go_18 : decode cX5_go 18 = .ok (.ifCond .eq 41, 3) := by decide +kernel
theorem dX5_go_21 : decode cX5_go 21 = .ok (.aload_n 0, 1) := by decide +kernel
theorem dX5_go_22 : decode cX5_go 22 = .ok (.iload_n 2, 1) := by decide +kernel
theorem dX5_go_23 : decode cX5_go 23 = .ok (.invokevirtual 74, 3) := by decide +kernel
theorem dX5_go_26 : decode cX5_go 26 = .ok (.ifCond .ne 6, 3) := by decide +kernel
theorem dX5_go_29 : decode cX5_go 29 = .ok (.goto 30, 3) := by decide +kernel
theorem dX5_go_32 : decode cX5_go 32 = .ok (.aload_n 0, 1) := by decide +kernel
theorem dX5_go_33 : decode cX5_go 33 = .ok (.getfield 19, 3) := by decide +kernel
theorem dX5_go_36 : decode cX5_go 36 = .ok (.aload_n 0, 1) := by decide +kernel
theorem dX5_go_37 : decode cX5_go 37 = .ok (.iload_n 2, 1) := by decide +kernel
theorem dX5_go_38 : decode cX5_go 38 = .ok (.invokevirtual 70, 3) := by decide +kernel
theorem dX5_go_41 : decode cX5_go 41 = .ok (.dup2, 1) := by decide +kernel
theorem dX5_go_42 : decode cX5_go 42 = .ok (.iaload, 1) := by decide +kernel
theorem dX5_go_43 : decode cX5_go 43 = .ok (.iconst 1, 1) := by decide +kernel
theorem dX5_go_44 : decode cX5_go 44 = .ok (.iadd, 1) := by decide +kernel
theorem dX5_go_45 : decode cX5_go 45 = .ok (.iastore, 1) := by decide +kernel
theorem dX5_go_46 : decode cX5_go 46 = .ok (.aload_n 0, 1) := by decide +kernel
theorem dX5_go_47 : decode cX5_go 47 = .ok (.getfield 23, 3) := by decide +kernel
theorem dX5_go_50 : decode cX5_go 50 = .ok (.iload_n 2, 1) := by decide +kernel
theorem dX5_go_51 : decode cX5_go 51 = .ok (.aaload, 1) := by decide +kernel
theorem dX5_go_52 : decode cX5_go 52 = .ok (.bipush 11, 2) := by decide +kernel
theorem dX5_go_54 : decode cX5_go 54 = .ok (.dup2, 1) := by decide +kernel
theorem dX5_go_55 : decode cX5_go 55 = .ok (.iaload, 1) := by decide +kernel
theorem dX5_go_56 : decode cX5_go 56 = .ok (.iconst 1, 1) := by decide +kernel
theorem dX5_go_57 : decode cX5_go 57 = .ok (.iadd, 1) := by decide +kernel
theorem dX5_go_58 : decode cX5_go 58 = .ok (.iastore, 1) := by decide +kernel
theorem dX5_go_59 : decode cX5_go 59 = .ok (.iinc 2 1, 3) := by decide +kernel
theorem dX5_go_62 : decode cX5_go 62 = .ok (.goto (-58), 3) := by decide +kernel
theorem dX5_go_65 : decode cX5_go 65 = .ok (.aload_n 0, 1) := by decide +kernel
theorem dX5_go_66 : decode cX5_go 66 = .ok (.getfield 30, 3) := by decide +kernel
theorem dX5_go_69 : decode cX5_go 69 = .ok (.astore_n 2, 1) := by decide +kernel
theorem dX5_go_70 : decode cX5_go 70 = .ok (.aload_n 2, 1) := by decide +kernel
theorem dX5_go_71 : decode cX5_go 71 = .ok (.arraylength, 1) := by decide +kernel
theorem dX5_go_72 : decode cX5_go 72 = .ok (.istore_n 3, 1) := by decide +kernel
theorem dX5_go_73 : decode cX5_go 73 = .ok (.iconst 0, 1) := by decide +kernel
theorem dX5_go_74 : decode cX5_go 74 = .ok (.istore 4, 2) := by decide +kernel
theorem dX5_go_76 : decode cX5_go 76 = .ok (.iload 4, 2) := by decide +kernel
theorem dX5_go_78 : decode cX5_go 78 = .ok (.iload_n 3, 1) := by decide +kernel
theorem dX5_go_79 : decode cX5_go 79 = .ok (.if_icmp .ge 233, 3) := by decide +kernel
theorem dX5_go_82 : decode cX5_go 82 = .ok (.aload_n 2, 1) := by decide +kernel
theorem dX5_go_83 : decode cX5_go 83 = .ok (.iload 4, 2) := by decide +kernel
theorem dX5_go_85 : decode cX5_go 85 = .ok (.aaload, 1) := by decide +kernel
theorem dX5_go_86 : decode cX5_go 86 = .ok (.astore 5, 2) := by decide +kernel
theorem dX5_go_88 : decode cX5_go 88 = .ok (.aload 5, 2) := by decide +kernel
theorem dX5_go_90 : decode cX5_go 90 = .ok (.iconst 3, 1) := by decide +kernel
theorem dX5_go_91 : decode cX5_go 91 = .ok (.iaload, 1) := by decide +kernel
theorem dX5_go_92 : decode cX5_go 92 = .ok (.ifCond .eq 6, 3) := by decide +kernel
theorem dX5_go_95 : decode cX5_go 95 = .ok (.goto 211, 3) := by decide +kernel
theorem dX5_go_98 : decode cX5_go 98 = .ok (.aload 5, 2) := by decide +kernel
theorem dX5_go_100 : decode cX5_go 100 = .ok (.iconst 0, 1) := by decide +kernel
theorem dX5_go_101 : decode cX5_go 101 = .ok (.iaload, 1) := by decide +kernel
theorem dX5_go_102 : decode cX5_go 102 = .ok (.aload 5, 2) := by decide +kernel
theorem dX5_go_104 : decode cX5_go 104 = .ok (.iconst 2, 1) := by decide +kernel
theorem dX5_go_105 : decode cX5_go 105 = .ok (.iaload, 1) := by decide +kernel
theorem dX5_go_106 : decode cX5_go 106 = .ok (.if_icmp .ne 93, 3) := by decide +kernel
theorem dX5_go_109 : decode cX5_go 109 = .ok (.iconst 0, 1) := by decide +kernel
theorem dX5_go_110 : decode cX5_go 110 = .ok (.istore 6, 2) := by decide +kernel
theorem dX5_go_112 : decode cX5_go 112 = .ok (.iload 6, 2) := by decide +kernel
theorem dX5_go_114 : decode cX5_go 114 = .ok (.iconst 4, 1) := by decide +kernel
theorem dX5_go_115 : decode cX5_go 115 = .ok (.if_icmp .ge 69, 3) := by decide +kernel
theorem dX5_go_118 : decode cX5_go 118 = .ok (.aload 5, 2) := by decide +kernel
theorem dX5_go_120 : decode cX5_go 120 = .ok (.iconst 1, 1) := by decide +kernel
theorem dX5_go_121 : decode cX5_go 121 = .ok (.iaload, 1) := by decide +kernel
theorem dX5_go_122 : decode cX5_go 122 = .ok (.ifCond .le 62, 3) := by decide +kernel
theorem dX5_go_125 : decode cX5_go 125 = .ok (.aload_n 0, 1) := by decide +kernel
theorem dX5_go_126 : decode cX5_go 126 = .ok (.getfield 13, 3) := by decide +kernel
theorem dX5_go_129 : decode cX5_go 129 = .ok (.aload 5, 2) := by decide +kernel
theorem dX5_go_131 : decode cX5_go 131 = .ok (.iconst 0, 1) := by decide +kernel
theorem dX5_go_132 : decode cX5_go 132 = .ok (.iaload, 1) := by decide +kernel
theorem dX5_go_133 : decode cX5_go 133 = .ok (.iaload, 1) := by decide +kernel
theorem dX5_go_134 : decode cX5_go 134 = .ok (.aload_n 0, 1) := by decide +kernel
theorem dX5_go_135 : decode cX5_go 135 = .ok (.getfield 7, 3) := by decide +kernel
theorem dX5_go_138 : decode cX5_go 138 = .ok (.aload 5, 2) := by decide +kernel
theorem dX5_go_140 : decode cX5_go 140 = .ok (.iconst 0, 1) := by decide +kernel
theorem dX5_go_141 : decode cX5_go 141 = .ok (.iaload, 1) := by decide +kernel
theorem dX5_go_142 : decode cX5_go 142 = .ok (.iaload, 1) := by decide +kernel
theorem dX5_go_143 : decode cX5_go 143 = .ok (.if_icmp .ge 41, 3) := by decide +kernel
theorem dX5_go_146 : decode cX5_go 146 = .ok (.aload 5, 2) := by decide +kernel
theorem dX5_go_148 : decode cX5_go 148 = .ok (.iconst 1, 1) := by decide +kernel
theorem dX5_go_149 : decode cX5_go 149 = .ok (.dup2, 1) := by decide +kernel
theorem dX5_go_150 : decode cX5_go 150 = .ok (.iaload, 1) := by decide +kernel
theorem dX5_go_151 : decode cX5_go 151 = .ok (.iconst 1, 1) := by decide +kernel
theorem dX5_go_152 : decode cX5_go 152 = .ok (.isub, 1) := by decide +kernel
theorem dX5_go_153 : decode cX5_go 153 = .ok (.iastore, 1) := by decide +kernel
theorem dX5_go_154 : decode cX5_go 154 = .ok (.aload 5, 2) := by decide +kernel
theorem dX5_go_156 : decode cX5_go 156 = .ok (.iconst 4, 1) := by decide +kernel
theorem dX5_go_157 : decode cX5_go 157 = .ok (.dup2, 1) := by decide +kernel
theorem dX5_go_158 : decode cX5_go 158 = .ok (.iaload, 1) := by decide +kernel
theorem dX5_go_159 : decode cX5_go 159 = .ok (.iconst 1, 1) := by decide +kernel
theorem dX5_go_160 : decode cX5_go 160 = .ok (.iadd, 1) := by decide +kernel
theorem dX5_go_161 : decode cX5_go 161 = .ok (.iastore, 1) := by decide +kernel
theorem dX5_go_162 : decode cX5_go 162 = .ok (.aload_n 0, 1) := by decide +kernel
theorem dX5_go_163 : decode cX5_go 163 = .ok (.getfield 13, 3) := by decide +kernel
theorem dX5_go_166 : decode cX5_go 166 = .ok (.aload 5, 2) := by decide +kernel
theorem dX5_go_168 : decode cX5_go 168 = .ok (.iconst 0, 1) := by decide +kernel
theorem dX5_go_169 : decode cX5_go 169 = .ok (.iaload, 1) := by decide +kernel
theorem dX5_go_170 : decode cX5_go 170 = .ok (.dup2, 1) := by decide +kernel
theorem dX5_go_171 : decode cX5_go 171 = .ok (.iaload, 1) := by decide +kernel
theorem dX5_go_172 : decode cX5_go 172 = .ok (.iconst 1, 1) := by decide +kernel
theorem dX5_go_173 : decode cX5_go 173 = .ok (.iadd, 1) := by decide +kernel
theorem dX5_go_174 : decode cX5_go 174 = .ok (.iastore, 1) := by decide +kernel
theorem dX5_go_175 : decode cX5_go 175 = .ok (.iinc 1 1, 3) := by decide +kernel
theorem dX5_go_178 : decode cX5_go 178 = .ok (.iinc 6 1, 3) := by decide +kernel
theorem dX5_go_181 : decode cX5_go 181 = .ok (.goto (-69), 3) := by decide +kernel
theorem dX5_go_184 : decode cX5_go 184 = .ok (.aload 5, 2) := by decide +kernel
theorem dX5_go_186 : decode cX5_go 186 = .ok (.iconst 1, 1) := by decide +kernel
theorem dX5_go_187 : decode cX5_go 187 = .ok (.iaload, 1) := by decide +kernel
theorem dX5_go_188 : decode cX5_go 188 = .ok (.ifCond .ne 118, 3) := by decide +kernel
theorem dX5_go_191 : decode cX5_go 191 = .ok (.aload 5, 2) := by decide +kernel
theorem dX5_go_193 : decode cX5_go 193 = .ok (.iconst 3, 1) := by decide +kernel
theorem dX5_go_194 : decode cX5_go 194 = .ok (.iconst 3, 1) := by decide +kernel
theorem dX5_go_195 : decode cX5_go 195 = .ok (.iastore, 1) := by decide +kernel
theorem dX5_go_196 : decode cX5_go 196 = .ok (.goto 110, 3) := by decide +kernel
theorem dX5_go_199 : decode cX5_go 199 = .ok (.aload 5, 2) := by decide +kernel
theorem dX5_go_201 : decode cX5_go 201 = .ok (.bipush 6, 2) := by decide +kernel
theorem dX5_go_203 : decode cX5_go 203 = .ok (.iaload, 1) := by decide +kernel
theorem dX5_go_204 : decode cX5_go 204 = .ok (.iconst 1, 1) := by decide +kernel
theorem dX5_go_205 : decode cX5_go 205 = .ok (.if_icmp .ne 12, 3) := by decide +kernel
theorem dX5_go_208 : decode cX5_go 208 = .ok (.aload_n 0, 1) := by decide +kernel
theorem dX5_go_209 : decode cX5_go 209 = .ok (.aload 5, 2) := by decide +kernel
theorem dX5_go_211 : decode cX5_go 211 = .ok (.invokevirtual 77, 3) := by decide +kernel
theorem dX5_go_214 : decode cX5_go 214 = .ok (.goto 4, 3) := by decide +kernel
theorem dX5_go_217 : decode cX5_go 217 = .ok (.iconst (-1), 1) := by decide +kernel
theorem dX5_go_218 : decode cX5_go 218 = .ok (.istore 6, 2) := by decide +kernel
theorem dX5_go_220 : decode cX5_go 220 = .ok (.iload 6, 2) := by decide +kernel
theorem dX5_go_222 : decode cX5_go 222 = .ok (.ifCond .lt 28, 3) := by decide +kernel
theorem dX5_go_225 : decode cX5_go 225 = .ok (.aload 5, 2) := by decide +kernel
theorem dX5_go_227 : decode cX5_go 227 = .ok (.iconst 2, 1) := by decide +kernel
theorem dX5_go_228 : decode cX5_go 228 = .ok (.aload_n 0, 1) := by decide +kernel
theorem dX5_go_229 : decode cX5_go 229 = .ok (.getfield 16, 3) := by decide +kernel
theorem dX5_go_232 : decode cX5_go 232 = .ok (.aload_n 0, 1) := by decide +kernel
theorem dX5_go_233 : decode cX5_go 233 = .ok (.iload 6, 2) := by decide +kernel
theorem dX5_go_235 : decode cX5_go 235 = .ok (.invokevirtual 70, 3) := by decide +kernel
theorem dX5_go_238 : decode cX5_go 238 = .ok (.iaload, 1) := by decide +kernel
theorem dX5_go_239 : decode cX5_go 239 = .ok (.iastore, 1) := by decide +kernel
theorem dX5_go_240 : decode cX5_go 240 = .ok (.aload 5, 2) := by decide +kernel
theorem dX5_go_242 : decode cX5_go 242 = .ok (.iconst 5, 1) := by decide +kernel
theorem dX5_go_243 : decode cX5_go 243 = .ok (.aload_n 0, 1) := by decide +kernel
theorem dX5_go_244 : decode cX5_go 244 = .ok (.iload 6, 2) := by decide +kernel
theorem dX5_go_246 : decode cX5_go 246 = .ok (.invokevirtual 70, 3) := by decide +kernel
theorem dX5_go_249 : decode cX5_go 249 = .ok (.iastore, 1) := by decide +kernel
theorem dX5_go_250 : decode cX5_go 250 = .ok (.iconst 0, 1) := by decide +kernel
theorem dX5_go_251 : decode cX5_go 251 = .ok (.istore 7, 2) := by decide +kernel
theorem dX5_go_253 : decode cX5_go 253 = .ok (.iload 7, 2) := by decide +kernel
theorem dX5_go_255 : decode cX5_go 255 = .ok (.iconst 2, 1) := by decide +kernel
theorem dX5_go_256 : decode cX5_go 256 = .ok (.if_icmp .ge 50, 3) := by decide +kernel
theorem dX5_go_259 : decode cX5_go 259 = .ok (.aload 5, 2) := by decide +kernel
theorem dX5_go_261 : decode cX5_go 261 = .ok (.iconst 2, 1) := by decide +kernel
theorem dX5_go_262 : decode cX5_go 262 = .ok (.iaload, 1) := by decide +kernel
theorem dX5_go_263 : decode cX5_go 263 = .ok (.ifCond .lt 43, 3) := by decide +kernel
theorem dX5_go_266 : decode cX5_go 266 = .ok (.aload 5, 2) := by decide +kernel
theorem dX5_go_268 : decode cX5_go 268 = .ok (.iconst 0, 1) := by decide +kernel
theorem dX5_go_269 : decode cX5_go 269 = .ok (.iaload, 1) := by decide +kernel
theorem dX5_go_270 : decode cX5_go 270 = .ok (.aload 5, 2) := by decide +kernel
theorem dX5_go_272 : decode cX5_go 272 = .ok (.iconst 2, 1) := by decide +kernel
theorem dX5_go_273 : decode cX5_go 273 = .ok (.iaload, 1) := by decide +kernel
theorem dX5_go_274 : decode cX5_go 274 = .ok (.if_icmp .eq 32, 3) := by decide +kernel
theorem dX5_go_277 : decode cX5_go 277 = .ok (.aload 5, 2) := by decide +kernel
theorem dX5_go_279 : decode cX5_go 279 = .ok (.iconst 0, 1) := by decide +kernel
theorem dX5_go_280 : decode cX5_go 280 = .ok (.dup2, 1) := by decide +kernel
theorem dX5_go_281 : decode cX5_go 281 = .ok (.iaload, 1) := by decide +kernel
theorem dX5_go_282 : decode cX5_go 282 = .ok (.aload 5, 2) := by decide +kernel
theorem dX5_go_284 : decode cX5_go 284 = .ok (.iconst 0, 1) := by decide +kernel
theorem dX5_go_285 : decode cX5_go 285 = .ok (.iaload, 1) := by decide +kernel
theorem dX5_go_286 : decode cX5_go 286 = .ok (.aload 5, 2) := by decide +kernel
theorem dX5_go_288 : decode cX5_go 288 = .ok (.iconst 2, 1) := by decide +kernel
theorem dX5_go_289 : decode cX5_go 289 = .ok (.iaload, 1) := by decide +kernel
theorem dX5_go_290 : decode cX5_go 290 = .ok (.if_icmp .ge 7, 3) := by decide +kernel
theorem dX5_go_293 : decode cX5_go 293 = .ok (.iconst 1, 1) := by decide +kernel
theorem dX5_go_294 : decode cX5_go 294 = .ok (.goto 4, 3) := by decide +kernel
theorem dX5_go_297 : decode cX5_go 297 = .ok (.iconst (-1), 1) := by decide +kernel
theorem dX5_go_298 : decode cX5_go 298 = .ok (.iadd, 1) := by decide +kernel
theorem dX5_go_299 : decode cX5_go 299 = .ok (.iastore, 1) := by decide +kernel
theorem dX5_go_300 : decode cX5_go 300 = .ok (.iinc 7 1, 3) := by decide +kernel
theorem dX5_go_303 : decode cX5_go 303 = .ok (.goto (-50), 3) := by decide +kernel
theorem dX5_go_306 : decode cX5_go 306 = .ok (.iinc 4 1, 3) := by decide +kernel
theorem dX5_go_309 : decode cX5_go 309 = .ok (.goto (-233), 3) := by decide +kernel
theorem dX5_go_312 : decode cX5_go 312 = .ok (.iconst 0, 1) := by decide +kernel
theorem dX5_go_313 : decode cX5_go 313 = .ok (.istore_n 2, 1) := by decide +kernel
theorem dX5_go_314 : decode cX5_go 314 = .ok (.iload_n 2, 1) := by decide +kernel
theorem dX5_go_315 : decode cX5_go 315 = .ok (.aload_n 0, 1) := by decide +kernel
theorem dX5_go_316 : decode cX5_go 316 = .ok (.getfield 27, 3) := by decide +kernel
theorem dX5_go_319 : decode cX5_go 319 = .ok (.arraylength, 1) := by decide +kernel
theorem dX5_go_320 : decode cX5_go 320 = .ok (.if_icmp .ge 210, 3) := by decide +kernel
theorem dX5_go_323 : decode cX5_go 323 = .ok (.aload_n 0, 1) := by decide +kernel
theorem dX5_go_324 : decode cX5_go 324 = .ok (.getfield 27, 3) := by decide +kernel
theorem dX5_go_327 : decode cX5_go 327 = .ok (.iload_n 2, 1) := by decide +kernel
theorem dX5_go_328 : decode cX5_go 328 = .ok (.aaload, 1) := by decide +kernel
theorem dX5_go_329 : decode cX5_go 329 = .ok (.astore_n 3, 1) := by decide +kernel
theorem dX5_go_330 : decode cX5_go 330 = .ok (.aload_n 3, 1) := by decide +kernel
theorem dX5_go_331 : decode cX5_go 331 = .ok (.iconst 0, 1) := by decide +kernel
theorem dX5_go_332 : decode cX5_go 332 = .ok (.iaload, 1) := by decide +kernel
theorem dX5_go_333 : decode cX5_go 333 = .ok (.aload_n 3, 1) := by decide +kernel
theorem dX5_go_334 : decode cX5_go 334 = .ok (.iconst 1, 1) := by decide +kernel
theorem dX5_go_335 : decode cX5_go 335 = .ok (.iaload, 1) := by decide +kernel
theorem dX5_go_336 : decode cX5_go 336 = .ok (.if_icmp .ge 55, 3) := by decide +kernel
theorem dX5_go_339 : decode cX5_go 339 = .ok (.aload_n 3, 1) := by decide +kernel
theorem dX5_go_340 : decode cX5_go 340 = .ok (.iconst 4, 1) := by decide +kernel
theorem dX5_go_341 : decode cX5_go 341 = .ok (.iaload, 1) := by decide +kernel
theorem dX5_go_342 : decode cX5_go 342 = .ok (.iconst 1, 1) := by decide +kernel
theorem dX5_go_343 : decode cX5_go 343 = .ok (.if_icmp .ne 19, 3) := by decide +kernel
theorem dX5_go_346 : decode cX5_go 346 = .ok (.aload_n 3, 1) := by decide +kernel
theorem dX5_go_347 : decode cX5_go 347 = .ok (.iconst 3, 1) := by decide +kernel
theorem dX5_go_348 : decode cX5_go 348 = .ok (.iaload, 1) := by decide +kernel
theorem dX5_go_349 : decode cX5_go 349 = .ok (.aload_n 3, 1) := by decide +kernel
theorem dX5_go_350 : decode cX5_go 350 = .ok (.iconst 1, 1) := by decide +kernel
theorem dX5_go_351 : decode cX5_go 351 = .ok (.iaload, 1) := by decide +kernel
theorem dX5_go_352 : decode cX5_go 352 = .ok (.if_icmp .ne 10, 3) := by decide +kernel
theorem dX5_go_355 : decode cX5_go 355 = .ok (.aload_n 3, 1) := by decide +kernel
theorem dX5_go_356 : decode cX5_go 356 = .ok (.iconst 4, 1) := by decide +kernel
theorem dX5_go_357 : decode cX5_go 357 = .ok (.iconst (-1), 1) := by decide +kernel
theorem dX5_go_358 : decode cX5_go 358 = .ok (.iastore, 1) := by decide +kernel
theorem dX5_go_359 : decode cX5_go 359 = .ok (.goto 23, 3) := by decide +kernel
theorem dX5_go_362 : decode cX5_go 362 = .ok (.aload_n 3, 1) := by decide +kernel
theorem dX5_go_363 : decode cX5_go 363 = .ok (.iconst 4, 1) := by decide +kernel
theorem dX5_go_364 : decode cX5_go 364 = .ok (.iaload, 1) := by decide +kernel
theorem dX5_go_365 : decode cX5_go 365 = .ok (.iconst (-1), 1) := by decide +kernel
theorem dX5_go_366 : decode cX5_go 366 = .ok (.if_icmp .ne 16, 3) := by decide +kernel
theorem dX5_go_369 : decode cX5_go 369 = .ok (.aload_n 3, 1) := by decide +kernel
theorem dX5_go_370 : decode cX5_go 370 = .ok (.iconst 3, 1) := by decide +kernel
theorem dX5_go_371 : decode cX5_go 371 = .ok (.iaload, 1) := by decide +kernel
theorem dX5_go_372 : decode cX5_go 372 = .ok (.aload_n 3, 1) := by decide +kernel
theorem dX5_go_373 : decode cX5_go 373 = .ok (.iconst 0, 1) := by decide +kernel
theorem dX5_go_374 : decode cX5_go 374 = .ok (.iaload, 1) := by decide +kernel
theorem dX5_go_375 : decode cX5_go 375 = .ok (.if_icmp .ne 7, 3) := by decide +kernel
theorem dX5_go_378 : decode cX5_go 378 = .ok (.aload_n 3, 1) := by decide +kernel
theorem dX5_go_379 : decode cX5_go 379 = .ok (.iconst 4, 1) := by decide +kernel
theorem dX5_go_380 : decode cX5_go 380 = .ok (.iconst 1, 1) := by decide +kernel
theorem dX5_go_381 : decode cX5_go 381 = .ok (.iastore, 1) := by decide +kernel
theorem dX5_go_382 : decode cX5_go 382 = .ok (.aload_n 3, 1) := by decide +kernel
theorem dX5_go_383 : decode cX5_go 383 = .ok (.iconst 3, 1) := by decide +kernel
theorem dX5_go_384 : decode cX5_go 384 = .ok (.dup2, 1) := by decide +kernel
theorem dX5_go_385 : decode cX5_go 385 = .ok (.iaload, 1) := by decide +kernel
theorem dX5_go_386 : decode cX5_go 386 = .ok (.aload_n 3, 1) := by decide +kernel
theorem dX5_go_387 : decode cX5_go 387 = .ok (.iconst 4, 1) := by decide +kernel
theorem dX5_go_388 : decode cX5_go 388 = .ok (.iaload, 1) := by decide +kernel
theorem dX5_go_389 : decode cX5_go 389 = .ok (.iadd, 1) := by decide +kernel
theorem dX5_go_390 : decode cX5_go 390 = .ok (.iastore, 1) := by decide +kernel
theorem dX5_go_391 : decode cX5_go 391 = .ok (.iconst 0, 1) := by decide +kernel
theorem dX5_go_392 : decode cX5_go 392 = .ok (.istore 4, 2) := by decide +kernel
theorem dX5_go_394 : decode cX5_go 394 = .ok (.aload_n 0, 1) := by decide +kernel
theorem dX5_go_395 : decode cX5_go 395 = .ok (.getfield 30, 3) := by decide +kernel
theorem dX5_go_398 : decode cX5_go 398 = .ok (.astore 5, 2) := by decide +kernel
theorem dX5_go_400 : decode cX5_go 400 = .ok (.aload 5, 2) := by decide +kernel
theorem dX5_go_402 : decode cX5_go 402 = .ok (.arraylength, 1) := by decide +kernel
theorem dX5_go_403 : decode cX5_go 403 = .ok (.istore 6, 2) := by decide +kernel
theorem dX5_go_405 : decode cX5_go 405 = .ok (.iconst 0, 1) := by decide +kernel
theorem dX5_go_406 : decode cX5_go 406 = .ok (.istore 7, 2) := by decide +kernel
theorem dX5_go_408 : decode cX5_go 408 = .ok (.iload 7, 2) := by decide +kernel
theorem dX5_go_410 : decode cX5_go 410 = .ok (.iload 6, 2) := by decide +kernel
theorem dX5_go_412 : decode cX5_go 412 = .ok (.if_icmp .ge 112, 3) := by decide +kernel
theorem dX5_go_415 : decode cX5_go 415 = .ok (.aload 5, 2) := by decide +kernel
theorem dX5_go_417 : decode cX5_go 417 = .ok (.iload 7, 2) := by decide +kernel
theorem dX5_go_419 : decode cX5_go 419 = .ok (.aaload, 1) := by decide +kernel
theorem dX5_go_420 : decode cX5_go 420 = .ok (.astore 8, 2) := by decide +kernel
theorem dX5_go_422 : decode cX5_go 422 = .ok (.iload 4, 2) := by decide +kernel
theorem dX5_go_424 : decode cX5_go 424 = .ok (.ifCond .ne 94, 3) := by decide +kernel
theorem dX5_go_427 : decode cX5_go 427 = .ok (.aload 8, 2) := by decide +kernel
theorem dX5_go_429 : decode cX5_go 429 = .ok (.iconst 3, 1) := by decide +kernel
theorem dX5_go_430 : decode cX5_go 430 = .ok (.iaload, 1) := by decide +kernel
theorem dX5_go_431 : decode cX5_go 431 = .ok (.ifCond .ne 87, 3) := by decide +kernel
theorem dX5_go_434 : decode cX5_go 434 = .ok (.aload 8, 2) := by decide +kernel
theorem dX5_go_436 : decode cX5_go 436 = .ok (.iconst 0, 1) := by decide +kernel
theorem dX5_go_437 : decode cX5_go 437 = .ok (.iaload, 1) := by decide +kernel
theorem dX5_go_438 : decode cX5_go 438 = .ok (.aload 8, 2) := by decide +kernel
theorem dX5_go_440 : decode cX5_go 440 = .ok (.iconst 2, 1) := by decide +kernel
theorem dX5_go_441 : decode cX5_go 441 = .ok (.iaload, 1) := by decide +kernel
theorem dX5_go_442 : decode cX5_go 442 = .ok (.if_icmp .ne 76, 3) := by decide +kernel
theorem dX5_go_445 : decode cX5_go 445 = .ok (.aload_n 0, 1) := by decide +kernel
theorem dX5_go_446 : decode cX5_go 446 = .ok (.iload_n 2, 1) := by decide +kernel
theorem dX5_go_447 : decode cX5_go 447 = .ok (.aload 8, 2) := by decide +kernel
theorem dX5_go_449 : decode cX5_go 449 = .ok (.iconst 0, 1) := by decide +kernel
theorem dX5_go_450 : decode cX5_go 450 = .ok (.iaload, 1) := by decide +kernel
theorem dX5_go_451 : decode cX5_go 451 = .ok (.aload 8, 2) := by decide +kernel
theorem dX5_go_453 : decode cX5_go 453 = .ok (.iconst 5, 1) := by decide +kernel
theorem dX5_go_454 : decode cX5_go 454 = .ok (.iaload, 1) := by decide +kernel
theorem dX5_go_455 : decode cX5_go 455 = .ok (.ifCond .le 20, 3) := by decide +kernel
theorem dX5_go_458 : decode cX5_go 458 = .ok (.aload_n 0, 1) := by decide +kernel
theorem dX5_go_459 : decode cX5_go 459 = .ok (.getfield 19, 3) := by decide +kernel
theorem dX5_go_462 : decode cX5_go 462 = .ok (.aload 8, 2) := by decide +kernel
theorem dX5_go_464 : decode cX5_go 464 = .ok (.iconst 5, 1) := by decide +kernel
theorem dX5_go_465 : decode cX5_go 465 = .ok (.iaload, 1) := by decide +kernel
theorem dX5_go_466 : decode cX5_go 466 = .ok (.iaload, 1) := by decide +kernel
theorem dX5_go_467 : decode cX5_go 467 = .ok (.iconst 2, 1) := by decide +kernel
theorem dX5_go_468 : decode cX5_go 468 = .ok (.if_icmp .le 7, 3) := by decide +kernel
theorem dX5_go_471 : decode cX5_go 471 = .ok (.iconst 3, 1) := by decide +kernel
theorem dX5_go_472 : decode cX5_go 472 = .ok (.goto 4, 3) := by decide +kernel
theorem dX5_go_475 : decode cX5_go 475 = .ok (.iconst 0, 1) := by decide +kernel
theorem dX5_go_476 : decode cX5_go 476 = .ok (.invokevirtual 62, 3) := by decide +kernel
theorem dX5_go_479 : decode cX5_go 479 = .ok (.ifCond .ne 6, 3) := by decide +kernel
theorem dX5_go_482 : decode cX5_go 482 = .ok (.goto 36, 3) := by decide +kernel
theorem dX5_go_485 : decode cX5_go 485 = .ok (.aload 8, 2) := by decide +kernel
theorem dX5_go_487 : decode cX5_go 487 = .ok (.iconst 3, 1) := by decide +kernel
theorem dX5_go_488 : decode cX5_go 488 = .ok (.iconst 4, 1) := by decide +kernel
theorem dX5_go_489 : decode cX5_go 489 = .ok (.iastore, 1) := by decide +kernel
theorem dX5_go_490 : decode cX5_go 490 = .ok (.aload_n 0, 1) := by decide +kernel
theorem dX5_go_491 : decode cX5_go 491 = .ok (.dup, 1) := by decide +kernel
theorem dX5_go_492 : decode cX5_go 492 = .ok (.getfield 44, 3) := by decide +kernel
theorem dX5_go_495 : decode cX5_go 495 = .ok (.aload 8, 2) := by decide +kernel
theorem dX5_go_497 : decode cX5_go 497 = .ok (.iconst 1, 1) := by decide +kernel
theorem dX5_go_498 : decode cX5_go 498 = .ok (.iaload, 1) := by decide +kernel
theorem dX5_go_499 : decode cX5_go 499 = .ok (.iadd, 1) := by decide +kernel
theorem dX5_go_500 : decode cX5_go 500 = .ok (.putfield 44, 3) := by decide +kernel
theorem dX5_go_503 : decode cX5_go 503 = .ok (.aload 8, 2) := by decide +kernel
theorem dX5_go_505 : decode cX5_go 505 = .ok (.iconst 1, 1) := by decide +kernel
theorem dX5_go_506 : decode cX5_go 506 = .ok (.iconst 0, 1) := by decide +kernel
theorem dX5_go_507 : decode cX5_go 507 = .ok (.iastore, 1) := by decide +kernel
theorem dX5_go_508 : decode cX5_go 508 = .ok (.aload_n 3, 1) := by decide +kernel
theorem dX5_go_509 : decode cX5_go 509 = .ok (.iconst 5, 1) := by decide +kernel
theorem dX5_go_510 : decode cX5_go 510 = .ok (.dup2, 1) := by decide +kernel
theorem dX5_go_511 : decode cX5_go 511 = .ok (.iaload, 1) := by decide +kernel
theorem dX5_go_512 : decode cX5_go 512 = .ok (.iconst 1, 1) := by decide +kernel
theorem dX5_go_513 : decode cX5_go 513 = .ok (.iadd, 1) := by decide +kernel
theorem dX5_go_514 : decode cX5_go 514 = .ok (.iastore, 1) := by decide +kernel
theorem dX5_go_515 : decode cX5_go 515 = .ok (.iconst 1, 1) := by decide +kernel
theorem dX5_go_516 : decode cX5_go 516 = .ok (.istore 4, 2) := by decide +kernel
theorem dX5_go_518 : decode cX5_go 518 = .ok (.iinc 7 1, 3) := by decide +kernel
theorem dX5_go_521 : decode cX5_go 521 = .ok (.goto (-113), 3) := by decide +kernel
theorem dX5_go_524 : decode cX5_go 524 = .ok (.iinc 2 1, 3) := by decide +kernel
theorem dX5_go_527 : decode cX5_go 527 = .ok (.goto (-213), 3) := by decide +kernel
theorem dX5_go_530 : decode cX5_go 530 = .ok (.aload_n 0, 1) := by decide +kernel
theorem dX5_go_531 : decode cX5_go 531 = .ok (.dup, 1) := by decide +kernel
theorem dX5_go_532 : decode cX5_go 532 = .ok (.getfield 40, 3) := by decide +kernel
theorem dX5_go_535 : decode cX5_go 535 = .ok (.iconst 1, 1) := by decide +kernel
theorem dX5_go_536 : decode cX5_go 536 = .ok (.iadd, 1) := by decide +kernel
theorem dX5_go_537 : decode cX5_go 537 = .ok (.putfield 40, 3) := by decide +kernel
theorem dX5_go_540 : decode cX5_go 540 = .ok (.iload_n 1, 1) := by decide +kernel
theorem dX5_go_541 : decode cX5_go 541 = .ok (.ireturn, 1) := by decide +kernel
theorem dX5_in_0 : decode cX5_in 0 = .ok (.iconst 0, 1) := by decide +kernel
theorem dX5_in_1 : decode cX5_in 1 = .ok (.istore_n 2, 1) := by decide +kernel
theorem dX5_in_2 : decode cX5_in 2 = .ok (.aload_n 0, 1) := by decide +kernel
theorem dX5_in_3 : decode cX5_in 3 = .ok (.getfield 30, 3) := by decide +kernel
theorem dX5_in_6 : decode cX5_in 6 = .ok (.astore_n 3, 1) := by decide +kernel
theorem dX5_in_7 : decode cX5_in 7 = .ok (.aload_n 3, 1) := by decide +kernel
theorem dX5_in_8 : decode cX5_in 8 = .ok (.arraylength, 1) := by decide +kernel
theorem dX5_in_9 : decode cX5_in 9 = .ok (.istore 4, 2) := by decide +kernel
theorem dX5_in_11 : decode cX5_in 11 = .ok (.iconst 0, 1) := by decide +kernel
theorem dX5_in_12 : decode cX5_in 12 = .ok (.istore 5, 2) := by decide +kernel
theorem dX5_in_14 : decode cX5_in 14 = .ok (.iload 5, 2) := by decide +kernel
theorem dX5_in_16 : decode cX5_in 16 = .ok (.iload 4, 2) := by decide +kernel
theorem dX5_in_18 : decode cX5_in 18 = .ok (.if_icmp .ge 31, 3) := by decide +kernel
theorem dX5_in_21 : decode cX5_in 21 = .ok (.aload_n 3, 1) := by decide +kernel
theorem dX5_in_22 : decode cX5_in 22 = .ok (.iload 5, 2) := by decide +kernel
theorem dX5_in_24 : decode cX5_in 24 = .ok (.aaload, 1) := by decide +kernel
theorem dX5_in_25 : decode cX5_in 25 = .ok (.astore 6, 2) := by decide +kernel
theorem dX5_in_27 : decode cX5_in 27 = .ok (.iload_n 2, 1) := by decide +kernel
theorem dX5_in_28 : decode cX5_in 28 = .ok (.aload 6, 2) := by decide +kernel
theorem dX5_in_30 : decode cX5_in 30 = .ok (.iconst 3, 1) := by decide +kernel
theorem dX5_in_31 : decode cX5_in 31 = .ok (.iaload, 1) := by decide +kernel
theorem dX5_in_32 : decode cX5_in 32 = .ok (.iload_n 1, 1) := by decide +kernel
theorem dX5_in_33 : decode cX5_in 33 = .ok (.if_icmp .ne 7, 3) := by decide +kernel
theorem dX5_in_36 : decode cX5_in 36 = .ok (.iconst 1, 1) := by decide +kernel
theorem dX5_in_37 : decode cX5_in 37 = .ok (.goto 4, 3) := by decide +kernel
theorem dX5_in_40 : decode cX5_in 40 = .ok (.iconst 0, 1) := by decide +kernel
theorem dX5_in_41 : decode cX5_in 41 = .ok (.iadd, 1) := by decide +kernel
theorem dX5_in_42 : decode cX5_in 42 = .ok (.istore_n 2, 1) := by decide +kernel
theorem dX5_in_43 : decode cX5_in 43 = .ok (.iinc 5 1, 3) := by decide +kernel
theorem dX5_in_46 : decode cX5_in 46 = .ok (.goto (-32), 3) := by decide +kernel
theorem dX5_in_49 : decode cX5_in 49 = .ok (.iload_n 2, 1) := by decide +kernel
theorem dX5_in_50 : decode cX5_in 50 = .ok (.ireturn, 1) := by decide +kernel
theorem dX5_caves_0 : decode cX5_caves 0 = .ok (.iconst 0, 1) := by decide +kernel
theorem dX5_caves_1 : decode cX5_caves 1 = .ok (.istore_n 1, 1) := by decide +kernel
theorem dX5_caves_2 : decode cX5_caves 2 = .ok (.aload_n 0, 1) := by decide +kernel
theorem dX5_caves_3 : decode cX5_caves 3 = .ok (.getfield 13, 3) := by decide +kernel
theorem dX5_caves_6 : decode cX5_caves 6 = .ok (.astore_n 2, 1) := by decide +kernel
theorem dX5_caves_7 : decode cX5_caves 7 = .ok (.aload_n 2, 1) := by decide +kernel
theorem dX5_caves_8 : decode cX5_caves 8 = .ok (.arraylength, 1) := by decide +kernel
theorem dX5_caves_9 : decode cX5_caves 9 = .ok (.istore_n 3, 1) := by decide +kernel
theorem dX5_caves_10 : decode cX5_caves 10 = .ok (.iconst 0, 1) := by decide +kernel
theorem dX5_caves_11 : decode cX5_caves 11 = .ok (.istore 4, 2) := by decide +kernel
theorem dX5_caves_13 : decode cX5_caves 13 = .ok (.iload 4, 2) := by decide +kernel
theorem dX5_caves_15 : decode cX5_caves 15 = .ok (.iload_n 3, 1) := by decide +kernel
theorem dX5_caves_16 : decode cX5_caves 16 = .ok (.if_icmp .ge 20, 3) := by decide +kernel
theorem dX5_caves_19 : decode cX5_caves 19 = .ok (.aload_n 2, 1) := by decide +kernel
theorem dX5_caves_20 : decode cX5_caves 20 = .ok (.iload 4, 2) := by decide +kernel
theorem dX5_caves_22 : decode cX5_caves 22 = .ok (.iaload, 1) := by decide +kernel
theorem dX5_caves_23 : decode cX5_caves 23 = .ok (.istore 5, 2) := by decide +kernel
theorem dX5_caves_25 : decode cX5_caves 25 = .ok (.iload_n 1, 1) := by decide +kernel
theorem dX5_caves_26 : decode cX5_caves 26 = .ok (.iload 5, 2) := by decide +kernel
theorem dX5_caves_28 : decode cX5_caves 28 = .ok (.iadd, 1) := by decide +kernel
theorem dX5_caves_29 : decode cX5_caves 29 = .ok (.istore_n 1, 1) := by decide +kernel
theorem dX5_caves_30 : decode cX5_caves 30 = .ok (.iinc 4 1, 3) := by decide +kernel
theorem dX5_caves_33 : decode cX5_caves 33 = .ok (.goto (-20), 3) := by decide +kernel
theorem dX5_caves_36 : decode cX5_caves 36 = .ok (.iload_n 1, 1) := by decide +kernel
theorem dX5_caves_37 : decode cX5_caves 37 = .ok (.ireturn, 1) := by decide +kernel
theorem dX5_counted_0 : decode cX5_counted 0 = .ok (.iconst 0, 1) := by decide +kernel
theorem dX5_counted_1 : decode cX5_counted 1 = .ok (.istore_n 2, 1) := by decide +kernel
theorem dX5_counted_2 : decode cX5_counted 2 = .ok (.iconst 1, 1) := by decide +kernel
theorem dX5_counted_3 : decode cX5_counted 3 = .ok (.istore_n 3, 1) := by decide +kernel
theorem dX5_counted_4 : decode cX5_counted 4 = .ok (.iload_n 3, 1) := by decide +kernel
theorem dX5_counted_5 : decode cX5_counted 5 = .ok (.bipush 8, 2) := by decide +kernel
theorem dX5_counted_7 : decode cX5_counted 7 = .ok (.if_icmp .ge 27, 3) := by decide +kernel
theorem dX5_counted_10 : decode cX5_counted 10 = .ok (.iload_n 2, 1) := by decide +kernel
theorem dX5_counted_11 : decode cX5_counted 11 = .ok (.aload_n 0, 1) := by decide +kernel
theorem dX5_counted_12 : decode cX5_counted 12 = .ok (.getfield 19, 3) := by decide +kernel
theorem dX5_counted_15 : decode cX5_counted 15 = .ok (.iload_n 3, 1) := by decide +kernel
theorem dX5_counted_16 : decode cX5_counted 16 = .ok (.iaload, 1) := by decide +kernel
theorem dX5_counted_17 : decode cX5_counted 17 = .ok (.iconst 2, 1) := by decide +kernel
theorem dX5_counted_18 : decode cX5_counted 18 = .ok (.if_icmp .le 7, 3) := by decide +kernel
theorem dX5_counted_21 : decode cX5_counted 21 = .ok (.iconst 1, 1) := by decide +kernel
theorem dX5_counted_22 : decode cX5_counted 22 = .ok (.goto 4, 3) := by decide +kernel
theorem dX5_counted_25 : decode cX5_counted 25 = .ok (.iconst 0, 1) := by decide +kernel
theorem dX5_counted_26 : decode cX5_counted 26 = .ok (.iadd, 1) := by decide +kernel
theorem dX5_counted_27 : decode cX5_counted 27 = .ok (.istore_n 2, 1) := by decide +kernel
theorem dX5_counted_28 : decode cX5_counted 28 = .ok (.iinc 3 1, 3) := by decide +kernel
theorem dX5_counted_31 : decode cX5_counted 31 = .ok (.goto (-27), 3) := by decide +kernel
theorem dX5_counted_34 : decode cX5_counted 34 = .ok (.bipush 11, 2) := by decide +kernel
theorem dX5_counted_36 : decode cX5_counted 36 = .ok (.newarray .int, 2) := by decide +kernel
theorem dX5_counted_38 : decode cX5_counted 38 = .ok (.dup, 1) := by decide +kernel
theorem dX5_counted_39 : decode cX5_counted 39 = .ok (.iconst 0, 1) := by decide +kernel
theorem dX5_counted_40 : decode cX5_counted 40 = .ok (.aload_n 0, 1) := by decide +kernel
theorem dX5_counted_41 : decode cX5_counted 41 = .ok (.getfield 40, 3) := by decide +kernel
theorem dX5_counted_44 : decode cX5_counted 44 = .ok (.iastore, 1) := by decide +kernel
theorem dX5_counted_45 : decode cX5_counted 45 = .ok (.dup, 1) := by decide +kernel
theorem dX5_counted_46 : decode cX5_counted 46 = .ok (.iconst 1, 1) := by decide +kernel
theorem dX5_counted_47 : decode cX5_counted 47 = .ok (.aload_n 0, 1) := by decide +kernel
theorem dX5_counted_48 : decode cX5_counted 48 = .ok (.getfield 23, 3) := by decide +kernel
theorem dX5_counted_51 : decode cX5_counted 51 = .ok (.arraylength, 1) := by decide +kernel
theorem dX5_counted_52 : decode cX5_counted 52 = .ok (.iastore, 1) := by decide +kernel
theorem dX5_counted_53 : decode cX5_counted 53 = .ok (.dup, 1) := by decide +kernel
theorem dX5_counted_54 : decode cX5_counted 54 = .ok (.iconst 2, 1) := by decide +kernel
theorem dX5_counted_55 : decode cX5_counted 55 = .ok (.aload_n 0, 1) := by decide +kernel
theorem dX5_counted_56 : decode cX5_counted 56 = .ok (.getfield 27, 3) := by decide +kernel
theorem dX5_counted_59 : decode cX5_counted 59 = .ok (.arraylength, 1) := by decide +kernel
theorem dX5_counted_60 : decode cX5_counted 60 = .ok (.iastore, 1) := by decide +kernel
theorem dX5_counted_61 : decode cX5_counted 61 = .ok (.dup, 1) := by decide +kernel
theorem dX5_counted_62 : decode cX5_counted 62 = .ok (.iconst 3, 1) := by decide +kernel
theorem dX5_counted_63 : decode cX5_counted 63 = .ok (.aload_n 0, 1) := by decide +kernel
theorem dX5_counted_64 : decode cX5_counted 64 = .ok (.getfield 30, 3) := by decide +kernel
theorem dX5_counted_67 : decode cX5_counted 67 = .ok (.arraylength, 1) := by decide +kernel
theorem dX5_counted_68 : decode cX5_counted 68 = .ok (.iastore, 1) := by decide +kernel
theorem dX5_counted_69 : decode cX5_counted 69 = .ok (.dup, 1) := by decide +kernel
theorem dX5_counted_70 : decode cX5_counted 70 = .ok (.iconst 4, 1) := by decide +kernel
theorem dX5_counted_71 : decode cX5_counted 71 = .ok (.aload_n 0, 1) := by decide +kernel
theorem dX5_counted_72 : decode cX5_counted 72 = .ok (.iconst 0, 1) := by decide +kernel
theorem dX5_counted_73 : decode cX5_counted 73 = .ok (.invokevirtual 81, 3) := by decide +kernel
theorem dX5_counted_76 : decode cX5_counted 76 = .ok (.iastore, 1) := by decide +kernel
theorem dX5_counted_77 : decode cX5_counted 77 = .ok (.dup, 1) := by decide +kernel
theorem dX5_counted_78 : decode cX5_counted 78 = .ok (.iconst 5, 1) := by decide +kernel
theorem dX5_counted_79 : decode cX5_counted 79 = .ok (.aload_n 0, 1) := by decide +kernel
theorem dX5_counted_80 : decode cX5_counted 80 = .ok (.iconst 3, 1) := by decide +kernel
theorem dX5_counted_81 : decode cX5_counted 81 = .ok (.invokevirtual 81, 3) := by decide +kernel
theorem dX5_counted_84 : decode cX5_counted 84 = .ok (.iastore, 1) := by decide +kernel
theorem dX5_counted_85 : decode cX5_counted 85 = .ok (.dup, 1) := by decide +kernel
theorem dX5_counted_86 : decode cX5_counted 86 = .ok (.bipush 6, 2) := by decide +kernel
theorem dX5_counted_88 : decode cX5_counted 88 = .ok (.aload_n 0, 1) := by decide +kernel
theorem dX5_counted_89 : decode cX5_counted 89 = .ok (.iconst 4, 1) := by decide +kernel
theorem dX5_counted_90 : decode cX5_counted 90 = .ok (.invokevirtual 81, 3) := by decide +kernel
theorem dX5_counted_93 : decode cX5_counted 93 = .ok (.iastore, 1) := by decide +kernel
theorem dX5_counted_94 : decode cX5_counted 94 = .ok (.dup, 1) := by decide +kernel
theorem dX5_counted_95 : decode cX5_counted 95 = .ok (.bipush 7, 2) := by decide +kernel
theorem dX5_counted_97 : decode cX5_counted 97 = .ok (.aload_n 0, 1) := by decide +kernel
theorem dX5_counted_98 : decode cX5_counted 98 = .ok (.invokevirtual 84, 3) := by decide +kernel
theorem dX5_counted_101 : decode cX5_counted 101 = .ok (.iastore, 1) := by decide +kernel
theorem dX5_counted_102 : decode cX5_counted 102 = .ok (.dup, 1) := by decide +kernel
theorem dX5_counted_103 : decode cX5_counted 103 = .ok (.bipush 8, 2) := by decide +kernel
theorem dX5_counted_105 : decode cX5_counted 105 = .ok (.aload_n 0, 1) := by decide +kernel
theorem dX5_counted_106 : decode cX5_counted 106 = .ok (.getfield 44, 3) := by decide +kernel
theorem dX5_counted_109 : decode cX5_counted 109 = .ok (.iastore, 1) := by decide +kernel
theorem dX5_counted_110 : decode cX5_counted 110 = .ok (.dup, 1) := by decide +kernel
theorem dX5_counted_111 : decode cX5_counted 111 = .ok (.bipush 9, 2) := by decide +kernel
theorem dX5_counted_113 : decode cX5_counted 113 = .ok (.aload_n 0, 1) := by decide +kernel
theorem dX5_counted_114 : decode cX5_counted 114 = .ok (.getfield 47, 3) := by decide +kernel
theorem dX5_counted_117 : decode cX5_counted 117 = .ok (.iastore, 1) := by decide +kernel
theorem dX5_counted_118 : decode cX5_counted 118 = .ok (.dup, 1) := by decide +kernel
theorem dX5_counted_119 : decode cX5_counted 119 = .ok (.bipush 10, 2) := by decide +kernel
theorem dX5_counted_121 : decode cX5_counted 121 = .ok (.iload_n 2, 1) := by decide +kernel
theorem dX5_counted_122 : decode cX5_counted 122 = .ok (.iastore, 1) := by decide +kernel
theorem dX5_counted_123 : decode cX5_counted 123 = .ok (.astore_n 3, 1) := by decide +kernel
theorem dX5_counted_124 : decode cX5_counted 124 = .ok (.aload_n 3, 1) := by decide +kernel
theorem dX5_counted_125 : decode cX5_counted 125 = .ok (.iload_n 1, 1) := by decide +kernel
theorem dX5_counted_126 : decode cX5_counted 126 = .ok (.iaload, 1) := by decide +kernel
theorem dX5_counted_127 : decode cX5_counted 127 = .ok (.ireturn, 1) := by decide +kernel
theorem dX5_isSame_0 : decode cX5_isSame 0 = .ok (.iconst 0, 1) := by decide +kernel
theorem dX5_isSame_1 : decode cX5_isSame 1 = .ok (.istore_n 2, 1) := by decide +kernel
theorem dX5_isSame_2 : decode cX5_isSame 2 = .ok (.iload_n 2, 1) := by decide +kernel
theorem dX5_isSame_3 : decode cX5_isSame 3 = .ok (.bipush 11, 2) := by decide +kernel
theorem dX5_isSame_5 : decode cX5_isSame 5 = .ok (.if_icmp .ge 24, 3) := by decide +kernel
theorem dX5_isSame_8 : decode cX5_isSame 8 = .ok (.aload_n 1, 1) := by decide +kernel
theorem dX5_isSame_9 : decode cX5_isSame 9 = .ok (.iload_n 2, 1) := by decide +kernel
theorem dX5_isSame_10 : decode cX5_isSame 10 = .ok (.invokevirtual 87, 3) := by decide +kernel
theorem dX5_isSame_13 : decode cX5_isSame 13 = .ok (.aload_n 0, 1) := by decide +kernel
theorem dX5_isSame_14 : decode cX5_isSame 14 = .ok (.iload_n 2, 1) := by decide +kernel
theorem dX5_isSame_15 : decode cX5_isSame 15 = .ok (.invokevirtual 92, 3) := by decide +kernel
theorem dX5_isSame_18 : decode cX5_isSame 18 = .ok (.if_icmp .eq 5, 3) := by decide +kernel
theorem dX5_isSame_21 : decode cX5_isSame 21 = .ok (.iconst 0, 1) := by decide +kernel
theorem dX5_isSame_22 : decode cX5_isSame 22 = .ok (.ireturn, 1) := by decide +kernel
theorem dX5_isSame_23 : decode cX5_isSame 23 = .ok (.iinc 2 1, 3) := by decide +kernel
theorem dX5_isSame_26 : decode cX5_isSame 26 = .ok (.goto (-24), 3) := by decide +kernel
theorem dX5_isSame_29 : decode cX5_isSame 29 = .ok (.iconst 0, 1) := by decide +kernel
theorem dX5_isSame_30 : decode cX5_isSame 30 = .ok (.istore_n 2, 1) := by decide +kernel
theorem dX5_isSame_31 : decode cX5_isSame 31 = .ok (.iconst 0, 1) := by decide +kernel
theorem dX5_isSame_32 : decode cX5_isSame 32 = .ok (.istore_n 3, 1) := by decide +kernel
theorem dX5_isSame_33 : decode cX5_isSame 33 = .ok (.iload_n 3, 1) := by decide +kernel
theorem dX5_isSame_34 : decode cX5_isSame 34 = .ok (.bipush 16, 2) := by decide +kernel
theorem dX5_isSame_36 : decode cX5_isSame 36 = .ok (.if_icmp .ge 199, 3) := by decide +kernel
theorem dX5_isSame_39 : decode cX5_isSame 39 = .ok (.iconst 0, 1) := by decide +kernel
theorem dX5_isSame_40 : decode cX5_isSame 40 = .ok (.istore 4, 2) := by decide +kernel
theorem dX5_isSame_42 : decode cX5_isSame 42 = .ok (.iconst 0, 1) := by decide +kernel
theorem dX5_isSame_43 : decode cX5_isSame 43 = .ok (.istore 5, 2) := by decide +kernel
theorem dX5_isSame_45 : decode cX5_isSame 45 = .ok (.aload_n 0, 1) := by decide +kernel
theorem dX5_isSame_46 : decode cX5_isSame 46 = .ok (.getfield 27, 3) := by decide +kernel
theorem dX5_isSame_49 : decode cX5_isSame 49 = .ok (.astore 6, 2) := by decide +kernel
theorem dX5_isSame_51 : decode cX5_isSame 51 = .ok (.aload 6, 2) := by decide +kernel
theorem dX5_isSame_53 : decode cX5_isSame 53 = .ok (.arraylength, 1) := by decide +kernel
theorem dX5_isSame_54 : decode cX5_isSame 54 = .ok (.istore 7, 2) := by decide +kernel
theorem dX5_isSame_56 : decode cX5_isSame 56 = .ok (.iconst 0, 1) := by decide +kernel
theorem dX5_isSame_57 : decode cX5_isSame 57 = .ok (.istore 8, 2) := by decide +kernel
theorem dX5_isSame_59 : decode cX5_isSame 59 = .ok (.iload 8, 2) := by decide +kernel
theorem dX5_isSame_61 : decode cX5_isSame 61 = .ok (.iload 7, 2) := by decide +kernel
theorem dX5_isSame_63 : decode cX5_isSame 63 = .ok (.if_icmp .ge 34, 3) := by decide +kernel
theorem dX5_isSame_66 : decode cX5_isSame 66 = .ok (.aload 6, 2) := by decide +kernel
theorem dX5_isSame_68 : decode cX5_isSame 68 = .ok (.iload 8, 2) := by decide +kernel
theorem dX5_isSame_70 : decode cX5_isSame 70 = .ok (.aaload, 1) := by decide +kernel
theorem dX5_isSame_71 : decode cX5_isSame 71 = .ok (.astore 9, 2) := by decide +kernel
theorem dX5_isSame_73 : decode cX5_isSame 73 = .ok (.iload 4, 2) := by decide +kernel
theorem dX5_isSame_75 : decode cX5_isSame 75 = .ok (.aload 9, 2) := by decide +kernel
theorem dX5_isSame_77 : decode cX5_isSame 77 = .ok (.iconst 3, 1) := by decide +kernel
theorem dX5_isSame_78 : decode cX5_isSame 78 = .ok (.iaload, 1) := by decide +kernel
theorem dX5_isSame_79 : decode cX5_isSame 79 = .ok (.iload_n 3, 1) := by decide +kernel
theorem dX5_isSame_80 : decode cX5_isSame 80 = .ok (.if_icmp .ne 7, 3) := by decide +kernel
theorem dX5_isSame_83 : decode cX5_isSame 83 = .ok (.iconst 1, 1) := by decide +kernel
theorem dX5_isSame_84 : decode cX5_isSame 84 = .ok (.goto 4, 3) := by decide +kernel
theorem dX5_isSame_87 : decode cX5_isSame 87 = .ok (.iconst 0, 1) := by decide +kernel
theorem dX5_isSame_88 : decode cX5_isSame 88 = .ok (.iadd, 1) := by decide +kernel
theorem dX5_isSame_89 : decode cX5_isSame 89 = .ok (.istore 4, 2) := by decide +kernel
theorem dX5_isSame_91 : decode cX5_isSame 91 = .ok (.iinc 8 1, 3) := by decide +kernel
theorem dX5_isSame_94 : decode cX5_isSame 94 = .ok (.goto (-35), 3) := by decide +kernel
theorem dX5_isSame_97 : decode cX5_isSame 97 = .ok (.aload_n 0, 1) := by decide +kernel
theorem dX5_isSame_98 : decode cX5_isSame 98 = .ok (.getfield 30, 3) := by decide +kernel
theorem dX5_isSame_101 : decode cX5_isSame 101 = .ok (.astore 6, 2) := by decide +kernel
theorem dX5_isSame_103 : decode cX5_isSame 103 = .ok (.aload 6, 2) := by decide +kernel
theorem dX5_isSame_105 : decode cX5_isSame 105 = .ok (.arraylength, 1) := by decide +kernel
theorem dX5_isSame_106 : decode cX5_isSame 106 = .ok (.istore 7, 2) := by decide +kernel
theorem dX5_isSame_108 : decode cX5_isSame 108 = .ok (.iconst 0, 1) := by decide +kernel
theorem dX5_isSame_109 : decode cX5_isSame 109 = .ok (.istore 8, 2) := by decide +kernel
theorem dX5_isSame_111 : decode cX5_isSame 111 = .ok (.iload 8, 2) := by decide +kernel
theorem dX5_isSame_113 : decode cX5_isSame 113 = .ok (.iload 7, 2) := by decide +kernel
theorem dX5_isSame_115 : decode cX5_isSame 115 = .ok (.if_icmp .ge 41, 3) := by decide +kernel
theorem dX5_isSame_118 : decode cX5_isSame 118 = .ok (.aload 6, 2) := by decide +kernel
theorem dX5_isSame_120 : decode cX5_isSame 120 = .ok (.iload 8, 2) := by decide +kernel
theorem dX5_isSame_122 : decode cX5_isSame 122 = .ok (.aaload, 1) := by decide +kernel
theorem dX5_isSame_123 : decode cX5_isSame 123 = .ok (.astore 9, 2) := by decide +kernel
theorem dX5_isSame_125 : decode cX5_isSame 125 = .ok (.iload 5, 2) := by decide +kernel
theorem dX5_isSame_127 : decode cX5_isSame 127 = .ok (.aload 9, 2) := by decide +kernel
theorem dX5_isSame_129 : decode cX5_isSame 129 = .ok (.iconst 3, 1) := by decide +kernel
theorem dX5_isSame_130 : decode cX5_isSame 130 = .ok (.iaload, 1) := by decide +kernel
theorem dX5_isSame_131 : decode cX5_isSame 131 = .ok (.ifCond .ne 15, 3) := by decide +kernel
theorem dX5_isSame_134 : decode cX5_isSame 134 = .ok (.aload 9, 2) := by decide +kernel
theorem dX5_isSame_136 : decode cX5_isSame 136 = .ok (.iconst 0, 1) := by decide +kernel
theorem dX5_isSame_137 : decode cX5_isSame 137 = .ok (.iaload, 1) := by decide +kernel
theorem dX5_isSame_138 : decode cX5_isSame 138 = .ok (.iload_n 3, 1) := by decide +kernel
theorem dX5_isSame_139 : decode cX5_isSame 139 = .ok (.if_icmp .ne 7, 3) := by decide +kernel
theorem dX5_isSame_142 : decode cX5_isSame 142 = .ok (.iconst 1, 1) := by decide +kernel
theorem dX5_isSame_143 : decode cX5_isSame 143 = .ok (.goto 4, 3) := by decide +kernel
theorem dX5_isSame_146 : decode cX5_isSame 146 = .ok (.iconst 0, 1) := by decide +kernel
theorem dX5_isSame_147 : decode cX5_isSame 147 = .ok (.iadd, 1) := by decide +kernel
theorem dX5_isSame_148 : decode cX5_isSame 148 = .ok (.istore 5, 2) := by decide +kernel
theorem dX5_isSame_150 : decode cX5_isSame 150 = .ok (.iinc 8 1, 3) := by decide +kernel
theorem dX5_isSame_153 : decode cX5_isSame 153 = .ok (.goto (-42), 3) := by decide +kernel
theorem dX5_isSame_156 : decode cX5_isSame 156 = .ok (.iconst 5, 1) := by decide +kernel
theorem dX5_isSame_157 : decode cX5_isSame 157 = .ok (.newarray .int, 2) := by decide +kernel
theorem dX5_isSame_159 : decode cX5_isSame 159 = .ok (.dup, 1) := by decide +kernel
theorem dX5_isSame_160 : decode cX5_isSame 160 = .ok (.iconst 0, 1) := by decide +kernel
theorem dX5_isSame_161 : decode cX5_isSame 161 = .ok (.aload_n 0, 1) := by decide +kernel
theorem dX5_isSame_162 : decode cX5_isSame 162 = .ok (.getfield 7, 3) := by decide +kernel
theorem dX5_isSame_165 : decode cX5_isSame 165 = .ok (.iload_n 3, 1) := by decide +kernel
theorem dX5_isSame_166 : decode cX5_isSame 166 = .ok (.iaload, 1) := by decide +kernel
theorem dX5_isSame_167 : decode cX5_isSame 167 = .ok (.iastore, 1) := by decide +kernel
theorem dX5_isSame_168 : decode cX5_isSame 168 = .ok (.dup, 1) := by decide +kernel
theorem dX5_isSame_169 : decode cX5_isSame 169 = .ok (.iconst 1, 1) := by decide +kernel
theorem dX5_isSame_170 : decode cX5_isSame 170 = .ok (.aload_n 0, 1) := by decide +kernel
theorem dX5_isSame_171 : decode cX5_isSame 171 = .ok (.getfield 13, 3) := by decide +kernel
theorem dX5_isSame_174 : decode cX5_isSame 174 = .ok (.iload_n 3, 1) := by decide +kernel
theorem dX5_isSame_175 : decode cX5_isSame 175 = .ok (.iaload, 1) := by decide +kernel
theorem dX5_isSame_176 : decode cX5_isSame 176 = .ok (.iastore, 1) := by decide +kernel
theorem dX5_isSame_177 : decode cX5_isSame 177 = .ok (.dup, 1) := by decide +kernel
theorem dX5_isSame_178 : decode cX5_isSame 178 = .ok (.iconst 2, 1) := by decide +kernel
theorem dX5_isSame_179 : decode cX5_isSame 179 = .ok (.iload 4, 2) := by decide +kernel
theorem dX5_isSame_181 : decode cX5_isSame 181 = .ok (.iastore, 1) := by decide +kernel
theorem dX5_isSame_182 : decode cX5_isSame 182 = .ok (.dup, 1) := by decide +kernel
theorem dX5_isSame_183 : decode cX5_isSame 183 = .ok (.iconst 3, 1) := by decide +kernel
theorem dX5_isSame_184 : decode cX5_isSame 184 = .ok (.iload 5, 2) := by decide +kernel
theorem dX5_isSame_186 : decode cX5_isSame 186 = .ok (.iastore, 1) := by decide +kernel
theorem dX5_isSame_187 : decode cX5_isSame 187 = .ok (.dup, 1) := by decide +kernel
theorem dX5_isSame_188 : decode cX5_isSame 188 = .ok (.iconst 4, 1) := by decide +kernel
theorem dX5_isSame_189 : decode cX5_isSame 189 = .ok (.aload_n 0, 1) := by decide +kernel
theorem dX5_isSame_190 : decode cX5_isSame 190 = .ok (.iload_n 3, 1) := by decide +kernel
theorem dX5_isSame_191 : decode cX5_isSame 191 = .ok (.invokevirtual 95, 3) := by decide +kernel
theorem dX5_isSame_194 : decode cX5_isSame 194 = .ok (.iastore, 1) := by decide +kernel
theorem dX5_isSame_195 : decode cX5_isSame 195 = .ok (.astore 6, 2) := by decide +kernel
theorem dX5_isSame_197 : decode cX5_isSame 197 = .ok (.iconst 0, 1) := by decide +kernel
theorem dX5_isSame_198 : decode cX5_isSame 198 = .ok (.istore 7, 2) := by decide +kernel
theorem dX5_isSame_200 : decode cX5_isSame 200 = .ok (.iload 7, 2) := by decide +kernel
theorem dX5_isSame_202 : decode cX5_isSame 202 = .ok (.iconst 5, 1) := by decide +kernel
theorem dX5_isSame_203 : decode cX5_isSame 203 = .ok (.if_icmp .ge 26, 3) := by decide +kernel
theorem dX5_isSame_206 : decode cX5_isSame 206 = .ok (.aload_n 1, 1) := by decide +kernel
theorem dX5_isSame_207 : decode cX5_isSame 207 = .ok (.iload_n 3, 1) := by decide +kernel
theorem dX5_isSame_208 : decode cX5_isSame 208 = .ok (.iload 7, 2) := by decide +kernel
theorem dX5_isSame_210 : decode cX5_isSame 210 = .ok (.invokevirtual 98, 3) := by decide +kernel
theorem dX5_isSame_213 : decode cX5_isSame 213 = .ok (.aload 6, 2) := by decide +kernel
theorem dX5_isSame_215 : decode cX5_isSame 215 = .ok (.iload 7, 2) := by decide +kernel
theorem dX5_isSame_217 : decode cX5_isSame 217 = .ok (.iaload, 1) := by decide +kernel
theorem dX5_isSame_218 : decode cX5_isSame 218 = .ok (.if_icmp .eq 5, 3) := by decide +kernel
theorem dX5_isSame_221 : decode cX5_isSame 221 = .ok (.iconst 0, 1) := by decide +kernel
theorem dX5_isSame_222 : decode cX5_isSame 222 = .ok (.ireturn, 1) := by decide +kernel
theorem dX5_isSame_223 : decode cX5_isSame 223 = .ok (.iinc 7 1, 3) := by decide +kernel
theorem dX5_isSame_226 : decode cX5_isSame 226 = .ok (.goto (-26), 3) := by decide +kernel
theorem dX5_isSame_229 : decode cX5_isSame 229 = .ok (.iinc 3 1, 3) := by decide +kernel
theorem dX5_isSame_232 : decode cX5_isSame 232 = .ok (.goto (-199), 3) := by decide +kernel
theorem dX5_isSame_235 : decode cX5_isSame 235 = .ok (.iconst 1, 1) := by decide +kernel
theorem dX5_isSame_236 : decode cX5_isSame 236 = .ok (.istore_n 3, 1) := by decide +kernel
theorem dX5_isSame_237 : decode cX5_isSame 237 = .ok (.iload_n 3, 1) := by decide +kernel
theorem dX5_isSame_238 : decode cX5_isSame 238 = .ok (.bipush 8, 2) := by decide +kernel
theorem dX5_isSame_240 : decode cX5_isSame 240 = .ok (.if_icmp .ge 149, 3) := by decide +kernel
theorem dX5_isSame_243 : decode cX5_isSame 243 = .ok (.iconst 0, 1) := by decide +kernel
theorem dX5_isSame_244 : decode cX5_isSame 244 = .ok (.istore 4, 2) := by decide +kernel
theorem dX5_isSame_246 : decode cX5_isSame 246 = .ok (.aload_n 0, 1) := by decide +kernel
theorem dX5_isSame_247 : decode cX5_isSame 247 = .ok (.getfield 30, 3) := by decide +kernel
theorem dX5_isSame_250 : decode cX5_isSame 250 = .ok (.astore 5, 2) := by decide +kernel
theorem dX5_isSame_252 : decode cX5_isSame 252 = .ok (.aload 5, 2) := by decide +kernel
theorem dX5_isSame_254 : decode cX5_isSame 254 = .ok (.arraylength, 1) := by decide +kernel
theorem dX5_isSame_255 : decode cX5_isSame 255 = .ok (.istore 6, 2) := by decide +kernel
theorem dX5_isSame_257 : decode cX5_isSame 257 = .ok (.iconst 0, 1) := by decide +kernel
theorem dX5_isSame_258 : decode cX5_isSame 258 = .ok (.istore 7, 2) := by decide +kernel
theorem dX5_isSame_260 : decode cX5_isSame 260 = .ok (.iload 7, 2) := by decide +kernel
theorem dX5_isSame_262 : decode cX5_isSame 262 = .ok (.iload 6, 2) := by decide +kernel
theorem dX5_isSame_264 : decode cX5_isSame 264 = .ok (.if_icmp .ge 41, 3) := by decide +kernel
theorem dX5_isSame_267 : decode cX5_isSame 267 = .ok (.aload 5, 2) := by decide +kernel
theorem dX5_isSame_269 : decode cX5_isSame 269 = .ok (.iload 7, 2) := by decide +kernel
theorem dX5_isSame_271 : decode cX5_isSame 271 = .ok (.aaload, 1) := by decide +kernel
theorem dX5_isSame_272 : decode cX5_isSame 272 = .ok (.astore 8, 2) := by decide +kernel
theorem dX5_isSame_274 : decode cX5_isSame 274 = .ok (.iload 4, 2) := by decide +kernel
theorem dX5_isSame_276 : decode cX5_isSame 276 = .ok (.aload 8, 2) := by decide +kernel
theorem dX5_isSame_278 : decode cX5_isSame 278 = .ok (.iconst 3, 1) := by decide +kernel
theorem dX5_isSame_279 : decode cX5_isSame 279 = .ok (.iaload, 1) := by decide +kernel
theorem dX5_isSame_280 : decode cX5_isSame 280 = .ok (.ifCond .ne 15, 3) := by decide +kernel
theorem dX5_isSame_283 : decode cX5_isSame 283 = .ok (.aload 8, 2) := by decide +kernel
theorem dX5_isSame_285 : decode cX5_isSame 285 = .ok (.iconst 5, 1) := by decide +kernel
theorem dX5_isSame_286 : decode cX5_isSame 286 = .ok (.iaload, 1) := by decide +kernel
theorem dX5_isSame_287 : decode cX5_isSame 287 = .ok (.iload_n 3, 1) := by decide +kernel
theorem dX5_isSame_288 : decode cX5_isSame 288 = .ok (.if_icmp .ne 7, 3) := by decide +kernel
theorem dX5_isSame_291 : decode cX5_isSame 291 = .ok (.iconst 1, 1) := by decide +kernel
theorem dX5_isSame_292 : decode cX5_isSame 292 = .ok (.goto 4, 3) := by decide +kernel
theorem dX5_isSame_295 : decode cX5_isSame 295 = .ok (.iconst 0, 1) := by decide +kernel
theorem dX5_isSame_296 : decode cX5_isSame 296 = .ok (.iadd, 1) := by decide +kernel
theorem dX5_isSame_297 : decode cX5_isSame 297 = .ok (.istore 4, 2) := by decide +kernel
theorem dX5_isSame_299 : decode cX5_isSame 299 = .ok (.iinc 7 1, 3) := by decide +kernel
theorem dX5_isSame_302 : decode cX5_isSame 302 = .ok (.goto (-42), 3) := by decide +kernel
theorem dX5_isSame_305 : decode cX5_isSame 305 = .ok (.iconst 4, 1) := by decide +kernel
theorem dX5_isSame_306 : decode cX5_isSame 306 = .ok (.newarray .int, 2) := by decide +kernel
theorem dX5_isSame_308 : decode cX5_isSame 308 = .ok (.dup, 1) := by decide +kernel
theorem dX5_isSame_309 : decode cX5_isSame 309 = .ok (.iconst 0, 1) := by decide +kernel
theorem dX5_isSame_310 : decode cX5_isSame 310 = .ok (.aload_n 0, 1) := by decide +kernel
theorem dX5_isSame_311 : decode cX5_isSame 311 = .ok (.getfield 16, 3) := by decide +kernel
theorem dX5_isSame_314 : decode cX5_isSame 314 = .ok (.iload_n 3, 1) := by decide +kernel
theorem dX5_isSame_315 : decode cX5_isSame 315 = .ok (.iaload, 1) := by decide +kernel
theorem dX5_isSame_316 : decode cX5_isSame 316 = .ok (.iastore, 1) := by decide +kernel
theorem dX5_isSame_317 : decode cX5_isSame 317 = .ok (.dup, 1) := by decide +kernel
theorem dX5_isSame_318 : decode cX5_isSame 318 = .ok (.iconst 1, 1) := by decide +kernel
theorem dX5_isSame_319 : decode cX5_isSame 319 = .ok (.aload_n 0, 1) := by decide +kernel
theorem dX5_isSame_320 : decode cX5_isSame 320 = .ok (.getfield 19, 3) := by decide +kernel
theorem dX5_isSame_323 : decode cX5_isSame 323 = .ok (.iload_n 3, 1) := by decide +kernel
theorem dX5_isSame_324 : decode cX5_isSame 324 = .ok (.iaload, 1) := by decide +kernel
theorem dX5_isSame_325 : decode cX5_isSame 325 = .ok (.iastore, 1) := by decide +kernel
theorem dX5_isSame_326 : decode cX5_isSame 326 = .ok (.dup, 1) := by decide +kernel
theorem dX5_isSame_327 : decode cX5_isSame 327 = .ok (.iconst 2, 1) := by decide +kernel
theorem dX5_isSame_328 : decode cX5_isSame 328 = .ok (.aload_n 0, 1) := by decide +kernel
theorem dX5_isSame_329 : decode cX5_isSame 329 = .ok (.getfield 19, 3) := by decide +kernel
theorem dX5_isSame_332 : decode cX5_isSame 332 = .ok (.iload_n 3, 1) := by decide +kernel
theorem dX5_isSame_333 : decode cX5_isSame 333 = .ok (.iaload, 1) := by decide +kernel
theorem dX5_isSame_334 : decode cX5_isSame 334 = .ok (.iconst 2, 1) := by decide +kernel
theorem dX5_isSame_335 : decode cX5_isSame 335 = .ok (.if_icmp .le 7, 3) := by decide +kernel
theorem dX5_isSame_338 : decode cX5_isSame 338 = .ok (.iconst 1, 1) := by decide +kernel
theorem dX5_isSame_339 : decode cX5_isSame 339 = .ok (.goto 4, 3) := by decide +kernel
theorem dX5_isSame_342 : decode cX5_isSame 342 = .ok (.iconst 0, 1) := by decide +kernel
theorem dX5_isSame_343 : decode cX5_isSame 343 = .ok (.iastore, 1) := by decide +kernel
theorem dX5_isSame_344 : decode cX5_isSame 344 = .ok (.dup, 1) := by decide +kernel
theorem dX5_isSame_345 : decode cX5_isSame 345 = .ok (.iconst 3, 1) := by decide +kernel
theorem dX5_isSame_346 : decode cX5_isSame 346 = .ok (.iload 4, 2) := by decide +kernel
theorem dX5_isSame_348 : decode cX5_isSame 348 = .ok (.iastore, 1) := by decide +kernel
theorem dX5_isSame_349 : decode cX5_isSame 349 = .ok (.astore 5, 2) := by decide +kernel
theorem dX5_isSame_351 : decode cX5_isSame 351 = .ok (.iconst 0, 1) := by decide +kernel
theorem dX5_isSame_352 : decode cX5_isSame 352 = .ok (.istore 6, 2) := by decide +kernel
theorem dX5_isSame_354 : decode cX5_isSame 354 = .ok (.iload 6, 2) := by decide +kernel
theorem dX5_isSame_356 : decode cX5_isSame 356 = .ok (.iconst 4, 1) := by decide +kernel
theorem dX5_isSame_357 : decode cX5_isSame 357 = .ok (.if_icmp .ge 26, 3) := by decide +kernel
theorem dX5_isSame_360 : decode cX5_isSame 360 = .ok (.aload_n 1, 1) := by decide +kernel
theorem dX5_isSame_361 : decode cX5_isSame 361 = .ok (.iload_n 3, 1) := by decide +kernel
theorem dX5_isSame_362 : decode cX5_isSame 362 = .ok (.iload 6, 2) := by decide +kernel
theorem dX5_isSame_364 : decode cX5_isSame 364 = .ok (.invokevirtual 101, 3) := by decide +kernel
theorem dX5_isSame_367 : decode cX5_isSame 367 = .ok (.aload 5, 2) := by decide +kernel
theorem dX5_isSame_369 : decode cX5_isSame 369 = .ok (.iload 6, 2) := by decide +kernel
theorem dX5_isSame_371 : decode cX5_isSame 371 = .ok (.iaload, 1) := by decide +kernel
theorem dX5_isSame_372 : decode cX5_isSame 372 = .ok (.if_icmp .eq 5, 3) := by decide +kernel
theorem dX5_isSame_375 : decode cX5_isSame 375 = .ok (.iconst 0, 1) := by decide +kernel
theorem dX5_isSame_376 : decode cX5_isSame 376 = .ok (.ireturn, 1) := by decide +kernel
theorem dX5_isSame_377 : decode cX5_isSame 377 = .ok (.iinc 6 1, 3) := by decide +kernel
theorem dX5_isSame_380 : decode cX5_isSame 380 = .ok (.goto (-26), 3) := by decide +kernel
theorem dX5_isSame_383 : decode cX5_isSame 383 = .ok (.iinc 3 1, 3) := by decide +kernel
theorem dX5_isSame_386 : decode cX5_isSame 386 = .ok (.goto (-149), 3) := by decide +kernel
theorem dX5_isSame_389 : decode cX5_isSame 389 = .ok (.iconst 0, 1) := by decide +kernel
theorem dX5_isSame_390 : decode cX5_isSame 390 = .ok (.istore_n 3, 1) := by decide +kernel
theorem dX5_isSame_391 : decode cX5_isSame 391 = .ok (.iload_n 3, 1) := by decide +kernel
theorem dX5_isSame_392 : decode cX5_isSame 392 = .ok (.aload_n 0, 1) := by decide +kernel
theorem dX5_isSame_393 : decode cX5_isSame 393 = .ok (.getfield 23, 3) := by decide +kernel
theorem dX5_isSame_396 : decode cX5_isSame 396 = .ok (.arraylength, 1) := by decide +kernel
theorem dX5_isSame_397 : decode cX5_isSame 397 = .ok (.if_icmp .ge 85, 3) := by decide +kernel
theorem dX5_isSame_400 : decode cX5_isSame 400 = .ok (.iconst 4, 1) := by decide +kernel
theorem dX5_isSame_401 : decode cX5_isSame 401 = .ok (.newarray .int, 2) := by decide +kernel
theorem dX5_isSame_403 : decode cX5_isSame 403 = .ok (.dup, 1) := by decide +kernel
theorem dX5_isSame_404 : decode cX5_isSame 404 = .ok (.iconst 0, 1) := by decide +kernel
theorem dX5_isSame_405 : decode cX5_isSame 405 = .ok (.aload_n 0, 1) := by decide +kernel
theorem dX5_isSame_406 : decode cX5_isSame 406 = .ok (.getfield 23, 3) := by decide +kernel
theorem dX5_isSame_409 : decode cX5_isSame 409 = .ok (.iload_n 3, 1) := by decide +kernel
theorem dX5_isSame_410 : decode cX5_isSame 410 = .ok (.aaload, 1) := by decide +kernel
theorem dX5_isSame_411 : decode cX5_isSame 411 = .ok (.iconst 0, 1) := by decide +kernel
theorem dX5_isSame_412 : decode cX5_isSame 412 = .ok (.iaload, 1) := by decide +kernel
theorem dX5_isSame_413 : decode cX5_isSame 413 = .ok (.iastore, 1) := by decide +kernel
theorem dX5_isSame_414 : decode cX5_isSame 414 = .ok (.dup, 1) := by decide +kernel
theorem dX5_isSame_415 : decode cX5_isSame 415 = .ok (.iconst 1, 1) := by decide +kernel
theorem dX5_isSame_416 : decode cX5_isSame 416 = .ok (.aload_n 0, 1) := by decide +kernel
theorem dX5_isSame_417 : decode cX5_isSame 417 = .ok (.iload_n 3, 1) := by decide +kernel
theorem dX5_isSame_418 : decode cX5_isSame 418 = .ok (.invokevirtual 70, 3) := by decide +kernel
theorem dX5_isSame_421 : decode cX5_isSame 421 = .ok (.iastore, 1) := by decide +kernel
theorem dX5_isSame_422 : decode cX5_isSame 422 = .ok (.dup, 1) := by decide +kernel
theorem dX5_isSame_423 : decode cX5_isSame 423 = .ok (.iconst 2, 1) := by decide +kernel
theorem dX5_isSame_424 : decode cX5_isSame 424 = .ok (.aload_n 0, 1) := by decide +kernel
theorem dX5_isSame_425 : decode cX5_isSame 425 = .ok (.iload_n 3, 1) := by decide +kernel
theorem dX5_isSame_426 : decode cX5_isSame 426 = .ok (.invokevirtual 74, 3) := by decide +kernel
theorem dX5_isSame_429 : decode cX5_isSame 429 = .ok (.iastore, 1) := by decide +kernel
theorem dX5_isSame_430 : decode cX5_isSame 430 = .ok (.dup, 1) := by decide +kernel
theorem dX5_isSame_431 : decode cX5_isSame 431 = .ok (.iconst 3, 1) := by decide +kernel
theorem dX5_isSame_432 : decode cX5_isSame 432 = .ok (.aload_n 0, 1) := by decide +kernel
theorem dX5_isSame_433 : decode cX5_isSame 433 = .ok (.getfield 23, 3) := by decide +kernel
theorem dX5_isSame_436 : decode cX5_isSame 436 = .ok (.iload_n 3, 1) := by decide +kernel
theorem dX5_isSame_437 : decode cX5_isSame 437 = .ok (.aaload, 1) := by decide +kernel
theorem dX5_isSame_438 : decode cX5_isSame 438 = .ok (.bipush 11, 2) := by decide +kernel
theorem dX5_isSame_440 : decode cX5_isSame 440 = .ok (.iaload, 1) := by decide +kernel
theorem dX5_isSame_441 : decode cX5_isSame 441 = .ok (.iastore, 1) := by decide +kernel
theorem dX5_isSame_442 : decode cX5_isSame 442 = .ok (.astore 4, 2) := by decide +kernel
theorem dX5_isSame_444 : decode cX5_isSame 444 = .ok (.iconst 0, 1) := by decide +kernel
theorem dX5_isSame_445 : decode cX5_isSame 445 = .ok (.istore 5, 2) := by decide +kernel
theorem dX5_isSame_447 : decode cX5_isSame 447 = .ok (.iload 5, 2) := by decide +kernel
theorem dX5_isSame_449 : decode cX5_isSame 449 = .ok (.iconst 4, 1) := by decide +kernel
theorem dX5_isSame_450 : decode cX5_isSame 450 = .ok (.if_icmp .ge 26, 3) := by decide +kernel
theorem dX5_isSame_453 : decode cX5_isSame 453 = .ok (.aload_n 1, 1) := by decide +kernel
theorem dX5_isSame_454 : decode cX5_isSame 454 = .ok (.iload_n 3, 1) := by decide +kernel
theorem dX5_isSame_455 : decode cX5_isSame 455 = .ok (.iload 5, 2) := by decide +kernel
theorem dX5_isSame_457 : decode cX5_isSame 457 = .ok (.invokevirtual 104, 3) := by decide +kernel
theorem dX5_isSame_460 : decode cX5_isSame 460 = .ok (.aload 4, 2) := by decide +kernel
theorem dX5_isSame_462 : decode cX5_isSame 462 = .ok (.iload 5, 2) := by decide +kernel
theorem dX5_isSame_464 : decode cX5_isSame 464 = .ok (.iaload, 1) := by decide +kernel
theorem dX5_isSame_465 : decode cX5_isSame 465 = .ok (.if_icmp .eq 5, 3) := by decide +kernel
theorem dX5_isSame_468 : decode cX5_isSame 468 = .ok (.iconst 0, 1) := by decide +kernel
theorem dX5_isSame_469 : decode cX5_isSame 469 = .ok (.ireturn, 1) := by decide +kernel
theorem dX5_isSame_470 : decode cX5_isSame 470 = .ok (.iinc 5 1, 3) := by decide +kernel
theorem dX5_isSame_473 : decode cX5_isSame 473 = .ok (.goto (-26), 3) := by decide +kernel
theorem dX5_isSame_476 : decode cX5_isSame 476 = .ok (.iinc 3 1, 3) := by decide +kernel
theorem dX5_isSame_479 : decode cX5_isSame 479 = .ok (.goto (-88), 3) := by decide +kernel
theorem dX5_isSame_482 : decode cX5_isSame 482 = .ok (.iconst 0, 1) := by decide +kernel
theorem dX5_isSame_483 : decode cX5_isSame 483 = .ok (.istore_n 3, 1) := by decide +kernel
theorem dX5_isSame_484 : decode cX5_isSame 484 = .ok (.iload_n 3, 1) := by decide +kernel
theorem dX5_isSame_485 : decode cX5_isSame 485 = .ok (.aload_n 0, 1) := by decide +kernel
theorem dX5_isSame_486 : decode cX5_isSame 486 = .ok (.getfield 27, 3) := by decide +kernel
theorem dX5_isSame_489 : decode cX5_isSame 489 = .ok (.arraylength, 1) := by decide +kernel
theorem dX5_isSame_490 : decode cX5_isSame 490 = .ok (.if_icmp .ge 106, 3) := by decide +kernel
theorem dX5_isSame_493 : decode cX5_isSame 493 = .ok (.aload_n 0, 1) := by decide +kernel
theorem dX5_isSame_494 : decode cX5_isSame 494 = .ok (.getfield 27, 3) := by decide +kernel
theorem dX5_isSame_497 : decode cX5_isSame 497 = .ok (.iload_n 3, 1) := by decide +kernel
theorem dX5_isSame_498 : decode cX5_isSame 498 = .ok (.aaload, 1) := by decide +kernel
theorem dX5_isSame_499 : decode cX5_isSame 499 = .ok (.astore 4, 2) := by decide +kernel
theorem dX5_isSame_501 : decode cX5_isSame 501 = .ok (.iconst 5, 1) := by decide +kernel
theorem dX5_isSame_502 : decode cX5_isSame 502 = .ok (.newarray .int, 2) := by decide +kernel
theorem dX5_isSame_504 : decode cX5_isSame 504 = .ok (.dup, 1) := by decide +kernel
theorem dX5_isSame_505 : decode cX5_isSame 505 = .ok (.iconst 0, 1) := by decide +kernel
theorem dX5_isSame_506 : decode cX5_isSame 506 = .ok (.aload 4, 2) := by decide +kernel
theorem dX5_isSame_508 : decode cX5_isSame 508 = .ok (.iconst 3, 1) := by decide +kernel
theorem dX5_isSame_509 : decode cX5_isSame 509 = .ok (.iaload, 1) := by decide +kernel
theorem dX5_isSame_510 : decode cX5_isSame 510 = .ok (.iastore, 1) := by decide +kernel
theorem dX5_isSame_511 : decode cX5_isSame 511 = .ok (.dup, 1) := by decide +kernel
theorem dX5_isSame_512 : decode cX5_isSame 512 = .ok (.iconst 1, 1) := by decide +kernel
theorem dX5_isSame_513 : decode cX5_isSame 513 = .ok (.aload 4, 2) := by decide +kernel
theorem dX5_isSame_515 : decode cX5_isSame 515 = .ok (.iconst 4, 1) := by decide +kernel
theorem dX5_isSame_516 : decode cX5_isSame 516 = .ok (.iaload, 1) := by decide +kernel
theorem dX5_isSame_517 : decode cX5_isSame 517 = .ok (.iastore, 1) := by decide +kernel
theorem dX5_isSame_518 : decode cX5_isSame 518 = .ok (.dup, 1) := by decide +kernel
theorem dX5_isSame_519 : decode cX5_isSame 519 = .ok (.iconst 2, 1) := by decide +kernel
theorem dX5_isSame_520 : decode cX5_isSame 520 = .ok (.aload 4, 2) := by decide +kernel
theorem dX5_isSame_522 : decode cX5_isSame 522 = .ok (.iconst 2, 1) := by decide +kernel
theorem dX5_isSame_523 : decode cX5_isSame 523 = .ok (.iaload, 1) := by decide +kernel
theorem dX5_isSame_524 : decode cX5_isSame 524 = .ok (.aload_n 0, 1) := by decide +kernel
theorem dX5_isSame_525 : decode cX5_isSame 525 = .ok (.invokevirtual 58, 3) := by decide +kernel
theorem dX5_isSame_528 : decode cX5_isSame 528 = .ok (.iconst 2, 1) := by decide +kernel
theorem dX5_isSame_529 : decode cX5_isSame 529 = .ok (.idiv, 1) := by decide +kernel
theorem dX5_isSame_530 : decode cX5_isSame 530 = .ok (.iadd, 1) := by decide +kernel
theorem dX5_isSame_531 : decode cX5_isSame 531 = .ok (.iastore, 1) := by decide +kernel
theorem dX5_isSame_532 : decode cX5_isSame 532 = .ok (.dup, 1) := by decide +kernel
theorem dX5_isSame_533 : decode cX5_isSame 533 = .ok (.iconst 3, 1) := by decide +kernel
theorem dX5_isSame_534 : decode cX5_isSame 534 = .ok (.iconst 2, 1) := by decide +kernel
theorem dX5_isSame_535 : decode cX5_isSame 535 = .ok (.aload 4, 2) := by decide +kernel
theorem dX5_isSame_537 : decode cX5_isSame 537 = .ok (.iconst 2, 1) := by decide +kernel
theorem dX5_isSame_538 : decode cX5_isSame 538 = .ok (.iaload, 1) := by decide +kernel
theorem dX5_isSame_539 : decode cX5_isSame 539 = .ok (.imul, 1) := by decide +kernel
theorem dX5_isSame_540 : decode cX5_isSame 540 = .ok (.bipush 6, 2) := by decide +kernel
theorem dX5_isSame_542 : decode cX5_isSame 542 = .ok (.iadd, 1) := by decide +kernel
theorem dX5_isSame_543 : decode cX5_isSame 543 = .ok (.aload_n 0, 1) := by decide +kernel
theorem dX5_isSame_544 : decode cX5_isSame 544 = .ok (.invokevirtual 58, 3) := by decide +kernel
theorem dX5_isSame_547 : decode cX5_isSame 547 = .ok (.isub, 1) := by decide +kernel
theorem dX5_isSame_548 : decode cX5_isSame 548 = .ok (.iastore, 1) := by decide +kernel
theorem dX5_isSame_549 : decode cX5_isSame 549 = .ok (.dup, 1) := by decide +kernel
theorem dX5_isSame_550 : decode cX5_isSame 550 = .ok (.iconst 4, 1) := by decide +kernel
theorem dX5_isSame_551 : decode cX5_isSame 551 = .ok (.aload 4, 2) := by decide +kernel
theorem dX5_isSame_553 : decode cX5_isSame 553 = .ok (.iconst 5, 1) := by decide +kernel
theorem dX5_isSame_554 : decode cX5_isSame 554 = .ok (.iaload, 1) := by decide +kernel
theorem dX5_isSame_555 : decode cX5_isSame 555 = .ok (.iastore, 1) := by decide +kernel
theorem dX5_isSame_556 : decode cX5_isSame 556 = .ok (.astore 5, 2) := by decide +kernel
theorem dX5_isSame_558 : decode cX5_isSame 558 = .ok (.iconst 0, 1) := by decide +kernel
theorem dX5_isSame_559 : decode cX5_isSame 559 = .ok (.istore 6, 2) := by decide +kernel
theorem dX5_isSame_561 : decode cX5_isSame 561 = .ok (.iload 6, 2) := by decide +kernel
theorem dX5_isSame_563 : decode cX5_isSame 563 = .ok (.iconst 5, 1) := by decide +kernel
theorem dX5_isSame_564 : decode cX5_isSame 564 = .ok (.if_icmp .ge 26, 3) := by decide +kernel
theorem dX5_isSame_567 : decode cX5_isSame 567 = .ok (.aload_n 1, 1) := by decide +kernel
theorem dX5_isSame_568 : decode cX5_isSame 568 = .ok (.iload_n 3, 1) := by decide +kernel
theorem dX5_isSame_569 : decode cX5_isSame 569 = .ok (.iload 6, 2) := by decide +kernel
theorem dX5_isSame_571 : decode cX5_isSame 571 = .ok (.invokevirtual 107, 3) := by decide +kernel
theorem dX5_isSame_574 : decode cX5_isSame 574 = .ok (.aload 5, 2) := by decide +kernel
theorem dX5_isSame_576 : decode cX5_isSame 576 = .ok (.iload 6, 2) := by decide +kernel
theorem dX5_isSame_578 : decode cX5_isSame 578 = .ok (.iaload, 1) := by decide +kernel
theorem dX5_isSame_579 : decode cX5_isSame 579 = .ok (.if_icmp .eq 5, 3) := by decide +kernel
theorem dX5_isSame_582 : decode cX5_isSame 582 = .ok (.iconst 0, 1) := by decide +kernel
theorem dX5_isSame_583 : decode cX5_isSame 583 = .ok (.ireturn, 1) := by decide +kernel
theorem dX5_isSame_584 : decode cX5_isSame 584 = .ok (.iinc 6 1, 3) := by decide +kernel
theorem dX5_isSame_587 : decode cX5_isSame 587 = .ok (.goto (-26), 3) := by decide +kernel
theorem dX5_isSame_590 : decode cX5_isSame 590 = .ok (.iinc 3 1, 3) := by decide +kernel
theorem dX5_isSame_593 : decode cX5_isSame 593 = .ok (.goto (-109), 3) := by decide +kernel
theorem dX5_isSame_596 : decode cX5_isSame 596 = .ok (.iconst 0, 1) := by decide +kernel
theorem dX5_isSame_597 : decode cX5_isSame 597 = .ok (.istore_n 3, 1) := by decide +kernel
theorem dX5_isSame_598 : decode cX5_isSame 598 = .ok (.iload_n 3, 1) := by decide +kernel
theorem dX5_isSame_599 : decode cX5_isSame 599 = .ok (.aload_n 0, 1) := by decide +kernel
theorem dX5_isSame_600 : decode cX5_isSame 600 = .ok (.getfield 30, 3) := by decide +kernel
theorem dX5_isSame_603 : decode cX5_isSame 603 = .ok (.arraylength, 1) := by decide +kernel
theorem dX5_isSame_604 : decode cX5_isSame 604 = .ok (.if_icmp .ge 166, 3) := by decide +kernel
theorem dX5_isSame_607 : decode cX5_isSame 607 = .ok (.aload_n 0, 1) := by decide +kernel
theorem dX5_isSame_608 : decode cX5_isSame 608 = .ok (.getfield 30, 3) := by decide +kernel
theorem dX5_isSame_611 : decode cX5_isSame 611 = .ok (.iload_n 3, 1) := by decide +kernel
theorem dX5_isSame_612 : decode cX5_isSame 612 = .ok (.aaload, 1) := by decide +kernel
