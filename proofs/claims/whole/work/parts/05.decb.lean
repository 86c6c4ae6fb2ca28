theorem dX5_walk_15 : decode cX5_walk 15 = .ok (.return_, 1) := by decide +kernel
theorem dX5_walk_16 : decode cX5_walk 16 = .ok (.aload_n 0, 1) := by decide +kernel
theorem dX5_walk_17 : decode cX5_walk 17 = .ok (.getfield 42, 3) := by decide +kernel
theorem dX5_walk_20 : decode cX5_walk 20 = .ok (.iload_n 1, 1) := by decide +kernel
theorem dX5_walk_21 : decode cX5_walk 21 = .ok (.iaload, 1) := by decide +kernel
theorem dX5_walk_22 : decode cX5_walk 22 = .ok (.aload_n 0, 1) := by decide +kernel
theorem dX5_walk_23 : decode cX5_walk 23 = .ok (.getfield 45, 3) := by decide +kernel
theorem dX5_walk_26 : decode cX5_walk 26 = .ok (.iload_n 1, 1) := by decide +kernel
theorem dX5_walk_27 : decode cX5_walk 27 = .ok (.iaload, 1) := by decide +kernel
theorem dX5_walk_28 : decode cX5_walk 28 = .ok (.ifCond .le 12, 3) := by decide +kernel
theorem dX5_walk_31 : decode cX5_walk 31 = .ok (.aload_n 0, 1) := by decide +kernel
theorem dX5_walk_32 : decode cX5_walk 32 = .ok (.getfield 36, 3) := by decide +kernel
theorem dX5_walk_35 : decode cX5_walk 35 = .ok (.iload_n 1, 1) := by decide +kernel
theorem dX5_walk_36 : decode cX5_walk 36 = .ok (.iaload, 1) := by decide +kernel
theorem dX5_walk_37 : decode cX5_walk 37 = .ok (.goto 9, 3) := by decide +kernel
theorem dX5_walk_40 : decode cX5_walk 40 = .ok (.aload_n 0, 1) := by decide +kernel
theorem dX5_walk_41 : decode cX5_walk 41 = .ok (.getfield 33, 3) := by decide +kernel
theorem dX5_walk_44 : decode cX5_walk 44 = .ok (.iload_n 1, 1) := by decide +kernel
theorem dX5_walk_45 : decode cX5_walk 45 = .ok (.iaload, 1) := by decide +kernel
theorem dX5_walk_46 : decode cX5_walk 46 = .ok (.if_icmp .ne 16, 3) := by decide +kernel
theorem dX5_walk_49 : decode cX5_walk 49 = .ok (.aload_n 0, 1) := by decide +kernel
theorem dX5_walk_50 : decode cX5_walk 50 = .ok (.getfield 45, 3) := by decide +kernel
theorem dX5_walk_53 : decode cX5_walk 53 = .ok (.iload_n 1, 1) := by decide +kernel
theorem dX5_walk_54 : decode cX5_walk 54 = .ok (.aload_n 0, 1) := by decide +kernel
theorem dX5_walk_55 : decode cX5_walk 55 = .ok (.getfield 45, 3) := by decide +kernel
theorem dX5_walk_58 : decode cX5_walk 58 = .ok (.iload_n 1, 1) := by decide +kernel
theorem dX5_walk_59 : decode cX5_walk 59 = .ok (.iaload, 1) := by decide +kernel
theorem dX5_walk_60 : decode cX5_walk 60 = .ok (.ineg, 1) := by decide +kernel
theorem dX5_walk_61 : decode cX5_walk 61 = .ok (.iastore, 1) := by decide +kernel
theorem dX5_walk_62 : decode cX5_walk 62 = .ok (.aload_n 0, 1) := by decide +kernel
theorem dX5_walk_63 : decode cX5_walk 63 = .ok (.getfield 42, 3) := by decide +kernel
theorem dX5_walk_66 : decode cX5_walk 66 = .ok (.iload_n 1, 1) := by decide +kernel
theorem dX5_walk_67 : decode cX5_walk 67 = .ok (.dup2, 1) := by decide +kernel
theorem dX5_walk_68 : decode cX5_walk 68 = .ok (.iaload, 1) := by decide +kernel
theorem dX5_walk_69 : decode cX5_walk 69 = .ok (.aload_n 0, 1) := by decide +kernel
theorem dX5_walk_70 : decode cX5_walk 70 = .ok (.getfield 45, 3) := by decide +kernel
theorem dX5_walk_73 : decode cX5_walk 73 = .ok (.iload_n 1, 1) := by decide +kernel
theorem dX5_walk_74 : decode cX5_walk 74 = .ok (.iaload, 1) := by decide +kernel
theorem dX5_walk_75 : decode cX5_walk 75 = .ok (.iadd, 1) := by decide +kernel
theorem dX5_walk_76 : decode cX5_walk 76 = .ok (.iastore, 1) := by decide +kernel
theorem dX5_walk_77 : decode cX5_walk 77 = .ok (.return_, 1) := by decide +kernel
theorem dX5_seize_0 : decode cX5_seize 0 = .ok (.iconst 0, 1) := by decide +kernel
theorem dX5_seize_1 : decode cX5_seize 1 = .ok (.istore_n 2, 1) := by decide +kernel
theorem dX5_seize_2 : decode cX5_seize 2 = .ok (.iload_n 2, 1) := by decide +kernel
theorem dX5_seize_3 : decode cX5_seize 3 = .ok (.aload_n 0, 1) := by decide +kernel
theorem dX5_seize_4 : decode cX5_seize 4 = .ok (.getfield 88, 3) := by decide +kernel
theorem dX5_seize_7 : decode cX5_seize 7 = .ok (.if_icmp .ge 105, 3) := by decide +kernel
theorem dX5_seize_10 : decode cX5_seize 10 = .ok (.aload_n 0, 1) := by decide +kernel
theorem dX5_seize_11 : decode cX5_seize 11 = .ok (.iload_n 1, 1) := by decide +kernel
theorem dX5_seize_12 : decode cX5_seize 12 = .ok (.invokevirtual 117, 3) := by decide +kernel
theorem dX5_seize_15 : decode cX5_seize 15 = .ok (.aload_n 0, 1) := by decide +kernel
theorem dX5_seize_16 : decode cX5_seize 16 = .ok (.aload_n 0, 1) := by decide +kernel
theorem dX5_seize_17 : decode cX5_seize 17 = .ok (.getfield 60, 3) := by decide +kernel
theorem dX5_seize_20 : decode cX5_seize 20 = .ok (.iload_n 2, 1) := by decide +kernel
theorem dX5_seize_21 : decode cX5_seize 21 = .ok (.iaload, 1) := by decide +kernel
theorem dX5_seize_22 : decode cX5_seize 22 = .ok (.invokevirtual 137, 3) := by decide +kernel
theorem dX5_seize_25 : decode cX5_seize 25 = .ok (.ifCond .eq 7, 3) := by decide +kernel
theorem dX5_seize_28 : decode cX5_seize 28 = .ok (.iconst 3, 1) := by decide +kernel
theorem dX5_seize_29 : decode cX5_seize 29 = .ok (.goto 4, 3) := by decide +kernel
theorem dX5_seize_32 : decode cX5_seize 32 = .ok (.iconst 0, 1) := by decide +kernel
theorem dX5_seize_33 : decode cX5_seize 33 = .ok (.iadd, 1) := by decide +kernel
theorem dX5_seize_34 : decode cX5_seize 34 = .ok (.istore_n 3, 1) := by decide +kernel
theorem dX5_seize_35 : decode cX5_seize 35 = .ok (.aload_n 0, 1) := by decide +kernel
theorem dX5_seize_36 : decode cX5_seize 36 = .ok (.iload_n 2, 1) := by decide +kernel
theorem dX5_seize_37 : decode cX5_seize 37 = .ok (.invokevirtual 141, 3) := by decide +kernel
theorem dX5_seize_40 : decode cX5_seize 40 = .ok (.ifCond .eq 66, 3) := by decide +kernel
theorem dX5_seize_43 : decode cX5_seize 43 = .ok (.aload_n 0, 1) := by decide +kernel
theorem dX5_seize_44 : decode cX5_seize 44 = .ok (.getfield 42, 3) := by decide +kernel
theorem dX5_seize_47 : decode cX5_seize 47 = .ok (.iload_n 1, 1) := by decide +kernel
theorem dX5_seize_48 : decode cX5_seize 48 = .ok (.iaload, 1) := by decide +kernel
theorem dX5_seize_49 : decode cX5_seize 49 = .ok (.aload_n 0, 1) := by decide +kernel
theorem dX5_seize_50 : decode cX5_seize 50 = .ok (.getfield 51, 3) := by decide +kernel
theorem dX5_seize_53 : decode cX5_seize 53 = .ok (.iload_n 2, 1) := by decide +kernel
theorem dX5_seize_54 : decode cX5_seize 54 = .ok (.iaload, 1) := by decide +kernel
theorem dX5_seize_55 : decode cX5_seize 55 = .ok (.isub, 1) := by decide +kernel
theorem dX5_seize_56 : decode cX5_seize 56 = .ok (.invokestatic 101, 3) := by decide +kernel
theorem dX5_seize_59 : decode cX5_seize 59 = .ok (.iload_n 3, 1) := by decide +kernel
theorem dX5_seize_60 : decode cX5_seize 60 = .ok (.if_icmp .le 6, 3) := by decide +kernel
theorem dX5_seize_63 : decode cX5_seize 63 = .ok (.goto 43, 3) := by decide +kernel
theorem dX5_seize_66 : decode cX5_seize 66 = .ok (.aload_n 0, 1) := by decide +kernel
theorem dX5_seize_67 : decode cX5_seize 67 = .ok (.getfield 66, 3) := by decide +kernel
theorem dX5_seize_70 : decode cX5_seize 70 = .ok (.iload_n 2, 1) := by decide +kernel
theorem dX5_seize_71 : decode cX5_seize 71 = .ok (.iconst 2, 1) := by decide +kernel
theorem dX5_seize_72 : decode cX5_seize 72 = .ok (.iastore, 1) := by decide +kernel
theorem dX5_seize_73 : decode cX5_seize 73 = .ok (.aload_n 0, 1) := by decide +kernel
theorem dX5_seize_74 : decode cX5_seize 74 = .ok (.dup, 1) := by decide +kernel
theorem dX5_seize_75 : decode cX5_seize 75 = .ok (.getfield 91, 3) := by decide +kernel
theorem dX5_seize_78 : decode cX5_seize 78 = .ok (.aload_n 0, 1) := by decide +kernel
theorem dX5_seize_79 : decode cX5_seize 79 = .ok (.getfield 54, 3) := by decide +kernel
theorem dX5_seize_82 : decode cX5_seize 82 = .ok (.iload_n 2, 1) := by decide +kernel
theorem dX5_seize_83 : decode cX5_seize 83 = .ok (.iaload, 1) := by decide +kernel
theorem dX5_seize_84 : decode cX5_seize 84 = .ok (.iadd, 1) := by decide +kernel
theorem dX5_seize_85 : decode cX5_seize 85 = .ok (.putfield 91, 3) := by decide +kernel
theorem dX5_seize_88 : decode cX5_seize 88 = .ok (.aload_n 0, 1) := by decide +kernel
theorem dX5_seize_89 : decode cX5_seize 89 = .ok (.getfield 54, 3) := by decide +kernel
theorem dX5_seize_92 : decode cX5_seize 92 = .ok (.iload_n 2, 1) := by decide +kernel
theorem dX5_seize_93 : decode cX5_seize 93 = .ok (.iconst 0, 1) := by decide +kernel
theorem dX5_seize_94 : decode cX5_seize 94 = .ok (.iastore, 1) := by decide +kernel
theorem dX5_seize_95 : decode cX5_seize 95 = .ok (.aload_n 0, 1) := by decide +kernel
theorem dX5_seize_96 : decode cX5_seize 96 = .ok (.getfield 48, 3) := by decide +kernel
theorem dX5_seize_99 : decode cX5_seize 99 = .ok (.iload_n 1, 1) := by decide +kernel
theorem dX5_seize_100 : decode cX5_seize 100 = .ok (.dup2, 1) := by decide +kernel
theorem dX5_seize_101 : decode cX5_seize 101 = .ok (.iaload, 1) := by decide +kernel
theorem dX5_seize_102 : decode cX5_seize 102 = .ok (.iconst 1, 1) := by decide +kernel
theorem dX5_seize_103 : decode cX5_seize 103 = .ok (.iadd, 1) := by decide +kernel
theorem dX5_seize_104 : decode cX5_seize 104 = .ok (.iastore, 1) := by decide +kernel
theorem dX5_seize_105 : decode cX5_seize 105 = .ok (.return_, 1) := by decide +kernel
theorem dX5_seize_106 : decode cX5_seize 106 = .ok (.iinc 2 1, 3) := by decide +kernel
theorem dX5_seize_109 : decode cX5_seize 109 = .ok (.goto (-107), 3) := by decide +kernel
theorem dX5_seize_112 : decode cX5_seize 112 = .ok (.return_, 1) := by decide +kernel
theorem dX5_go_0 : decode cX5_go 0 = .ok (.iconst 0, 1) := by decide +kernel
theorem dX5_go_1 : decode cX5_go 1 = .ok (.istore_n 1, 1) := by decide +kernel
theorem dX5_go_2 : decode cX5_go 2 = .ok (.aload_n 0, 1) := by decide +kernel
theorem dX5_go_3 : decode cX5_go 3 = .ok (.invokevirtual 144, 3) := by decide +kernel
theorem dX5_go_6 : decode cX5_go 6 = .ok (.iconst 0, 1) := by decide +kernel
theorem dX5_go_7 : decode cX5_go 7 = .ok (.istore_n 2, 1) := by decide +kernel
theorem dX5_go_8 : decode cX5_go 8 = .ok (.iload_n 2, 1) := by decide +kernel
theorem dX5_go_9 : decode cX5_go 9 = .ok (.aload_n 0, 1) := by decide +kernel
theorem dX5_go_10 : decode cX5_go 10 = .ok (.getfield 88, 3) := by decide +kernel
theorem dX5_go_13 : decode cX5_go 13 = .ok (.if_icmp .ge 45, 3) := by decide +kernel
theorem dX5_go_16 : decode cX5_go 16 = .ok (.aload_n 0, 1) := by decide +kernel
theorem dX5_go_17 : decode cX5_go 17 = .ok (.getfield 66, 3) := by decide +kernel
theorem dX5_go_20 : decode cX5_go 20 = .ok (.iload_n 2, 1) := by decide +kernel
theorem dX5_go_21 : decode cX5_go 21 = .ok (.iaload, 1) := by decide +kernel
theorem dX5_go_22 : decode cX5_go 22 = .ok (.ifCond .eq 6, 3) := by decide +kernel
theorem dX5_go_25 : decode cX5_go 25 = .ok (.goto 27, 3) := by decide +kernel
theorem dX5_go_28 : decode cX5_go 28 = .ok (.aload_n 0, 1) := by decide +kernel
theorem dX5_go_29 : decode cX5_go 29 = .ok (.iload_n 2, 1) := by decide +kernel
theorem dX5_go_30 : decode cX5_go 30 = .ok (.invokevirtual 141, 3) := by decide +kernel
theorem dX5_go_33 : decode cX5_go 33 = .ok (.ifCond .eq 14, 3) := by decide +kernel
theorem dX5_go_36 : decode cX5_go 36 = .ok (.iload_n 1, 1) := by decide +kernel
theorem dX5_go_37 : decode cX5_go 37 = .ok (.aload_n 0, 1) := by decide +kernel
theorem dX5_go_38 : decode cX5_go 38 = .ok (.iload_n 2, 1) := by decide +kernel
theorem dX5_go_39 : decode cX5_go 39 = .ok (.invokevirtual 147, 3) := by decide +kernel
theorem dX5_go_42 : decode cX5_go 42 = .ok (.iadd, 1) := by decide +kernel
theorem dX5_go_43 : decode cX5_go 43 = .ok (.istore_n 1, 1) := by decide +kernel
theorem dX5_go_44 : decode cX5_go 44 = .ok (.goto 8, 3) := by decide +kernel
theorem dX5_go_47 : decode cX5_go 47 = .ok (.aload_n 0, 1) := by decide +kernel
theorem dX5_go_48 : decode cX5_go 48 = .ok (.iload_n 2, 1) := by decide +kernel
theorem dX5_go_49 : decode cX5_go 49 = .ok (.invokevirtual 150, 3) := by decide +kernel
theorem dX5_go_52 : decode cX5_go 52 = .ok (.iinc 2 1, 3) := by decide +kernel
theorem dX5_go_55 : decode cX5_go 55 = .ok (.goto (-47), 3) := by decide +kernel
theorem dX5_go_58 : decode cX5_go 58 = .ok (.iconst 0, 1) := by decide +kernel
theorem dX5_go_59 : decode cX5_go 59 = .ok (.istore_n 2, 1) := by decide +kernel
theorem dX5_go_60 : decode cX5_go 60 = .ok (.iload_n 2, 1) := by decide +kernel
theorem dX5_go_61 : decode cX5_go 61 = .ok (.aload_n 0, 1) := by decide +kernel
theorem dX5_go_62 : decode cX5_go 62 = .ok (.getfield 85, 3) := by decide +kernel
theorem dX5_go_65 : decode cX5_go 65 = .ok (.if_icmp .ge 19, 3) := by decide +kernel
theorem dX5_go_68 : decode cX5_go 68 = .ok (.aload_n 0, 1) := by decide +kernel
theorem dX5_go_69 : decode cX5_go 69 = .ok (.iload_n 2, 1) := by decide +kernel
theorem dX5_go_70 : decode cX5_go 70 = .ok (.invokevirtual 153, 3) := by decide +kernel
theorem dX5_go_73 : decode cX5_go 73 = .ok (.aload_n 0, 1) := by decide +kernel
theorem dX5_go_74 : decode cX5_go 74 = .ok (.iload_n 2, 1) := by decide +kernel
theorem dX5_go_75 : decode cX5_go 75 = .ok (.invokevirtual 156, 3) := by decide +kernel
theorem dX5_go_78 : decode cX5_go 78 = .ok (.iinc 2 1, 3) := by decide +kernel
theorem dX5_go_81 : decode cX5_go 81 = .ok (.goto (-21), 3) := by decide +kernel
theorem dX5_go_84 : decode cX5_go 84 = .ok (.aload_n 0, 1) := by decide +kernel
theorem dX5_go_85 : decode cX5_go 85 = .ok (.dup, 1) := by decide +kernel
theorem dX5_go_86 : decode cX5_go 86 = .ok (.getfield 78, 3) := by decide +kernel
theorem dX5_go_89 : decode cX5_go 89 = .ok (.iconst 1, 1) := by decide +kernel
theorem dX5_go_90 : decode cX5_go 90 = .ok (.iadd, 1) := by decide +kernel
theorem dX5_go_91 : decode cX5_go 91 = .ok (.putfield 78, 3) := by decide +kernel
theorem dX5_go_94 : decode cX5_go 94 = .ok (.iload_n 1, 1) := by decide +kernel
theorem dX5_go_95 : decode cX5_go 95 = .ok (.ireturn, 1) := by decide +kernel
theorem dX5_in_0 : decode cX5_in 0 = .ok (.iconst 0, 1) := by decide +kernel
theorem dX5_in_1 : decode cX5_in 1 = .ok (.istore_n 2, 1) := by decide +kernel
theorem dX5_in_2 : decode cX5_in 2 = .ok (.iconst 0, 1) := by decide +kernel
theorem dX5_in_3 : decode cX5_in 3 = .ok (.istore_n 3, 1) := by decide +kernel
theorem dX5_in_4 : decode cX5_in 4 = .ok (.iload_n 3, 1) := by decide +kernel
theorem dX5_in_5 : decode cX5_in 5 = .ok (.aload_n 0, 1) := by decide +kernel
theorem dX5_in_6 : decode cX5_in 6 = .ok (.getfield 88, 3) := by decide +kernel
theorem dX5_in_9 : decode cX5_in 9 = .ok (.if_icmp .ge 27, 3) := by decide +kernel
theorem dX5_in_12 : decode cX5_in 12 = .ok (.iload_n 2, 1) := by decide +kernel
theorem dX5_in_13 : decode cX5_in 13 = .ok (.aload_n 0, 1) := by decide +kernel
theorem dX5_in_14 : decode cX5_in 14 = .ok (.getfield 66, 3) := by decide +kernel
theorem dX5_in_17 : decode cX5_in 17 = .ok (.iload_n 3, 1) := by decide +kernel
theorem dX5_in_18 : decode cX5_in 18 = .ok (.iaload, 1) := by decide +kernel
theorem dX5_in_19 : decode cX5_in 19 = .ok (.iload_n 1, 1) := by decide +kernel
theorem dX5_in_20 : decode cX5_in 20 = .ok (.if_icmp .ne 7, 3) := by decide +kernel
theorem dX5_in_23 : decode cX5_in 23 = .ok (.iconst 1, 1) := by decide +kernel
theorem dX5_in_24 : decode cX5_in 24 = .ok (.goto 4, 3) := by decide +kernel
theorem dX5_in_27 : decode cX5_in 27 = .ok (.iconst 0, 1) := by decide +kernel
theorem dX5_in_28 : decode cX5_in 28 = .ok (.iadd, 1) := by decide +kernel
theorem dX5_in_29 : decode cX5_in 29 = .ok (.istore_n 2, 1) := by decide +kernel
theorem dX5_in_30 : decode cX5_in 30 = .ok (.iinc 3 1, 3) := by decide +kernel
theorem dX5_in_33 : decode cX5_in 33 = .ok (.goto (-29), 3) := by decide +kernel
theorem dX5_in_36 : decode cX5_in 36 = .ok (.iload_n 2, 1) := by decide +kernel
theorem dX5_in_37 : decode cX5_in 37 = .ok (.ireturn, 1) := by decide +kernel
theorem dX5_caves_0 : decode cX5_caves 0 = .ok (.iconst 0, 1) := by decide +kernel
theorem dX5_caves_1 : decode cX5_caves 1 = .ok (.istore_n 1, 1) := by decide +kernel
theorem dX5_caves_2 : decode cX5_caves 2 = .ok (.aload_n 0, 1) := by decide +kernel
theorem dX5_caves_3 : decode cX5_caves 3 = .ok (.getfield 15, 3) := by decide +kernel
theorem dX5_caves_6 : decode cX5_caves 6 = .ok (.astore_n 2, 1) := by decide +kernel
theorem dX5_caves_7 : decode cX5_caves 7 = .ok (.aload_n 2, 1) := by decide +kernel
theorem dX5_caves_8 : decode cX5_caves 8 = .ok (.arraylength, 1) := by decide +kernel
theorem dX5_caves_9 : decode cX5_caves 9 = .ok (.istore_n 3, 1) := by decide +kernel
theorem dX5_caves_10 : decode cX5_caves 10 = .ok (.iconst 0, 1) := by decide +kernel
theorem dX5_caves_11 : decode cX5_caves 11 = .ok (.istore 4, 2) := by decide +kernel
theorem dX5_caves_13 : decode cX5_caves 13 = .ok (.iload 4, 2) := by decide +kernel
theorem dX5_caves_15 : decode cX5_caves 15 = .ok (.iload_n 3, 1) := by decide +kernel
theorem dX5_caves_16 : decode cX5_caves 16 = .ok (.if_icmp .ge 20, 3) := by decide +kernel
theorem dX5_caves_19 : decode cX5_caves 19 = .ok (.aload_n 2, 1) := by decide +kernel
theorem dX5_caves_20 : decode cX5_caves 20 = .ok (.iload 4, 2) := by decide +kernel
theorem dX5_caves_22 : decode cX5_caves 22 = .ok (.iaload, 1) := by decide +kernel
theorem dX5_caves_23 : decode cX5_caves 23 = .ok (.istore 5, 2) := by decide +kernel
theorem dX5_caves_25 : decode cX5_caves 25 = .ok (.iload_n 1, 1) := by decide +kernel
theorem dX5_caves_26 : decode cX5_caves 26 = .ok (.iload 5, 2) := by decide +kernel
theorem dX5_caves_28 : decode cX5_caves 28 = .ok (.iadd, 1) := by decide +kernel
theorem dX5_caves_29 : decode cX5_caves 29 = .ok (.istore_n 1, 1) := by decide +kernel
theorem dX5_caves_30 : decode cX5_caves 30 = .ok (.iinc 4 1, 3) := by decide +kernel
theorem dX5_caves_33 : decode cX5_caves 33 = .ok (.goto (-20), 3) := by decide +kernel
theorem dX5_caves_36 : decode cX5_caves 36 = .ok (.iload_n 1, 1) := by decide +kernel
theorem dX5_caves_37 : decode cX5_caves 37 = .ok (.ireturn, 1) := by decide +kernel
theorem dX5_known_0 : decode cX5_known 0 = .ok (.iconst 0, 1) := by decide +kernel
theorem dX5_known_1 : decode cX5_known 1 = .ok (.istore_n 1, 1) := by decide +kernel
theorem dX5_known_2 : decode cX5_known 2 = .ok (.iconst 1, 1) := by decide +kernel
theorem dX5_known_3 : decode cX5_known 3 = .ok (.istore_n 2, 1) := by decide +kernel
theorem dX5_known_4 : decode cX5_known 4 = .ok (.iload_n 2, 1) := by decide +kernel
theorem dX5_known_5 : decode cX5_known 5 = .ok (.bipush 7, 2) := by decide +kernel
theorem dX5_known_7 : decode cX5_known 7 = .ok (.if_icmp .gt 25, 3) := by decide +kernel
theorem dX5_known_10 : decode cX5_known 10 = .ok (.iload_n 1, 1) := by decide +kernel
theorem dX5_known_11 : decode cX5_known 11 = .ok (.aload_n 0, 1) := by decide +kernel
theorem dX5_known_12 : decode cX5_known 12 = .ok (.iload_n 2, 1) := by decide +kernel
theorem dX5_known_13 : decode cX5_known 13 = .ok (.invokevirtual 137, 3) := by decide +kernel
theorem dX5_known_16 : decode cX5_known 16 = .ok (.ifCond .eq 7, 3) := by decide +kernel
theorem dX5_known_19 : decode cX5_known 19 = .ok (.iconst 1, 1) := by decide +kernel
theorem dX5_known_20 : decode cX5_known 20 = .ok (.goto 4, 3) := by decide +kernel
theorem dX5_known_23 : decode cX5_known 23 = .ok (.iconst 0, 1) := by decide +kernel
theorem dX5_known_24 : decode cX5_known 24 = .ok (.iadd, 1) := by decide +kernel
theorem dX5_known_25 : decode cX5_known 25 = .ok (.istore_n 1, 1) := by decide +kernel
theorem dX5_known_26 : decode cX5_known 26 = .ok (.iinc 2 1, 3) := by decide +kernel
theorem dX5_known_29 : decode cX5_known 29 = .ok (.goto (-25), 3) := by decide +kernel
theorem dX5_known_32 : decode cX5_known 32 = .ok (.iload_n 1, 1) := by decide +kernel
theorem dX5_known_33 : decode cX5_known 33 = .ok (.ireturn, 1) := by decide +kernel
theorem dX5_counted_0 : decode cX5_counted 0 = .ok (.iload_n 1, 1) := by decide +kernel
theorem dX5_counted_1 : decode cX5_counted 1 = .ok (.tableswitch 108 0 9 #[55, 60, 65, 70, 75, 81, 87, 93, 98, 103], 55) := by decide +kernel
theorem dX5_counted_56 : decode cX5_counted 56 = .ok (.aload_n 0, 1) := by decide +kernel
theorem dX5_counted_57 : decode cX5_counted 57 = .ok (.getfield 78, 3) := by decide +kernel
theorem dX5_counted_60 : decode cX5_counted 60 = .ok (.ireturn, 1) := by decide +kernel
theorem dX5_counted_61 : decode cX5_counted 61 = .ok (.aload_n 0, 1) := by decide +kernel
theorem dX5_counted_62 : decode cX5_counted 62 = .ok (.getfield 82, 3) := by decide +kernel
theorem dX5_counted_65 : decode cX5_counted 65 = .ok (.ireturn, 1) := by decide +kernel
theorem dX5_counted_66 : decode cX5_counted 66 = .ok (.aload_n 0, 1) := by decide +kernel
theorem dX5_counted_67 : decode cX5_counted 67 = .ok (.getfield 85, 3) := by decide +kernel
theorem dX5_counted_70 : decode cX5_counted 70 = .ok (.ireturn, 1) := by decide +kernel
theorem dX5_counted_71 : decode cX5_counted 71 = .ok (.aload_n 0, 1) := by decide +kernel
theorem dX5_counted_72 : decode cX5_counted 72 = .ok (.getfield 88, 3) := by decide +kernel
theorem dX5_counted_75 : decode cX5_counted 75 = .ok (.ireturn, 1) := by decide +kernel
theorem dX5_counted_76 : decode cX5_counted 76 = .ok (.aload_n 0, 1) := by decide +kernel
theorem dX5_counted_77 : decode cX5_counted 77 = .ok (.iconst 0, 1) := by decide +kernel
theorem dX5_counted_78 : decode cX5_counted 78 = .ok (.invokevirtual 159, 3) := by decide +kernel
theorem dX5_counted_81 : decode cX5_counted 81 = .ok (.ireturn, 1) := by decide +kernel
theorem dX5_counted_82 : decode cX5_counted 82 = .ok (.aload_n 0, 1) := by decide +kernel
theorem dX5_counted_83 : decode cX5_counted 83 = .ok (.iconst 1, 1) := by decide +kernel
theorem dX5_counted_84 : decode cX5_counted 84 = .ok (.invokevirtual 159, 3) := by decide +kernel
theorem dX5_counted_87 : decode cX5_counted 87 = .ok (.ireturn, 1) := by decide +kernel
theorem dX5_counted_88 : decode cX5_counted 88 = .ok (.aload_n 0, 1) := by decide +kernel
theorem dX5_counted_89 : decode cX5_counted 89 = .ok (.iconst 2, 1) := by decide +kernel
theorem dX5_counted_90 : decode cX5_counted 90 = .ok (.invokevirtual 159, 3) := by decide +kernel
theorem dX5_counted_93 : decode cX5_counted 93 = .ok (.ireturn, 1) := by decide +kernel
theorem dX5_counted_94 : decode cX5_counted 94 = .ok (.aload_n 0, 1) := by decide +kernel
theorem dX5_counted_95 : decode cX5_counted 95 = .ok (.invokevirtual 162, 3) := by decide +kernel
theorem dX5_counted_98 : decode cX5_counted 98 = .ok (.ireturn, 1) := by decide +kernel
theorem dX5_counted_99 : decode cX5_counted 99 = .ok (.aload_n 0, 1) := by decide +kernel
theorem dX5_counted_100 : decode cX5_counted 100 = .ok (.getfield 91, 3) := by decide +kernel
theorem dX5_counted_103 : decode cX5_counted 103 = .ok (.ireturn, 1) := by decide +kernel
theorem dX5_counted_104 : decode cX5_counted 104 = .ok (.aload_n 0, 1) := by decide +kernel
theorem dX5_counted_105 : decode cX5_counted 105 = .ok (.getfield 94, 3) := by decide +kernel
theorem dX5_counted_108 : decode cX5_counted 108 = .ok (.ireturn, 1) := by decide +kernel
theorem dX5_counted_109 : decode cX5_counted 109 = .ok (.aload_n 0, 1) := by decide +kernel
theorem dX5_counted_110 : decode cX5_counted 110 = .ok (.invokevirtual 165, 3) := by decide +kernel
theorem dX5_counted_113 : decode cX5_counted 113 = .ok (.ireturn, 1) := by decide +kernel
theorem dX5_send_0 : decode cX5_send 0 = .ok (.aload_n 0, 1) := by decide +kernel
theorem dX5_send_1 : decode cX5_send 1 = .ok (.getfield 57, 3) := by decide +kernel
theorem dX5_send_4 : decode cX5_send 4 = .ok (.iload_n 1, 1) := by decide +kernel
theorem dX5_send_5 : decode cX5_send 5 = .ok (.iload_n 2, 1) := by decide +kernel
theorem dX5_send_6 : decode cX5_send 6 = .ok (.iastore, 1) := by decide +kernel
theorem dX5_send_7 : decode cX5_send 7 = .ok (.aload_n 0, 1) := by decide +kernel
theorem dX5_send_8 : decode cX5_send 8 = .ok (.getfield 63, 3) := by decide +kernel
theorem dX5_send_11 : decode cX5_send 11 = .ok (.iload_n 1, 1) := by decide +kernel
theorem dX5_send_12 : decode cX5_send 12 = .ok (.iload_n 2, 1) := by decide +kernel
theorem dX5_send_13 : decode cX5_send 13 = .ok (.iconst (-1), 1) := by decide +kernel
theorem dX5_send_14 : decode cX5_send 14 = .ok (.if_icmp .ne 7, 3) := by decide +kernel
theorem dX5_send_17 : decode cX5_send 17 = .ok (.iconst 1, 1) := by decide +kernel
theorem dX5_send_18 : decode cX5_send 18 = .ok (.goto 4, 3) := by decide +kernel
theorem dX5_send_21 : decode cX5_send 21 = .ok (.iconst 0, 1) := by decide +kernel
theorem dX5_send_22 : decode cX5_send 22 = .ok (.iastore, 1) := by decide +kernel
theorem dX5_send_23 : decode cX5_send 23 = .ok (.aload_n 0, 1) := by decide +kernel
theorem dX5_send_24 : decode cX5_send 24 = .ok (.getfield 60, 3) := by decide +kernel
theorem dX5_send_27 : decode cX5_send 27 = .ok (.iload_n 1, 1) := by decide +kernel
theorem dX5_send_28 : decode cX5_send 28 = .ok (.iconst 0, 1) := by decide +kernel
theorem dX5_send_29 : decode cX5_send 29 = .ok (.iastore, 1) := by decide +kernel
theorem dX5_send_30 : decode cX5_send 30 = .ok (.return_, 1) := by decide +kernel
theorem dX6_init_0 : decode cX6_init 0 = .ok (.aload_n 0, 1) := by decide +kernel
theorem dX6_init_1 : decode cX6_init 1 = .ok (.invokespecial 1, 3) := by decide +kernel
theorem dX6_init_4 : decode cX6_init 4 = .ok (.aload_n 0, 1) := by decide +kernel
theorem dX6_init_5 : decode cX6_init 5 = .ok (.new 7, 3) := by decide +kernel
theorem dX6_init_8 : decode cX6_init 8 = .ok (.dup, 1) := by decide +kernel
theorem dX6_init_9 : decode cX6_init 9 = .ok (.invokespecial 9, 3) := by decide +kernel
theorem dX6_init_12 : decode cX6_init 12 = .ok (.putfield 10, 3) := by decide +kernel
theorem dX6_init_15 : decode cX6_init 15 = .ok (.aload_n 0, 1) := by decide +kernel
theorem dX6_init_16 : decode cX6_init 16 = .ok (.new 7, 3) := by decide +kernel
theorem dX6_init_19 : decode cX6_init 19 = .ok (.dup, 1) := by decide +kernel
theorem dX6_init_20 : decode cX6_init 20 = .ok (.invokespecial 9, 3) := by decide +kernel
theorem dX6_init_23 : decode cX6_init 23 = .ok (.putfield 16, 3) := by decide +kernel
theorem dX6_init_26 : decode cX6_init 26 = .ok (.return_, 1) := by decide +kernel
theorem dX6_thrown_0 : decode cX6_thrown 0 = .ok (.aload_n 0, 1) := by decide +kernel
theorem dX6_thrown_1 : decode cX6_thrown 1 = .ok (.getfield 19, 3) := by decide +kernel
theorem dX6_thrown_4 : decode cX6_thrown 4 = .ok (.ireturn, 1) := by decide +kernel
theorem dX6_no_0 : decode cX6_no 0 = .ok (.aload_n 0, 1) := by decide +kernel
theorem dX6_no_1 : decode cX6_no 1 = .ok (.iload_n 1, 1) := by decide +kernel
theorem dX6_no_2 : decode cX6_no 2 = .ok (.putfield 19, 3) := by decide +kernel
theorem dX6_no_5 : decode cX6_no 5 = .ok (.iconst 0, 1) := by decide +kernel
theorem dX6_no_6 : decode cX6_no 6 = .ok (.ireturn, 1) := by decide +kernel
theorem dX6_isIn_0 : decode cX6_isIn 0 = .ok (.iload_n 0, 1) := by decide +kernel
theorem dX6_isIn_1 : decode cX6_isIn 1 = .ok (.iload_n 1, 1) := by decide +kernel
theorem dX6_isIn_2 : decode cX6_isIn 2 = .ok (.if_icmp .lt 12, 3) := by decide +kernel
theorem dX6_isIn_5 : decode cX6_isIn 5 = .ok (.iload_n 0, 1) := by decide +kernel
theorem dX6_isIn_6 : decode cX6_isIn 6 = .ok (.iload_n 2, 1) := by decide +kernel
theorem dX6_isIn_7 : decode cX6_isIn 7 = .ok (.if_icmp .gt 7, 3) := by decide +kernel
theorem dX6_isIn_10 : decode cX6_isIn 10 = .ok (.iconst 1, 1) := by decide +kernel
theorem dX6_isIn_11 : decode cX6_isIn 11 = .ok (.goto 4, 3) := by decide +kernel
theorem dX6_isIn_14 : decode cX6_isIn 14 = .ok (.iconst 0, 1) := by decide +kernel
theorem dX6_isIn_15 : decode cX6_isIn 15 = .ok (.ireturn, 1) := by decide +kernel
theorem dX6_isPlace_0 : decode cX6_isPlace 0 = .ok (.iload_n 0, 1) := by decide +kernel
theorem dX6_isPlace_1 : decode cX6_isPlace 1 = .ok (.iconst 0, 1) := by decide +kernel
theorem dX6_isPlace_2 : decode cX6_isPlace 2 = .ok (.bipush 15, 2) := by decide +kernel
theorem dX6_isPlace_4 : decode cX6_isPlace 4 = .ok (.invokestatic 23, 3) := by decide +kernel
theorem dX6_isPlace_7 : decode cX6_isPlace 7 = .ok (.ireturn, 1) := by decide +kernel
theorem dX6_isCode_0 : decode cX6_isCode 0 = .ok (.iload_n 0, 1) := by decide +kernel
theorem dX6_isCode_1 : decode cX6_isCode 1 = .ok (.iconst 1, 1) := by decide +kernel
theorem dX6_isCode_2 : decode cX6_isCode 2 = .ok (.bipush 7, 2) := by decide +kernel
theorem dX6_isCode_4 : decode cX6_isCode 4 = .ok (.invokestatic 23, 3) := by decide +kernel
theorem dX6_isCode_7 : decode cX6_isCode 7 = .ok (.ireturn, 1) := by decide +kernel
theorem dX6_isLantern_0 : decode cX6_isLantern 0 = .ok (.iload_n 1, 1) := by decide +kernel
theorem dX6_isLantern_1 : decode cX6_isLantern 1 = .ok (.iconst 0, 1) := by decide +kernel
theorem dX6_isLantern_2 : decode cX6_isLantern 2 = .ok (.aload_n 0, 1) := by decide +kernel
theorem dX6_isLantern_3 : decode cX6_isLantern 3 = .ok (.getfield 10, 3) := by decide +kernel
theorem dX6_isLantern_6 : decode cX6_isLantern 6 = .ok (.getfield 27, 3) := by decide +kernel
theorem dX6_isLantern_9 : decode cX6_isLantern 9 = .ok (.iconst 1, 1) := by decide +kernel
theorem dX6_isLantern_10 : decode cX6_isLantern 10 = .ok (.isub, 1) := by decide +kernel
theorem dX6_isLantern_11 : decode cX6_isLantern 11 = .ok (.invokestatic 23, 3) := by decide +kernel
theorem dX6_isLantern_14 : decode cX6_isLantern 14 = .ok (.ireturn, 1) := by decide +kernel
theorem dX6_isWatchman_0 : decode cX6_isWatchman 0 = .ok (.iload_n 1, 1) := by decide +kernel
theorem dX6_isWatchman_1 : decode cX6_isWatchman 1 = .ok (.iconst 0, 1) := by decide +kernel
theorem dX6_isWatchman_2 : decode cX6_isWatchman 2 = .ok (.aload_n 0, 1) := by decide +kernel
theorem dX6_isWatchman_3 : decode cX6_isWatchman 3 = .ok (.getfield 10, 3) := by decide +kernel
theorem dX6_isWatchman_6 : decode cX6_isWatchman 6 = .ok (.getfield 30, 3) := by decide +kernel
theorem dX6_isWatchman_9 : decode cX6_isWatchman 9 = .ok (.iconst 1, 1) := by decide +kernel
theorem dX6_isWatchman_10 : decode cX6_isWatchman 10 = .ok (.isub, 1) := by decide +kernel
theorem dX6_isWatchman_11 : decode cX6_isWatchman 11 = .ok (.invokestatic 23, 3) := by decide +kernel
theorem dX6_isWatchman_14 : decode cX6_isWatchman 14 = .ok (.ireturn, 1) := by decide +kernel
theorem dX6_isBoat_0 : decode cX6_isBoat 0 = .ok (.iload_n 1, 1) := by decide +kernel
theorem dX6_isBoat_1 : decode cX6_isBoat 1 = .ok (.iconst 0, 1) := by decide +kernel
theorem dX6_isBoat_2 : decode cX6_isBoat 2 = .ok (.aload_n 0, 1) := by decide +kernel
theorem dX6_isBoat_3 : decode cX6_isBoat 3 = .ok (.getfield 10, 3) := by decide +kernel
theorem dX6_isBoat_6 : decode cX6_isBoat 6 = .ok (.getfield 33, 3) := by decide +kernel
theorem dX6_isBoat_9 : decode cX6_isBoat 9 = .ok (.iconst 1, 1) := by decide +kernel
theorem dX6_isBoat_10 : decode cX6_isBoat 10 = .ok (.isub, 1) := by decide +kernel
theorem dX6_isBoat_11 : decode cX6_isBoat 11 = .ok (.invokestatic 23, 3) := by decide +kernel
theorem dX6_isBoat_14 : decode cX6_isBoat 14 = .ok (.ireturn, 1) := by decide +kernel
theorem dX6_setRoom_0 : decode cX6_setRoom 0 = .ok (.aload_n 0, 1) := by decide +kernel
theorem dX6_setRoom_1 : decode cX6_setRoom 1 = .ok (.iconst 0, 1) := by decide +kernel
theorem dX6_setRoom_2 : decode cX6_setRoom 2 = .ok (.putfield 19, 3) := by decide +kernel
theorem dX6_setRoom_5 : decode cX6_setRoom 5 = .ok (.iload_n 1, 1) := by decide +kernel
theorem dX6_setRoom_6 : decode cX6_setRoom 6 = .ok (.invokestatic 36, 3) := by decide +kernel
theorem dX6_setRoom_9 : decode cX6_setRoom 9 = .ok (.ifCond .ne 9, 3) := by decide +kernel
theorem dX6_setRoom_12 : decode cX6_setRoom 12 = .ok (.aload_n 0, 1) := by decide +kernel
theorem dX6_setRoom_13 : decode cX6_setRoom 13 = .ok (.iconst 1, 1) := by decide +kernel
theorem dX6_setRoom_14 : decode cX6_setRoom 14 = .ok (.invokevirtual 40, 3) := by decide +kernel
theorem dX6_setRoom_17 : decode cX6_setRoom 17 = .ok (.ireturn, 1) := by decide +kernel
theorem dX6_setRoom_18 : decode cX6_setRoom 18 = .ok (.iload_n 2, 1) := by decide +kernel
theorem dX6_setRoom_19 : decode cX6_setRoom 19 = .ok (.iconst 0, 1) := by decide +kernel
theorem dX6_setRoom_20 : decode cX6_setRoom 20 = .ok (.bipush 30, 2) := by decide +kernel
theorem dX6_setRoom_22 : decode cX6_setRoom 22 = .ok (.invokestatic 23, 3) := by decide +kernel
theorem dX6_setRoom_25 : decode cX6_setRoom 25 = .ok (.ifCond .ne 9, 3) := by decide +kernel
theorem dX6_setRoom_28 : decode cX6_setRoom 28 = .ok (.aload_n 0, 1) := by decide +kernel
theorem dX6_setRoom_29 : decode cX6_setRoom 29 = .ok (.iconst 2, 1) := by decide +kernel
theorem dX6_setRoom_30 : decode cX6_setRoom 30 = .ok (.invokevirtual 40, 3) := by decide +kernel
theorem dX6_setRoom_33 : decode cX6_setRoom 33 = .ok (.ireturn, 1) := by decide +kernel
theorem dX6_setRoom_34 : decode cX6_setRoom 34 = .ok (.aload_n 0, 1) := by decide +kernel
theorem dX6_setRoom_35 : decode cX6_setRoom 35 = .ok (.getfield 10, 3) := by decide +kernel
theorem dX6_setRoom_38 : decode cX6_setRoom 38 = .ok (.getfield 44, 3) := by decide +kernel
theorem dX6_setRoom_41 : decode cX6_setRoom 41 = .ok (.iload_n 1, 1) := by decide +kernel
theorem dX6_setRoom_42 : decode cX6_setRoom 42 = .ok (.iaload, 1) := by decide +kernel
theorem dX6_setRoom_43 : decode cX6_setRoom 43 = .ok (.iload_n 2, 1) := by decide +kernel
theorem dX6_setRoom_44 : decode cX6_setRoom 44 = .ok (.if_icmp .le 9, 3) := by decide +kernel
theorem dX6_setRoom_47 : decode cX6_setRoom 47 = .ok (.aload_n 0, 1) := by decide +kernel
theorem dX6_setRoom_48 : decode cX6_setRoom 48 = .ok (.iconst 3, 1) := by decide +kernel
theorem dX6_setRoom_49 : decode cX6_setRoom 49 = .ok (.invokevirtual 40, 3) := by decide +kernel
theorem dX6_setRoom_52 : decode cX6_setRoom 52 = .ok (.ireturn, 1) := by decide +kernel
theorem dX6_setRoom_53 : decode cX6_setRoom 53 = .ok (.aload_n 0, 1) := by decide +kernel
theorem dX6_setRoom_54 : decode cX6_setRoom 54 = .ok (.getfield 10, 3) := by decide +kernel
theorem dX6_setRoom_57 : decode cX6_setRoom 57 = .ok (.getfield 48, 3) := by decide +kernel
theorem dX6_setRoom_60 : decode cX6_setRoom 60 = .ok (.iload_n 1, 1) := by decide +kernel
theorem dX6_setRoom_61 : decode cX6_setRoom 61 = .ok (.iaload, 1) := by decide +kernel
theorem dX6_setRoom_62 : decode cX6_setRoom 62 = .ok (.istore_n 3, 1) := by decide +kernel
theorem dX6_setRoom_63 : decode cX6_setRoom 63 = .ok (.aload_n 0, 1) := by decide +kernel
theorem dX6_setRoom_64 : decode cX6_setRoom 64 = .ok (.getfield 10, 3) := by decide +kernel
theorem dX6_setRoom_67 : decode cX6_setRoom 67 = .ok (.getfield 48, 3) := by decide +kernel
theorem dX6_setRoom_70 : decode cX6_setRoom 70 = .ok (.iload_n 1, 1) := by decide +kernel
theorem dX6_setRoom_71 : decode cX6_setRoom 71 = .ok (.iload_n 2, 1) := by decide +kernel
theorem dX6_setRoom_72 : decode cX6_setRoom 72 = .ok (.iastore, 1) := by decide +kernel
theorem dX6_setRoom_73 : decode cX6_setRoom 73 = .ok (.iload_n 3, 1) := by decide +kernel
theorem dX6_setRoom_74 : decode cX6_setRoom 74 = .ok (.ireturn, 1) := by decide +kernel
theorem dX6_setCode_0 : decode cX6_setCode 0 = .ok (.aload_n 0, 1) := by decide +kernel
theorem dX6_setCode_1 : decode cX6_setCode 1 = .ok (.iconst 0, 1) := by decide +kernel
theorem dX6_setCode_2 : decode cX6_setCode 2 = .ok (.putfield 19, 3) := by decide +kernel
theorem dX6_setCode_5 : decode cX6_setCode 5 = .ok (.iload_n 1, 1) := by decide +kernel
theorem dX6_setCode_6 : decode cX6_setCode 6 = .ok (.invokestatic 51, 3) := by decide +kernel
theorem dX6_setCode_9 : decode cX6_setCode 9 = .ok (.ifCond .eq 13, 3) := by decide +kernel
theorem dX6_setCode_12 : decode cX6_setCode 12 = .ok (.iload_n 2, 1) := by decide +kernel
theorem dX6_setCode_13 : decode cX6_setCode 13 = .ok (.iconst (-1), 1) := by decide +kernel
theorem dX6_setCode_14 : decode cX6_setCode 14 = .ok (.bipush 15, 2) := by decide +kernel
theorem dX6_setCode_16 : decode cX6_setCode 16 = .ok (.invokestatic 23, 3) := by decide +kernel
theorem dX6_setCode_19 : decode cX6_setCode 19 = .ok (.ifCond .ne 9, 3) := by decide +kernel
theorem dX6_setCode_22 : decode cX6_setCode 22 = .ok (.aload_n 0, 1) := by decide +kernel
theorem dX6_setCode_23 : decode cX6_setCode 23 = .ok (.iconst 1, 1) := by decide +kernel
theorem dX6_setCode_24 : decode cX6_setCode 24 = .ok (.invokevirtual 40, 3) := by decide +kernel
theorem dX6_setCode_27 : decode cX6_setCode 27 = .ok (.ireturn, 1) := by decide +kernel
theorem dX6_setCode_28 : decode cX6_setCode 28 = .ok (.aload_n 0, 1) := by decide +kernel
theorem dX6_setCode_29 : decode cX6_setCode 29 = .ok (.getfield 10, 3) := by decide +kernel
theorem dX6_setCode_32 : decode cX6_setCode 32 = .ok (.getfield 54, 3) := by decide +kernel
theorem dX6_setCode_35 : decode cX6_setCode 35 = .ok (.iload_n 1, 1) := by decide +kernel
theorem dX6_setCode_36 : decode cX6_setCode 36 = .ok (.iaload, 1) := by decide +kernel
theorem dX6_setCode_37 : decode cX6_setCode 37 = .ok (.istore_n 3, 1) := by decide +kernel
theorem dX6_setCode_38 : decode cX6_setCode 38 = .ok (.aload_n 0, 1) := by decide +kernel
theorem dX6_setCode_39 : decode cX6_setCode 39 = .ok (.getfield 10, 3) := by decide +kernel
theorem dX6_setCode_42 : decode cX6_setCode 42 = .ok (.getfield 54, 3) := by decide +kernel
theorem dX6_setCode_45 : decode cX6_setCode 45 = .ok (.iload_n 1, 1) := by decide +kernel
theorem dX6_setCode_46 : decode cX6_setCode 46 = .ok (.iload_n 2, 1) := by decide +kernel
theorem dX6_setCode_47 : decode cX6_setCode 47 = .ok (.iastore, 1) := by decide +kernel
theorem dX6_setCode_48 : decode cX6_setCode 48 = .ok (.aload_n 0, 1) := by decide +kernel
theorem dX6_setCode_49 : decode cX6_setCode 49 = .ok (.getfield 10, 3) := by decide +kernel
theorem dX6_setCode_52 : decode cX6_setCode 52 = .ok (.getfield 57, 3) := by decide +kernel
theorem dX6_setCode_55 : decode cX6_setCode 55 = .ok (.iload_n 1, 1) := by decide +kernel
theorem dX6_setCode_56 : decode cX6_setCode 56 = .ok (.iconst 0, 1) := by decide +kernel
theorem dX6_setCode_57 : decode cX6_setCode 57 = .ok (.iastore, 1) := by decide +kernel
theorem dX6_setCode_58 : decode cX6_setCode 58 = .ok (.iload_n 3, 1) := by decide +kernel
theorem dX6_setCode_59 : decode cX6_setCode 59 = .ok (.ireturn, 1) := by decide +kernel
theorem dX6_lantern_0 : decode cX6_lantern 0 = .ok (.aload_n 0, 1) := by decide +kernel
theorem dX6_lantern_1 : decode cX6_lantern 1 = .ok (.iconst 0, 1) := by decide +kernel
theorem dX6_lantern_2 : decode cX6_lantern 2 = .ok (.putfield 19, 3) := by decide +kernel
theorem dX6_lantern_5 : decode cX6_lantern 5 = .ok (.iload_n 1, 1) := by decide +kernel
theorem dX6_lantern_6 : decode cX6_lantern 6 = .ok (.invokestatic 36, 3) := by decide +kernel
theorem dX6_lantern_9 : decode cX6_lantern 9 = .ok (.ifCond .ne 9, 3) := by decide +kernel
theorem dX6_lantern_12 : decode cX6_lantern 12 = .ok (.aload_n 0, 1) := by decide +kernel
theorem dX6_lantern_13 : decode cX6_lantern 13 = .ok (.iconst 1, 1) := by decide +kernel
theorem dX6_lantern_14 : decode cX6_lantern 14 = .ok (.invokevirtual 40, 3) := by decide +kernel
theorem dX6_lantern_17 : decode cX6_lantern 17 = .ok (.ireturn, 1) := by decide +kernel
theorem dX6_lantern_18 : decode cX6_lantern 18 = .ok (.iconst 0, 1) := by decide +kernel
theorem dX6_lantern_19 : decode cX6_lantern 19 = .ok (.istore_n 2, 1) := by decide +kernel
theorem dX6_lantern_20 : decode cX6_lantern 20 = .ok (.iload_n 2, 1) := by decide +kernel
theorem dX6_lantern_21 : decode cX6_lantern 21 = .ok (.aload_n 0, 1) := by decide +kernel
theorem dX6_lantern_22 : decode cX6_lantern 22 = .ok (.getfield 10, 3) := by decide +kernel
theorem dX6_lantern_25 : decode cX6_lantern 25 = .ok (.getfield 27, 3) := by decide +kernel
theorem dX6_lantern_28 : decode cX6_lantern 28 = .ok (.if_icmp .ge 28, 3) := by decide +kernel
theorem dX6_lantern_31 : decode cX6_lantern 31 = .ok (.aload_n 0, 1) := by decide +kernel
theorem dX6_lantern_32 : decode cX6_lantern 32 = .ok (.getfield 10, 3) := by decide +kernel
theorem dX6_lantern_35 : decode cX6_lantern 35 = .ok (.getfield 60, 3) := by decide +kernel
theorem dX6_lantern_38 : decode cX6_lantern 38 = .ok (.iload_n 2, 1) := by decide +kernel
theorem dX6_lantern_39 : decode cX6_lantern 39 = .ok (.iaload, 1) := by decide +kernel
theorem dX6_lantern_40 : decode cX6_lantern 40 = .ok (.iload_n 1, 1) := by decide +kernel
theorem dX6_lantern_41 : decode cX6_lantern 41 = .ok (.if_icmp .ne 9, 3) := by decide +kernel
theorem dX6_lantern_44 : decode cX6_lantern 44 = .ok (.aload_n 0, 1) := by decide +kernel
theorem dX6_lantern_45 : decode cX6_lantern 45 = .ok (.iconst 2, 1) := by decide +kernel
theorem dX6_lantern_46 : decode cX6_lantern 46 = .ok (.invokevirtual 40, 3) := by decide +kernel
theorem dX6_lantern_49 : decode cX6_lantern 49 = .ok (.ireturn, 1) := by decide +kernel
theorem dX6_lantern_50 : decode cX6_lantern 50 = .ok (.iinc 2 1, 3) := by decide +kernel
theorem dX6_lantern_53 : decode cX6_lantern 53 = .ok (.goto (-33), 3) := by decide +kernel
theorem dX6_lantern_56 : decode cX6_lantern 56 = .ok (.aload_n 0, 1) := by decide +kernel
theorem dX6_lantern_57 : decode cX6_lantern 57 = .ok (.getfield 10, 3) := by decide +kernel
theorem dX6_lantern_60 : decode cX6_lantern 60 = .ok (.getfield 27, 3) := by decide +kernel
theorem dX6_lantern_63 : decode cX6_lantern 63 = .ok (.iconst 5, 1) := by decide +kernel
theorem dX6_lantern_64 : decode cX6_lantern 64 = .ok (.if_icmp .ne 9, 3) := by decide +kernel
theorem dX6_lantern_67 : decode cX6_lantern 67 = .ok (.aload_n 0, 1) := by decide +kernel
theorem dX6_lantern_68 : decode cX6_lantern 68 = .ok (.iconst 2, 1) := by decide +kernel
theorem dX6_lantern_69 : decode cX6_lantern 69 = .ok (.invokevirtual 40, 3) := by decide +kernel
theorem dX6_lantern_72 : decode cX6_lantern 72 = .ok (.ireturn, 1) := by decide +kernel
theorem dX6_lantern_73 : decode cX6_lantern 73 = .ok (.aload_n 0, 1) := by decide +kernel
theorem dX6_lantern_74 : decode cX6_lantern 74 = .ok (.getfield 10, 3) := by decide +kernel
theorem dX6_lantern_77 : decode cX6_lantern 77 = .ok (.getfield 60, 3) := by decide +kernel
theorem dX6_lantern_80 : decode cX6_lantern 80 = .ok (.aload_n 0, 1) := by decide +kernel
theorem dX6_lantern_81 : decode cX6_lantern 81 = .ok (.getfield 10, 3) := by decide +kernel
theorem dX6_lantern_84 : decode cX6_lantern 84 = .ok (.getfield 27, 3) := by decide +kernel
theorem dX6_lantern_87 : decode cX6_lantern 87 = .ok (.iload_n 1, 1) := by decide +kernel
theorem dX6_lantern_88 : decode cX6_lantern 88 = .ok (.iastore, 1) := by decide +kernel
theorem dX6_lantern_89 : decode cX6_lantern 89 = .ok (.aload_n 0, 1) := by decide +kernel
theorem dX6_lantern_90 : decode cX6_lantern 90 = .ok (.getfield 10, 3) := by decide +kernel
theorem dX6_lantern_93 : decode cX6_lantern 93 = .ok (.dup, 1) := by decide +kernel
theorem dX6_lantern_94 : decode cX6_lantern 94 = .ok (.getfield 27, 3) := by decide +kernel
theorem dX6_lantern_97 : decode cX6_lantern 97 = .ok (.iconst 1, 1) := by decide +kernel
theorem dX6_lantern_98 : decode cX6_lantern 98 = .ok (.iadd, 1) := by decide +kernel
theorem dX6_lantern_99 : decode cX6_lantern 99 = .ok (.putfield 27, 3) := by decide +kernel
theorem dX6_lantern_102 : decode cX6_lantern 102 = .ok (.aload_n 0, 1) := by decide +kernel
theorem dX6_lantern_103 : decode cX6_lantern 103 = .ok (.getfield 10, 3) := by decide +kernel
theorem dX6_lantern_106 : decode cX6_lantern 106 = .ok (.getfield 27, 3) := by decide +kernel
theorem dX6_lantern_109 : decode cX6_lantern 109 = .ok (.iconst 1, 1) := by decide +kernel
theorem dX6_lantern_110 : decode cX6_lantern 110 = .ok (.isub, 1) := by decide +kernel
theorem dX6_lantern_111 : decode cX6_lantern 111 = .ok (.ireturn, 1) := by decide +kernel
theorem dX6_setShow_0 : decode cX6_setShow 0 = .ok (.aload_n 0, 1) := by decide +kernel
theorem dX6_setShow_1 : decode cX6_setShow 1 = .ok (.iconst 0, 1) := by decide +kernel
theorem dX6_setShow_2 : decode cX6_setShow 2 = .ok (.putfield 19, 3) := by decide +kernel
theorem dX6_setShow_5 : decode cX6_setShow 5 = .ok (.aload_n 0, 1) := by decide +kernel
theorem dX6_setShow_6 : decode cX6_setShow 6 = .ok (.iload_n 1, 1) := by decide +kernel
theorem dX6_setShow_7 : decode cX6_setShow 7 = .ok (.invokevirtual 63, 3) := by decide +kernel
theorem dX6_setShow_10 : decode cX6_setShow 10 = .ok (.ifCond .eq 13, 3) := by decide +kernel
theorem dX6_setShow_13 : decode cX6_setShow 13 = .ok (.iload_n 2, 1) := by decide +kernel
theorem dX6_setShow_14 : decode cX6_setShow 14 = .ok (.iconst 0, 1) := by decide +kernel
theorem dX6_setShow_15 : decode cX6_setShow 15 = .ok (.bipush 9, 2) := by decide +kernel
theorem dX6_setShow_17 : decode cX6_setShow 17 = .ok (.invokestatic 23, 3) := by decide +kernel
theorem dX6_setShow_20 : decode cX6_setShow 20 = .ok (.ifCond .ne 9, 3) := by decide +kernel
theorem dX6_setShow_23 : decode cX6_setShow 23 = .ok (.aload_n 0, 1) := by decide +kernel
theorem dX6_setShow_24 : decode cX6_setShow 24 = .ok (.iconst 1, 1) := by decide +kernel
theorem dX6_setShow_25 : decode cX6_setShow 25 = .ok (.invokevirtual 40, 3) := by decide +kernel
theorem dX6_setShow_28 : decode cX6_setShow 28 = .ok (.ireturn, 1) := by decide +kernel
theorem dX6_setShow_29 : decode cX6_setShow 29 = .ok (.iload_n 3, 1) := by decide +kernel
theorem dX6_setShow_30 : decode cX6_setShow 30 = .ok (.iconst 0, 1) := by decide +kernel
theorem dX6_setShow_31 : decode cX6_setShow 31 = .ok (.bipush 7, 2) := by decide +kernel
theorem dX6_setShow_33 : decode cX6_setShow 33 = .ok (.invokestatic 23, 3) := by decide +kernel
theorem dX6_setShow_36 : decode cX6_setShow 36 = .ok (.ifCond .ne 9, 3) := by decide +kernel
theorem dX6_setShow_39 : decode cX6_setShow 39 = .ok (.aload_n 0, 1) := by decide +kernel
theorem dX6_setShow_40 : decode cX6_setShow 40 = .ok (.iconst 2, 1) := by decide +kernel
theorem dX6_setShow_41 : decode cX6_setShow 41 = .ok (.invokevirtual 40, 3) := by decide +kernel
theorem dX6_setShow_44 : decode cX6_setShow 44 = .ok (.ireturn, 1) := by decide +kernel
theorem dX6_setShow_45 : decode cX6_setShow 45 = .ok (.bipush 10, 2) := by decide +kernel
theorem dX6_setShow_47 : decode cX6_setShow 47 = .ok (.iload_n 1, 1) := by decide +kernel
theorem dX6_setShow_48 : decode cX6_setShow 48 = .ok (.imul, 1) := by decide +kernel
theorem dX6_setShow_49 : decode cX6_setShow 49 = .ok (.iload_n 2, 1) := by decide +kernel
theorem dX6_setShow_50 : decode cX6_setShow 50 = .ok (.iadd, 1) := by decide +kernel
theorem dX6_setShow_51 : decode cX6_setShow 51 = .ok (.istore 4, 2) := by decide +kernel
theorem dX6_setShow_53 : decode cX6_setShow 53 = .ok (.aload_n 0, 1) := by decide +kernel
theorem dX6_setShow_54 : decode cX6_setShow 54 = .ok (.getfield 10, 3) := by decide +kernel
theorem dX6_setShow_57 : decode cX6_setShow 57 = .ok (.getfield 66, 3) := by decide +kernel
theorem dX6_setShow_60 : decode cX6_setShow 60 = .ok (.iload 4, 2) := by decide +kernel
theorem dX6_setShow_62 : decode cX6_setShow 62 = .ok (.iaload, 1) := by decide +kernel
theorem dX6_setShow_63 : decode cX6_setShow 63 = .ok (.istore 5, 2) := by decide +kernel
theorem dX6_setShow_65 : decode cX6_setShow 65 = .ok (.aload_n 0, 1) := by decide +kernel
theorem dX6_setShow_66 : decode cX6_setShow 66 = .ok (.getfield 10, 3) := by decide +kernel
theorem dX6_setShow_69 : decode cX6_setShow 69 = .ok (.getfield 66, 3) := by decide +kernel
theorem dX6_setShow_72 : decode cX6_setShow 72 = .ok (.iload 4, 2) := by decide +kernel
theorem dX6_setShow_74 : decode cX6_setShow 74 = .ok (.iload_n 3, 1) := by decide +kernel
theorem dX6_setShow_75 : decode cX6_setShow 75 = .ok (.iastore, 1) := by decide +kernel
theorem dX6_setShow_76 : decode cX6_setShow 76 = .ok (.iload 5, 2) := by decide +kernel
theorem dX6_setShow_78 : decode cX6_setShow 78 = .ok (.ireturn, 1) := by decide +kernel
theorem dX6_watchman_0 : decode cX6_watchman 0 = .ok (.aload_n 0, 1) := by decide +kernel
theorem dX6_watchman_1 : decode cX6_watchman 1 = .ok (.iconst 0, 1) := by decide +kernel
theorem dX6_watchman_2 : decode cX6_watchman 2 = .ok (.putfield 19, 3) := by decide +kernel
theorem dX6_watchman_5 : decode cX6_watchman 5 = .ok (.iload_n 1, 1) := by decide +kernel
theorem dX6_watchman_6 : decode cX6_watchman 6 = .ok (.invokestatic 36, 3) := by decide +kernel
theorem dX6_watchman_9 : decode cX6_watchman 9 = .ok (.ifCond .eq 10, 3) := by decide +kernel
theorem dX6_watchman_12 : decode cX6_watchman 12 = .ok (.iload_n 2, 1) := by decide +kernel
theorem dX6_watchman_13 : decode cX6_watchman 13 = .ok (.invokestatic 36, 3) := by decide +kernel
theorem dX6_watchman_16 : decode cX6_watchman 16 = .ok (.ifCond .ne 9, 3) := by decide +kernel
theorem dX6_watchman_19 : decode cX6_watchman 19 = .ok (.aload_n 0, 1) := by decide +kernel
theorem dX6_watchman_20 : decode cX6_watchman 20 = .ok (.iconst 1, 1) := by decide +kernel
theorem dX6_watchman_21 : decode cX6_watchman 21 = .ok (.invokevirtual 40, 3) := by decide +kernel
theorem dX6_watchman_24 : decode cX6_watchman 24 = .ok (.ireturn, 1) := by decide +kernel
theorem dX6_watchman_25 : decode cX6_watchman 25 = .ok (.iload_n 1, 1) := by decide +kernel
theorem dX6_watchman_26 : decode cX6_watchman 26 = .ok (.iload_n 2, 1) := by decide +kernel
theorem dX6_watchman_27 : decode cX6_watchman 27 = .ok (.if_icmp .gt 12, 3) := by decide +kernel
theorem dX6_watchman_30 : decode cX6_watchman 30 = .ok (.iload_n 3, 1) := by decide +kernel
theorem dX6_watchman_31 : decode cX6_watchman 31 = .ok (.iconst 0, 1) := by decide +kernel
theorem dX6_watchman_32 : decode cX6_watchman 32 = .ok (.iconst 3, 1) := by decide +kernel
theorem dX6_watchman_33 : decode cX6_watchman 33 = .ok (.invokestatic 23, 3) := by decide +kernel
theorem dX6_watchman_36 : decode cX6_watchman 36 = .ok (.ifCond .ne 9, 3) := by decide +kernel
theorem dX6_watchman_39 : decode cX6_watchman 39 = .ok (.aload_n 0, 1) := by decide +kernel
theorem dX6_watchman_40 : decode cX6_watchman 40 = .ok (.iconst 2, 1) := by decide +kernel
theorem dX6_watchman_41 : decode cX6_watchman 41 = .ok (.invokevirtual 40, 3) := by decide +kernel
theorem dX6_watchman_44 : decode cX6_watchman 44 = .ok (.ireturn, 1) := by decide +kernel
theorem dX6_watchman_45 : decode cX6_watchman 45 = .ok (.aload_n 0, 1) := by decide +kernel
theorem dX6_watchman_46 : decode cX6_watchman 46 = .ok (.getfield 10, 3) := by decide +kernel
theorem dX6_watchman_49 : decode cX6_watchman 49 = .ok (.getfield 30, 3) := by decide +kernel
theorem dX6_watchman_52 : decode cX6_watchman 52 = .ok (.istore 4, 2) := by decide +kernel
theorem dX6_watchman_54 : decode cX6_watchman 54 = .ok (.iload 4, 2) := by decide +kernel
theorem dX6_watchman_56 : decode cX6_watchman 56 = .ok (.iconst 4, 1) := by decide +kernel
theorem dX6_watchman_57 : decode cX6_watchman 57 = .ok (.if_icmp .ne 9, 3) := by decide +kernel
theorem dX6_watchman_60 : decode cX6_watchman 60 = .ok (.aload_n 0, 1) := by decide +kernel
theorem dX6_watchman_61 : decode cX6_watchman 61 = .ok (.iconst 3, 1) := by decide +kernel
theorem dX6_watchman_62 : decode cX6_watchman 62 = .ok (.invokevirtual 40, 3) := by decide +kernel
theorem dX6_watchman_65 : decode cX6_watchman 65 = .ok (.ireturn, 1) := by decide +kernel
theorem dX6_watchman_66 : decode cX6_watchman 66 = .ok (.aload_n 0, 1) := by decide +kernel
theorem dX6_watchman_67 : decode cX6_watchman 67 = .ok (.getfield 10, 3) := by decide +kernel
theorem dX6_watchman_70 : decode cX6_watchman 70 = .ok (.getfield 69, 3) := by decide +kernel
theorem dX6_watchman_73 : decode cX6_watchman 73 = .ok (.iload 4, 2) := by decide +kernel
theorem dX6_watchman_75 : decode cX6_watchman 75 = .ok (.iload_n 1, 1) := by decide +kernel
theorem dX6_watchman_76 : decode cX6_watchman 76 = .ok (.iastore, 1) := by decide +kernel
theorem dX6_watchman_77 : decode cX6_watchman 77 = .ok (.aload_n 0, 1) := by decide +kernel
theorem dX6_watchman_78 : decode cX6_watchman 78 = .ok (.getfield 10, 3) := by decide +kernel
theorem dX6_watchman_81 : decode cX6_watchman 81 = .ok (.getfield 72, 3) := by decide +kernel
theorem dX6_watchman_84 : decode cX6_watchman 84 = .ok (.iload 4, 2) := by decide +kernel
theorem dX6_watchman_86 : decode cX6_watchman 86 = .ok (.iload_n 2, 1) := by decide +kernel
theorem dX6_watchman_87 : decode cX6_watchman 87 = .ok (.iastore, 1) := by decide +kernel
theorem dX6_watchman_88 : decode cX6_watchman 88 = .ok (.aload_n 0, 1) := by decide +kernel
theorem dX6_watchman_89 : decode cX6_watchman 89 = .ok (.getfield 10, 3) := by decide +kernel
theorem dX6_watchman_92 : decode cX6_watchman 92 = .ok (.getfield 75, 3) := by decide +kernel
theorem dX6_watchman_95 : decode cX6_watchman 95 = .ok (.iload 4, 2) := by decide +kernel
theorem dX6_watchman_97 : decode cX6_watchman 97 = .ok (.iload_n 3, 1) := by decide +kernel
theorem dX6_watchman_98 : decode cX6_watchman 98 = .ok (.iastore, 1) := by decide +kernel
theorem dX6_watchman_99 : decode cX6_watchman 99 = .ok (.aload_n 0, 1) := by decide +kernel
theorem dX6_watchman_100 : decode cX6_watchman 100 = .ok (.getfield 10, 3) := by decide +kernel
theorem dX6_watchman_103 : decode cX6_watchman 103 = .ok (.getfield 78, 3) := by decide +kernel
theorem dX6_watchman_106 : decode cX6_watchman 106 = .ok (.iload 4, 2) := by decide +kernel
theorem dX6_watchman_108 : decode cX6_watchman 108 = .ok (.iload_n 1, 1) := by decide +kernel
theorem dX6_watchman_109 : decode cX6_watchman 109 = .ok (.iastore, 1) := by decide +kernel
theorem dX6_watchman_110 : decode cX6_watchman 110 = .ok (.aload_n 0, 1) := by decide +kernel
theorem dX6_watchman_111 : decode cX6_watchman 111 = .ok (.getfield 10, 3) := by decide +kernel
theorem dX6_watchman_114 : decode cX6_watchman 114 = .ok (.getfield 81, 3) := by decide +kernel
theorem dX6_watchman_117 : decode cX6_watchman 117 = .ok (.iload 4, 2) := by decide +kernel
theorem dX6_watchman_119 : decode cX6_watchman 119 = .ok (.iconst 1, 1) := by decide +kernel
theorem dX6_watchman_120 : decode cX6_watchman 120 = .ok (.iastore, 1) := by decide +kernel
theorem dX6_watchman_121 : decode cX6_watchman 121 = .ok (.aload_n 0, 1) := by decide +kernel
theorem dX6_watchman_122 : decode cX6_watchman 122 = .ok (.getfield 10, 3) := by decide +kernel
theorem dX6_watchman_125 : decode cX6_watchman 125 = .ok (.dup, 1) := by decide +kernel
theorem dX6_watchman_126 : decode cX6_watchman 126 = .ok (.getfield 30, 3) := by decide +kernel
theorem dX6_watchman_129 : decode cX6_watchman 129 = .ok (.iconst 1, 1) := by decide +kernel
theorem dX6_watchman_130 : decode cX6_watchman 130 = .ok (.iadd, 1) := by decide +kernel
theorem dX6_watchman_131 : decode cX6_watchman 131 = .ok (.putfield 30, 3) := by decide +kernel
theorem dX6_watchman_134 : decode cX6_watchman 134 = .ok (.iload 4, 2) := by decide +kernel
theorem dX6_watchman_136 : decode cX6_watchman 136 = .ok (.ireturn, 1) := by decide +kernel
theorem dX6_boat_0 : decode cX6_boat 0 = .ok (.aload_n 0, 1) := by decide +kernel
theorem dX6_boat_1 : decode cX6_boat 1 = .ok (.iconst 0, 1) := by decide +kernel
theorem dX6_boat_2 : decode cX6_boat 2 = .ok (.putfield 19, 3) := by decide +kernel
theorem dX6_boat_5 : decode cX6_boat 5 = .ok (.iload_n 1, 1) := by decide +kernel
theorem dX6_boat_6 : decode cX6_boat 6 = .ok (.invokestatic 36, 3) := by decide +kernel
theorem dX6_boat_9 : decode cX6_boat 9 = .ok (.ifCond .ne 9, 3) := by decide +kernel
theorem dX6_boat_12 : decode cX6_boat 12 = .ok (.aload_n 0, 1) := by decide +kernel
theorem dX6_boat_13 : decode cX6_boat 13 = .ok (.iconst 1, 1) := by decide +kernel
theorem dX6_boat_14 : decode cX6_boat 14 = .ok (.invokevirtual 40, 3) := by decide +kernel
theorem dX6_boat_17 : decode cX6_boat 17 = .ok (.ireturn, 1) := by decide +kernel
theorem dX6_boat_18 : decode cX6_boat 18 = .ok (.iload_n 2, 1) := by decide +kernel
theorem dX6_boat_19 : decode cX6_boat 19 = .ok (.iconst 1, 1) := by decide +kernel
theorem dX6_boat_20 : decode cX6_boat 20 = .ok (.bipush 20, 2) := by decide +kernel
theorem dX6_boat_22 : decode cX6_boat 22 = .ok (.invokestatic 23, 3) := by decide +kernel
theorem dX6_boat_25 : decode cX6_boat 25 = .ok (.ifCond .ne 9, 3) := by decide +kernel
theorem dX6_boat_28 : decode cX6_boat 28 = .ok (.aload_n 0, 1) := by decide +kernel
theorem dX6_boat_29 : decode cX6_boat 29 = .ok (.iconst 2, 1) := by decide +kernel
theorem dX6_boat_30 : decode cX6_boat 30 = .ok (.invokevirtual 40, 3) := by decide +kernel
theorem dX6_boat_33 : decode cX6_boat 33 = .ok (.ireturn, 1) := by decide +kernel
theorem dX6_boat_34 : decode cX6_boat 34 = .ok (.aload_n 0, 1) := by decide +kernel
theorem dX6_boat_35 : decode cX6_boat 35 = .ok (.getfield 10, 3) := by decide +kernel
theorem dX6_boat_38 : decode cX6_boat 38 = .ok (.getfield 33, 3) := by decide +kernel
theorem dX6_boat_41 : decode cX6_boat 41 = .ok (.istore_n 3, 1) := by decide +kernel
theorem dX6_boat_42 : decode cX6_boat 42 = .ok (.iload_n 3, 1) := by decide +kernel
theorem dX6_boat_43 : decode cX6_boat 43 = .ok (.bipush 6, 2) := by decide +kernel
theorem dX6_boat_45 : decode cX6_boat 45 = .ok (.if_icmp .ne 9, 3) := by decide +kernel
theorem dX6_boat_48 : decode cX6_boat 48 = .ok (.aload_n 0, 1) := by decide +kernel
theorem dX6_boat_49 : decode cX6_boat 49 = .ok (.iconst 3, 1) := by decide +kernel
theorem dX6_boat_50 : decode cX6_boat 50 = .ok (.invokevirtual 40, 3) := by decide +kernel
theorem dX6_boat_53 : decode cX6_boat 53 = .ok (.ireturn, 1) := by decide +kernel
theorem dX6_boat_54 : decode cX6_boat 54 = .ok (.aload_n 0, 1) := by decide +kernel
theorem dX6_boat_55 : decode cX6_boat 55 = .ok (.getfield 10, 3) := by decide +kernel
theorem dX6_boat_58 : decode cX6_boat 58 = .ok (.getfield 84, 3) := by decide +kernel
theorem dX6_boat_61 : decode cX6_boat 61 = .ok (.iload_n 3, 1) := by decide +kernel
theorem dX6_boat_62 : decode cX6_boat 62 = .ok (.iload_n 1, 1) := by decide +kernel
theorem dX6_boat_63 : decode cX6_boat 63 = .ok (.iastore, 1) := by decide +kernel
theorem dX6_boat_64 : decode cX6_boat 64 = .ok (.aload_n 0, 1) := by decide +kernel
theorem dX6_boat_65 : decode cX6_boat 65 = .ok (.getfield 10, 3) := by decide +kernel
theorem dX6_boat_68 : decode cX6_boat 68 = .ok (.getfield 87, 3) := by decide +kernel
theorem dX6_boat_71 : decode cX6_boat 71 = .ok (.iload_n 3, 1) := by decide +kernel
theorem dX6_boat_72 : decode cX6_boat 72 = .ok (.iload_n 2, 1) := by decide +kernel
theorem dX6_boat_73 : decode cX6_boat 73 = .ok (.iastore, 1) := by decide +kernel
theorem dX6_boat_74 : decode cX6_boat 74 = .ok (.aload_n 0, 1) := by decide +kernel
theorem dX6_boat_75 : decode cX6_boat 75 = .ok (.getfield 10, 3) := by decide +kernel
theorem dX6_boat_78 : decode cX6_boat 78 = .ok (.iload_n 3, 1) := by decide +kernel
theorem dX6_boat_79 : decode cX6_boat 79 = .ok (.iconst (-1), 1) := by decide +kernel
theorem dX6_boat_80 : decode cX6_boat 80 = .ok (.invokevirtual 90, 3) := by decide +kernel
theorem dX6_boat_83 : decode cX6_boat 83 = .ok (.aload_n 0, 1) := by decide +kernel
theorem dX6_boat_84 : decode cX6_boat 84 = .ok (.getfield 10, 3) := by decide +kernel
theorem dX6_boat_87 : decode cX6_boat 87 = .ok (.dup, 1) := by decide +kernel
theorem dX6_boat_88 : decode cX6_boat 88 = .ok (.getfield 33, 3) := by decide +kernel
theorem dX6_boat_91 : decode cX6_boat 91 = .ok (.iconst 1, 1) := by decide +kernel
theorem dX6_boat_92 : decode cX6_boat 92 = .ok (.iadd, 1) := by decide +kernel
theorem dX6_boat_93 : decode cX6_boat 93 = .ok (.putfield 33, 3) := by decide +kernel
theorem dX6_boat_96 : decode cX6_boat 96 = .ok (.iload_n 3, 1) := by decide +kernel
theorem dX6_boat_97 : decode cX6_boat 97 = .ok (.ireturn, 1) := by decide +kernel
theorem dX6_send_0 : decode cX6_send 0 = .ok (.aload_n 0, 1) := by decide +kernel
theorem dX6_send_1 : decode cX6_send 1 = .ok (.iconst 0, 1) := by decide +kernel
theorem dX6_send_2 : decode cX6_send 2 = .ok (.putfield 19, 3) := by decide +kernel
theorem dX6_send_5 : decode cX6_send 5 = .ok (.aload_n 0, 1) := by decide +kernel
theorem dX6_send_6 : decode cX6_send 6 = .ok (.iload_n 1, 1) := by decide +kernel
theorem dX6_send_7 : decode cX6_send 7 = .ok (.invokevirtual 94, 3) := by decide +kernel
theorem dX6_send_10 : decode cX6_send 10 = .ok (.ifCond .eq 13, 3) := by decide +kernel
theorem dX6_send_13 : decode cX6_send 13 = .ok (.iload_n 2, 1) := by decide +kernel
theorem dX6_send_14 : decode cX6_send 14 = .ok (.iconst (-1), 1) := by decide +kernel
theorem dX6_send_15 : decode cX6_send 15 = .ok (.bipush 15, 2) := by decide +kernel
theorem dX6_send_17 : decode cX6_send 17 = .ok (.invokestatic 23, 3) := by decide +kernel
theorem dX6_send_20 : decode cX6_send 20 = .ok (.ifCond .ne 9, 3) := by decide +kernel
theorem dX6_send_23 : decode cX6_send 23 = .ok (.aload_n 0, 1) := by decide +kernel
theorem dX6_send_24 : decode cX6_send 24 = .ok (.iconst 1, 1) := by decide +kernel
theorem dX6_send_25 : decode cX6_send 25 = .ok (.invokevirtual 40, 3) := by decide +kernel
theorem dX6_send_28 : decode cX6_send 28 = .ok (.ireturn, 1) := by decide +kernel
theorem dX6_send_29 : decode cX6_send 29 = .ok (.aload_n 0, 1) := by decide +kernel
theorem dX6_send_30 : decode cX6_send 30 = .ok (.getfield 10, 3) := by decide +kernel
theorem dX6_send_33 : decode cX6_send 33 = .ok (.getfield 97, 3) := by decide +kernel
theorem dX6_send_36 : decode cX6_send 36 = .ok (.iload_n 1, 1) := by decide +kernel
theorem dX6_send_37 : decode cX6_send 37 = .ok (.iaload, 1) := by decide +kernel
theorem dX6_send_38 : decode cX6_send 38 = .ok (.ifCond .eq 9, 3) := by decide +kernel
theorem dX6_send_41 : decode cX6_send 41 = .ok (.aload_n 0, 1) := by decide +kernel
theorem dX6_send_42 : decode cX6_send 42 = .ok (.iconst 2, 1) := by decide +kernel
theorem dX6_send_43 : decode cX6_send 43 = .ok (.invokevirtual 40, 3) := by decide +kernel
theorem dX6_send_46 : decode cX6_send 46 = .ok (.ireturn, 1) := by decide +kernel
theorem dX6_send_47 : decode cX6_send 47 = .ok (.aload_n 0, 1) := by decide +kernel
theorem dX6_send_48 : decode cX6_send 48 = .ok (.getfield 10, 3) := by decide +kernel
theorem dX6_send_51 : decode cX6_send 51 = .ok (.getfield 100, 3) := by decide +kernel
theorem dX6_send_54 : decode cX6_send 54 = .ok (.iload_n 1, 1) := by decide +kernel
theorem dX6_send_55 : decode cX6_send 55 = .ok (.iaload, 1) := by decide +kernel
theorem dX6_send_56 : decode cX6_send 56 = .ok (.istore_n 3, 1) := by decide +kernel
theorem dX6_send_57 : decode cX6_send 57 = .ok (.aload_n 0, 1) := by decide +kernel
theorem dX6_send_58 : decode cX6_send 58 = .ok (.getfield 10, 3) := by decide +kernel
theorem dX6_send_61 : decode cX6_send 61 = .ok (.iload_n 1, 1) := by decide +kernel
theorem dX6_send_62 : decode cX6_send 62 = .ok (.iload_n 2, 1) := by decide +kernel
theorem dX6_send_63 : decode cX6_send 63 = .ok (.invokevirtual 90, 3) := by decide +kernel
theorem dX6_send_66 : decode cX6_send 66 = .ok (.iload_n 3, 1) := by decide +kernel
theorem dX6_send_67 : decode cX6_send 67 = .ok (.ireturn, 1) := by decide +kernel
theorem dX6_carry_0 : decode cX6_carry 0 = .ok (.aload_n 0, 1) := by decide +kernel
theorem dX6_carry_1 : decode cX6_carry 1 = .ok (.iconst 0, 1) := by decide +kernel
theorem dX6_carry_2 : decode cX6_carry 2 = .ok (.putfield 19, 3) := by decide +kernel
theorem dX6_carry_5 : decode cX6_carry 5 = .ok (.iload_n 1, 1) := by decide +kernel
theorem dX6_carry_6 : decode cX6_carry 6 = .ok (.invokestatic 36, 3) := by decide +kernel
theorem dX6_carry_9 : decode cX6_carry 9 = .ok (.ifCond .ne 9, 3) := by decide +kernel
theorem dX6_carry_12 : decode cX6_carry 12 = .ok (.aload_n 0, 1) := by decide +kernel
theorem dX6_carry_13 : decode cX6_carry 13 = .ok (.iconst 1, 1) := by decide +kernel
theorem dX6_carry_14 : decode cX6_carry 14 = .ok (.invokevirtual 40, 3) := by decide +kernel
theorem dX6_carry_17 : decode cX6_carry 17 = .ok (.ireturn, 1) := by decide +kernel
theorem dX6_carry_18 : decode cX6_carry 18 = .ok (.iload_n 2, 1) := by decide +kernel
theorem dX6_carry_19 : decode cX6_carry 19 = .ok (.iconst 1, 1) := by decide +kernel
theorem dX6_carry_20 : decode cX6_carry 20 = .ok (.bipush 30, 2) := by decide +kernel
theorem dX6_carry_22 : decode cX6_carry 22 = .ok (.invokestatic 23, 3) := by decide +kernel
theorem dX6_carry_25 : decode cX6_carry 25 = .ok (.ifCond .ne 9, 3) := by decide +kernel
theorem dX6_carry_28 : decode cX6_carry 28 = .ok (.aload_n 0, 1) := by decide +kernel
theorem dX6_carry_29 : decode cX6_carry 29 = .ok (.iconst 2, 1) := by decide +kernel
theorem dX6_carry_30 : decode cX6_carry 30 = .ok (.invokevirtual 40, 3) := by decide +kernel
theorem dX6_carry_33 : decode cX6_carry 33 = .ok (.ireturn, 1) := by decide +kernel
theorem dX6_carry_34 : decode cX6_carry 34 = .ok (.aload_n 0, 1) := by decide +kernel
theorem dX6_carry_35 : decode cX6_carry 35 = .ok (.getfield 10, 3) := by decide +kernel
theorem dX6_carry_38 : decode cX6_carry 38 = .ok (.getfield 44, 3) := by decide +kernel
theorem dX6_carry_41 : decode cX6_carry 41 = .ok (.iload_n 1, 1) := by decide +kernel
theorem dX6_carry_42 : decode cX6_carry 42 = .ok (.iaload, 1) := by decide +kernel
theorem dX6_carry_43 : decode cX6_carry 43 = .ok (.iload_n 2, 1) := by decide +kernel
theorem dX6_carry_44 : decode cX6_carry 44 = .ok (.if_icmp .ge 9, 3) := by decide +kernel
theorem dX6_carry_47 : decode cX6_carry 47 = .ok (.aload_n 0, 1) := by decide +kernel
theorem dX6_carry_48 : decode cX6_carry 48 = .ok (.iconst 3, 1) := by decide +kernel
theorem dX6_carry_49 : decode cX6_carry 49 = .ok (.invokevirtual 40, 3) := by decide +kernel
theorem dX6_carry_52 : decode cX6_carry 52 = .ok (.ireturn, 1) := by decide +kernel
theorem dX6_carry_53 : decode cX6_carry 53 = .ok (.aload_n 0, 1) := by decide +kernel
theorem dX6_carry_54 : decode cX6_carry 54 = .ok (.getfield 10, 3) := by decide +kernel
theorem dX6_carry_57 : decode cX6_carry 57 = .ok (.getfield 44, 3) := by decide +kernel
theorem dX6_carry_60 : decode cX6_carry 60 = .ok (.iload_n 1, 1) := by decide +kernel
theorem dX6_carry_61 : decode cX6_carry 61 = .ok (.dup2, 1) := by decide +kernel
theorem dX6_carry_62 : decode cX6_carry 62 = .ok (.iaload, 1) := by decide +kernel
theorem dX6_carry_63 : decode cX6_carry 63 = .ok (.iload_n 2, 1) := by decide +kernel
theorem dX6_carry_64 : decode cX6_carry 64 = .ok (.isub, 1) := by decide +kernel
theorem dX6_carry_65 : decode cX6_carry 65 = .ok (.iastore, 1) := by decide +kernel
theorem dX6_carry_66 : decode cX6_carry 66 = .ok (.aload_n 0, 1) := by decide +kernel
theorem dX6_carry_67 : decode cX6_carry 67 = .ok (.getfield 10, 3) := by decide +kernel
theorem dX6_carry_70 : decode cX6_carry 70 = .ok (.dup, 1) := by decide +kernel
theorem dX6_carry_71 : decode cX6_carry 71 = .ok (.getfield 103, 3) := by decide +kernel
theorem dX6_carry_74 : decode cX6_carry 74 = .ok (.iload_n 2, 1) := by decide +kernel
theorem dX6_carry_75 : decode cX6_carry 75 = .ok (.iadd, 1) := by decide +kernel
theorem dX6_carry_76 : decode cX6_carry 76 = .ok (.putfield 103, 3) := by decide +kernel
theorem dX6_carry_79 : decode cX6_carry 79 = .ok (.aload_n 0, 1) := by decide +kernel
theorem dX6_carry_80 : decode cX6_carry 80 = .ok (.getfield 10, 3) := by decide +kernel
theorem dX6_carry_83 : decode cX6_carry 83 = .ok (.getfield 44, 3) := by decide +kernel
theorem dX6_carry_86 : decode cX6_carry 86 = .ok (.iload_n 1, 1) := by decide +kernel
theorem dX6_carry_87 : decode cX6_carry 87 = .ok (.iaload, 1) := by decide +kernel
theorem dX6_carry_88 : decode cX6_carry 88 = .ok (.ireturn, 1) := by decide +kernel
theorem dX6_state_0 : decode cX6_state 0 = .ok (.aload_n 0, 1) := by decide +kernel
theorem dX6_state_1 : decode cX6_state 1 = .ok (.getfield 10, 3) := by decide +kernel
theorem dX6_state_4 : decode cX6_state 4 = .ok (.getfield 97, 3) := by decide +kernel
theorem dX6_state_7 : decode cX6_state 7 = .ok (.iload_n 1, 1) := by decide +kernel
theorem dX6_state_8 : decode cX6_state 8 = .ok (.iaload, 1) := by decide +kernel
theorem dX6_state_9 : decode cX6_state 9 = .ok (.ifCond .eq 22, 3) := by decide +kernel
theorem dX6_state_12 : decode cX6_state 12 = .ok (.aload_n 0, 1) := by decide +kernel
theorem dX6_state_13 : decode cX6_state 13 = .ok (.getfield 10, 3) := by decide +kernel
theorem dX6_state_16 : decode cX6_state 16 = .ok (.getfield 97, 3) := by decide +kernel
theorem dX6_state_19 : decode cX6_state 19 = .ok (.iload_n 1, 1) := by decide +kernel
theorem dX6_state_20 : decode cX6_state 20 = .ok (.iaload, 1) := by decide +kernel
theorem dX6_state_21 : decode cX6_state 21 = .ok (.iconst 1, 1) := by decide +kernel
theorem dX6_state_22 : decode cX6_state 22 = .ok (.if_icmp .ne 7, 3) := by decide +kernel
theorem dX6_state_25 : decode cX6_state 25 = .ok (.iconst 3, 1) := by decide +kernel
theorem dX6_state_26 : decode cX6_state 26 = .ok (.goto 4, 3) := by decide +kernel
theorem dX6_state_29 : decode cX6_state 29 = .ok (.iconst 4, 1) := by decide +kernel
theorem dX6_state_30 : decode cX6_state 30 = .ok (.ireturn, 1) := by decide +kernel
theorem dX6_state_31 : decode cX6_state 31 = .ok (.aload_n 0, 1) := by decide +kernel
theorem dX6_state_32 : decode cX6_state 32 = .ok (.getfield 10, 3) := by decide +kernel
theorem dX6_state_35 : decode cX6_state 35 = .ok (.getfield 100, 3) := by decide +kernel
theorem dX6_state_38 : decode cX6_state 38 = .ok (.iload_n 1, 1) := by decide +kernel
theorem dX6_state_39 : decode cX6_state 39 = .ok (.iaload, 1) := by decide +kernel
theorem dX6_state_40 : decode cX6_state 40 = .ok (.iconst (-1), 1) := by decide +kernel
theorem dX6_state_41 : decode cX6_state 41 = .ok (.if_icmp .ne 7, 3) := by decide +kernel
theorem dX6_state_44 : decode cX6_state 44 = .ok (.iconst 0, 1) := by decide +kernel
theorem dX6_state_45 : decode cX6_state 45 = .ok (.goto 19, 3) := by decide +kernel
theorem dX6_state_48 : decode cX6_state 48 = .ok (.aload_n 0, 1) := by decide +kernel
theorem dX6_state_49 : decode cX6_state 49 = .ok (.getfield 10, 3) := by decide +kernel
theorem dX6_state_52 : decode cX6_state 52 = .ok (.iload_n 1, 1) := by decide +kernel
theorem dX6_state_53 : decode cX6_state 53 = .ok (.invokevirtual 106, 3) := by decide +kernel
theorem dX6_state_56 : decode cX6_state 56 = .ok (.ifCond .eq 7, 3) := by decide +kernel
theorem dX6_state_59 : decode cX6_state 59 = .ok (.iconst 2, 1) := by decide +kernel
theorem dX6_state_60 : decode cX6_state 60 = .ok (.goto 4, 3) := by decide +kernel
theorem dX6_state_63 : decode cX6_state 63 = .ok (.iconst 1, 1) := by decide +kernel
theorem dX6_state_64 : decode cX6_state 64 = .ok (.ireturn, 1) := by decide +kernel
theorem dX6_boatTold_0 : decode cX6_boatTold 0 = .ok (.iload_n 2, 1) := by decide +kernel
theorem dX6_boatTold_1 : decode cX6_boatTold 1 = .ok (.tableswitch 95 0 5 #[39, 49, 59, 69, 75, 85], 39) := by decide +kernel
theorem dX6_boatTold_40 : decode cX6_boatTold 40 = .ok (.aload_n 0, 1) := by decide +kernel
theorem dX6_boatTold_41 : decode cX6_boatTold 41 = .ok (.getfield 10, 3) := by decide +kernel
theorem dX6_boatTold_44 : decode cX6_boatTold 44 = .ok (.getfield 84, 3) := by decide +kernel
theorem dX6_boatTold_47 : decode cX6_boatTold 47 = .ok (.iload_n 1, 1) := by decide +kernel
theorem dX6_boatTold_48 : decode cX6_boatTold 48 = .ok (.iaload, 1) := by decide +kernel
theorem dX6_boatTold_49 : decode cX6_boatTold 49 = .ok (.ireturn, 1) := by decide +kernel
theorem dX6_boatTold_50 : decode cX6_boatTold 50 = .ok (.aload_n 0, 1) := by decide +kernel
theorem dX6_boatTold_51 : decode cX6_boatTold 51 = .ok (.getfield 10, 3) := by decide +kernel
theorem dX6_boatTold_54 : decode cX6_boatTold 54 = .ok (.getfield 87, 3) := by decide +kernel
theorem dX6_boatTold_57 : decode cX6_boatTold 57 = .ok (.iload_n 1, 1) := by decide +kernel
theorem dX6_boatTold_58 : decode cX6_boatTold 58 = .ok (.iaload, 1) := by decide +kernel
theorem dX6_boatTold_59 : decode cX6_boatTold 59 = .ok (.ireturn, 1) := by decide +kernel
theorem dX6_boatTold_60 : decode cX6_boatTold 60 = .ok (.aload_n 0, 1) := by decide +kernel
theorem dX6_boatTold_61 : decode cX6_boatTold 61 = .ok (.getfield 10, 3) := by decide +kernel
theorem dX6_boatTold_64 : decode cX6_boatTold 64 = .ok (.getfield 100, 3) := by decide +kernel
theorem dX6_boatTold_67 : decode cX6_boatTold 67 = .ok (.iload_n 1, 1) := by decide +kernel
theorem dX6_boatTold_68 : decode cX6_boatTold 68 = .ok (.iaload, 1) := by decide +kernel
theorem dX6_boatTold_69 : decode cX6_boatTold 69 = .ok (.ireturn, 1) := by decide +kernel
theorem dX6_boatTold_70 : decode cX6_boatTold 70 = .ok (.aload_n 0, 1) := by decide +kernel
theorem dX6_boatTold_71 : decode cX6_boatTold 71 = .ok (.iload_n 1, 1) := by decide +kernel
theorem dX6_boatTold_72 : decode cX6_boatTold 72 = .ok (.invokevirtual 109, 3) := by decide +kernel
theorem dX6_boatTold_75 : decode cX6_boatTold 75 = .ok (.ireturn, 1) := by decide +kernel
theorem dX6_boatTold_76 : decode cX6_boatTold 76 = .ok (.aload_n 0, 1) := by decide +kernel
theorem dX6_boatTold_77 : decode cX6_boatTold 77 = .ok (.getfield 10, 3) := by decide +kernel
theorem dX6_boatTold_80 : decode cX6_boatTold 80 = .ok (.getfield 112, 3) := by decide +kernel
theorem dX6_boatTold_83 : decode cX6_boatTold 83 = .ok (.iload_n 1, 1) := by decide +kernel
theorem dX6_boatTold_84 : decode cX6_boatTold 84 = .ok (.iaload, 1) := by decide +kernel
theorem dX6_boatTold_85 : decode cX6_boatTold 85 = .ok (.ireturn, 1) := by decide +kernel
theorem dX6_boatTold_86 : decode cX6_boatTold 86 = .ok (.aload_n 0, 1) := by decide +kernel
theorem dX6_boatTold_87 : decode cX6_boatTold 87 = .ok (.getfield 10, 3) := by decide +kernel
theorem dX6_boatTold_90 : decode cX6_boatTold 90 = .ok (.getfield 115, 3) := by decide +kernel
theorem dX6_boatTold_93 : decode cX6_boatTold 93 = .ok (.iload_n 1, 1) := by decide +kernel
theorem dX6_boatTold_94 : decode cX6_boatTold 94 = .ok (.iaload, 1) := by decide +kernel
theorem dX6_boatTold_95 : decode cX6_boatTold 95 = .ok (.ireturn, 1) := by decide +kernel
theorem dX6_boatTold_96 : decode cX6_boatTold 96 = .ok (.aload_n 0, 1) := by decide +kernel
theorem dX6_boatTold_97 : decode cX6_boatTold 97 = .ok (.getfield 10, 3) := by decide +kernel
theorem dX6_boatTold_100 : decode cX6_boatTold 100 = .ok (.getfield 118, 3) := by decide +kernel
theorem dX6_boatTold_103 : decode cX6_boatTold 103 = .ok (.iload_n 1, 1) := by decide +kernel
theorem dX6_boatTold_104 : decode cX6_boatTold 104 = .ok (.iaload, 1) := by decide +kernel
theorem dX6_boatTold_105 : decode cX6_boatTold 105 = .ok (.ireturn, 1) := by decide +kernel
theorem dX6_told_0 : decode cX6_told 0 = .ok (.aload_n 0, 1) := by decide +kernel
theorem dX6_told_1 : decode cX6_told 1 = .ok (.iconst 0, 1) := by decide +kernel
theorem dX6_told_2 : decode cX6_told 2 = .ok (.putfield 19, 3) := by decide +kernel
theorem dX6_told_5 : decode cX6_told 5 = .ok (.aload_n 0, 1) := by decide +kernel
theorem dX6_told_6 : decode cX6_told 6 = .ok (.iload_n 1, 1) := by decide +kernel
theorem dX6_told_7 : decode cX6_told 7 = .ok (.invokevirtual 94, 3) := by decide +kernel
theorem dX6_told_10 : decode cX6_told 10 = .ok (.ifCond .eq 22, 3) := by decide +kernel
theorem dX6_told_13 : decode cX6_told 13 = .ok (.iload_n 2, 1) := by decide +kernel
theorem dX6_told_14 : decode cX6_told 14 = .ok (.iconst 0, 1) := by decide +kernel
theorem dX6_told_15 : decode cX6_told 15 = .ok (.bipush 6, 2) := by decide +kernel
theorem dX6_told_17 : decode cX6_told 17 = .ok (.invokestatic 23, 3) := by decide +kernel
theorem dX6_told_20 : decode cX6_told 20 = .ok (.ifCond .eq 12, 3) := by decide +kernel
theorem dX6_told_23 : decode cX6_told 23 = .ok (.aload_n 0, 1) := by decide +kernel
theorem dX6_told_24 : decode cX6_told 24 = .ok (.iload_n 1, 1) := by decide +kernel
theorem dX6_told_25 : decode cX6_told 25 = .ok (.iload_n 2, 1) := by decide +kernel
theorem dX6_told_26 : decode cX6_told 26 = .ok (.invokevirtual 121, 3) := by decide +kernel
theorem dX6_told_29 : decode cX6_told 29 = .ok (.goto 8, 3) := by decide +kernel
theorem dX6_told_32 : decode cX6_told 32 = .ok (.aload_n 0, 1) := by decide +kernel
theorem dX6_told_33 : decode cX6_told 33 = .ok (.iconst 1, 1) := by decide +kernel
theorem dX6_told_34 : decode cX6_told 34 = .ok (.invokevirtual 40, 3) := by decide +kernel
theorem dX6_told_37 : decode cX6_told 37 = .ok (.ireturn, 1) := by decide +kernel
theorem dX6_watchmanTold_0 : decode cX6_watchmanTold 0 = .ok (.iload_n 2, 1) := by decide +kernel
theorem dX6_watchmanTold_1 : decode cX6_watchmanTold 1 = .ok (.tableswitch 69 0 3 #[31, 41, 51, 60], 31) := by decide +kernel
theorem dX6_watchmanTold_32 : decode cX6_watchmanTold 32 = .ok (.aload_n 0, 1) := by decide +kernel
theorem dX6_watchmanTold_33 : decode cX6_watchmanTold 33 = .ok (.getfield 10, 3) := by decide +kernel
theorem dX6_watchmanTold_36 : decode cX6_watchmanTold 36 = .ok (.getfield 78, 3) := by decide +kernel
theorem dX6_watchmanTold_39 : decode cX6_watchmanTold 39 = .ok (.iload_n 1, 1) := by decide +kernel
theorem dX6_watchmanTold_40 : decode cX6_watchmanTold 40 = .ok (.iaload, 1) := by decide +kernel
theorem dX6_watchmanTold_41 : decode cX6_watchmanTold 41 = .ok (.ireturn, 1) := by decide +kernel
theorem dX6_watchmanTold_42 : decode cX6_watchmanTold 42 = .ok (.aload_n 0, 1) := by decide +kernel
theorem dX6_watchmanTold_43 : decode cX6_watchmanTold 43 = .ok (.getfield 10, 3) := by decide +kernel
theorem dX6_watchmanTold_46 : decode cX6_watchmanTold 46 = .ok (.getfield 81, 3) := by decide +kernel
theorem dX6_watchmanTold_49 : decode cX6_watchmanTold 49 = .ok (.iload_n 1, 1) := by decide +kernel
theorem dX6_watchmanTold_50 : decode cX6_watchmanTold 50 = .ok (.iaload, 1) := by decide +kernel
theorem dX6_watchmanTold_51 : decode cX6_watchmanTold 51 = .ok (.ireturn, 1) := by decide +kernel
theorem dX6_watchmanTold_52 : decode cX6_watchmanTold 52 = .ok (.aload_n 0, 1) := by decide +kernel
theorem dX6_watchmanTold_53 : decode cX6_watchmanTold 53 = .ok (.getfield 10, 3) := by decide +kernel
theorem dX6_watchmanTold_56 : decode cX6_watchmanTold 56 = .ok (.iload_n 1, 1) := by decide +kernel
theorem dX6_watchmanTold_57 : decode cX6_watchmanTold 57 = .ok (.invokevirtual 125, 3) := by decide +kernel
theorem dX6_watchmanTold_60 : decode cX6_watchmanTold 60 = .ok (.ireturn, 1) := by decide +kernel
theorem dX6_watchmanTold_61 : decode cX6_watchmanTold 61 = .ok (.aload_n 0, 1) := by decide +kernel
theorem dX6_watchmanTold_62 : decode cX6_watchmanTold 62 = .ok (.getfield 10, 3) := by decide +kernel
theorem dX6_watchmanTold_65 : decode cX6_watchmanTold 65 = .ok (.iload_n 1, 1) := by decide +kernel
theorem dX6_watchmanTold_66 : decode cX6_watchmanTold 66 = .ok (.invokevirtual 128, 3) := by decide +kernel
theorem dX6_watchmanTold_69 : decode cX6_watchmanTold 69 = .ok (.ireturn, 1) := by decide +kernel
theorem dX6_watchmanTold_70 : decode cX6_watchmanTold 70 = .ok (.aload_n 0, 1) := by decide +kernel
theorem dX6_watchmanTold_71 : decode cX6_watchmanTold 71 = .ok (.getfield 10, 3) := by decide +kernel
theorem dX6_watchmanTold_74 : decode cX6_watchmanTold 74 = .ok (.getfield 131, 3) := by decide +kernel
theorem dX6_watchmanTold_77 : decode cX6_watchmanTold 77 = .ok (.iload_n 1, 1) := by decide +kernel
theorem dX6_watchmanTold_78 : decode cX6_watchmanTold 78 = .ok (.iaload, 1) := by decide +kernel
theorem dX6_watchmanTold_79 : decode cX6_watchmanTold 79 = .ok (.ireturn, 1) := by decide +kernel
theorem dX6_about_0 : decode cX6_about 0 = .ok (.aload_n 0, 1) := by decide +kernel
theorem dX6_about_1 : decode cX6_about 1 = .ok (.iconst 0, 1) := by decide +kernel
theorem dX6_about_2 : decode cX6_about 2 = .ok (.putfield 19, 3) := by decide +kernel
theorem dX6_about_5 : decode cX6_about 5 = .ok (.aload_n 0, 1) := by decide +kernel
theorem dX6_about_6 : decode cX6_about 6 = .ok (.iload_n 1, 1) := by decide +kernel
theorem dX6_about_7 : decode cX6_about 7 = .ok (.invokevirtual 134, 3) := by decide +kernel
theorem dX6_about_10 : decode cX6_about 10 = .ok (.ifCond .eq 21, 3) := by decide +kernel
theorem dX6_about_13 : decode cX6_about 13 = .ok (.iload_n 2, 1) := by decide +kernel
theorem dX6_about_14 : decode cX6_about 14 = .ok (.iconst 0, 1) := by decide +kernel
theorem dX6_about_15 : decode cX6_about 15 = .ok (.iconst 4, 1) := by decide +kernel
theorem dX6_about_16 : decode cX6_about 16 = .ok (.invokestatic 23, 3) := by decide +kernel
theorem dX6_about_19 : decode cX6_about 19 = .ok (.ifCond .eq 12, 3) := by decide +kernel
theorem dX6_about_22 : decode cX6_about 22 = .ok (.aload_n 0, 1) := by decide +kernel
theorem dX6_about_23 : decode cX6_about 23 = .ok (.iload_n 1, 1) := by decide +kernel
theorem dX6_about_24 : decode cX6_about 24 = .ok (.iload_n 2, 1) := by decide +kernel
theorem dX6_about_25 : decode cX6_about 25 = .ok (.invokevirtual 137, 3) := by decide +kernel
theorem dX6_about_28 : decode cX6_about 28 = .ok (.goto 8, 3) := by decide +kernel
theorem dX6_about_31 : decode cX6_about 31 = .ok (.aload_n 0, 1) := by decide +kernel
theorem dX6_about_32 : decode cX6_about 32 = .ok (.iconst 1, 1) := by decide +kernel
theorem dX6_about_33 : decode cX6_about 33 = .ok (.invokevirtual 40, 3) := by decide +kernel
theorem dX6_about_36 : decode cX6_about 36 = .ok (.ireturn, 1) := by decide +kernel
theorem dX6_lightTold_0 : decode cX6_lightTold 0 = .ok (.iload_n 2, 1) := by decide +kernel
theorem dX6_lightTold_1 : decode cX6_lightTold 1 = .ok (.tableswitch 55 0 2 #[27, 37, 46], 27) := by decide +kernel
theorem dX6_lightTold_28 : decode cX6_lightTold 28 = .ok (.aload_n 0, 1) := by decide +kernel
theorem dX6_lightTold_29 : decode cX6_lightTold 29 = .ok (.getfield 10, 3) := by decide +kernel
theorem dX6_lightTold_32 : decode cX6_lightTold 32 = .ok (.getfield 60, 3) := by decide +kernel
theorem dX6_lightTold_35 : decode cX6_lightTold 35 = .ok (.iload_n 1, 1) := by decide +kernel
theorem dX6_lightTold_36 : decode cX6_lightTold 36 = .ok (.iaload, 1) := by decide +kernel
theorem dX6_lightTold_37 : decode cX6_lightTold 37 = .ok (.ireturn, 1) := by decide +kernel
theorem dX6_lightTold_38 : decode cX6_lightTold 38 = .ok (.aload_n 0, 1) := by decide +kernel
theorem dX6_lightTold_39 : decode cX6_lightTold 39 = .ok (.getfield 10, 3) := by decide +kernel
theorem dX6_lightTold_42 : decode cX6_lightTold 42 = .ok (.iload_n 1, 1) := by decide +kernel
theorem dX6_lightTold_43 : decode cX6_lightTold 43 = .ok (.invokevirtual 140, 3) := by decide +kernel
theorem dX6_lightTold_46 : decode cX6_lightTold 46 = .ok (.ireturn, 1) := by decide +kernel
theorem dX6_lightTold_47 : decode cX6_lightTold 47 = .ok (.aload_n 0, 1) := by decide +kernel
theorem dX6_lightTold_48 : decode cX6_lightTold 48 = .ok (.getfield 10, 3) := by decide +kernel
theorem dX6_lightTold_51 : decode cX6_lightTold 51 = .ok (.iload_n 1, 1) := by decide +kernel
theorem dX6_lightTold_52 : decode cX6_lightTold 52 = .ok (.invokevirtual 143, 3) := by decide +kernel
theorem dX6_lightTold_55 : decode cX6_lightTold 55 = .ok (.ireturn, 1) := by decide +kernel
theorem dX6_lightTold_56 : decode cX6_lightTold 56 = .ok (.aload_n 0, 1) := by decide +kernel
theorem dX6_lightTold_57 : decode cX6_lightTold 57 = .ok (.getfield 10, 3) := by decide +kernel
theorem dX6_lightTold_60 : decode cX6_lightTold 60 = .ok (.getfield 146, 3) := by decide +kernel
theorem dX6_lightTold_63 : decode cX6_lightTold 63 = .ok (.iload_n 1, 1) := by decide +kernel
theorem dX6_lightTold_64 : decode cX6_lightTold 64 = .ok (.iaload, 1) := by decide +kernel
theorem dX6_lightTold_65 : decode cX6_lightTold 65 = .ok (.ireturn, 1) := by decide +kernel
theorem dX6_light_0 : decode cX6_light 0 = .ok (.aload_n 0, 1) := by decide +kernel
theorem dX6_light_1 : decode cX6_light 1 = .ok (.iconst 0, 1) := by decide +kernel
theorem dX6_light_2 : decode cX6_light 2 = .ok (.putfield 19, 3) := by decide +kernel
theorem dX6_light_5 : decode cX6_light 5 = .ok (.aload_n 0, 1) := by decide +kernel
theorem dX6_light_6 : decode cX6_light 6 = .ok (.iload_n 1, 1) := by decide +kernel
theorem dX6_light_7 : decode cX6_light 7 = .ok (.invokevirtual 63, 3) := by decide +kernel
theorem dX6_light_10 : decode cX6_light 10 = .ok (.ifCond .eq 21, 3) := by decide +kernel
theorem dX6_light_13 : decode cX6_light 13 = .ok (.iload_n 2, 1) := by decide +kernel
theorem dX6_light_14 : decode cX6_light 14 = .ok (.iconst 0, 1) := by decide +kernel
theorem dX6_light_15 : decode cX6_light 15 = .ok (.iconst 3, 1) := by decide +kernel
theorem dX6_light_16 : decode cX6_light 16 = .ok (.invokestatic 23, 3) := by decide +kernel
theorem dX6_light_19 : decode cX6_light 19 = .ok (.ifCond .eq 12, 3) := by decide +kernel
theorem dX6_light_22 : decode cX6_light 22 = .ok (.aload_n 0, 1) := by decide +kernel
theorem dX6_light_23 : decode cX6_light 23 = .ok (.iload_n 1, 1) := by decide +kernel
theorem dX6_light_24 : decode cX6_light 24 = .ok (.iload_n 2, 1) := by decide +kernel
theorem dX6_light_25 : decode cX6_light 25 = .ok (.invokevirtual 149, 3) := by decide +kernel
theorem dX6_light_28 : decode cX6_light 28 = .ok (.goto 8, 3) := by decide +kernel
theorem dX6_light_31 : decode cX6_light 31 = .ok (.aload_n 0, 1) := by decide +kernel
theorem dX6_light_32 : decode cX6_light 32 = .ok (.iconst 1, 1) := by decide +kernel
theorem dX6_light_33 : decode cX6_light 33 = .ok (.invokevirtual 40, 3) := by decide +kernel
theorem dX6_light_36 : decode cX6_light 36 = .ok (.ireturn, 1) := by decide +kernel
theorem dX6_codeTold_0 : decode cX6_codeTold 0 = .ok (.iload_n 2, 1) := by decide +kernel
theorem dX6_codeTold_1 : decode cX6_codeTold 1 = .ok (.iconst 2, 1) := by decide +kernel
theorem dX6_codeTold_2 : decode cX6_codeTold 2 = .ok (.if_icmp .ge 29, 3) := by decide +kernel
theorem dX6_codeTold_5 : decode cX6_codeTold 5 = .ok (.iload_n 2, 1) := by decide +kernel
theorem dX6_codeTold_6 : decode cX6_codeTold 6 = .ok (.ifCond .ne 15, 3) := by decide +kernel
theorem dX6_codeTold_9 : decode cX6_codeTold 9 = .ok (.aload_n 0, 1) := by decide +kernel
theorem dX6_codeTold_10 : decode cX6_codeTold 10 = .ok (.getfield 10, 3) := by decide +kernel
theorem dX6_codeTold_13 : decode cX6_codeTold 13 = .ok (.getfield 54, 3) := by decide +kernel
theorem dX6_codeTold_16 : decode cX6_codeTold 16 = .ok (.iload_n 1, 1) := by decide +kernel
theorem dX6_codeTold_17 : decode cX6_codeTold 17 = .ok (.iaload, 1) := by decide +kernel
theorem dX6_codeTold_18 : decode cX6_codeTold 18 = .ok (.goto 12, 3) := by decide +kernel
theorem dX6_codeTold_21 : decode cX6_codeTold 21 = .ok (.aload_n 0, 1) := by decide +kernel
theorem dX6_codeTold_22 : decode cX6_codeTold 22 = .ok (.getfield 10, 3) := by decide +kernel
theorem dX6_codeTold_25 : decode cX6_codeTold 25 = .ok (.getfield 57, 3) := by decide +kernel
theorem dX6_codeTold_28 : decode cX6_codeTold 28 = .ok (.iload_n 1, 1) := by decide +kernel
theorem dX6_codeTold_29 : decode cX6_codeTold 29 = .ok (.iaload, 1) := by decide +kernel
theorem dX6_codeTold_30 : decode cX6_codeTold 30 = .ok (.ireturn, 1) := by decide +kernel
theorem dX6_codeTold_31 : decode cX6_codeTold 31 = .ok (.iload_n 2, 1) := by decide +kernel
theorem dX6_codeTold_32 : decode cX6_codeTold 32 = .ok (.iconst 2, 1) := by decide +kernel
theorem dX6_codeTold_33 : decode cX6_codeTold 33 = .ok (.if_icmp .ne 20, 3) := by decide +kernel
theorem dX6_codeTold_36 : decode cX6_codeTold 36 = .ok (.aload_n 0, 1) := by decide +kernel
theorem dX6_codeTold_37 : decode cX6_codeTold 37 = .ok (.getfield 10, 3) := by decide +kernel
theorem dX6_codeTold_40 : decode cX6_codeTold 40 = .ok (.iload_n 1, 1) := by decide +kernel
theorem dX6_codeTold_41 : decode cX6_codeTold 41 = .ok (.invokevirtual 152, 3) := by decide +kernel
theorem dX6_codeTold_44 : decode cX6_codeTold 44 = .ok (.ifCond .eq 7, 3) := by decide +kernel
theorem dX6_codeTold_47 : decode cX6_codeTold 47 = .ok (.iconst 1, 1) := by decide +kernel
theorem dX6_codeTold_48 : decode cX6_codeTold 48 = .ok (.goto 4, 3) := by decide +kernel
theorem dX6_codeTold_51 : decode cX6_codeTold 51 = .ok (.iconst 0, 1) := by decide +kernel
theorem dX6_codeTold_52 : decode cX6_codeTold 52 = .ok (.ireturn, 1) := by decide +kernel
theorem dX6_codeTold_53 : decode cX6_codeTold 53 = .ok (.iconst 0, 1) := by decide +kernel
theorem dX6_codeTold_54 : decode cX6_codeTold 54 = .ok (.istore_n 3, 1) := by decide +kernel
theorem dX6_codeTold_55 : decode cX6_codeTold 55 = .ok (.iconst 0, 1) := by decide +kernel
theorem dX6_codeTold_56 : decode cX6_codeTold 56 = .ok (.istore 4, 2) := by decide +kernel
theorem dX6_codeTold_58 : decode cX6_codeTold 58 = .ok (.iload 4, 2) := by decide +kernel
theorem dX6_codeTold_60 : decode cX6_codeTold 60 = .ok (.aload_n 0, 1) := by decide +kernel
theorem dX6_codeTold_61 : decode cX6_codeTold 61 = .ok (.getfield 10, 3) := by decide +kernel
theorem dX6_codeTold_64 : decode cX6_codeTold 64 = .ok (.getfield 33, 3) := by decide +kernel
theorem dX6_codeTold_67 : decode cX6_codeTold 67 = .ok (.if_icmp .ge 44, 3) := by decide +kernel
theorem dX6_codeTold_70 : decode cX6_codeTold 70 = .ok (.iload_n 3, 1) := by decide +kernel
theorem dX6_codeTold_71 : decode cX6_codeTold 71 = .ok (.aload_n 0, 1) := by decide +kernel
theorem dX6_codeTold_72 : decode cX6_codeTold 72 = .ok (.getfield 10, 3) := by decide +kernel
theorem dX6_codeTold_75 : decode cX6_codeTold 75 = .ok (.getfield 97, 3) := by decide +kernel
theorem dX6_codeTold_78 : decode cX6_codeTold 78 = .ok (.iload 4, 2) := by decide +kernel
theorem dX6_codeTold_80 : decode cX6_codeTold 80 = .ok (.iaload, 1) := by decide +kernel
theorem dX6_codeTold_81 : decode cX6_codeTold 81 = .ok (.ifCond .ne 21, 3) := by decide +kernel
theorem dX6_codeTold_84 : decode cX6_codeTold 84 = .ok (.aload_n 0, 1) := by decide +kernel
theorem dX6_codeTold_85 : decode cX6_codeTold 85 = .ok (.getfield 10, 3) := by decide +kernel
theorem dX6_codeTold_88 : decode cX6_codeTold 88 = .ok (.getfield 115, 3) := by decide +kernel
theorem dX6_codeTold_91 : decode cX6_codeTold 91 = .ok (.iload 4, 2) := by decide +kernel
theorem dX6_codeTold_93 : decode cX6_codeTold 93 = .ok (.iaload, 1) := by decide +kernel
theorem dX6_codeTold_94 : decode cX6_codeTold 94 = .ok (.iload_n 1, 1) := by decide +kernel
theorem dX6_codeTold_95 : decode cX6_codeTold 95 = .ok (.if_icmp .ne 7, 3) := by decide +kernel
theorem dX6_codeTold_98 : decode cX6_codeTold 98 = .ok (.iconst 1, 1) := by decide +kernel
theorem dX6_codeTold_99 : decode cX6_codeTold 99 = .ok (.goto 4, 3) := by decide +kernel
theorem dX6_codeTold_102 : decode cX6_codeTold 102 = .ok (.iconst 0, 1) := by decide +kernel
theorem dX6_codeTold_103 : decode cX6_codeTold 103 = .ok (.iadd, 1) := by decide +kernel
theorem dX6_codeTold_104 : decode cX6_codeTold 104 = .ok (.istore_n 3, 1) := by decide +kernel
theorem dX6_codeTold_105 : decode cX6_codeTold 105 = .ok (.iinc 4 1, 3) := by decide +kernel
theorem dX6_codeTold_108 : decode cX6_codeTold 108 = .ok (.goto (-50), 3) := by decide +kernel
theorem dX6_codeTold_111 : decode cX6_codeTold 111 = .ok (.iload_n 3, 1) := by decide +kernel
theorem dX6_codeTold_112 : decode cX6_codeTold 112 = .ok (.ireturn, 1) := by decide +kernel
theorem dX6_code_0 : decode cX6_code 0 = .ok (.aload_n 0, 1) := by decide +kernel
theorem dX6_code_1 : decode cX6_code 1 = .ok (.iconst 0, 1) := by decide +kernel
theorem dX6_code_2 : decode cX6_code 2 = .ok (.putfield 19, 3) := by decide +kernel
theorem dX6_code_5 : decode cX6_code 5 = .ok (.iload_n 1, 1) := by decide +kernel
theorem dX6_code_6 : decode cX6_code 6 = .ok (.invokestatic 51, 3) := by decide +kernel
theorem dX6_code_9 : decode cX6_code 9 = .ok (.ifCond .eq 21, 3) := by decide +kernel
theorem dX6_code_12 : decode cX6_code 12 = .ok (.iload_n 2, 1) := by decide +kernel
theorem dX6_code_13 : decode cX6_code 13 = .ok (.iconst 0, 1) := by decide +kernel
theorem dX6_code_14 : decode cX6_code 14 = .ok (.iconst 3, 1) := by decide +kernel
theorem dX6_code_15 : decode cX6_code 15 = .ok (.invokestatic 23, 3) := by decide +kernel
theorem dX6_code_18 : decode cX6_code 18 = .ok (.ifCond .eq 12, 3) := by decide +kernel
theorem dX6_code_21 : decode cX6_code 21 = .ok (.aload_n 0, 1) := by decide +kernel
theorem dX6_code_22 : decode cX6_code 22 = .ok (.iload_n 1, 1) := by decide +kernel
theorem dX6_code_23 : decode cX6_code 23 = .ok (.iload_n 2, 1) := by decide +kernel
theorem dX6_code_24 : decode cX6_code 24 = .ok (.invokevirtual 155, 3) := by decide +kernel
theorem dX6_code_27 : decode cX6_code 27 = .ok (.goto 8, 3) := by decide +kernel
theorem dX6_code_30 : decode cX6_code 30 = .ok (.aload_n 0, 1) := by decide +kernel
theorem dX6_code_31 : decode cX6_code 31 = .ok (.iconst 1, 1) := by decide +kernel
theorem dX6_code_32 : decode cX6_code 32 = .ok (.invokevirtual 40, 3) := by decide +kernel
theorem dX6_code_35 : decode cX6_code 35 = .ok (.ireturn, 1) := by decide +kernel
theorem dX6_placeTold_0 : decode cX6_placeTold 0 = .ok (.iconst 0, 1) := by decide +kernel
theorem dX6_placeTold_1 : decode cX6_placeTold 1 = .ok (.istore_n 3, 1) := by decide +kernel
theorem dX6_placeTold_2 : decode cX6_placeTold 2 = .ok (.iload_n 2, 1) := by decide +kernel
theorem dX6_placeTold_3 : decode cX6_placeTold 3 = .ok (.tableswitch 152 0 3 #[29, 39, 49, 94], 29) := by decide +kernel
theorem dX6_placeTold_32 : decode cX6_placeTold 32 = .ok (.aload_n 0, 1) := by decide +kernel
theorem dX6_placeTold_33 : decode cX6_placeTold 33 = .ok (.getfield 10, 3) := by decide +kernel
theorem dX6_placeTold_36 : decode cX6_placeTold 36 = .ok (.getfield 48, 3) := by decide +kernel
theorem dX6_placeTold_39 : decode cX6_placeTold 39 = .ok (.iload_n 1, 1) := by decide +kernel
theorem dX6_placeTold_40 : decode cX6_placeTold 40 = .ok (.iaload, 1) := by decide +kernel
theorem dX6_placeTold_41 : decode cX6_placeTold 41 = .ok (.ireturn, 1) := by decide +kernel
theorem dX6_placeTold_42 : decode cX6_placeTold 42 = .ok (.aload_n 0, 1) := by decide +kernel
theorem dX6_placeTold_43 : decode cX6_placeTold 43 = .ok (.getfield 10, 3) := by decide +kernel
theorem dX6_placeTold_46 : decode cX6_placeTold 46 = .ok (.getfield 44, 3) := by decide +kernel
theorem dX6_placeTold_49 : decode cX6_placeTold 49 = .ok (.iload_n 1, 1) := by decide +kernel
theorem dX6_placeTold_50 : decode cX6_placeTold 50 = .ok (.iaload, 1) := by decide +kernel
theorem dX6_placeTold_51 : decode cX6_placeTold 51 = .ok (.ireturn, 1) := by decide +kernel
theorem dX6_placeTold_52 : decode cX6_placeTold 52 = .ok (.iconst 0, 1) := by decide +kernel
theorem dX6_placeTold_53 : decode cX6_placeTold 53 = .ok (.istore 4, 2) := by decide +kernel
theorem dX6_placeTold_55 : decode cX6_placeTold 55 = .ok (.iload 4, 2) := by decide +kernel
theorem dX6_placeTold_57 : decode cX6_placeTold 57 = .ok (.aload_n 0, 1) := by decide +kernel
theorem dX6_placeTold_58 : decode cX6_placeTold 58 = .ok (.getfield 10, 3) := by decide +kernel
theorem dX6_placeTold_61 : decode cX6_placeTold 61 = .ok (.getfield 30, 3) := by decide +kernel
theorem dX6_placeTold_64 : decode cX6_placeTold 64 = .ok (.if_icmp .ge 31, 3) := by decide +kernel
theorem dX6_placeTold_67 : decode cX6_placeTold 67 = .ok (.iload_n 3, 1) := by decide +kernel
theorem dX6_placeTold_68 : decode cX6_placeTold 68 = .ok (.aload_n 0, 1) := by decide +kernel
theorem dX6_placeTold_69 : decode cX6_placeTold 69 = .ok (.getfield 10, 3) := by decide +kernel
theorem dX6_placeTold_72 : decode cX6_placeTold 72 = .ok (.getfield 78, 3) := by decide +kernel
theorem dX6_placeTold_75 : decode cX6_placeTold 75 = .ok (.iload 4, 2) := by decide +kernel
theorem dX6_placeTold_77 : decode cX6_placeTold 77 = .ok (.iaload, 1) := by decide +kernel
theorem dX6_placeTold_78 : decode cX6_placeTold 78 = .ok (.iload_n 1, 1) := by decide +kernel
theorem dX6_placeTold_79 : decode cX6_placeTold 79 = .ok (.if_icmp .ne 7, 3) := by decide +kernel
theorem dX6_placeTold_82 : decode cX6_placeTold 82 = .ok (.iconst 1, 1) := by decide +kernel
theorem dX6_placeTold_83 : decode cX6_placeTold 83 = .ok (.goto 4, 3) := by decide +kernel
theorem dX6_placeTold_86 : decode cX6_placeTold 86 = .ok (.iconst 0, 1) := by decide +kernel
theorem dX6_placeTold_87 : decode cX6_placeTold 87 = .ok (.iadd, 1) := by decide +kernel
theorem dX6_placeTold_88 : decode cX6_placeTold 88 = .ok (.istore_n 3, 1) := by decide +kernel
theorem dX6_placeTold_89 : decode cX6_placeTold 89 = .ok (.iinc 4 1, 3) := by decide +kernel
theorem dX6_placeTold_92 : decode cX6_placeTold 92 = .ok (.goto (-37), 3) := by decide +kernel
theorem dX6_placeTold_95 : decode cX6_placeTold 95 = .ok (.iload_n 3, 1) := by decide +kernel
theorem dX6_placeTold_96 : decode cX6_placeTold 96 = .ok (.ireturn, 1) := by decide +kernel
theorem dX6_placeTold_97 : decode cX6_placeTold 97 = .ok (.iconst 0, 1) := by decide +kernel
theorem dX6_placeTold_98 : decode cX6_placeTold 98 = .ok (.istore 4, 2) := by decide +kernel
theorem dX6_placeTold_100 : decode cX6_placeTold 100 = .ok (.iload 4, 2) := by decide +kernel
theorem dX6_placeTold_102 : decode cX6_placeTold 102 = .ok (.aload_n 0, 1) := by decide +kernel
theorem dX6_placeTold_103 : decode cX6_placeTold 103 = .ok (.getfield 10, 3) := by decide +kernel
theorem dX6_placeTold_106 : decode cX6_placeTold 106 = .ok (.getfield 33, 3) := by decide +kernel
theorem dX6_placeTold_109 : decode cX6_placeTold 109 = .ok (.if_icmp .ge 44, 3) := by decide +kernel
theorem dX6_placeTold_112 : decode cX6_placeTold 112 = .ok (.iload_n 3, 1) := by decide +kernel
theorem dX6_placeTold_113 : decode cX6_placeTold 113 = .ok (.aload_n 0, 1) := by decide +kernel
theorem dX6_placeTold_114 : decode cX6_placeTold 114 = .ok (.getfield 10, 3) := by decide +kernel
theorem dX6_placeTold_117 : decode cX6_placeTold 117 = .ok (.getfield 97, 3) := by decide +kernel
theorem dX6_placeTold_120 : decode cX6_placeTold 120 = .ok (.iload 4, 2) := by decide +kernel
theorem dX6_placeTold_122 : decode cX6_placeTold 122 = .ok (.iaload, 1) := by decide +kernel
theorem dX6_placeTold_123 : decode cX6_placeTold 123 = .ok (.ifCond .ne 21, 3) := by decide +kernel
theorem dX6_placeTold_126 : decode cX6_placeTold 126 = .ok (.aload_n 0, 1) := by decide +kernel
theorem dX6_placeTold_127 : decode cX6_placeTold 127 = .ok (.getfield 10, 3) := by decide +kernel
theorem dX6_placeTold_130 : decode cX6_placeTold 130 = .ok (.getfield 84, 3) := by decide +kernel
theorem dX6_placeTold_133 : decode cX6_placeTold 133 = .ok (.iload 4, 2) := by decide +kernel
theorem dX6_placeTold_135 : decode cX6_placeTold 135 = .ok (.iaload, 1) := by decide +kernel
theorem dX6_placeTold_136 : decode cX6_placeTold 136 = .ok (.iload_n 1, 1) := by decide +kernel
theorem dX6_placeTold_137 : decode cX6_placeTold 137 = .ok (.if_icmp .ne 7, 3) := by decide +kernel
theorem dX6_placeTold_140 : decode cX6_placeTold 140 = .ok (.iconst 1, 1) := by decide +kernel
theorem dX6_placeTold_141 : decode cX6_placeTold 141 = .ok (.goto 4, 3) := by decide +kernel
theorem dX6_placeTold_144 : decode cX6_placeTold 144 = .ok (.iconst 0, 1) := by decide +kernel
theorem dX6_placeTold_145 : decode cX6_placeTold 145 = .ok (.iadd, 1) := by decide +kernel
theorem dX6_placeTold_146 : decode cX6_placeTold 146 = .ok (.istore_n 3, 1) := by decide +kernel
theorem dX6_placeTold_147 : decode cX6_placeTold 147 = .ok (.iinc 4 1, 3) := by decide +kernel
theorem dX6_placeTold_150 : decode cX6_placeTold 150 = .ok (.goto (-50), 3) := by decide +kernel
theorem dX6_placeTold_153 : decode cX6_placeTold 153 = .ok (.iload_n 3, 1) := by decide +kernel
theorem dX6_placeTold_154 : decode cX6_placeTold 154 = .ok (.ireturn, 1) := by decide +kernel
theorem dX6_placeTold_155 : decode cX6_placeTold 155 = .ok (.aload_n 0, 1) := by decide +kernel
theorem dX6_placeTold_156 : decode cX6_placeTold 156 = .ok (.getfield 10, 3) := by decide +kernel
theorem dX6_placeTold_159 : decode cX6_placeTold 159 = .ok (.iload_n 1, 1) := by decide +kernel
theorem dX6_placeTold_160 : decode cX6_placeTold 160 = .ok (.invokevirtual 158, 3) := by decide +kernel
theorem dX6_placeTold_163 : decode cX6_placeTold 163 = .ok (.ireturn, 1) := by decide +kernel
theorem dX6_place_0 : decode cX6_place 0 = .ok (.aload_n 0, 1) := by decide +kernel
theorem dX6_place_1 : decode cX6_place 1 = .ok (.iconst 0, 1) := by decide +kernel
theorem dX6_place_2 : decode cX6_place 2 = .ok (.putfield 19, 3) := by decide +kernel
theorem dX6_place_5 : decode cX6_place 5 = .ok (.iload_n 1, 1) := by decide +kernel
theorem dX6_place_6 : decode cX6_place 6 = .ok (.invokestatic 36, 3) := by decide +kernel
theorem dX6_place_9 : decode cX6_place 9 = .ok (.ifCond .eq 21, 3) := by decide +kernel
theorem dX6_place_12 : decode cX6_place 12 = .ok (.iload_n 2, 1) := by decide +kernel
theorem dX6_place_13 : decode cX6_place 13 = .ok (.iconst 0, 1) := by decide +kernel
theorem dX6_place_14 : decode cX6_place 14 = .ok (.iconst 4, 1) := by decide +kernel
theorem dX6_place_15 : decode cX6_place 15 = .ok (.invokestatic 23, 3) := by decide +kernel
theorem dX6_place_18 : decode cX6_place 18 = .ok (.ifCond .eq 12, 3) := by decide +kernel
theorem dX6_place_21 : decode cX6_place 21 = .ok (.aload_n 0, 1) := by decide +kernel
theorem dX6_place_22 : decode cX6_place 22 = .ok (.iload_n 1, 1) := by decide +kernel
theorem dX6_place_23 : decode cX6_place 23 = .ok (.iload_n 2, 1) := by decide +kernel
theorem dX6_place_24 : decode cX6_place 24 = .ok (.invokevirtual 161, 3) := by decide +kernel
theorem dX6_place_27 : decode cX6_place 27 = .ok (.goto 8, 3) := by decide +kernel
theorem dX6_place_30 : decode cX6_place 30 = .ok (.aload_n 0, 1) := by decide +kernel
theorem dX6_place_31 : decode cX6_place 31 = .ok (.iconst 1, 1) := by decide +kernel
theorem dX6_place_32 : decode cX6_place 32 = .ok (.invokevirtual 40, 3) := by decide +kernel
theorem dX6_place_35 : decode cX6_place 35 = .ok (.ireturn, 1) := by decide +kernel
theorem dX6_moon_0 : decode cX6_moon 0 = .ok (.aload_n 0, 1) := by decide +kernel
theorem dX6_moon_1 : decode cX6_moon 1 = .ok (.iconst 0, 1) := by decide +kernel
theorem dX6_moon_2 : decode cX6_moon 2 = .ok (.putfield 19, 3) := by decide +kernel
theorem dX6_moon_5 : decode cX6_moon 5 = .ok (.iload_n 1, 1) := by decide +kernel
theorem dX6_moon_6 : decode cX6_moon 6 = .ok (.iconst 0, 1) := by decide +kernel
theorem dX6_moon_7 : decode cX6_moon 7 = .ok (.sipush 999, 3) := by decide +kernel
theorem dX6_moon_10 : decode cX6_moon 10 = .ok (.invokestatic 23, 3) := by decide +kernel
theorem dX6_moon_13 : decode cX6_moon 13 = .ok (.ifCond .eq 10, 3) := by decide +kernel
theorem dX6_moon_16 : decode cX6_moon 16 = .ok (.iload_n 1, 1) := by decide +kernel
theorem dX6_moon_17 : decode cX6_moon 17 = .ok (.invokestatic 164, 3) := by decide +kernel
theorem dX6_moon_20 : decode cX6_moon 20 = .ok (.goto 8, 3) := by decide +kernel
theorem dX6_moon_23 : decode cX6_moon 23 = .ok (.aload_n 0, 1) := by decide +kernel
theorem dX6_moon_24 : decode cX6_moon 24 = .ok (.iconst 1, 1) := by decide +kernel
theorem dX6_moon_25 : decode cX6_moon 25 = .ok (.invokevirtual 40, 3) := by decide +kernel
theorem dX6_moon_28 : decode cX6_moon 28 = .ok (.ireturn, 1) := by decide +kernel
theorem dX6_count_0 : decode cX6_count 0 = .ok (.aload_n 0, 1) := by decide +kernel
theorem dX6_count_1 : decode cX6_count 1 = .ok (.iconst 0, 1) := by decide +kernel
theorem dX6_count_2 : decode cX6_count 2 = .ok (.putfield 19, 3) := by decide +kernel
theorem dX6_count_5 : decode cX6_count 5 = .ok (.iload_n 1, 1) := by decide +kernel
theorem dX6_count_6 : decode cX6_count 6 = .ok (.iconst 0, 1) := by decide +kernel
theorem dX6_count_7 : decode cX6_count 7 = .ok (.bipush 10, 2) := by decide +kernel
theorem dX6_count_9 : decode cX6_count 9 = .ok (.invokestatic 23, 3) := by decide +kernel
theorem dX6_count_12 : decode cX6_count 12 = .ok (.ifCond .eq 14, 3) := by decide +kernel
theorem dX6_count_15 : decode cX6_count 15 = .ok (.aload_n 0, 1) := by decide +kernel
theorem dX6_count_16 : decode cX6_count 16 = .ok (.getfield 10, 3) := by decide +kernel
theorem dX6_count_19 : decode cX6_count 19 = .ok (.iload_n 1, 1) := by decide +kernel
theorem dX6_count_20 : decode cX6_count 20 = .ok (.invokevirtual 167, 3) := by decide +kernel
theorem dX6_count_23 : decode cX6_count 23 = .ok (.goto 8, 3) := by decide +kernel
theorem dX6_count_26 : decode cX6_count 26 = .ok (.aload_n 0, 1) := by decide +kernel
theorem dX6_count_27 : decode cX6_count 27 = .ok (.iconst 1, 1) := by decide +kernel
theorem dX6_count_28 : decode cX6_count 28 = .ok (.invokevirtual 40, 3) := by decide +kernel
theorem dX6_count_31 : decode cX6_count 31 = .ok (.ireturn, 1) := by decide +kernel
theorem dX6_goOn_0 : decode cX6_goOn 0 = .ok (.iconst 0, 1) := by decide +kernel
theorem dX6_goOn_1 : decode cX6_goOn 1 = .ok (.istore_n 2, 1) := by decide +kernel
theorem dX6_goOn_2 : decode cX6_goOn 2 = .ok (.iconst 0, 1) := by decide +kernel
theorem dX6_goOn_3 : decode cX6_goOn 3 = .ok (.istore_n 3, 1) := by decide +kernel
theorem dX6_goOn_4 : decode cX6_goOn 4 = .ok (.iload_n 3, 1) := by decide +kernel
theorem dX6_goOn_5 : decode cX6_goOn 5 = .ok (.iload_n 1, 1) := by decide +kernel
theorem dX6_goOn_6 : decode cX6_goOn 6 = .ok (.if_icmp .ge 16, 3) := by decide +kernel
theorem dX6_goOn_9 : decode cX6_goOn 9 = .ok (.iload_n 2, 1) := by decide +kernel
theorem dX6_goOn_10 : decode cX6_goOn 10 = .ok (.aload_n 0, 1) := by decide +kernel
theorem dX6_goOn_11 : decode cX6_goOn 11 = .ok (.invokevirtual 170, 3) := by decide +kernel
theorem dX6_goOn_14 : decode cX6_goOn 14 = .ok (.iadd, 1) := by decide +kernel
theorem dX6_goOn_15 : decode cX6_goOn 15 = .ok (.istore_n 2, 1) := by decide +kernel
theorem dX6_goOn_16 : decode cX6_goOn 16 = .ok (.iinc 3 1, 3) := by decide +kernel
theorem dX6_goOn_19 : decode cX6_goOn 19 = .ok (.goto (-15), 3) := by decide +kernel
theorem dX6_goOn_22 : decode cX6_goOn 22 = .ok (.iload_n 2, 1) := by decide +kernel
theorem dX6_goOn_23 : decode cX6_goOn 23 = .ok (.ireturn, 1) := by decide +kernel
theorem dX6_pass_0 : decode cX6_pass 0 = .ok (.aload_n 0, 1) := by decide +kernel
theorem dX6_pass_1 : decode cX6_pass 1 = .ok (.iconst 0, 1) := by decide +kernel
theorem dX6_pass_2 : decode cX6_pass 2 = .ok (.putfield 19, 3) := by decide +kernel
theorem dX6_pass_5 : decode cX6_pass 5 = .ok (.iload_n 1, 1) := by decide +kernel
theorem dX6_pass_6 : decode cX6_pass 6 = .ok (.iconst 1, 1) := by decide +kernel
theorem dX6_pass_7 : decode cX6_pass 7 = .ok (.bipush 60, 2) := by decide +kernel
theorem dX6_pass_9 : decode cX6_pass 9 = .ok (.invokestatic 23, 3) := by decide +kernel
theorem dX6_pass_12 : decode cX6_pass 12 = .ok (.ifCond .eq 14, 3) := by decide +kernel
theorem dX6_pass_15 : decode cX6_pass 15 = .ok (.aload_n 0, 1) := by decide +kernel
theorem dX6_pass_16 : decode cX6_pass 16 = .ok (.getfield 10, 3) := by decide +kernel
theorem dX6_pass_19 : decode cX6_pass 19 = .ok (.iload_n 1, 1) := by decide +kernel
theorem dX6_pass_20 : decode cX6_pass 20 = .ok (.invokestatic 174, 3) := by decide +kernel
theorem dX6_pass_23 : decode cX6_pass 23 = .ok (.goto 8, 3) := by decide +kernel
theorem dX6_pass_26 : decode cX6_pass 26 = .ok (.aload_n 0, 1) := by decide +kernel
theorem dX6_pass_27 : decode cX6_pass 27 = .ok (.iconst 1, 1) := by decide +kernel
theorem dX6_pass_28 : decode cX6_pass 28 = .ok (.invokevirtual 40, 3) := by decide +kernel
theorem dX6_pass_31 : decode cX6_pass 31 = .ok (.ireturn, 1) := by decide +kernel
theorem dX6_until_0 : decode cX6_until 0 = .ok (.aload_n 0, 1) := by decide +kernel
theorem dX6_until_1 : decode cX6_until 1 = .ok (.iconst 0, 1) := by decide +kernel
theorem dX6_until_2 : decode cX6_until 2 = .ok (.putfield 19, 3) := by decide +kernel
theorem dX6_until_5 : decode cX6_until 5 = .ok (.aload_n 0, 1) := by decide +kernel
theorem dX6_until_6 : decode cX6_until 6 = .ok (.iload_n 1, 1) := by decide +kernel
theorem dX6_until_7 : decode cX6_until 7 = .ok (.invokevirtual 94, 3) := by decide +kernel
theorem dX6_until_10 : decode cX6_until 10 = .ok (.ifCond .ne 9, 3) := by decide +kernel
theorem dX6_until_13 : decode cX6_until 13 = .ok (.aload_n 0, 1) := by decide +kernel
theorem dX6_until_14 : decode cX6_until 14 = .ok (.iconst 1, 1) := by decide +kernel
theorem dX6_until_15 : decode cX6_until 15 = .ok (.invokevirtual 40, 3) := by decide +kernel
theorem dX6_until_18 : decode cX6_until 18 = .ok (.ireturn, 1) := by decide +kernel
theorem dX6_until_19 : decode cX6_until 19 = .ok (.aload_n 0, 1) := by decide +kernel
theorem dX6_until_20 : decode cX6_until 20 = .ok (.getfield 16, 3) := by decide +kernel
theorem dX6_until_23 : decode cX6_until 23 = .ok (.aload_n 0, 1) := by decide +kernel
theorem dX6_until_24 : decode cX6_until 24 = .ok (.getfield 10, 3) := by decide +kernel
theorem dX6_until_27 : decode cX6_until 27 = .ok (.invokevirtual 178, 3) := by decide +kernel
theorem dX6_until_30 : decode cX6_until 30 = .ok (.iconst 0, 1) := by decide +kernel
theorem dX6_until_31 : decode cX6_until 31 = .ok (.istore_n 2, 1) := by decide +kernel
theorem dX6_until_32 : decode cX6_until 32 = .ok (.aload_n 0, 1) := by decide +kernel
theorem dX6_until_33 : decode cX6_until 33 = .ok (.getfield 16, 3) := by decide +kernel
theorem dX6_until_36 : decode cX6_until 36 = .ok (.getfield 97, 3) := by decide +kernel
theorem dX6_until_39 : decode cX6_until 39 = .ok (.iload_n 1, 1) := by decide +kernel
theorem dX6_until_40 : decode cX6_until 40 = .ok (.iaload, 1) := by decide +kernel
theorem dX6_until_41 : decode cX6_until 41 = .ok (.ifCond .ne 23, 3) := by decide +kernel
theorem dX6_until_44 : decode cX6_until 44 = .ok (.iload_n 2, 1) := by decide +kernel
theorem dX6_until_45 : decode cX6_until 45 = .ok (.bipush 120, 2) := by decide +kernel
theorem dX6_until_47 : decode cX6_until 47 = .ok (.if_icmp .ge 17, 3) := by decide +kernel
theorem dX6_until_50 : decode cX6_until 50 = .ok (.aload_n 0, 1) := by decide +kernel
theorem dX6_until_51 : decode cX6_until 51 = .ok (.getfield 16, 3) := by decide +kernel
theorem dX6_until_54 : decode cX6_until 54 = .ok (.invokevirtual 170, 3) := by decide +kernel
theorem dX6_until_57 : decode cX6_until 57 = .ok (.pop, 1) := by decide +kernel
theorem dX6_until_58 : decode cX6_until 58 = .ok (.iinc 2 1, 3) := by decide +kernel
theorem dX6_until_61 : decode cX6_until 61 = .ok (.goto (-29), 3) := by decide +kernel
theorem dX6_until_64 : decode cX6_until 64 = .ok (.aload_n 0, 1) := by decide +kernel
theorem dX6_until_65 : decode cX6_until 65 = .ok (.getfield 16, 3) := by decide +kernel
theorem dX6_until_68 : decode cX6_until 68 = .ok (.getfield 97, 3) := by decide +kernel
theorem dX6_until_71 : decode cX6_until 71 = .ok (.iload_n 1, 1) := by decide +kernel
theorem dX6_until_72 : decode cX6_until 72 = .ok (.iaload, 1) := by decide +kernel
theorem dX6_until_73 : decode cX6_until 73 = .ok (.iconst 1, 1) := by decide +kernel
theorem dX6_until_74 : decode cX6_until 74 = .ok (.if_icmp .ne 7, 3) := by decide +kernel
theorem dX6_until_77 : decode cX6_until 77 = .ok (.iload_n 2, 1) := by decide +kernel
theorem dX6_until_78 : decode cX6_until 78 = .ok (.goto 4, 3) := by decide +kernel
theorem dX6_until_81 : decode cX6_until 81 = .ok (.iconst (-1), 1) := by decide +kernel
theorem dX6_until_82 : decode cX6_until 82 = .ok (.ireturn, 1) := by decide +kernel
theorem dX6_foresee_0 : decode cX6_foresee 0 = .ok (.aload_n 0, 1) := by decide +kernel
theorem dX6_foresee_1 : decode cX6_foresee 1 = .ok (.iconst 0, 1) := by decide +kernel
theorem dX6_foresee_2 : decode cX6_foresee 2 = .ok (.putfield 19, 3) := by decide +kernel
theorem dX6_foresee_5 : decode cX6_foresee 5 = .ok (.iload_n 1, 1) := by decide +kernel
theorem dX6_foresee_6 : decode cX6_foresee 6 = .ok (.iconst 1, 1) := by decide +kernel
theorem dX6_foresee_7 : decode cX6_foresee 7 = .ok (.bipush 60, 2) := by decide +kernel
theorem dX6_foresee_9 : decode cX6_foresee 9 = .ok (.invokestatic 23, 3) := by decide +kernel
theorem dX6_foresee_12 : decode cX6_foresee 12 = .ok (.ifCond .ne 9, 3) := by decide +kernel
theorem dX6_foresee_15 : decode cX6_foresee 15 = .ok (.aload_n 0, 1) := by decide +kernel
theorem dX6_foresee_16 : decode cX6_foresee 16 = .ok (.iconst 1, 1) := by decide +kernel
theorem dX6_foresee_17 : decode cX6_foresee 17 = .ok (.invokevirtual 40, 3) := by decide +kernel
theorem dX6_foresee_20 : decode cX6_foresee 20 = .ok (.ireturn, 1) := by decide +kernel
theorem dX6_foresee_21 : decode cX6_foresee 21 = .ok (.iload_n 2, 1) := by decide +kernel
theorem dX6_foresee_22 : decode cX6_foresee 22 = .ok (.iconst 4, 1) := by decide +kernel
theorem dX6_foresee_23 : decode cX6_foresee 23 = .ok (.bipush 10, 2) := by decide +kernel
theorem dX6_foresee_25 : decode cX6_foresee 25 = .ok (.invokestatic 23, 3) := by decide +kernel
theorem dX6_foresee_28 : decode cX6_foresee 28 = .ok (.ifCond .ne 9, 3) := by decide +kernel
theorem dX6_foresee_31 : decode cX6_foresee 31 = .ok (.aload_n 0, 1) := by decide +kernel
theorem dX6_foresee_32 : decode cX6_foresee 32 = .ok (.iconst 2, 1) := by decide +kernel
theorem dX6_foresee_33 : decode cX6_foresee 33 = .ok (.invokevirtual 40, 3) := by decide +kernel
theorem dX6_foresee_36 : decode cX6_foresee 36 = .ok (.ireturn, 1) := by decide +kernel
theorem dX6_foresee_37 : decode cX6_foresee 37 = .ok (.aload_n 0, 1) := by decide +kernel
theorem dX6_foresee_38 : decode cX6_foresee 38 = .ok (.getfield 16, 3) := by decide +kernel
theorem dX6_foresee_41 : decode cX6_foresee 41 = .ok (.aload_n 0, 1) := by decide +kernel
theorem dX6_foresee_42 : decode cX6_foresee 42 = .ok (.getfield 10, 3) := by decide +kernel
theorem dX6_foresee_45 : decode cX6_foresee 45 = .ok (.invokevirtual 178, 3) := by decide +kernel
theorem dX6_foresee_48 : decode cX6_foresee 48 = .ok (.aload_n 0, 1) := by decide +kernel
theorem dX6_foresee_49 : decode cX6_foresee 49 = .ok (.getfield 16, 3) := by decide +kernel
theorem dX6_foresee_52 : decode cX6_foresee 52 = .ok (.iload_n 1, 1) := by decide +kernel
theorem dX6_foresee_53 : decode cX6_foresee 53 = .ok (.invokestatic 174, 3) := by decide +kernel
theorem dX6_foresee_56 : decode cX6_foresee 56 = .ok (.pop, 1) := by decide +kernel
theorem dX6_foresee_57 : decode cX6_foresee 57 = .ok (.aload_n 0, 1) := by decide +kernel
theorem dX6_foresee_58 : decode cX6_foresee 58 = .ok (.getfield 16, 3) := by decide +kernel
theorem dX6_foresee_61 : decode cX6_foresee 61 = .ok (.iload_n 2, 1) := by decide +kernel
theorem dX6_foresee_62 : decode cX6_foresee 62 = .ok (.invokevirtual 167, 3) := by decide +kernel
theorem dX6_foresee_65 : decode cX6_foresee 65 = .ok (.ireturn, 1) := by decide +kernel
theorem dX6_advise_0 : decode cX6_advise 0 = .ok (.aload_n 0, 1) := by decide +kernel
theorem dX6_advise_1 : decode cX6_advise 1 = .ok (.iconst 0, 1) := by decide +kernel
theorem dX6_advise_2 : decode cX6_advise 2 = .ok (.putfield 19, 3) := by decide +kernel
theorem dX6_advise_5 : decode cX6_advise 5 = .ok (.aload_n 0, 1) := by decide +kernel
theorem dX6_advise_6 : decode cX6_advise 6 = .ok (.iload_n 1, 1) := by decide +kernel
theorem dX6_advise_7 : decode cX6_advise 7 = .ok (.invokevirtual 94, 3) := by decide +kernel
theorem dX6_advise_10 : decode cX6_advise 10 = .ok (.ifCond .ne 9, 3) := by decide +kernel
theorem dX6_advise_13 : decode cX6_advise 13 = .ok (.aload_n 0, 1) := by decide +kernel
theorem dX6_advise_14 : decode cX6_advise 14 = .ok (.iconst 1, 1) := by decide +kernel
theorem dX6_advise_15 : decode cX6_advise 15 = .ok (.invokevirtual 40, 3) := by decide +kernel
theorem dX6_advise_18 : decode cX6_advise 18 = .ok (.ireturn, 1) := by decide +kernel
theorem dX6_advise_19 : decode cX6_advise 19 = .ok (.aload_n 0, 1) := by decide +kernel
theorem dX6_advise_20 : decode cX6_advise 20 = .ok (.getfield 10, 3) := by decide +kernel
theorem dX6_advise_23 : decode cX6_advise 23 = .ok (.getfield 97, 3) := by decide +kernel
theorem dX6_advise_26 : decode cX6_advise 26 = .ok (.iload_n 1, 1) := by decide +kernel
theorem dX6_advise_27 : decode cX6_advise 27 = .ok (.iaload, 1) := by decide +kernel
theorem dX6_advise_28 : decode cX6_advise 28 = .ok (.ifCond .eq 9, 3) := by decide +kernel
theorem dX6_advise_31 : decode cX6_advise 31 = .ok (.aload_n 0, 1) := by decide +kernel
theorem dX6_advise_32 : decode cX6_advise 32 = .ok (.iconst 2, 1) := by decide +kernel
theorem dX6_advise_33 : decode cX6_advise 33 = .ok (.invokevirtual 40, 3) := by decide +kernel
theorem dX6_advise_36 : decode cX6_advise 36 = .ok (.ireturn, 1) := by decide +kernel
theorem dX6_advise_37 : decode cX6_advise 37 = .ok (.iconst 0, 1) := by decide +kernel
theorem dX6_advise_38 : decode cX6_advise 38 = .ok (.istore_n 2, 1) := by decide +kernel
theorem dX6_advise_39 : decode cX6_advise 39 = .ok (.iconst (-1), 1) := by decide +kernel
theorem dX6_advise_40 : decode cX6_advise 40 = .ok (.istore_n 3, 1) := by decide +kernel
theorem dX6_advise_41 : decode cX6_advise 41 = .ok (.iconst 0, 1) := by decide +kernel
theorem dX6_advise_42 : decode cX6_advise 42 = .ok (.istore 4, 2) := by decide +kernel
theorem dX6_advise_44 : decode cX6_advise 44 = .ok (.iload 4, 2) := by decide +kernel
theorem dX6_advise_46 : decode cX6_advise 46 = .ok (.bipush 16, 2) := by decide +kernel
theorem dX6_advise_48 : decode cX6_advise 48 = .ok (.if_icmp .ge 65, 3) := by decide +kernel
theorem dX6_advise_51 : decode cX6_advise 51 = .ok (.aload_n 0, 1) := by decide +kernel
theorem dX6_advise_52 : decode cX6_advise 52 = .ok (.getfield 16, 3) := by decide +kernel
theorem dX6_advise_55 : decode cX6_advise 55 = .ok (.aload_n 0, 1) := by decide +kernel
theorem dX6_advise_56 : decode cX6_advise 56 = .ok (.getfield 10, 3) := by decide +kernel
theorem dX6_advise_59 : decode cX6_advise 59 = .ok (.invokevirtual 178, 3) := by decide +kernel
theorem dX6_advise_62 : decode cX6_advise 62 = .ok (.aload_n 0, 1) := by decide +kernel
theorem dX6_advise_63 : decode cX6_advise 63 = .ok (.getfield 16, 3) := by decide +kernel
theorem dX6_advise_66 : decode cX6_advise 66 = .ok (.iload_n 1, 1) := by decide +kernel
theorem dX6_advise_67 : decode cX6_advise 67 = .ok (.iload 4, 2) := by decide +kernel
theorem dX6_advise_69 : decode cX6_advise 69 = .ok (.invokevirtual 90, 3) := by decide +kernel
theorem dX6_advise_72 : decode cX6_advise 72 = .ok (.aload_n 0, 1) := by decide +kernel
theorem dX6_advise_73 : decode cX6_advise 73 = .ok (.getfield 16, 3) := by decide +kernel
theorem dX6_advise_76 : decode cX6_advise 76 = .ok (.bipush 40, 2) := by decide +kernel
theorem dX6_advise_78 : decode cX6_advise 78 = .ok (.invokestatic 174, 3) := by decide +kernel
theorem dX6_advise_81 : decode cX6_advise 81 = .ok (.pop, 1) := by decide +kernel
theorem dX6_advise_82 : decode cX6_advise 82 = .ok (.aload_n 0, 1) := by decide +kernel
theorem dX6_advise_83 : decode cX6_advise 83 = .ok (.getfield 16, 3) := by decide +kernel
theorem dX6_advise_86 : decode cX6_advise 86 = .ok (.invokevirtual 182, 3) := by decide +kernel
theorem dX6_advise_89 : decode cX6_advise 89 = .ok (.iload_n 3, 1) := by decide +kernel
theorem dX6_advise_90 : decode cX6_advise 90 = .ok (.if_icmp .gt 6, 3) := by decide +kernel
theorem dX6_advise_93 : decode cX6_advise 93 = .ok (.goto 14, 3) := by decide +kernel
theorem dX6_advise_96 : decode cX6_advise 96 = .ok (.iload 4, 2) := by decide +kernel
theorem dX6_advise_98 : decode cX6_advise 98 = .ok (.istore_n 2, 1) := by decide +kernel
theorem dX6_advise_99 : decode cX6_advise 99 = .ok (.aload_n 0, 1) := by decide +kernel
theorem dX6_advise_100 : decode cX6_advise 100 = .ok (.getfield 16, 3) := by decide +kernel
theorem dX6_advise_103 : decode cX6_advise 103 = .ok (.invokevirtual 182, 3) := by decide +kernel
theorem dX6_advise_106 : decode cX6_advise 106 = .ok (.istore_n 3, 1) := by decide +kernel
theorem dX6_advise_107 : decode cX6_advise 107 = .ok (.iinc 4 1, 3) := by decide +kernel
theorem dX6_advise_110 : decode cX6_advise 110 = .ok (.goto (-66), 3) := by decide +kernel
theorem dX6_advise_113 : decode cX6_advise 113 = .ok (.iload_n 2, 1) := by decide +kernel
theorem dX6_advise_114 : decode cX6_advise 114 = .ok (.ireturn, 1) := by decide +kernel
theorem dX6_quiet_0 : decode cX6_quiet 0 = .ok (.aload_n 0, 1) := by decide +kernel
theorem dX6_quiet_1 : decode cX6_quiet 1 = .ok (.iconst 0, 1) := by decide +kernel
theorem dX6_quiet_2 : decode cX6_quiet 2 = .ok (.putfield 19, 3) := by decide +kernel
theorem dX6_quiet_5 : decode cX6_quiet 5 = .ok (.iload_n 1, 1) := by decide +kernel
theorem dX6_quiet_6 : decode cX6_quiet 6 = .ok (.invokestatic 36, 3) := by decide +kernel
theorem dX6_quiet_9 : decode cX6_quiet 9 = .ok (.ifCond .ne 9, 3) := by decide +kernel
theorem dX6_quiet_12 : decode cX6_quiet 12 = .ok (.aload_n 0, 1) := by decide +kernel
theorem dX6_quiet_13 : decode cX6_quiet 13 = .ok (.iconst 1, 1) := by decide +kernel
theorem dX6_quiet_14 : decode cX6_quiet 14 = .ok (.invokevirtual 40, 3) := by decide +kernel
theorem dX6_quiet_17 : decode cX6_quiet 17 = .ok (.ireturn, 1) := by decide +kernel
theorem dX6_quiet_18 : decode cX6_quiet 18 = .ok (.aload_n 0, 1) := by decide +kernel
theorem dX6_quiet_19 : decode cX6_quiet 19 = .ok (.getfield 16, 3) := by decide +kernel
theorem dX6_quiet_22 : decode cX6_quiet 22 = .ok (.aload_n 0, 1) := by decide +kernel
theorem dX6_quiet_23 : decode cX6_quiet 23 = .ok (.getfield 10, 3) := by decide +kernel
theorem dX6_quiet_26 : decode cX6_quiet 26 = .ok (.invokevirtual 178, 3) := by decide +kernel
theorem dX6_quiet_29 : decode cX6_quiet 29 = .ok (.iconst 0, 1) := by decide +kernel
theorem dX6_quiet_30 : decode cX6_quiet 30 = .ok (.istore_n 2, 1) := by decide +kernel
theorem dX6_quiet_31 : decode cX6_quiet 31 = .ok (.iload_n 2, 1) := by decide +kernel
theorem dX6_quiet_32 : decode cX6_quiet 32 = .ok (.bipush 40, 2) := by decide +kernel
theorem dX6_quiet_34 : decode cX6_quiet 34 = .ok (.if_icmp .gt 30, 3) := by decide +kernel
theorem dX6_quiet_37 : decode cX6_quiet 37 = .ok (.aload_n 0, 1) := by decide +kernel
theorem dX6_quiet_38 : decode cX6_quiet 38 = .ok (.getfield 16, 3) := by decide +kernel
theorem dX6_quiet_41 : decode cX6_quiet 41 = .ok (.iload_n 1, 1) := by decide +kernel
theorem dX6_quiet_42 : decode cX6_quiet 42 = .ok (.invokevirtual 158, 3) := by decide +kernel
theorem dX6_quiet_45 : decode cX6_quiet 45 = .ok (.ifCond .ne 5, 3) := by decide +kernel
theorem dX6_quiet_48 : decode cX6_quiet 48 = .ok (.iload_n 2, 1) := by decide +kernel
theorem dX6_quiet_49 : decode cX6_quiet 49 = .ok (.ireturn, 1) := by decide +kernel
theorem dX6_quiet_50 : decode cX6_quiet 50 = .ok (.aload_n 0, 1) := by decide +kernel
theorem dX6_quiet_51 : decode cX6_quiet 51 = .ok (.getfield 16, 3) := by decide +kernel
theorem dX6_quiet_54 : decode cX6_quiet 54 = .ok (.invokevirtual 170, 3) := by decide +kernel
theorem dX6_quiet_57 : decode cX6_quiet 57 = .ok (.pop, 1) := by decide +kernel
theorem dX6_quiet_58 : decode cX6_quiet 58 = .ok (.iinc 2 1, 3) := by decide +kernel
theorem dX6_quiet_61 : decode cX6_quiet 61 = .ok (.goto (-30), 3) := by decide +kernel
theorem dX6_quiet_64 : decode cX6_quiet 64 = .ok (.iconst (-1), 1) := by decide +kernel
theorem dX6_quiet_65 : decode cX6_quiet 65 = .ok (.ireturn, 1) := by decide +kernel
theorem dX6_mean_0 : decode cX6_mean 0 = .ok (.aload_n 0, 1) := by decide +kernel
theorem dX6_mean_1 : decode cX6_mean 1 = .ok (.iconst 0, 1) := by decide +kernel
theorem dX6_mean_2 : decode cX6_mean 2 = .ok (.putfield 19, 3) := by decide +kernel
theorem dX6_mean_5 : decode cX6_mean 5 = .ok (.iconst 0, 1) := by decide +kernel
theorem dX6_mean_6 : decode cX6_mean 6 = .ok (.istore_n 1, 1) := by decide +kernel
theorem dX6_mean_7 : decode cX6_mean 7 = .ok (.iconst 0, 1) := by decide +kernel
theorem dX6_mean_8 : decode cX6_mean 8 = .ok (.istore_n 2, 1) := by decide +kernel
theorem dX6_mean_9 : decode cX6_mean 9 = .ok (.iload_n 2, 1) := by decide +kernel
theorem dX6_mean_10 : decode cX6_mean 10 = .ok (.aload_n 0, 1) := by decide +kernel
theorem dX6_mean_11 : decode cX6_mean 11 = .ok (.getfield 10, 3) := by decide +kernel
theorem dX6_mean_14 : decode cX6_mean 14 = .ok (.getfield 33, 3) := by decide +kernel
theorem dX6_mean_17 : decode cX6_mean 17 = .ok (.if_icmp .ge 37, 3) := by decide +kernel
theorem dX6_mean_20 : decode cX6_mean 20 = .ok (.iload_n 1, 1) := by decide +kernel
theorem dX6_mean_21 : decode cX6_mean 21 = .ok (.aload_n 0, 1) := by decide +kernel
theorem dX6_mean_22 : decode cX6_mean 22 = .ok (.getfield 10, 3) := by decide +kernel
theorem dX6_mean_25 : decode cX6_mean 25 = .ok (.getfield 97, 3) := by decide +kernel
theorem dX6_mean_28 : decode cX6_mean 28 = .ok (.iload_n 2, 1) := by decide +kernel
theorem dX6_mean_29 : decode cX6_mean 29 = .ok (.iaload, 1) := by decide +kernel
theorem dX6_mean_30 : decode cX6_mean 30 = .ok (.ifCond .ne 15, 3) := by decide +kernel
theorem dX6_mean_33 : decode cX6_mean 33 = .ok (.aload_n 0, 1) := by decide +kernel
theorem dX6_mean_34 : decode cX6_mean 34 = .ok (.getfield 10, 3) := by decide +kernel
theorem dX6_mean_37 : decode cX6_mean 37 = .ok (.getfield 87, 3) := by decide +kernel
theorem dX6_mean_40 : decode cX6_mean 40 = .ok (.iload_n 2, 1) := by decide +kernel
theorem dX6_mean_41 : decode cX6_mean 41 = .ok (.iaload, 1) := by decide +kernel
theorem dX6_mean_42 : decode cX6_mean 42 = .ok (.goto 4, 3) := by decide +kernel
theorem dX6_mean_45 : decode cX6_mean 45 = .ok (.iconst 0, 1) := by decide +kernel
theorem dX6_mean_46 : decode cX6_mean 46 = .ok (.iadd, 1) := by decide +kernel
theorem dX6_mean_47 : decode cX6_mean 47 = .ok (.istore_n 1, 1) := by decide +kernel
theorem dX6_mean_48 : decode cX6_mean 48 = .ok (.iinc 2 1, 3) := by decide +kernel
theorem dX6_mean_51 : decode cX6_mean 51 = .ok (.goto (-42), 3) := by decide +kernel
theorem dX6_mean_54 : decode cX6_mean 54 = .ok (.aload_n 0, 1) := by decide +kernel
theorem dX6_mean_55 : decode cX6_mean 55 = .ok (.getfield 10, 3) := by decide +kernel
theorem dX6_mean_58 : decode cX6_mean 58 = .ok (.iconst 0, 1) := by decide +kernel
theorem dX6_mean_59 : decode cX6_mean 59 = .ok (.invokevirtual 185, 3) := by decide +kernel
theorem dX6_mean_62 : decode cX6_mean 62 = .ok (.ifCond .ne 7, 3) := by decide +kernel
theorem dX6_mean_65 : decode cX6_mean 65 = .ok (.dconst 0, 1) := by decide +kernel
theorem dX6_mean_66 : decode cX6_mean 66 = .ok (.goto 15, 3) := by decide +kernel
theorem dX6_mean_69 : decode cX6_mean 69 = .ok (.iload_n 1, 1) := by decide +kernel
theorem dX6_mean_70 : decode cX6_mean 70 = .ok (.i2d, 1) := by decide +kernel
theorem dX6_mean_71 : decode cX6_mean 71 = .ok (.aload_n 0, 1) := by decide +kernel
theorem dX6_mean_72 : decode cX6_mean 72 = .ok (.getfield 10, 3) := by decide +kernel
theorem dX6_mean_75 : decode cX6_mean 75 = .ok (.iconst 0, 1) := by decide +kernel
theorem dX6_mean_76 : decode cX6_mean 76 = .ok (.invokevirtual 185, 3) := by decide +kernel
theorem dX6_mean_79 : decode cX6_mean 79 = .ok (.i2d, 1) := by decide +kernel
theorem dX6_mean_80 : decode cX6_mean 80 = .ok (.ddiv, 1) := by decide +kernel
theorem dX6_mean_81 : decode cX6_mean 81 = .ok (.dreturn, 1) := by decide +kernel
theorem dX6_digest_0 : decode cX6_digest 0 = .ok (.aload_n 0, 1) := by decide +kernel
theorem dX6_digest_1 : decode cX6_digest 1 = .ok (.iconst 0, 1) := by decide +kernel
theorem dX6_digest_2 : decode cX6_digest 2 = .ok (.putfield 19, 3) := by decide +kernel
theorem dX6_digest_5 : decode cX6_digest 5 = .ok (.ldc2_w 188, 3) := by decide +kernel
theorem dX6_digest_8 : decode cX6_digest 8 = .ok (.lstore_n 1, 1) := by decide +kernel
theorem dX6_digest_9 : decode cX6_digest 9 = .ok (.iconst 0, 1) := by decide +kernel
theorem dX6_digest_10 : decode cX6_digest 10 = .ok (.istore_n 3, 1) := by decide +kernel
theorem dX6_digest_11 : decode cX6_digest 11 = .ok (.iload_n 3, 1) := by decide +kernel
theorem dX6_digest_12 : decode cX6_digest 12 = .ok (.bipush 10, 2) := by decide +kernel
theorem dX6_digest_14 : decode cX6_digest 14 = .ok (.if_icmp .gt 25, 3) := by decide +kernel
theorem dX6_digest_17 : decode cX6_digest 17 = .ok (.lload_n 1, 1) := by decide +kernel
theorem dX6_digest_18 : decode cX6_digest 18 = .ok (.ldc2_w 190, 3) := by decide +kernel
theorem dX6_digest_21 : decode cX6_digest 21 = .ok (.lmul, 1) := by decide +kernel
theorem dX6_digest_22 : decode cX6_digest 22 = .ok (.aload_n 0, 1) := by decide +kernel
theorem dX6_digest_23 : decode cX6_digest 23 = .ok (.getfield 10, 3) := by decide +kernel
theorem dX6_digest_26 : decode cX6_digest 26 = .ok (.iload_n 3, 1) := by decide +kernel
theorem dX6_digest_27 : decode cX6_digest 27 = .ok (.invokevirtual 167, 3) := by decide +kernel
theorem dX6_digest_30 : decode cX6_digest 30 = .ok (.i2l, 1) := by decide +kernel
theorem dX6_digest_31 : decode cX6_digest 31 = .ok (.ladd, 1) := by decide +kernel
theorem dX6_digest_32 : decode cX6_digest 32 = .ok (.lstore_n 1, 1) := by decide +kernel
theorem dX6_digest_33 : decode cX6_digest 33 = .ok (.iinc 3 1, 3) := by decide +kernel
theorem dX6_digest_36 : decode cX6_digest 36 = .ok (.goto (-25), 3) := by decide +kernel
theorem dX6_digest_39 : decode cX6_digest 39 = .ok (.iconst 0, 1) := by decide +kernel
theorem dX6_digest_40 : decode cX6_digest 40 = .ok (.istore_n 3, 1) := by decide +kernel
theorem dX6_digest_41 : decode cX6_digest 41 = .ok (.iload_n 3, 1) := by decide +kernel
theorem dX6_digest_42 : decode cX6_digest 42 = .ok (.bipush 16, 2) := by decide +kernel
theorem dX6_digest_44 : decode cX6_digest 44 = .ok (.if_icmp .ge 39, 3) := by decide +kernel
theorem dX6_digest_47 : decode cX6_digest 47 = .ok (.iconst 0, 1) := by decide +kernel
theorem dX6_digest_48 : decode cX6_digest 48 = .ok (.istore 4, 2) := by decide +kernel
theorem dX6_digest_50 : decode cX6_digest 50 = .ok (.iload 4, 2) := by decide +kernel
theorem dX6_digest_52 : decode cX6_digest 52 = .ok (.iconst 4, 1) := by decide +kernel
theorem dX6_digest_53 : decode cX6_digest 53 = .ok (.if_icmp .gt 24, 3) := by decide +kernel
theorem dX6_digest_56 : decode cX6_digest 56 = .ok (.lload_n 1, 1) := by decide +kernel
theorem dX6_digest_57 : decode cX6_digest 57 = .ok (.ldc2_w 190, 3) := by decide +kernel
theorem dX6_digest_60 : decode cX6_digest 60 = .ok (.lmul, 1) := by decide +kernel
theorem dX6_digest_61 : decode cX6_digest 61 = .ok (.aload_n 0, 1) := by decide +kernel
theorem dX6_digest_62 : decode cX6_digest 62 = .ok (.iload_n 3, 1) := by decide +kernel
theorem dX6_digest_63 : decode cX6_digest 63 = .ok (.iload 4, 2) := by decide +kernel
theorem dX6_digest_65 : decode cX6_digest 65 = .ok (.invokevirtual 161, 3) := by decide +kernel
theorem dX6_digest_68 : decode cX6_digest 68 = .ok (.i2l, 1) := by decide +kernel
theorem dX6_digest_69 : decode cX6_digest 69 = .ok (.ladd, 1) := by decide +kernel
theorem dX6_digest_70 : decode cX6_digest 70 = .ok (.lstore_n 1, 1) := by decide +kernel
theorem dX6_digest_71 : decode cX6_digest 71 = .ok (.iinc 4 1, 3) := by decide +kernel
theorem dX6_digest_74 : decode cX6_digest 74 = .ok (.goto (-24), 3) := by decide +kernel
theorem dX6_digest_77 : decode cX6_digest 77 = .ok (.iinc 3 1, 3) := by decide +kernel
theorem dX6_digest_80 : decode cX6_digest 80 = .ok (.goto (-39), 3) := by decide +kernel
theorem dX6_digest_83 : decode cX6_digest 83 = .ok (.iconst 1, 1) := by decide +kernel
theorem dX6_digest_84 : decode cX6_digest 84 = .ok (.istore_n 3, 1) := by decide +kernel
theorem dX6_digest_85 : decode cX6_digest 85 = .ok (.iload_n 3, 1) := by decide +kernel
theorem dX6_digest_86 : decode cX6_digest 86 = .ok (.bipush 7, 2) := by decide +kernel
theorem dX6_digest_88 : decode cX6_digest 88 = .ok (.if_icmp .gt 39, 3) := by decide +kernel
theorem dX6_digest_91 : decode cX6_digest 91 = .ok (.iconst 0, 1) := by decide +kernel
theorem dX6_digest_92 : decode cX6_digest 92 = .ok (.istore 4, 2) := by decide +kernel
theorem dX6_digest_94 : decode cX6_digest 94 = .ok (.iload 4, 2) := by decide +kernel
theorem dX6_digest_96 : decode cX6_digest 96 = .ok (.iconst 3, 1) := by decide +kernel
theorem dX6_digest_97 : decode cX6_digest 97 = .ok (.if_icmp .gt 24, 3) := by decide +kernel
theorem dX6_digest_100 : decode cX6_digest 100 = .ok (.lload_n 1, 1) := by decide +kernel
theorem dX6_digest_101 : decode cX6_digest 101 = .ok (.ldc2_w 190, 3) := by decide +kernel
theorem dX6_digest_104 : decode cX6_digest 104 = .ok (.lmul, 1) := by decide +kernel
theorem dX6_digest_105 : decode cX6_digest 105 = .ok (.aload_n 0, 1) := by decide +kernel
theorem dX6_digest_106 : decode cX6_digest 106 = .ok (.iload_n 3, 1) := by decide +kernel
theorem dX6_digest_107 : decode cX6_digest 107 = .ok (.iload 4, 2) := by decide +kernel
theorem dX6_digest_109 : decode cX6_digest 109 = .ok (.invokevirtual 155, 3) := by decide +kernel
theorem dX6_digest_112 : decode cX6_digest 112 = .ok (.i2l, 1) := by decide +kernel
theorem dX6_digest_113 : decode cX6_digest 113 = .ok (.ladd, 1) := by decide +kernel
theorem dX6_digest_114 : decode cX6_digest 114 = .ok (.lstore_n 1, 1) := by decide +kernel
theorem dX6_digest_115 : decode cX6_digest 115 = .ok (.iinc 4 1, 3) := by decide +kernel
theorem dX6_digest_118 : decode cX6_digest 118 = .ok (.goto (-24), 3) := by decide +kernel
theorem dX6_digest_121 : decode cX6_digest 121 = .ok (.iinc 3 1, 3) := by decide +kernel
theorem dX6_digest_124 : decode cX6_digest 124 = .ok (.goto (-39), 3) := by decide +kernel
theorem dX6_digest_127 : decode cX6_digest 127 = .ok (.iconst 0, 1) := by decide +kernel
theorem dX6_digest_128 : decode cX6_digest 128 = .ok (.istore_n 3, 1) := by decide +kernel
theorem dX6_digest_129 : decode cX6_digest 129 = .ok (.iload_n 3, 1) := by decide +kernel
theorem dX6_digest_130 : decode cX6_digest 130 = .ok (.aload_n 0, 1) := by decide +kernel
theorem dX6_digest_131 : decode cX6_digest 131 = .ok (.getfield 10, 3) := by decide +kernel
theorem dX6_digest_134 : decode cX6_digest 134 = .ok (.getfield 27, 3) := by decide +kernel
theorem dX6_digest_137 : decode cX6_digest 137 = .ok (.if_icmp .ge 78, 3) := by decide +kernel
theorem dX6_digest_140 : decode cX6_digest 140 = .ok (.iconst 0, 1) := by decide +kernel
theorem dX6_digest_141 : decode cX6_digest 141 = .ok (.istore 4, 2) := by decide +kernel
theorem dX6_digest_143 : decode cX6_digest 143 = .ok (.iload 4, 2) := by decide +kernel
theorem dX6_digest_145 : decode cX6_digest 145 = .ok (.iconst 3, 1) := by decide +kernel
theorem dX6_digest_146 : decode cX6_digest 146 = .ok (.if_icmp .gt 24, 3) := by decide +kernel
theorem dX6_digest_149 : decode cX6_digest 149 = .ok (.lload_n 1, 1) := by decide +kernel
theorem dX6_digest_150 : decode cX6_digest 150 = .ok (.ldc2_w 190, 3) := by decide +kernel
theorem dX6_digest_153 : decode cX6_digest 153 = .ok (.lmul, 1) := by decide +kernel
theorem dX6_digest_154 : decode cX6_digest 154 = .ok (.aload_n 0, 1) := by decide +kernel
theorem dX6_digest_155 : decode cX6_digest 155 = .ok (.iload_n 3, 1) := by decide +kernel
theorem dX6_digest_156 : decode cX6_digest 156 = .ok (.iload 4, 2) := by decide +kernel
theorem dX6_digest_158 : decode cX6_digest 158 = .ok (.invokevirtual 149, 3) := by decide +kernel
theorem dX6_digest_161 : decode cX6_digest 161 = .ok (.i2l, 1) := by decide +kernel
theorem dX6_digest_162 : decode cX6_digest 162 = .ok (.ladd, 1) := by decide +kernel
theorem dX6_digest_163 : decode cX6_digest 163 = .ok (.lstore_n 1, 1) := by decide +kernel
theorem dX6_digest_164 : decode cX6_digest 164 = .ok (.iinc 4 1, 3) := by decide +kernel
theorem dX6_digest_167 : decode cX6_digest 167 = .ok (.goto (-24), 3) := by decide +kernel
theorem dX6_digest_170 : decode cX6_digest 170 = .ok (.iconst 0, 1) := by decide +kernel
theorem dX6_digest_171 : decode cX6_digest 171 = .ok (.istore 4, 2) := by decide +kernel
theorem dX6_digest_173 : decode cX6_digest 173 = .ok (.iload 4, 2) := by decide +kernel
theorem dX6_digest_175 : decode cX6_digest 175 = .ok (.bipush 10, 2) := by decide +kernel
theorem dX6_digest_177 : decode cX6_digest 177 = .ok (.if_icmp .ge 32, 3) := by decide +kernel
theorem dX6_digest_180 : decode cX6_digest 180 = .ok (.lload_n 1, 1) := by decide +kernel
theorem dX6_digest_181 : decode cX6_digest 181 = .ok (.ldc2_w 190, 3) := by decide +kernel
theorem dX6_digest_184 : decode cX6_digest 184 = .ok (.lmul, 1) := by decide +kernel
theorem dX6_digest_185 : decode cX6_digest 185 = .ok (.aload_n 0, 1) := by decide +kernel
theorem dX6_digest_186 : decode cX6_digest 186 = .ok (.getfield 10, 3) := by decide +kernel
theorem dX6_digest_189 : decode cX6_digest 189 = .ok (.getfield 66, 3) := by decide +kernel
theorem dX6_digest_192 : decode cX6_digest 192 = .ok (.bipush 10, 2) := by decide +kernel
theorem dX6_digest_194 : decode cX6_digest 194 = .ok (.iload_n 3, 1) := by decide +kernel
theorem dX6_digest_195 : decode cX6_digest 195 = .ok (.imul, 1) := by decide +kernel
theorem dX6_digest_196 : decode cX6_digest 196 = .ok (.iload 4, 2) := by decide +kernel
theorem dX6_digest_198 : decode cX6_digest 198 = .ok (.iadd, 1) := by decide +kernel
theorem dX6_digest_199 : decode cX6_digest 199 = .ok (.iaload, 1) := by decide +kernel
theorem dX6_digest_200 : decode cX6_digest 200 = .ok (.i2l, 1) := by decide +kernel
theorem dX6_digest_201 : decode cX6_digest 201 = .ok (.ladd, 1) := by decide +kernel
theorem dX6_digest_202 : decode cX6_digest 202 = .ok (.lstore_n 1, 1) := by decide +kernel
theorem dX6_digest_203 : decode cX6_digest 203 = .ok (.iinc 4 1, 3) := by decide +kernel
theorem dX6_digest_206 : decode cX6_digest 206 = .ok (.goto (-33), 3) := by decide +kernel
theorem dX6_digest_209 : decode cX6_digest 209 = .ok (.iinc 3 1, 3) := by decide +kernel
theorem dX6_digest_212 : decode cX6_digest 212 = .ok (.goto (-83), 3) := by decide +kernel
theorem dX6_digest_215 : decode cX6_digest 215 = .ok (.iconst 0, 1) := by decide +kernel
theorem dX6_digest_216 : decode cX6_digest 216 = .ok (.istore_n 3, 1) := by decide +kernel
theorem dX6_digest_217 : decode cX6_digest 217 = .ok (.iload_n 3, 1) := by decide +kernel
theorem dX6_digest_218 : decode cX6_digest 218 = .ok (.aload_n 0, 1) := by decide +kernel
theorem dX6_digest_219 : decode cX6_digest 219 = .ok (.getfield 10, 3) := by decide +kernel
theorem dX6_digest_222 : decode cX6_digest 222 = .ok (.getfield 30, 3) := by decide +kernel
theorem dX6_digest_225 : decode cX6_digest 225 = .ok (.if_icmp .ge 39, 3) := by decide +kernel
theorem dX6_digest_228 : decode cX6_digest 228 = .ok (.iconst 0, 1) := by decide +kernel
theorem dX6_digest_229 : decode cX6_digest 229 = .ok (.istore 4, 2) := by decide +kernel
theorem dX6_digest_231 : decode cX6_digest 231 = .ok (.iload 4, 2) := by decide +kernel
theorem dX6_digest_233 : decode cX6_digest 233 = .ok (.iconst 4, 1) := by decide +kernel
theorem dX6_digest_234 : decode cX6_digest 234 = .ok (.if_icmp .gt 24, 3) := by decide +kernel
theorem dX6_digest_237 : decode cX6_digest 237 = .ok (.lload_n 1, 1) := by decide +kernel
theorem dX6_digest_238 : decode cX6_digest 238 = .ok (.ldc2_w 190, 3) := by decide +kernel
theorem dX6_digest_241 : decode cX6_digest 241 = .ok (.lmul, 1) := by decide +kernel
theorem dX6_digest_242 : decode cX6_digest 242 = .ok (.aload_n 0, 1) := by decide +kernel
theorem dX6_digest_243 : decode cX6_digest 243 = .ok (.iload_n 3, 1) := by decide +kernel
theorem dX6_digest_244 : decode cX6_digest 244 = .ok (.iload 4, 2) := by decide +kernel
theorem dX6_digest_246 : decode cX6_digest 246 = .ok (.invokevirtual 137, 3) := by decide +kernel
theorem dX6_digest_249 : decode cX6_digest 249 = .ok (.i2l, 1) := by decide +kernel
theorem dX6_digest_250 : decode cX6_digest 250 = .ok (.ladd, 1) := by decide +kernel
theorem dX6_digest_251 : decode cX6_digest 251 = .ok (.lstore_n 1, 1) := by decide +kernel
theorem dX6_digest_252 : decode cX6_digest 252 = .ok (.iinc 4 1, 3) := by decide +kernel
theorem dX6_digest_255 : decode cX6_digest 255 = .ok (.goto (-24), 3) := by decide +kernel
theorem dX6_digest_258 : decode cX6_digest 258 = .ok (.iinc 3 1, 3) := by decide +kernel
theorem dX6_digest_261 : decode cX6_digest 261 = .ok (.goto (-44), 3) := by decide +kernel
theorem dX6_digest_264 : decode cX6_digest 264 = .ok (.iconst 0, 1) := by decide +kernel
theorem dX6_digest_265 : decode cX6_digest 265 = .ok (.istore_n 3, 1) := by decide +kernel
theorem dX6_digest_266 : decode cX6_digest 266 = .ok (.iload_n 3, 1) := by decide +kernel
theorem dX6_digest_267 : decode cX6_digest 267 = .ok (.aload_n 0, 1) := by decide +kernel
theorem dX6_digest_268 : decode cX6_digest 268 = .ok (.getfield 10, 3) := by decide +kernel
theorem dX6_digest_271 : decode cX6_digest 271 = .ok (.getfield 33, 3) := by decide +kernel
theorem dX6_digest_274 : decode cX6_digest 274 = .ok (.if_icmp .ge 40, 3) := by decide +kernel
theorem dX6_digest_277 : decode cX6_digest 277 = .ok (.iconst 0, 1) := by decide +kernel
theorem dX6_digest_278 : decode cX6_digest 278 = .ok (.istore 4, 2) := by decide +kernel
theorem dX6_digest_280 : decode cX6_digest 280 = .ok (.iload 4, 2) := by decide +kernel
theorem dX6_digest_282 : decode cX6_digest 282 = .ok (.bipush 6, 2) := by decide +kernel
theorem dX6_digest_284 : decode cX6_digest 284 = .ok (.if_icmp .gt 24, 3) := by decide +kernel
theorem dX6_digest_287 : decode cX6_digest 287 = .ok (.lload_n 1, 1) := by decide +kernel
theorem dX6_digest_288 : decode cX6_digest 288 = .ok (.ldc2_w 190, 3) := by decide +kernel
theorem dX6_digest_291 : decode cX6_digest 291 = .ok (.lmul, 1) := by decide +kernel
theorem dX6_digest_292 : decode cX6_digest 292 = .ok (.aload_n 0, 1) := by decide +kernel
theorem dX6_digest_293 : decode cX6_digest 293 = .ok (.iload_n 3, 1) := by decide +kernel
theorem dX6_digest_294 : decode cX6_digest 294 = .ok (.iload 4, 2) := by decide +kernel
theorem dX6_digest_296 : decode cX6_digest 296 = .ok (.invokevirtual 121, 3) := by decide +kernel
theorem dX6_digest_299 : decode cX6_digest 299 = .ok (.i2l, 1) := by decide +kernel
theorem dX6_digest_300 : decode cX6_digest 300 = .ok (.ladd, 1) := by decide +kernel
theorem dX6_digest_301 : decode cX6_digest 301 = .ok (.lstore_n 1, 1) := by decide +kernel
theorem dX6_digest_302 : decode cX6_digest 302 = .ok (.iinc 4 1, 3) := by decide +kernel
theorem dX6_digest_305 : decode cX6_digest 305 = .ok (.goto (-25), 3) := by decide +kernel
theorem dX6_digest_308 : decode cX6_digest 308 = .ok (.iinc 3 1, 3) := by decide +kernel
theorem dX6_digest_311 : decode cX6_digest 311 = .ok (.goto (-45), 3) := by decide +kernel
theorem dX6_digest_314 : decode cX6_digest 314 = .ok (.lload_n 1, 1) := by decide +kernel
theorem dX6_digest_315 : decode cX6_digest 315 = .ok (.lreturn, 1) := by decide +kernel
theorem dJ9_floorMod_7cf53_0 : decode cJ9_floorMod_7cf53 0 = .ok (.iload_n 0, 1) := by decide +kernel
theorem dJ9_floorMod_7cf53_1 : decode cJ9_floorMod_7cf53 1 = .ok (.iload_n 1, 1) := by decide +kernel
theorem dJ9_floorMod_7cf53_2 : decode cJ9_floorMod_7cf53 2 = .ok (.irem, 1) := by decide +kernel
theorem dJ9_floorMod_7cf53_3 : decode cJ9_floorMod_7cf53 3 = .ok (.istore_n 2, 1) := by decide +kernel
theorem dJ9_floorMod_7cf53_4 : decode cJ9_floorMod_7cf53 4 = .ok (.iload_n 0, 1) := by decide +kernel
theorem dJ9_floorMod_7cf53_5 : decode cJ9_floorMod_7cf53 5 = .ok (.iload_n 1, 1) := by decide +kernel
theorem dJ9_floorMod_7cf53_6 : decode cJ9_floorMod_7cf53 6 = .ok (.ixor, 1) := by decide +kernel
theorem dJ9_floorMod_7cf53_7 : decode cJ9_floorMod_7cf53 7 = .ok (.ifCond .ge 11, 3) := by decide +kernel
theorem dJ9_floorMod_7cf53_10 : decode cJ9_floorMod_7cf53 10 = .ok (.iload_n 2, 1) := by decide +kernel
theorem dJ9_floorMod_7cf53_11 : decode cJ9_floorMod_7cf53 11 = .ok (.ifCond .eq 7, 3) := by decide +kernel
theorem dJ9_floorMod_7cf53_14 : decode cJ9_floorMod_7cf53 14 = .ok (.iload_n 2, 1) := by decide +kernel
theorem dJ9_floorMod_7cf53_15 : decode cJ9_floorMod_7cf53 15 = .ok (.iload_n 1, 1) := by decide +kernel
theorem dJ9_floorMod_7cf53_16 : decode cJ9_floorMod_7cf53 16 = .ok (.iadd, 1) := by decide +kernel
theorem dJ9_floorMod_7cf53_17 : decode cJ9_floorMod_7cf53 17 = .ok (.ireturn, 1) := by decide +kernel
theorem dJ9_floorMod_7cf53_18 : decode cJ9_floorMod_7cf53 18 = .ok (.iload_n 2, 1) := by decide +kernel
theorem dJ9_floorMod_7cf53_19 : decode cJ9_floorMod_7cf53 19 = .ok (.ireturn, 1) := by decide +kernel
theorem dJ9_abs_0f7a4_0 : decode cJ9_abs_0f7a4 0 = .ok (.iload_n 0, 1) := by decide +kernel
theorem dJ9_abs_0f7a4_1 : decode cJ9_abs_0f7a4 1 = .ok (.ifCond .ge 8, 3) := by decide +kernel
theorem dJ9_abs_0f7a4_4 : decode cJ9_abs_0f7a4 4 = .ok (.iload_n 0, 1) := by decide +kernel
theorem dJ9_abs_0f7a4_5 : decode cJ9_abs_0f7a4 5 = .ok (.ineg, 1) := by decide +kernel
theorem dJ9_abs_0f7a4_6 : decode cJ9_abs_0f7a4 6 = .ok (.goto 4, 3) := by decide +kernel
theorem dJ9_abs_0f7a4_9 : decode cJ9_abs_0f7a4 9 = .ok (.iload_n 0, 1) := by decide +kernel
theorem dJ9_abs_0f7a4_10 : decode cJ9_abs_0f7a4 10 = .ok (.ireturn, 1) := by decide +kernel
theorem dJ9_max_7cf53_0 : decode cJ9_max_7cf53 0 = .ok (.iload_n 0, 1) := by decide +kernel
theorem dJ9_max_7cf53_1 : decode cJ9_max_7cf53 1 = .ok (.iload_n 1, 1) := by decide +kernel
theorem dJ9_max_7cf53_2 : decode cJ9_max_7cf53 2 = .ok (.if_icmp .lt 7, 3) := by decide +kernel
theorem dJ9_max_7cf53_5 : decode cJ9_max_7cf53 5 = .ok (.iload_n 0, 1) := by decide +kernel
theorem dJ9_max_7cf53_6 : decode cJ9_max_7cf53 6 = .ok (.goto 4, 3) := by decide +kernel
theorem dJ9_max_7cf53_9 : decode cJ9_max_7cf53 9 = .ok (.iload_n 1, 1) := by decide +kernel
theorem dJ9_max_7cf53_10 : decode cJ9_max_7cf53 10 = .ok (.ireturn, 1) := by decide +kernel
theorem dJ9_min_7cf53_0 : decode cJ9_min_7cf53 0 = .ok (.iload_n 0, 1) := by decide +kernel
theorem dJ9_min_7cf53_1 : decode cJ9_min_7cf53 1 = .ok (.iload_n 1, 1) := by decide +kernel
theorem dJ9_min_7cf53_2 : decode cJ9_min_7cf53 2 = .ok (.if_icmp .gt 7, 3) := by decide +kernel
theorem dJ9_min_7cf53_5 : decode cJ9_min_7cf53 5 = .ok (.iload_n 0, 1) := by decide +kernel
theorem dJ9_min_7cf53_6 : decode cJ9_min_7cf53 6 = .ok (.goto 4, 3) := by decide +kernel
theorem dJ9_min_7cf53_9 : decode cJ9_min_7cf53 9 = .ok (.iload_n 1, 1) := by decide +kernel
theorem dJ9_min_7cf53_10 : decode cJ9_min_7cf53 10 = .ok (.ireturn, 1) := by decide +kernel
theorem dL_setRoom_0 : decode cL_setRoom 0 = .ok (.aload_n 3, 1) := by decide +kernel
theorem dL_setRoom_1 : decode cL_setRoom 1 = .ok (.iconst 0, 1) := by decide +kernel
theorem dL_setRoom_2 : decode cL_setRoom 2 = .ok (.aload_n 0, 1) := by decide +kernel
theorem dL_setRoom_3 : decode cL_setRoom 3 = .ok (.iload_n 1, 1) := by decide +kernel
theorem dL_setRoom_4 : decode cL_setRoom 4 = .ok (.iload_n 2, 1) := by decide +kernel
theorem dL_setRoom_5 : decode cL_setRoom 5 = .ok (.invokevirtual 7, 3) := by decide +kernel
theorem dL_setRoom_8 : decode cL_setRoom 8 = .ok (.i2l, 1) := by decide +kernel
theorem dL_setRoom_9 : decode cL_setRoom 9 = .ok (.lastore, 1) := by decide +kernel
theorem dL_setRoom_10 : decode cL_setRoom 10 = .ok (.goto 15, 3) := by decide +kernel
theorem dL_setRoom_13 : decode cL_setRoom 13 = .ok (.astore 4, 2) := by decide +kernel
theorem dL_setRoom_15 : decode cL_setRoom 15 = .ok (.iconst 1, 1) := by decide +kernel
theorem dL_setRoom_16 : decode cL_setRoom 16 = .ok (.ireturn, 1) := by decide +kernel
theorem dL_setRoom_17 : decode cL_setRoom 17 = .ok (.astore 4, 2) := by decide +kernel
theorem dL_setRoom_19 : decode cL_setRoom 19 = .ok (.iconst 2, 1) := by decide +kernel
theorem dL_setRoom_20 : decode cL_setRoom 20 = .ok (.ireturn, 1) := by decide +kernel
theorem dL_setRoom_21 : decode cL_setRoom 21 = .ok (.astore 4, 2) := by decide +kernel
theorem dL_setRoom_23 : decode cL_setRoom 23 = .ok (.iconst 3, 1) := by decide +kernel
theorem dL_setRoom_24 : decode cL_setRoom 24 = .ok (.ireturn, 1) := by decide +kernel
theorem dL_setRoom_25 : decode cL_setRoom 25 = .ok (.iconst 0, 1) := by decide +kernel
theorem dL_setRoom_26 : decode cL_setRoom 26 = .ok (.ireturn, 1) := by decide +kernel
theorem dL_setCode_0 : decode cL_setCode 0 = .ok (.aload_n 3, 1) := by decide +kernel
theorem dL_setCode_1 : decode cL_setCode 1 = .ok (.iconst 0, 1) := by decide +kernel
theorem dL_setCode_2 : decode cL_setCode 2 = .ok (.aload_n 0, 1) := by decide +kernel
theorem dL_setCode_3 : decode cL_setCode 3 = .ok (.iload_n 1, 1) := by decide +kernel
theorem dL_setCode_4 : decode cL_setCode 4 = .ok (.iload_n 2, 1) := by decide +kernel
theorem dL_setCode_5 : decode cL_setCode 5 = .ok (.invokevirtual 19, 3) := by decide +kernel
theorem dL_setCode_8 : decode cL_setCode 8 = .ok (.i2l, 1) := by decide +kernel
theorem dL_setCode_9 : decode cL_setCode 9 = .ok (.lastore, 1) := by decide +kernel
theorem dL_setCode_10 : decode cL_setCode 10 = .ok (.goto 7, 3) := by decide +kernel
theorem dL_setCode_13 : decode cL_setCode 13 = .ok (.astore 4, 2) := by decide +kernel
theorem dL_setCode_15 : decode cL_setCode 15 = .ok (.iconst 1, 1) := by decide +kernel
theorem dL_setCode_16 : decode cL_setCode 16 = .ok (.ireturn, 1) := by decide +kernel
theorem dL_setCode_17 : decode cL_setCode 17 = .ok (.iconst 0, 1) := by decide +kernel
theorem dL_setCode_18 : decode cL_setCode 18 = .ok (.ireturn, 1) := by decide +kernel
theorem dL_lantern_0 : decode cL_lantern 0 = .ok (.aload_n 2, 1) := by decide +kernel
theorem dL_lantern_1 : decode cL_lantern 1 = .ok (.iconst 0, 1) := by decide +kernel
theorem dL_lantern_2 : decode cL_lantern 2 = .ok (.aload_n 0, 1) := by decide +kernel
theorem dL_lantern_3 : decode cL_lantern 3 = .ok (.iload_n 1, 1) := by decide +kernel
theorem dL_lantern_4 : decode cL_lantern 4 = .ok (.invokevirtual 22, 3) := by decide +kernel
theorem dL_lantern_7 : decode cL_lantern 7 = .ok (.i2l, 1) := by decide +kernel
theorem dL_lantern_8 : decode cL_lantern 8 = .ok (.lastore, 1) := by decide +kernel
theorem dL_lantern_9 : decode cL_lantern 9 = .ok (.goto 9, 3) := by decide +kernel
theorem dL_lantern_12 : decode cL_lantern 12 = .ok (.astore_n 3, 1) := by decide +kernel
theorem dL_lantern_13 : decode cL_lantern 13 = .ok (.iconst 1, 1) := by decide +kernel
theorem dL_lantern_14 : decode cL_lantern 14 = .ok (.ireturn, 1) := by decide +kernel
theorem dL_lantern_15 : decode cL_lantern 15 = .ok (.astore_n 3, 1) := by decide +kernel
theorem dL_lantern_16 : decode cL_lantern 16 = .ok (.iconst 2, 1) := by decide +kernel
theorem dL_lantern_17 : decode cL_lantern 17 = .ok (.ireturn, 1) := by decide +kernel
theorem dL_lantern_18 : decode cL_lantern 18 = .ok (.iconst 0, 1) := by decide +kernel
theorem dL_lantern_19 : decode cL_lantern 19 = .ok (.ireturn, 1) := by decide +kernel
theorem dL_setShow_0 : decode cL_setShow 0 = .ok (.aload 4, 2) := by decide +kernel
theorem dL_setShow_2 : decode cL_setShow 2 = .ok (.iconst 0, 1) := by decide +kernel
theorem dL_setShow_3 : decode cL_setShow 3 = .ok (.aload_n 0, 1) := by decide +kernel
theorem dL_setShow_4 : decode cL_setShow 4 = .ok (.iload_n 1, 1) := by decide +kernel
theorem dL_setShow_5 : decode cL_setShow 5 = .ok (.iload_n 2, 1) := by decide +kernel
theorem dL_setShow_6 : decode cL_setShow 6 = .ok (.iload_n 3, 1) := by decide +kernel
theorem dL_setShow_7 : decode cL_setShow 7 = .ok (.invokevirtual 26, 3) := by decide +kernel
theorem dL_setShow_10 : decode cL_setShow 10 = .ok (.i2l, 1) := by decide +kernel
theorem dL_setShow_11 : decode cL_setShow 11 = .ok (.lastore, 1) := by decide +kernel
theorem dL_setShow_12 : decode cL_setShow 12 = .ok (.goto 11, 3) := by decide +kernel
theorem dL_setShow_15 : decode cL_setShow 15 = .ok (.astore 5, 2) := by decide +kernel
theorem dL_setShow_17 : decode cL_setShow 17 = .ok (.iconst 1, 1) := by decide +kernel
theorem dL_setShow_18 : decode cL_setShow 18 = .ok (.ireturn, 1) := by decide +kernel
theorem dL_setShow_19 : decode cL_setShow 19 = .ok (.astore 5, 2) := by decide +kernel
theorem dL_setShow_21 : decode cL_setShow 21 = .ok (.iconst 2, 1) := by decide +kernel
theorem dL_setShow_22 : decode cL_setShow 22 = .ok (.ireturn, 1) := by decide +kernel
theorem dL_setShow_23 : decode cL_setShow 23 = .ok (.iconst 0, 1) := by decide +kernel
theorem dL_setShow_24 : decode cL_setShow 24 = .ok (.ireturn, 1) := by decide +kernel
theorem dL_watchman_0 : decode cL_watchman 0 = .ok (.aload 4, 2) := by decide +kernel
theorem dL_watchman_2 : decode cL_watchman 2 = .ok (.iconst 0, 1) := by decide +kernel
theorem dL_watchman_3 : decode cL_watchman 3 = .ok (.aload_n 0, 1) := by decide +kernel
theorem dL_watchman_4 : decode cL_watchman 4 = .ok (.iload_n 1, 1) := by decide +kernel
theorem dL_watchman_5 : decode cL_watchman 5 = .ok (.iload_n 2, 1) := by decide +kernel
theorem dL_watchman_6 : decode cL_watchman 6 = .ok (.iload_n 3, 1) := by decide +kernel
theorem dL_watchman_7 : decode cL_watchman 7 = .ok (.invokevirtual 30, 3) := by decide +kernel
theorem dL_watchman_10 : decode cL_watchman 10 = .ok (.i2l, 1) := by decide +kernel
theorem dL_watchman_11 : decode cL_watchman 11 = .ok (.lastore, 1) := by decide +kernel
theorem dL_watchman_12 : decode cL_watchman 12 = .ok (.goto 15, 3) := by decide +kernel
theorem dL_watchman_15 : decode cL_watchman 15 = .ok (.astore 5, 2) := by decide +kernel
theorem dL_watchman_17 : decode cL_watchman 17 = .ok (.iconst 1, 1) := by decide +kernel
theorem dL_watchman_18 : decode cL_watchman 18 = .ok (.ireturn, 1) := by decide +kernel
theorem dL_watchman_19 : decode cL_watchman 19 = .ok (.astore 5, 2) := by decide +kernel
theorem dL_watchman_21 : decode cL_watchman 21 = .ok (.iconst 2, 1) := by decide +kernel
theorem dL_watchman_22 : decode cL_watchman 22 = .ok (.ireturn, 1) := by decide +kernel
theorem dL_watchman_23 : decode cL_watchman 23 = .ok (.astore 5, 2) := by decide +kernel
theorem dL_watchman_25 : decode cL_watchman 25 = .ok (.iconst 3, 1) := by decide +kernel
theorem dL_watchman_26 : decode cL_watchman 26 = .ok (.ireturn, 1) := by decide +kernel
theorem dL_watchman_27 : decode cL_watchman 27 = .ok (.iconst 0, 1) := by decide +kernel
theorem dL_watchman_28 : decode cL_watchman 28 = .ok (.ireturn, 1) := by decide +kernel
theorem dL_boat_0 : decode cL_boat 0 = .ok (.aload_n 3, 1) := by decide +kernel
theorem dL_boat_1 : decode cL_boat 1 = .ok (.iconst 0, 1) := by decide +kernel
theorem dL_boat_2 : decode cL_boat 2 = .ok (.aload_n 0, 1) := by decide +kernel
theorem dL_boat_3 : decode cL_boat 3 = .ok (.iload_n 1, 1) := by decide +kernel
theorem dL_boat_4 : decode cL_boat 4 = .ok (.iload_n 2, 1) := by decide +kernel
theorem dL_boat_5 : decode cL_boat 5 = .ok (.invokevirtual 33, 3) := by decide +kernel
theorem dL_boat_8 : decode cL_boat 8 = .ok (.i2l, 1) := by decide +kernel
theorem dL_boat_9 : decode cL_boat 9 = .ok (.lastore, 1) := by decide +kernel
theorem dL_boat_10 : decode cL_boat 10 = .ok (.goto 15, 3) := by decide +kernel
theorem dL_boat_13 : decode cL_boat 13 = .ok (.astore 4, 2) := by decide +kernel
theorem dL_boat_15 : decode cL_boat 15 = .ok (.iconst 1, 1) := by decide +kernel
theorem dL_boat_16 : decode cL_boat 16 = .ok (.ireturn, 1) := by decide +kernel
theorem dL_boat_17 : decode cL_boat 17 = .ok (.astore 4, 2) := by decide +kernel
theorem dL_boat_19 : decode cL_boat 19 = .ok (.iconst 2, 1) := by decide +kernel
theorem dL_boat_20 : decode cL_boat 20 = .ok (.ireturn, 1) := by decide +kernel
theorem dL_boat_21 : decode cL_boat 21 = .ok (.astore 4, 2) := by decide +kernel
theorem dL_boat_23 : decode cL_boat 23 = .ok (.iconst 3, 1) := by decide +kernel
theorem dL_boat_24 : decode cL_boat 24 = .ok (.ireturn, 1) := by decide +kernel
theorem dL_boat_25 : decode cL_boat 25 = .ok (.iconst 0, 1) := by decide +kernel
theorem dL_boat_26 : decode cL_boat 26 = .ok (.ireturn, 1) := by decide +kernel
theorem dL_send_0 : decode cL_send 0 = .ok (.aload_n 3, 1) := by decide +kernel
theorem dL_send_1 : decode cL_send 1 = .ok (.iconst 0, 1) := by decide +kernel
theorem dL_send_2 : decode cL_send 2 = .ok (.aload_n 0, 1) := by decide +kernel
theorem dL_send_3 : decode cL_send 3 = .ok (.iload_n 1, 1) := by decide +kernel
theorem dL_send_4 : decode cL_send 4 = .ok (.iload_n 2, 1) := by decide +kernel
theorem dL_send_5 : decode cL_send 5 = .ok (.invokevirtual 36, 3) := by decide +kernel
theorem dL_send_8 : decode cL_send 8 = .ok (.i2l, 1) := by decide +kernel
theorem dL_send_9 : decode cL_send 9 = .ok (.lastore, 1) := by decide +kernel
theorem dL_send_10 : decode cL_send 10 = .ok (.goto 11, 3) := by decide +kernel
theorem dL_send_13 : decode cL_send 13 = .ok (.astore 4, 2) := by decide +kernel
theorem dL_send_15 : decode cL_send 15 = .ok (.iconst 1, 1) := by decide +kernel
theorem dL_send_16 : decode cL_send 16 = .ok (.ireturn, 1) := by decide +kernel
theorem dL_send_17 : decode cL_send 17 = .ok (.astore 4, 2) := by decide +kernel
theorem dL_send_19 : decode cL_send 19 = .ok (.iconst 2, 1) := by decide +kernel
theorem dL_send_20 : decode cL_send 20 = .ok (.ireturn, 1) := by decide +kernel
theorem dL_send_21 : decode cL_send 21 = .ok (.iconst 0, 1) := by decide +kernel
theorem dL_send_22 : decode cL_send 22 = .ok (.ireturn, 1) := by decide +kernel
theorem dL_carry_0 : decode cL_carry 0 = .ok (.aload_n 3, 1) := by decide +kernel
theorem dL_carry_1 : decode cL_carry 1 = .ok (.iconst 0, 1) := by decide +kernel
theorem dL_carry_2 : decode cL_carry 2 = .ok (.aload_n 0, 1) := by decide +kernel
theorem dL_carry_3 : decode cL_carry 3 = .ok (.iload_n 1, 1) := by decide +kernel
theorem dL_carry_4 : decode cL_carry 4 = .ok (.iload_n 2, 1) := by decide +kernel
theorem dL_carry_5 : decode cL_carry 5 = .ok (.invokevirtual 39, 3) := by decide +kernel
theorem dL_carry_8 : decode cL_carry 8 = .ok (.i2l, 1) := by decide +kernel
theorem dL_carry_9 : decode cL_carry 9 = .ok (.lastore, 1) := by decide +kernel
theorem dL_carry_10 : decode cL_carry 10 = .ok (.goto 15, 3) := by decide +kernel
theorem dL_carry_13 : decode cL_carry 13 = .ok (.astore 4, 2) := by decide +kernel
theorem dL_carry_15 : decode cL_carry 15 = .ok (.iconst 1, 1) := by decide +kernel
theorem dL_carry_16 : decode cL_carry 16 = .ok (.ireturn, 1) := by decide +kernel
theorem dL_carry_17 : decode cL_carry 17 = .ok (.astore 4, 2) := by decide +kernel
theorem dL_carry_19 : decode cL_carry 19 = .ok (.iconst 2, 1) := by decide +kernel
theorem dL_carry_20 : decode cL_carry 20 = .ok (.ireturn, 1) := by decide +kernel
theorem dL_carry_21 : decode cL_carry 21 = .ok (.astore 4, 2) := by decide +kernel
theorem dL_carry_23 : decode cL_carry 23 = .ok (.iconst 3, 1) := by decide +kernel
theorem dL_carry_24 : decode cL_carry 24 = .ok (.ireturn, 1) := by decide +kernel
theorem dL_carry_25 : decode cL_carry 25 = .ok (.iconst 0, 1) := by decide +kernel
theorem dL_carry_26 : decode cL_carry 26 = .ok (.ireturn, 1) := by decide +kernel
theorem dL_told_0 : decode cL_told 0 = .ok (.aload_n 3, 1) := by decide +kernel
theorem dL_told_1 : decode cL_told 1 = .ok (.iconst 0, 1) := by decide +kernel
theorem dL_told_2 : decode cL_told 2 = .ok (.aload_n 0, 1) := by decide +kernel
theorem dL_told_3 : decode cL_told 3 = .ok (.iload_n 1, 1) := by decide +kernel
theorem dL_told_4 : decode cL_told 4 = .ok (.iload_n 2, 1) := by decide +kernel
theorem dL_told_5 : decode cL_told 5 = .ok (.invokevirtual 42, 3) := by decide +kernel
theorem dL_told_8 : decode cL_told 8 = .ok (.i2l, 1) := by decide +kernel
theorem dL_told_9 : decode cL_told 9 = .ok (.lastore, 1) := by decide +kernel
theorem dL_told_10 : decode cL_told 10 = .ok (.goto 7, 3) := by decide +kernel
theorem dL_told_13 : decode cL_told 13 = .ok (.astore 4, 2) := by decide +kernel
theorem dL_told_15 : decode cL_told 15 = .ok (.iconst 1, 1) := by decide +kernel
theorem dL_told_16 : decode cL_told 16 = .ok (.ireturn, 1) := by decide +kernel
theorem dL_told_17 : decode cL_told 17 = .ok (.iconst 0, 1) := by decide +kernel
theorem dL_told_18 : decode cL_told 18 = .ok (.ireturn, 1) := by decide +kernel
theorem dL_about_0 : decode cL_about 0 = .ok (.aload_n 3, 1) := by decide +kernel
theorem dL_about_1 : decode cL_about 1 = .ok (.iconst 0, 1) := by decide +kernel
theorem dL_about_2 : decode cL_about 2 = .ok (.aload_n 0, 1) := by decide +kernel
theorem dL_about_3 : decode cL_about 3 = .ok (.iload_n 1, 1) := by decide +kernel
theorem dL_about_4 : decode cL_about 4 = .ok (.iload_n 2, 1) := by decide +kernel
theorem dL_about_5 : decode cL_about 5 = .ok (.invokevirtual 45, 3) := by decide +kernel
theorem dL_about_8 : decode cL_about 8 = .ok (.i2l, 1) := by decide +kernel
theorem dL_about_9 : decode cL_about 9 = .ok (.lastore, 1) := by decide +kernel
theorem dL_about_10 : decode cL_about 10 = .ok (.goto 7, 3) := by decide +kernel
theorem dL_about_13 : decode cL_about 13 = .ok (.astore 4, 2) := by decide +kernel
theorem dL_about_15 : decode cL_about 15 = .ok (.iconst 1, 1) := by decide +kernel
theorem dL_about_16 : decode cL_about 16 = .ok (.ireturn, 1) := by decide +kernel
theorem dL_about_17 : decode cL_about 17 = .ok (.iconst 0, 1) := by decide +kernel
theorem dL_about_18 : decode cL_about 18 = .ok (.ireturn, 1) := by decide +kernel
theorem dL_light_0 : decode cL_light 0 = .ok (.aload_n 3, 1) := by decide +kernel
theorem dL_light_1 : decode cL_light 1 = .ok (.iconst 0, 1) := by decide +kernel
theorem dL_light_2 : decode cL_light 2 = .ok (.aload_n 0, 1) := by decide +kernel
theorem dL_light_3 : decode cL_light 3 = .ok (.iload_n 1, 1) := by decide +kernel
theorem dL_light_4 : decode cL_light 4 = .ok (.iload_n 2, 1) := by decide +kernel
theorem dL_light_5 : decode cL_light 5 = .ok (.invokevirtual 48, 3) := by decide +kernel
theorem dL_light_8 : decode cL_light 8 = .ok (.i2l, 1) := by decide +kernel
theorem dL_light_9 : decode cL_light 9 = .ok (.lastore, 1) := by decide +kernel
theorem dL_light_10 : decode cL_light 10 = .ok (.goto 7, 3) := by decide +kernel
theorem dL_light_13 : decode cL_light 13 = .ok (.astore 4, 2) := by decide +kernel
theorem dL_light_15 : decode cL_light 15 = .ok (.iconst 1, 1) := by decide +kernel
theorem dL_light_16 : decode cL_light 16 = .ok (.ireturn, 1) := by decide +kernel
theorem dL_light_17 : decode cL_light 17 = .ok (.iconst 0, 1) := by decide +kernel
theorem dL_light_18 : decode cL_light 18 = .ok (.ireturn, 1) := by decide +kernel
theorem dL_code_0 : decode cL_code 0 = .ok (.aload_n 3, 1) := by decide +kernel
theorem dL_code_1 : decode cL_code 1 = .ok (.iconst 0, 1) := by decide +kernel
theorem dL_code_2 : decode cL_code 2 = .ok (.aload_n 0, 1) := by decide +kernel
theorem dL_code_3 : decode cL_code 3 = .ok (.iload_n 1, 1) := by decide +kernel
theorem dL_code_4 : decode cL_code 4 = .ok (.iload_n 2, 1) := by decide +kernel
theorem dL_code_5 : decode cL_code 5 = .ok (.invokevirtual 51, 3) := by decide +kernel
theorem dL_code_8 : decode cL_code 8 = .ok (.i2l, 1) := by decide +kernel
theorem dL_code_9 : decode cL_code 9 = .ok (.lastore, 1) := by decide +kernel
theorem dL_code_10 : decode cL_code 10 = .ok (.goto 7, 3) := by decide +kernel
theorem dL_code_13 : decode cL_code 13 = .ok (.astore 4, 2) := by decide +kernel
theorem dL_code_15 : decode cL_code 15 = .ok (.iconst 1, 1) := by decide +kernel
theorem dL_code_16 : decode cL_code 16 = .ok (.ireturn, 1) := by decide +kernel
theorem dL_code_17 : decode cL_code 17 = .ok (.iconst 0, 1) := by decide +kernel
theorem dL_code_18 : decode cL_code 18 = .ok (.ireturn, 1) := by decide +kernel
theorem dL_place_0 : decode cL_place 0 = .ok (.aload_n 3, 1) := by decide +kernel
theorem dL_place_1 : decode cL_place 1 = .ok (.iconst 0, 1) := by decide +kernel
theorem dL_place_2 : decode cL_place 2 = .ok (.aload_n 0, 1) := by decide +kernel
theorem dL_place_3 : decode cL_place 3 = .ok (.iload_n 1, 1) := by decide +kernel
theorem dL_place_4 : decode cL_place 4 = .ok (.iload_n 2, 1) := by decide +kernel
theorem dL_place_5 : decode cL_place 5 = .ok (.invokevirtual 54, 3) := by decide +kernel
theorem dL_place_8 : decode cL_place 8 = .ok (.i2l, 1) := by decide +kernel
theorem dL_place_9 : decode cL_place 9 = .ok (.lastore, 1) := by decide +kernel
theorem dL_place_10 : decode cL_place 10 = .ok (.goto 7, 3) := by decide +kernel
theorem dL_place_13 : decode cL_place 13 = .ok (.astore 4, 2) := by decide +kernel
theorem dL_place_15 : decode cL_place 15 = .ok (.iconst 1, 1) := by decide +kernel
theorem dL_place_16 : decode cL_place 16 = .ok (.ireturn, 1) := by decide +kernel
theorem dL_place_17 : decode cL_place 17 = .ok (.iconst 0, 1) := by decide +kernel
theorem dL_place_18 : decode cL_place 18 = .ok (.ireturn, 1) := by decide +kernel
theorem dL_moon_0 : decode cL_moon 0 = .ok (.aload_n 2, 1) := by decide +kernel
theorem dL_moon_1 : decode cL_moon 1 = .ok (.iconst 0, 1) := by decide +kernel
theorem dL_moon_2 : decode cL_moon 2 = .ok (.aload_n 0, 1) := by decide +kernel
theorem dL_moon_3 : decode cL_moon 3 = .ok (.iload_n 1, 1) := by decide +kernel
theorem dL_moon_4 : decode cL_moon 4 = .ok (.invokevirtual 57, 3) := by decide +kernel
theorem dL_moon_7 : decode cL_moon 7 = .ok (.i2l, 1) := by decide +kernel
theorem dL_moon_8 : decode cL_moon 8 = .ok (.lastore, 1) := by decide +kernel
theorem dL_moon_9 : decode cL_moon 9 = .ok (.goto 6, 3) := by decide +kernel
theorem dL_moon_12 : decode cL_moon 12 = .ok (.astore_n 3, 1) := by decide +kernel
theorem dL_moon_13 : decode cL_moon 13 = .ok (.iconst 1, 1) := by decide +kernel
theorem dL_moon_14 : decode cL_moon 14 = .ok (.ireturn, 1) := by decide +kernel
theorem dL_moon_15 : decode cL_moon 15 = .ok (.iconst 0, 1) := by decide +kernel
theorem dL_moon_16 : decode cL_moon 16 = .ok (.ireturn, 1) := by decide +kernel
theorem dL_count_0 : decode cL_count 0 = .ok (.aload_n 2, 1) := by decide +kernel
theorem dL_count_1 : decode cL_count 1 = .ok (.iconst 0, 1) := by decide +kernel
theorem dL_count_2 : decode cL_count 2 = .ok (.aload_n 0, 1) := by decide +kernel
theorem dL_count_3 : decode cL_count 3 = .ok (.iload_n 1, 1) := by decide +kernel
theorem dL_count_4 : decode cL_count 4 = .ok (.invokevirtual 60, 3) := by decide +kernel
theorem dL_count_7 : decode cL_count 7 = .ok (.i2l, 1) := by decide +kernel
theorem dL_count_8 : decode cL_count 8 = .ok (.lastore, 1) := by decide +kernel
theorem dL_count_9 : decode cL_count 9 = .ok (.goto 6, 3) := by decide +kernel
theorem dL_count_12 : decode cL_count 12 = .ok (.astore_n 3, 1) := by decide +kernel
theorem dL_count_13 : decode cL_count 13 = .ok (.iconst 1, 1) := by decide +kernel
theorem dL_count_14 : decode cL_count 14 = .ok (.ireturn, 1) := by decide +kernel
theorem dL_count_15 : decode cL_count 15 = .ok (.iconst 0, 1) := by decide +kernel
theorem dL_count_16 : decode cL_count 16 = .ok (.ireturn, 1) := by decide +kernel
theorem dL_pass_0 : decode cL_pass 0 = .ok (.aload_n 2, 1) := by decide +kernel
theorem dL_pass_1 : decode cL_pass 1 = .ok (.iconst 0, 1) := by decide +kernel
theorem dL_pass_2 : decode cL_pass 2 = .ok (.aload_n 0, 1) := by decide +kernel
theorem dL_pass_3 : decode cL_pass 3 = .ok (.iload_n 1, 1) := by decide +kernel
theorem dL_pass_4 : decode cL_pass 4 = .ok (.invokevirtual 63, 3) := by decide +kernel
theorem dL_pass_7 : decode cL_pass 7 = .ok (.i2l, 1) := by decide +kernel
theorem dL_pass_8 : decode cL_pass 8 = .ok (.lastore, 1) := by decide +kernel
theorem dL_pass_9 : decode cL_pass 9 = .ok (.goto 6, 3) := by decide +kernel
theorem dL_pass_12 : decode cL_pass 12 = .ok (.astore_n 3, 1) := by decide +kernel
theorem dL_pass_13 : decode cL_pass 13 = .ok (.iconst 1, 1) := by decide +kernel
theorem dL_pass_14 : decode cL_pass 14 = .ok (.ireturn, 1) := by decide +kernel
theorem dL_pass_15 : decode cL_pass 15 = .ok (.iconst 0, 1) := by decide +kernel
theorem dL_pass_16 : decode cL_pass 16 = .ok (.ireturn, 1) := by decide +kernel
theorem dL_until_0 : decode cL_until 0 = .ok (.aload_n 2, 1) := by decide +kernel
theorem dL_until_1 : decode cL_until 1 = .ok (.iconst 0, 1) := by decide +kernel
theorem dL_until_2 : decode cL_until 2 = .ok (.aload_n 0, 1) := by decide +kernel
theorem dL_until_3 : decode cL_until 3 = .ok (.iload_n 1, 1) := by decide +kernel
theorem dL_until_4 : decode cL_until 4 = .ok (.invokevirtual 66, 3) := by decide +kernel
theorem dL_until_7 : decode cL_until 7 = .ok (.i2l, 1) := by decide +kernel
theorem dL_until_8 : decode cL_until 8 = .ok (.lastore, 1) := by decide +kernel
theorem dL_until_9 : decode cL_until 9 = .ok (.goto 6, 3) := by decide +kernel
theorem dL_until_12 : decode cL_until 12 = .ok (.astore_n 3, 1) := by decide +kernel
theorem dL_until_13 : decode cL_until 13 = .ok (.iconst 1, 1) := by decide +kernel
theorem dL_until_14 : decode cL_until 14 = .ok (.ireturn, 1) := by decide +kernel
theorem dL_until_15 : decode cL_until 15 = .ok (.iconst 0, 1) := by decide +kernel
theorem dL_until_16 : decode cL_until 16 = .ok (.ireturn, 1) := by decide +kernel
theorem dL_foresee_0 : decode cL_foresee 0 = .ok (.aload_n 3, 1) := by decide +kernel
theorem dL_foresee_1 : decode cL_foresee 1 = .ok (.iconst 0, 1) := by decide +kernel
theorem dL_foresee_2 : decode cL_foresee 2 = .ok (.aload_n 0, 1) := by decide +kernel
theorem dL_foresee_3 : decode cL_foresee 3 = .ok (.iload_n 1, 1) := by decide +kernel
theorem dL_foresee_4 : decode cL_foresee 4 = .ok (.iload_n 2, 1) := by decide +kernel
theorem dL_foresee_5 : decode cL_foresee 5 = .ok (.invokevirtual 69, 3) := by decide +kernel
theorem dL_foresee_8 : decode cL_foresee 8 = .ok (.i2l, 1) := by decide +kernel
theorem dL_foresee_9 : decode cL_foresee 9 = .ok (.lastore, 1) := by decide +kernel
theorem dL_foresee_10 : decode cL_foresee 10 = .ok (.goto 11, 3) := by decide +kernel
theorem dL_foresee_13 : decode cL_foresee 13 = .ok (.astore 4, 2) := by decide +kernel
theorem dL_foresee_15 : decode cL_foresee 15 = .ok (.iconst 1, 1) := by decide +kernel
theorem dL_foresee_16 : decode cL_foresee 16 = .ok (.ireturn, 1) := by decide +kernel
theorem dL_foresee_17 : decode cL_foresee 17 = .ok (.astore 4, 2) := by decide +kernel
theorem dL_foresee_19 : decode cL_foresee 19 = .ok (.iconst 2, 1) := by decide +kernel
theorem dL_foresee_20 : decode cL_foresee 20 = .ok (.ireturn, 1) := by decide +kernel
theorem dL_foresee_21 : decode cL_foresee 21 = .ok (.iconst 0, 1) := by decide +kernel
theorem dL_foresee_22 : decode cL_foresee 22 = .ok (.ireturn, 1) := by decide +kernel
theorem dL_advise_0 : decode cL_advise 0 = .ok (.aload_n 2, 1) := by decide +kernel
theorem dL_advise_1 : decode cL_advise 1 = .ok (.iconst 0, 1) := by decide +kernel
theorem dL_advise_2 : decode cL_advise 2 = .ok (.aload_n 0, 1) := by decide +kernel
theorem dL_advise_3 : decode cL_advise 3 = .ok (.iload_n 1, 1) := by decide +kernel
theorem dL_advise_4 : decode cL_advise 4 = .ok (.invokevirtual 72, 3) := by decide +kernel
theorem dL_advise_7 : decode cL_advise 7 = .ok (.i2l, 1) := by decide +kernel
theorem dL_advise_8 : decode cL_advise 8 = .ok (.lastore, 1) := by decide +kernel
theorem dL_advise_9 : decode cL_advise 9 = .ok (.goto 9, 3) := by decide +kernel
theorem dL_advise_12 : decode cL_advise 12 = .ok (.astore_n 3, 1) := by decide +kernel
theorem dL_advise_13 : decode cL_advise 13 = .ok (.iconst 1, 1) := by decide +kernel
theorem dL_advise_14 : decode cL_advise 14 = .ok (.ireturn, 1) := by decide +kernel
theorem dL_advise_15 : decode cL_advise 15 = .ok (.astore_n 3, 1) := by decide +kernel
theorem dL_advise_16 : decode cL_advise 16 = .ok (.iconst 2, 1) := by decide +kernel
theorem dL_advise_17 : decode cL_advise 17 = .ok (.ireturn, 1) := by decide +kernel
theorem dL_advise_18 : decode cL_advise 18 = .ok (.iconst 0, 1) := by decide +kernel
theorem dL_advise_19 : decode cL_advise 19 = .ok (.ireturn, 1) := by decide +kernel
theorem dL_quiet_0 : decode cL_quiet 0 = .ok (.aload_n 2, 1) := by decide +kernel
theorem dL_quiet_1 : decode cL_quiet 1 = .ok (.iconst 0, 1) := by decide +kernel
theorem dL_quiet_2 : decode cL_quiet 2 = .ok (.aload_n 0, 1) := by decide +kernel
theorem dL_quiet_3 : decode cL_quiet 3 = .ok (.iload_n 1, 1) := by decide +kernel
theorem dL_quiet_4 : decode cL_quiet 4 = .ok (.invokevirtual 75, 3) := by decide +kernel
theorem dL_quiet_7 : decode cL_quiet 7 = .ok (.i2l, 1) := by decide +kernel
theorem dL_quiet_8 : decode cL_quiet 8 = .ok (.lastore, 1) := by decide +kernel
theorem dL_quiet_9 : decode cL_quiet 9 = .ok (.goto 6, 3) := by decide +kernel
theorem dL_quiet_12 : decode cL_quiet 12 = .ok (.astore_n 3, 1) := by decide +kernel
theorem dL_quiet_13 : decode cL_quiet 13 = .ok (.iconst 1, 1) := by decide +kernel
theorem dL_quiet_14 : decode cL_quiet 14 = .ok (.ireturn, 1) := by decide +kernel
theorem dL_quiet_15 : decode cL_quiet 15 = .ok (.iconst 0, 1) := by decide +kernel
theorem dL_quiet_16 : decode cL_quiet 16 = .ok (.ireturn, 1) := by decide +kernel
theorem dL_law_0 : decode cL_law 0 = .ok (.new 8, 3) := by decide +kernel
theorem dL_law_3 : decode cL_law 3 = .ok (.dup, 1) := by decide +kernel
theorem dL_law_4 : decode cL_law 4 = .ok (.invokespecial 78, 3) := by decide +kernel
theorem dL_law_7 : decode cL_law 7 = .ok (.astore_n 1, 1) := by decide +kernel
theorem dL_law_8 : decode cL_law 8 = .ok (.new 79, 3) := by decide +kernel
theorem dL_law_11 : decode cL_law 11 = .ok (.dup, 1) := by decide +kernel
theorem dL_law_12 : decode cL_law 12 = .ok (.invokespecial 81, 3) := by decide +kernel
theorem dL_law_15 : decode cL_law 15 = .ok (.astore_n 2, 1) := by decide +kernel
theorem dL_law_16 : decode cL_law 16 = .ok (.iconst 1, 1) := by decide +kernel
theorem dL_law_17 : decode cL_law 17 = .ok (.newarray .long, 2) := by decide +kernel
theorem dL_law_19 : decode cL_law 19 = .ok (.astore_n 3, 1) := by decide +kernel
theorem dL_law_20 : decode cL_law 20 = .ok (.iconst 0, 1) := by decide +kernel
theorem dL_law_21 : decode cL_law 21 = .ok (.istore 4, 2) := by decide +kernel
theorem dL_law_23 : decode cL_law 23 = .ok (.iload 4, 2) := by decide +kernel
theorem dL_law_25 : decode cL_law 25 = .ok (.aload_n 0, 1) := by decide +kernel
theorem dL_law_26 : decode cL_law 26 = .ok (.arraylength, 1) := by decide +kernel
theorem dL_law_27 : decode cL_law 27 = .ok (.iconst 4, 1) := by decide +kernel
theorem dL_law_28 : decode cL_law 28 = .ok (.isub, 1) := by decide +kernel
theorem dL_law_29 : decode cL_law 29 = .ok (.if_icmp .gt 1472, 3) := by decide +kernel
theorem dL_law_32 : decode cL_law 32 = .ok (.aload_n 0, 1) := by decide +kernel
theorem dL_law_33 : decode cL_law 33 = .ok (.iload 4, 2) := by decide +kernel
theorem dL_law_35 : decode cL_law 35 = .ok (.iaload, 1) := by decide +kernel
theorem dL_law_36 : decode cL_law 36 = .ok (.bipush 31, 2) := by decide +kernel
theorem dL_law_38 : decode cL_law 38 = .ok (.iand, 1) := by decide +kernel
theorem dL_law_39 : decode cL_law 39 = .ok (.tableswitch 1456 0 21 #[101, 169, 237, 293, 373, 453, 521, 589, 657, 725, 793, 861, 929, 997, 1053, 1109, 1165, 1221, 1289, 1345, 1401, 1442], 101) := by decide +kernel
theorem dL_law_140 : decode cL_law 140 = .ok (.aload_n 1, 1) := by decide +kernel
theorem dL_law_141 : decode cL_law 141 = .ok (.aload_n 0, 1) := by decide +kernel
theorem dL_law_142 : decode cL_law 142 = .ok (.iload 4, 2) := by decide +kernel
theorem dL_law_144 : decode cL_law 144 = .ok (.iconst 1, 1) := by decide +kernel
theorem dL_law_145 : decode cL_law 145 = .ok (.iadd, 1) := by decide +kernel
theorem dL_law_146 : decode cL_law 146 = .ok (.iaload, 1) := by decide +kernel
theorem dL_law_147 : decode cL_law 147 = .ok (.aload_n 0, 1) := by decide +kernel
theorem dL_law_148 : decode cL_law 148 = .ok (.iload 4, 2) := by decide +kernel
theorem dL_law_150 : decode cL_law 150 = .ok (.iconst 2, 1) := by decide +kernel
theorem dL_law_151 : decode cL_law 151 = .ok (.iadd, 1) := by decide +kernel
theorem dL_law_152 : decode cL_law 152 = .ok (.iaload, 1) := by decide +kernel
theorem dL_law_153 : decode cL_law 153 = .ok (.aload_n 3, 1) := by decide +kernel
theorem dL_law_154 : decode cL_law 154 = .ok (.invokestatic 82, 3) := by decide +kernel
theorem dL_law_157 : decode cL_law 157 = .ok (.istore 5, 2) := by decide +kernel
theorem dL_law_159 : decode cL_law 159 = .ok (.aload_n 2, 1) := by decide +kernel
theorem dL_law_160 : decode cL_law 160 = .ok (.aload_n 0, 1) := by decide +kernel
theorem dL_law_161 : decode cL_law 161 = .ok (.iload 4, 2) := by decide +kernel
theorem dL_law_163 : decode cL_law 163 = .ok (.iconst 1, 1) := by decide +kernel
theorem dL_law_164 : decode cL_law 164 = .ok (.iadd, 1) := by decide +kernel
theorem dL_law_165 : decode cL_law 165 = .ok (.iaload, 1) := by decide +kernel
theorem dL_law_166 : decode cL_law 166 = .ok (.aload_n 0, 1) := by decide +kernel
theorem dL_law_167 : decode cL_law 167 = .ok (.iload 4, 2) := by decide +kernel
theorem dL_law_169 : decode cL_law 169 = .ok (.iconst 2, 1) := by decide +kernel
theorem dL_law_170 : decode cL_law 170 = .ok (.iadd, 1) := by decide +kernel
theorem dL_law_171 : decode cL_law 171 = .ok (.iaload, 1) := by decide +kernel
theorem dL_law_172 : decode cL_law 172 = .ok (.invokevirtual 87, 3) := by decide +kernel
theorem dL_law_175 : decode cL_law 175 = .ok (.istore 6, 2) := by decide +kernel
theorem dL_law_177 : decode cL_law 177 = .ok (.aload_n 2, 1) := by decide +kernel
theorem dL_law_178 : decode cL_law 178 = .ok (.invokevirtual 88, 3) := by decide +kernel
theorem dL_law_181 : decode cL_law 181 = .ok (.iload 5, 2) := by decide +kernel
theorem dL_law_183 : decode cL_law 183 = .ok (.if_icmp .eq 5, 3) := by decide +kernel
theorem dL_law_186 : decode cL_law 186 = .ok (.iconst 0, 1) := by decide +kernel
theorem dL_law_187 : decode cL_law 187 = .ok (.ireturn, 1) := by decide +kernel
theorem dL_law_188 : decode cL_law 188 = .ok (.iload 5, 2) := by decide +kernel
theorem dL_law_190 : decode cL_law 190 = .ok (.ifCond .ne 15, 3) := by decide +kernel
theorem dL_law_193 : decode cL_law 193 = .ok (.aload_n 3, 1) := by decide +kernel
theorem dL_law_194 : decode cL_law 194 = .ok (.iconst 0, 1) := by decide +kernel
theorem dL_law_195 : decode cL_law 195 = .ok (.laload, 1) := by decide +kernel
theorem dL_law_196 : decode cL_law 196 = .ok (.iload 6, 2) := by decide +kernel
theorem dL_law_198 : decode cL_law 198 = .ok (.i2l, 1) := by decide +kernel
theorem dL_law_199 : decode cL_law 199 = .ok (.lcmp, 1) := by decide +kernel
theorem dL_law_200 : decode cL_law 200 = .ok (.ifCond .eq 5, 3) := by decide +kernel
theorem dL_law_203 : decode cL_law 203 = .ok (.iconst 0, 1) := by decide +kernel
theorem dL_law_204 : decode cL_law 204 = .ok (.ireturn, 1) := by decide +kernel
theorem dL_law_205 : decode cL_law 205 = .ok (.goto 1290, 3) := by decide +kernel
theorem dL_law_208 : decode cL_law 208 = .ok (.aload_n 1, 1) := by decide +kernel
theorem dL_law_209 : decode cL_law 209 = .ok (.aload_n 0, 1) := by decide +kernel
theorem dL_law_210 : decode cL_law 210 = .ok (.iload 4, 2) := by decide +kernel
theorem dL_law_212 : decode cL_law 212 = .ok (.iconst 1, 1) := by decide +kernel
theorem dL_law_213 : decode cL_law 213 = .ok (.iadd, 1) := by decide +kernel
theorem dL_law_214 : decode cL_law 214 = .ok (.iaload, 1) := by decide +kernel
theorem dL_law_215 : decode cL_law 215 = .ok (.aload_n 0, 1) := by decide +kernel
theorem dL_law_216 : decode cL_law 216 = .ok (.iload 4, 2) := by decide +kernel
theorem dL_law_218 : decode cL_law 218 = .ok (.iconst 2, 1) := by decide +kernel
theorem dL_law_219 : decode cL_law 219 = .ok (.iadd, 1) := by decide +kernel
theorem dL_law_220 : decode cL_law 220 = .ok (.iaload, 1) := by decide +kernel
theorem dL_law_221 : decode cL_law 221 = .ok (.aload_n 3, 1) := by decide +kernel
theorem dL_law_222 : decode cL_law 222 = .ok (.invokestatic 92, 3) := by decide +kernel
theorem dL_law_225 : decode cL_law 225 = .ok (.istore 5, 2) := by decide +kernel
theorem dL_law_227 : decode cL_law 227 = .ok (.aload_n 2, 1) := by decide +kernel
theorem dL_law_228 : decode cL_law 228 = .ok (.aload_n 0, 1) := by decide +kernel
theorem dL_law_229 : decode cL_law 229 = .ok (.iload 4, 2) := by decide +kernel
theorem dL_law_231 : decode cL_law 231 = .ok (.iconst 1, 1) := by decide +kernel
theorem dL_law_232 : decode cL_law 232 = .ok (.iadd, 1) := by decide +kernel
theorem dL_law_233 : decode cL_law 233 = .ok (.iaload, 1) := by decide +kernel
theorem dL_law_234 : decode cL_law 234 = .ok (.aload_n 0, 1) := by decide +kernel
theorem dL_law_235 : decode cL_law 235 = .ok (.iload 4, 2) := by decide +kernel
theorem dL_law_237 : decode cL_law 237 = .ok (.iconst 2, 1) := by decide +kernel
theorem dL_law_238 : decode cL_law 238 = .ok (.iadd, 1) := by decide +kernel
theorem dL_law_239 : decode cL_law 239 = .ok (.iaload, 1) := by decide +kernel
theorem dL_law_240 : decode cL_law 240 = .ok (.invokevirtual 94, 3) := by decide +kernel
theorem dL_law_243 : decode cL_law 243 = .ok (.istore 6, 2) := by decide +kernel
theorem dL_law_245 : decode cL_law 245 = .ok (.aload_n 2, 1) := by decide +kernel
theorem dL_law_246 : decode cL_law 246 = .ok (.invokevirtual 88, 3) := by decide +kernel
theorem dL_law_249 : decode cL_law 249 = .ok (.iload 5, 2) := by decide +kernel
theorem dL_law_251 : decode cL_law 251 = .ok (.if_icmp .eq 5, 3) := by decide +kernel
theorem dL_law_254 : decode cL_law 254 = .ok (.iconst 0, 1) := by decide +kernel
theorem dL_law_255 : decode cL_law 255 = .ok (.ireturn, 1) := by decide +kernel
theorem dL_law_256 : decode cL_law 256 = .ok (.iload 5, 2) := by decide +kernel
theorem dL_law_258 : decode cL_law 258 = .ok (.ifCond .ne 15, 3) := by decide +kernel
theorem dL_law_261 : decode cL_law 261 = .ok (.aload_n 3, 1) := by decide +kernel
theorem dL_law_262 : decode cL_law 262 = .ok (.iconst 0, 1) := by decide +kernel
theorem dL_law_263 : decode cL_law 263 = .ok (.laload, 1) := by decide +kernel
theorem dL_law_264 : decode cL_law 264 = .ok (.iload 6, 2) := by decide +kernel
theorem dL_law_266 : decode cL_law 266 = .ok (.i2l, 1) := by decide +kernel
theorem dL_law_267 : decode cL_law 267 = .ok (.lcmp, 1) := by decide +kernel
theorem dL_law_268 : decode cL_law 268 = .ok (.ifCond .eq 5, 3) := by decide +kernel
theorem dL_law_271 : decode cL_law 271 = .ok (.iconst 0, 1) := by decide +kernel
theorem dL_law_272 : decode cL_law 272 = .ok (.ireturn, 1) := by decide +kernel
theorem dL_law_273 : decode cL_law 273 = .ok (.goto 1222, 3) := by decide +kernel
theorem dL_law_276 : decode cL_law 276 = .ok (.aload_n 1, 1) := by decide +kernel
theorem dL_law_277 : decode cL_law 277 = .ok (.aload_n 0, 1) := by decide +kernel
theorem dL_law_278 : decode cL_law 278 = .ok (.iload 4, 2) := by decide +kernel
theorem dL_law_280 : decode cL_law 280 = .ok (.iconst 1, 1) := by decide +kernel
theorem dL_law_281 : decode cL_law 281 = .ok (.iadd, 1) := by decide +kernel
theorem dL_law_282 : decode cL_law 282 = .ok (.iaload, 1) := by decide +kernel
theorem dL_law_283 : decode cL_law 283 = .ok (.aload_n 3, 1) := by decide +kernel
theorem dL_law_284 : decode cL_law 284 = .ok (.invokestatic 95, 3) := by decide +kernel
theorem dL_law_287 : decode cL_law 287 = .ok (.istore 5, 2) := by decide +kernel
theorem dL_law_289 : decode cL_law 289 = .ok (.aload_n 2, 1) := by decide +kernel
theorem dL_law_290 : decode cL_law 290 = .ok (.aload_n 0, 1) := by decide +kernel
theorem dL_law_291 : decode cL_law 291 = .ok (.iload 4, 2) := by decide +kernel
theorem dL_law_293 : decode cL_law 293 = .ok (.iconst 1, 1) := by decide +kernel
theorem dL_law_294 : decode cL_law 294 = .ok (.iadd, 1) := by decide +kernel
theorem dL_law_295 : decode cL_law 295 = .ok (.iaload, 1) := by decide +kernel
theorem dL_law_296 : decode cL_law 296 = .ok (.invokevirtual 98, 3) := by decide +kernel
theorem dL_law_299 : decode cL_law 299 = .ok (.istore 6, 2) := by decide +kernel
theorem dL_law_301 : decode cL_law 301 = .ok (.aload_n 2, 1) := by decide +kernel
theorem dL_law_302 : decode cL_law 302 = .ok (.invokevirtual 88, 3) := by decide +kernel
theorem dL_law_305 : decode cL_law 305 = .ok (.iload 5, 2) := by decide +kernel
theorem dL_law_307 : decode cL_law 307 = .ok (.if_icmp .eq 5, 3) := by decide +kernel
theorem dL_law_310 : decode cL_law 310 = .ok (.iconst 0, 1) := by decide +kernel
theorem dL_law_311 : decode cL_law 311 = .ok (.ireturn, 1) := by decide +kernel
theorem dL_law_312 : decode cL_law 312 = .ok (.iload 5, 2) := by decide +kernel
theorem dL_law_314 : decode cL_law 314 = .ok (.ifCond .ne 15, 3) := by decide +kernel
theorem dL_law_317 : decode cL_law 317 = .ok (.aload_n 3, 1) := by decide +kernel
theorem dL_law_318 : decode cL_law 318 = .ok (.iconst 0, 1) := by decide +kernel
theorem dL_law_319 : decode cL_law 319 = .ok (.laload, 1) := by decide +kernel
theorem dL_law_320 : decode cL_law 320 = .ok (.iload 6, 2) := by decide +kernel
theorem dL_law_322 : decode cL_law 322 = .ok (.i2l, 1) := by decide +kernel
theorem dL_law_323 : decode cL_law 323 = .ok (.lcmp, 1) := by decide +kernel
theorem dL_law_324 : decode cL_law 324 = .ok (.ifCond .eq 5, 3) := by decide +kernel
theorem dL_law_327 : decode cL_law 327 = .ok (.iconst 0, 1) := by decide +kernel
theorem dL_law_328 : decode cL_law 328 = .ok (.ireturn, 1) := by decide +kernel
theorem dL_law_329 : decode cL_law 329 = .ok (.goto 1166, 3) := by decide +kernel
theorem dL_law_332 : decode cL_law 332 = .ok (.aload_n 1, 1) := by decide +kernel
theorem dL_law_333 : decode cL_law 333 = .ok (.aload_n 0, 1) := by decide +kernel
theorem dL_law_334 : decode cL_law 334 = .ok (.iload 4, 2) := by decide +kernel
theorem dL_law_336 : decode cL_law 336 = .ok (.iconst 1, 1) := by decide +kernel
theorem dL_law_337 : decode cL_law 337 = .ok (.iadd, 1) := by decide +kernel
theorem dL_law_338 : decode cL_law 338 = .ok (.iaload, 1) := by decide +kernel
theorem dL_law_339 : decode cL_law 339 = .ok (.aload_n 0, 1) := by decide +kernel
theorem dL_law_340 : decode cL_law 340 = .ok (.iload 4, 2) := by decide +kernel
theorem dL_law_342 : decode cL_law 342 = .ok (.iconst 2, 1) := by decide +kernel
theorem dL_law_343 : decode cL_law 343 = .ok (.iadd, 1) := by decide +kernel
theorem dL_law_344 : decode cL_law 344 = .ok (.iaload, 1) := by decide +kernel
theorem dL_law_345 : decode cL_law 345 = .ok (.aload_n 0, 1) := by decide +kernel
theorem dL_law_346 : decode cL_law 346 = .ok (.iload 4, 2) := by decide +kernel
theorem dL_law_348 : decode cL_law 348 = .ok (.iconst 3, 1) := by decide +kernel
theorem dL_law_349 : decode cL_law 349 = .ok (.iadd, 1) := by decide +kernel
theorem dL_law_350 : decode cL_law 350 = .ok (.iaload, 1) := by decide +kernel
theorem dL_law_351 : decode cL_law 351 = .ok (.aload_n 3, 1) := by decide +kernel
theorem dL_law_352 : decode cL_law 352 = .ok (.invokestatic 99, 3) := by decide +kernel
theorem dL_law_355 : decode cL_law 355 = .ok (.istore 5, 2) := by decide +kernel
theorem dL_law_357 : decode cL_law 357 = .ok (.aload_n 2, 1) := by decide +kernel
theorem dL_law_358 : decode cL_law 358 = .ok (.aload_n 0, 1) := by decide +kernel
theorem dL_law_359 : decode cL_law 359 = .ok (.iload 4, 2) := by decide +kernel
theorem dL_law_361 : decode cL_law 361 = .ok (.iconst 1, 1) := by decide +kernel
theorem dL_law_362 : decode cL_law 362 = .ok (.iadd, 1) := by decide +kernel
theorem dL_law_363 : decode cL_law 363 = .ok (.iaload, 1) := by decide +kernel
theorem dL_law_364 : decode cL_law 364 = .ok (.aload_n 0, 1) := by decide +kernel
theorem dL_law_365 : decode cL_law 365 = .ok (.iload 4, 2) := by decide +kernel
theorem dL_law_367 : decode cL_law 367 = .ok (.iconst 2, 1) := by decide +kernel
theorem dL_law_368 : decode cL_law 368 = .ok (.iadd, 1) := by decide +kernel
theorem dL_law_369 : decode cL_law 369 = .ok (.iaload, 1) := by decide +kernel
theorem dL_law_370 : decode cL_law 370 = .ok (.aload_n 0, 1) := by decide +kernel
theorem dL_law_371 : decode cL_law 371 = .ok (.iload 4, 2) := by decide +kernel
theorem dL_law_373 : decode cL_law 373 = .ok (.iconst 3, 1) := by decide +kernel
theorem dL_law_374 : decode cL_law 374 = .ok (.iadd, 1) := by decide +kernel
theorem dL_law_375 : decode cL_law 375 = .ok (.iaload, 1) := by decide +kernel
theorem dL_law_376 : decode cL_law 376 = .ok (.invokevirtual 102, 3) := by decide +kernel
theorem dL_law_379 : decode cL_law 379 = .ok (.istore 6, 2) := by decide +kernel
theorem dL_law_381 : decode cL_law 381 = .ok (.aload_n 2, 1) := by decide +kernel
theorem dL_law_382 : decode cL_law 382 = .ok (.invokevirtual 88, 3) := by decide +kernel
theorem dL_law_385 : decode cL_law 385 = .ok (.iload 5, 2) := by decide +kernel
theorem dL_law_387 : decode cL_law 387 = .ok (.if_icmp .eq 5, 3) := by decide +kernel
theorem dL_law_390 : decode cL_law 390 = .ok (.iconst 0, 1) := by decide +kernel
theorem dL_law_391 : decode cL_law 391 = .ok (.ireturn, 1) := by decide +kernel
theorem dL_law_392 : decode cL_law 392 = .ok (.iload 5, 2) := by decide +kernel
theorem dL_law_394 : decode cL_law 394 = .ok (.ifCond .ne 15, 3) := by decide +kernel
theorem dL_law_397 : decode cL_law 397 = .ok (.aload_n 3, 1) := by decide +kernel
theorem dL_law_398 : decode cL_law 398 = .ok (.iconst 0, 1) := by decide +kernel
theorem dL_law_399 : decode cL_law 399 = .ok (.laload, 1) := by decide +kernel
theorem dL_law_400 : decode cL_law 400 = .ok (.iload 6, 2) := by decide +kernel
theorem dL_law_402 : decode cL_law 402 = .ok (.i2l, 1) := by decide +kernel
theorem dL_law_403 : decode cL_law 403 = .ok (.lcmp, 1) := by decide +kernel
theorem dL_law_404 : decode cL_law 404 = .ok (.ifCond .eq 5, 3) := by decide +kernel
theorem dL_law_407 : decode cL_law 407 = .ok (.iconst 0, 1) := by decide +kernel
theorem dL_law_408 : decode cL_law 408 = .ok (.ireturn, 1) := by decide +kernel
theorem dL_law_409 : decode cL_law 409 = .ok (.goto 1086, 3) := by decide +kernel
theorem dL_law_412 : decode cL_law 412 = .ok (.aload_n 1, 1) := by decide +kernel
theorem dL_law_413 : decode cL_law 413 = .ok (.aload_n 0, 1) := by decide +kernel
theorem dL_law_414 : decode cL_law 414 = .ok (.iload 4, 2) := by decide +kernel
theorem dL_law_416 : decode cL_law 416 = .ok (.iconst 1, 1) := by decide +kernel
theorem dL_law_417 : decode cL_law 417 = .ok (.iadd, 1) := by decide +kernel
theorem dL_law_418 : decode cL_law 418 = .ok (.iaload, 1) := by decide +kernel
theorem dL_law_419 : decode cL_law 419 = .ok (.aload_n 0, 1) := by decide +kernel
theorem dL_law_420 : decode cL_law 420 = .ok (.iload 4, 2) := by decide +kernel
theorem dL_law_422 : decode cL_law 422 = .ok (.iconst 2, 1) := by decide +kernel
theorem dL_law_423 : decode cL_law 423 = .ok (.iadd, 1) := by decide +kernel
theorem dL_law_424 : decode cL_law 424 = .ok (.iaload, 1) := by decide +kernel
theorem dL_law_425 : decode cL_law 425 = .ok (.aload_n 0, 1) := by decide +kernel
theorem dL_law_426 : decode cL_law 426 = .ok (.iload 4, 2) := by decide +kernel
theorem dL_law_428 : decode cL_law 428 = .ok (.iconst 3, 1) := by decide +kernel
theorem dL_law_429 : decode cL_law 429 = .ok (.iadd, 1) := by decide +kernel
theorem dL_law_430 : decode cL_law 430 = .ok (.iaload, 1) := by decide +kernel
theorem dL_law_431 : decode cL_law 431 = .ok (.aload_n 3, 1) := by decide +kernel
theorem dL_law_432 : decode cL_law 432 = .ok (.invokestatic 103, 3) := by decide +kernel
theorem dL_law_435 : decode cL_law 435 = .ok (.istore 5, 2) := by decide +kernel
theorem dL_law_437 : decode cL_law 437 = .ok (.aload_n 2, 1) := by decide +kernel
theorem dL_law_438 : decode cL_law 438 = .ok (.aload_n 0, 1) := by decide +kernel
theorem dL_law_439 : decode cL_law 439 = .ok (.iload 4, 2) := by decide +kernel
theorem dL_law_441 : decode cL_law 441 = .ok (.iconst 1, 1) := by decide +kernel
theorem dL_law_442 : decode cL_law 442 = .ok (.iadd, 1) := by decide +kernel
theorem dL_law_443 : decode cL_law 443 = .ok (.iaload, 1) := by decide +kernel
theorem dL_law_444 : decode cL_law 444 = .ok (.aload_n 0, 1) := by decide +kernel
theorem dL_law_445 : decode cL_law 445 = .ok (.iload 4, 2) := by decide +kernel
theorem dL_law_447 : decode cL_law 447 = .ok (.iconst 2, 1) := by decide +kernel
theorem dL_law_448 : decode cL_law 448 = .ok (.iadd, 1) := by decide +kernel
theorem dL_law_449 : decode cL_law 449 = .ok (.iaload, 1) := by decide +kernel
theorem dL_law_450 : decode cL_law 450 = .ok (.aload_n 0, 1) := by decide +kernel
theorem dL_law_451 : decode cL_law 451 = .ok (.iload 4, 2) := by decide +kernel
theorem dL_law_453 : decode cL_law 453 = .ok (.iconst 3, 1) := by decide +kernel
theorem dL_law_454 : decode cL_law 454 = .ok (.iadd, 1) := by decide +kernel
theorem dL_law_455 : decode cL_law 455 = .ok (.iaload, 1) := by decide +kernel
theorem dL_law_456 : decode cL_law 456 = .ok (.invokevirtual 105, 3) := by decide +kernel
theorem dL_law_459 : decode cL_law 459 = .ok (.istore 6, 2) := by decide +kernel
theorem dL_law_461 : decode cL_law 461 = .ok (.aload_n 2, 1) := by decide +kernel
theorem dL_law_462 : decode cL_law 462 = .ok (.invokevirtual 88, 3) := by decide +kernel
theorem dL_law_465 : decode cL_law 465 = .ok (.iload 5, 2) := by decide +kernel
theorem dL_law_467 : decode cL_law 467 = .ok (.if_icmp .eq 5, 3) := by decide +kernel
theorem dL_law_470 : decode cL_law 470 = .ok (.iconst 0, 1) := by decide +kernel
theorem dL_law_471 : decode cL_law 471 = .ok (.ireturn, 1) := by decide +kernel
theorem dL_law_472 : decode cL_law 472 = .ok (.iload 5, 2) := by decide +kernel
theorem dL_law_474 : decode cL_law 474 = .ok (.ifCond .ne 15, 3) := by decide +kernel
theorem dL_law_477 : decode cL_law 477 = .ok (.aload_n 3, 1) := by decide +kernel
theorem dL_law_478 : decode cL_law 478 = .ok (.iconst 0, 1) := by decide +kernel
theorem dL_law_479 : decode cL_law 479 = .ok (.laload, 1) := by decide +kernel
theorem dL_law_480 : decode cL_law 480 = .ok (.iload 6, 2) := by decide +kernel
theorem dL_law_482 : decode cL_law 482 = .ok (.i2l, 1) := by decide +kernel
theorem dL_law_483 : decode cL_law 483 = .ok (.lcmp, 1) := by decide +kernel
theorem dL_law_484 : decode cL_law 484 = .ok (.ifCond .eq 5, 3) := by decide +kernel
theorem dL_law_487 : decode cL_law 487 = .ok (.iconst 0, 1) := by decide +kernel
theorem dL_law_488 : decode cL_law 488 = .ok (.ireturn, 1) := by decide +kernel
theorem dL_law_489 : decode cL_law 489 = .ok (.goto 1006, 3) := by decide +kernel
theorem dL_law_492 : decode cL_law 492 = .ok (.aload_n 1, 1) := by decide +kernel
theorem dL_law_493 : decode cL_law 493 = .ok (.aload_n 0, 1) := by decide +kernel
theorem dL_law_494 : decode cL_law 494 = .ok (.iload 4, 2) := by decide +kernel
theorem dL_law_496 : decode cL_law 496 = .ok (.iconst 1, 1) := by decide +kernel
theorem dL_law_497 : decode cL_law 497 = .ok (.iadd, 1) := by decide +kernel
theorem dL_law_498 : decode cL_law 498 = .ok (.iaload, 1) := by decide +kernel
theorem dL_law_499 : decode cL_law 499 = .ok (.aload_n 0, 1) := by decide +kernel
theorem dL_law_500 : decode cL_law 500 = .ok (.iload 4, 2) := by decide +kernel
theorem dL_law_502 : decode cL_law 502 = .ok (.iconst 2, 1) := by decide +kernel
theorem dL_law_503 : decode cL_law 503 = .ok (.iadd, 1) := by decide +kernel
theorem dL_law_504 : decode cL_law 504 = .ok (.iaload, 1) := by decide +kernel
theorem dL_law_505 : decode cL_law 505 = .ok (.aload_n 3, 1) := by decide +kernel
theorem dL_law_506 : decode cL_law 506 = .ok (.invokestatic 106, 3) := by decide +kernel
theorem dL_law_509 : decode cL_law 509 = .ok (.istore 5, 2) := by decide +kernel
theorem dL_law_511 : decode cL_law 511 = .ok (.aload_n 2, 1) := by decide +kernel
theorem dL_law_512 : decode cL_law 512 = .ok (.aload_n 0, 1) := by decide +kernel
theorem dL_law_513 : decode cL_law 513 = .ok (.iload 4, 2) := by decide +kernel
theorem dL_law_515 : decode cL_law 515 = .ok (.iconst 1, 1) := by decide +kernel
theorem dL_law_516 : decode cL_law 516 = .ok (.iadd, 1) := by decide +kernel
theorem dL_law_517 : decode cL_law 517 = .ok (.iaload, 1) := by decide +kernel
theorem dL_law_518 : decode cL_law 518 = .ok (.aload_n 0, 1) := by decide +kernel
theorem dL_law_519 : decode cL_law 519 = .ok (.iload 4, 2) := by decide +kernel
theorem dL_law_521 : decode cL_law 521 = .ok (.iconst 2, 1) := by decide +kernel
theorem dL_law_522 : decode cL_law 522 = .ok (.iadd, 1) := by decide +kernel
theorem dL_law_523 : decode cL_law 523 = .ok (.iaload, 1) := by decide +kernel
theorem dL_law_524 : decode cL_law 524 = .ok (.invokevirtual 108, 3) := by decide +kernel
theorem dL_law_527 : decode cL_law 527 = .ok (.istore 6, 2) := by decide +kernel
theorem dL_law_529 : decode cL_law 529 = .ok (.aload_n 2, 1) := by decide +kernel
theorem dL_law_530 : decode cL_law 530 = .ok (.invokevirtual 88, 3) := by decide +kernel
theorem dL_law_533 : decode cL_law 533 = .ok (.iload 5, 2) := by decide +kernel
theorem dL_law_535 : decode cL_law 535 = .ok (.if_icmp .eq 5, 3) := by decide +kernel
theorem dL_law_538 : decode cL_law 538 = .ok (.iconst 0, 1) := by decide +kernel
theorem dL_law_539 : decode cL_law 539 = .ok (.ireturn, 1) := by decide +kernel
theorem dL_law_540 : decode cL_law 540 = .ok (.iload 5, 2) := by decide +kernel
theorem dL_law_542 : decode cL_law 542 = .ok (.ifCond .ne 15, 3) := by decide +kernel
theorem dL_law_545 : decode cL_law 545 = .ok (.aload_n 3, 1) := by decide +kernel
theorem dL_law_546 : decode cL_law 546 = .ok (.iconst 0, 1) := by decide +kernel
theorem dL_law_547 : decode cL_law 547 = .ok (.laload, 1) := by decide +kernel
theorem dL_law_548 : decode cL_law 548 = .ok (.iload 6, 2) := by decide +kernel
theorem dL_law_550 : decode cL_law 550 = .ok (.i2l, 1) := by decide +kernel
theorem dL_law_551 : decode cL_law 551 = .ok (.lcmp, 1) := by decide +kernel
theorem dL_law_552 : decode cL_law 552 = .ok (.ifCond .eq 5, 3) := by decide +kernel
theorem dL_law_555 : decode cL_law 555 = .ok (.iconst 0, 1) := by decide +kernel
theorem dL_law_556 : decode cL_law 556 = .ok (.ireturn, 1) := by decide +kernel
theorem dL_law_557 : decode cL_law 557 = .ok (.goto 938, 3) := by decide +kernel
theorem dL_law_560 : decode cL_law 560 = .ok (.aload_n 1, 1) := by decide +kernel
theorem dL_law_561 : decode cL_law 561 = .ok (.aload_n 0, 1) := by decide +kernel
theorem dL_law_562 : decode cL_law 562 = .ok (.iload 4, 2) := by decide +kernel
theorem dL_law_564 : decode cL_law 564 = .ok (.iconst 1, 1) := by decide +kernel
theorem dL_law_565 : decode cL_law 565 = .ok (.iadd, 1) := by decide +kernel
theorem dL_law_566 : decode cL_law 566 = .ok (.iaload, 1) := by decide +kernel
theorem dL_law_567 : decode cL_law 567 = .ok (.aload_n 0, 1) := by decide +kernel
theorem dL_law_568 : decode cL_law 568 = .ok (.iload 4, 2) := by decide +kernel
theorem dL_law_570 : decode cL_law 570 = .ok (.iconst 2, 1) := by decide +kernel
theorem dL_law_571 : decode cL_law 571 = .ok (.iadd, 1) := by decide +kernel
theorem dL_law_572 : decode cL_law 572 = .ok (.iaload, 1) := by decide +kernel
theorem dL_law_573 : decode cL_law 573 = .ok (.aload_n 3, 1) := by decide +kernel
theorem dL_law_574 : decode cL_law 574 = .ok (.invokestatic 109, 3) := by decide +kernel
theorem dL_law_577 : decode cL_law 577 = .ok (.istore 5, 2) := by decide +kernel
theorem dL_law_579 : decode cL_law 579 = .ok (.aload_n 2, 1) := by decide +kernel
theorem dL_law_580 : decode cL_law 580 = .ok (.aload_n 0, 1) := by decide +kernel
theorem dL_law_581 : decode cL_law 581 = .ok (.iload 4, 2) := by decide +kernel
theorem dL_law_583 : decode cL_law 583 = .ok (.iconst 1, 1) := by decide +kernel
theorem dL_law_584 : decode cL_law 584 = .ok (.iadd, 1) := by decide +kernel
theorem dL_law_585 : decode cL_law 585 = .ok (.iaload, 1) := by decide +kernel
theorem dL_law_586 : decode cL_law 586 = .ok (.aload_n 0, 1) := by decide +kernel
theorem dL_law_587 : decode cL_law 587 = .ok (.iload 4, 2) := by decide +kernel
theorem dL_law_589 : decode cL_law 589 = .ok (.iconst 2, 1) := by decide +kernel
theorem dL_law_590 : decode cL_law 590 = .ok (.iadd, 1) := by decide +kernel
theorem dL_law_591 : decode cL_law 591 = .ok (.iaload, 1) := by decide +kernel
theorem dL_law_592 : decode cL_law 592 = .ok (.invokevirtual 111, 3) := by decide +kernel
theorem dL_law_595 : decode cL_law 595 = .ok (.istore 6, 2) := by decide +kernel
theorem dL_law_597 : decode cL_law 597 = .ok (.aload_n 2, 1) := by decide +kernel
theorem dL_law_598 : decode cL_law 598 = .ok (.invokevirtual 88, 3) := by decide +kernel
theorem dL_law_601 : decode cL_law 601 = .ok (.iload 5, 2) := by decide +kernel
theorem dL_law_603 : decode cL_law 603 = .ok (.if_icmp .eq 5, 3) := by decide +kernel
theorem dL_law_606 : decode cL_law 606 = .ok (.iconst 0, 1) := by decide +kernel
theorem dL_law_607 : decode cL_law 607 = .ok (.ireturn, 1) := by decide +kernel
theorem dL_law_608 : decode cL_law 608 = .ok (.iload 5, 2) := by decide +kernel
theorem dL_law_610 : decode cL_law 610 = .ok (.ifCond .ne 15, 3) := by decide +kernel
theorem dL_law_613 : decode cL_law 613 = .ok (.aload_n 3, 1) := by decide +kernel
theorem dL_law_614 : decode cL_law 614 = .ok (.iconst 0, 1) := by decide +kernel
theorem dL_law_615 : decode cL_law 615 = .ok (.laload, 1) := by decide +kernel
theorem dL_law_616 : decode cL_law 616 = .ok (.iload 6, 2) := by decide +kernel
theorem dL_law_618 : decode cL_law 618 = .ok (.i2l, 1) := by decide +kernel
theorem dL_law_619 : decode cL_law 619 = .ok (.lcmp, 1) := by decide +kernel
theorem dL_law_620 : decode cL_law 620 = .ok (.ifCond .eq 5, 3) := by decide +kernel
theorem dL_law_623 : decode cL_law 623 = .ok (.iconst 0, 1) := by decide +kernel
theorem dL_law_624 : decode cL_law 624 = .ok (.ireturn, 1) := by decide +kernel
theorem dL_law_625 : decode cL_law 625 = .ok (.goto 870, 3) := by decide +kernel
theorem dL_law_628 : decode cL_law 628 = .ok (.aload_n 1, 1) := by decide +kernel
theorem dL_law_629 : decode cL_law 629 = .ok (.aload_n 0, 1) := by decide +kernel
theorem dL_law_630 : decode cL_law 630 = .ok (.iload 4, 2) := by decide +kernel
theorem dL_law_632 : decode cL_law 632 = .ok (.iconst 1, 1) := by decide +kernel
theorem dL_law_633 : decode cL_law 633 = .ok (.iadd, 1) := by decide +kernel
theorem dL_law_634 : decode cL_law 634 = .ok (.iaload, 1) := by decide +kernel
theorem dL_law_635 : decode cL_law 635 = .ok (.aload_n 0, 1) := by decide +kernel
theorem dL_law_636 : decode cL_law 636 = .ok (.iload 4, 2) := by decide +kernel
theorem dL_law_638 : decode cL_law 638 = .ok (.iconst 2, 1) := by decide +kernel
theorem dL_law_639 : decode cL_law 639 = .ok (.iadd, 1) := by decide +kernel
theorem dL_law_640 : decode cL_law 640 = .ok (.iaload, 1) := by decide +kernel
theorem dL_law_641 : decode cL_law 641 = .ok (.aload_n 3, 1) := by decide +kernel
theorem dL_law_642 : decode cL_law 642 = .ok (.invokestatic 112, 3) := by decide +kernel
theorem dL_law_645 : decode cL_law 645 = .ok (.istore 5, 2) := by decide +kernel
theorem dL_law_647 : decode cL_law 647 = .ok (.aload_n 2, 1) := by decide +kernel
theorem dL_law_648 : decode cL_law 648 = .ok (.aload_n 0, 1) := by decide +kernel
theorem dL_law_649 : decode cL_law 649 = .ok (.iload 4, 2) := by decide +kernel
theorem dL_law_651 : decode cL_law 651 = .ok (.iconst 1, 1) := by decide +kernel
theorem dL_law_652 : decode cL_law 652 = .ok (.iadd, 1) := by decide +kernel
theorem dL_law_653 : decode cL_law 653 = .ok (.iaload, 1) := by decide +kernel
theorem dL_law_654 : decode cL_law 654 = .ok (.aload_n 0, 1) := by decide +kernel
theorem dL_law_655 : decode cL_law 655 = .ok (.iload 4, 2) := by decide +kernel
theorem dL_law_657 : decode cL_law 657 = .ok (.iconst 2, 1) := by decide +kernel
theorem dL_law_658 : decode cL_law 658 = .ok (.iadd, 1) := by decide +kernel
theorem dL_law_659 : decode cL_law 659 = .ok (.iaload, 1) := by decide +kernel
theorem dL_law_660 : decode cL_law 660 = .ok (.invokevirtual 114, 3) := by decide +kernel
theorem dL_law_663 : decode cL_law 663 = .ok (.istore 6, 2) := by decide +kernel
theorem dL_law_665 : decode cL_law 665 = .ok (.aload_n 2, 1) := by decide +kernel
theorem dL_law_666 : decode cL_law 666 = .ok (.invokevirtual 88, 3) := by decide +kernel
theorem dL_law_669 : decode cL_law 669 = .ok (.iload 5, 2) := by decide +kernel
theorem dL_law_671 : decode cL_law 671 = .ok (.if_icmp .eq 5, 3) := by decide +kernel
theorem dL_law_674 : decode cL_law 674 = .ok (.iconst 0, 1) := by decide +kernel
theorem dL_law_675 : decode cL_law 675 = .ok (.ireturn, 1) := by decide +kernel
theorem dL_law_676 : decode cL_law 676 = .ok (.iload 5, 2) := by decide +kernel
theorem dL_law_678 : decode cL_law 678 = .ok (.ifCond .ne 15, 3) := by decide +kernel
theorem dL_law_681 : decode cL_law 681 = .ok (.aload_n 3, 1) := by decide +kernel
theorem dL_law_682 : decode cL_law 682 = .ok (.iconst 0, 1) := by decide +kernel
theorem dL_law_683 : decode cL_law 683 = .ok (.laload, 1) := by decide +kernel
theorem dL_law_684 : decode cL_law 684 = .ok (.iload 6, 2) := by decide +kernel
theorem dL_law_686 : decode cL_law 686 = .ok (.i2l, 1) := by decide +kernel
theorem dL_law_687 : decode cL_law 687 = .ok (.lcmp, 1) := by decide +kernel
theorem dL_law_688 : decode cL_law 688 = .ok (.ifCond .eq 5, 3) := by decide +kernel
theorem dL_law_691 : decode cL_law 691 = .ok (.iconst 0, 1) := by decide +kernel
theorem dL_law_692 : decode cL_law 692 = .ok (.ireturn, 1) := by decide +kernel
theorem dL_law_693 : decode cL_law 693 = .ok (.goto 802, 3) := by decide +kernel
theorem dL_law_696 : decode cL_law 696 = .ok (.aload_n 1, 1) := by decide +kernel
theorem dL_law_697 : decode cL_law 697 = .ok (.aload_n 0, 1) := by decide +kernel
theorem dL_law_698 : decode cL_law 698 = .ok (.iload 4, 2) := by decide +kernel
theorem dL_law_700 : decode cL_law 700 = .ok (.iconst 1, 1) := by decide +kernel
theorem dL_law_701 : decode cL_law 701 = .ok (.iadd, 1) := by decide +kernel
theorem dL_law_702 : decode cL_law 702 = .ok (.iaload, 1) := by decide +kernel
theorem dL_law_703 : decode cL_law 703 = .ok (.aload_n 0, 1) := by decide +kernel
theorem dL_law_704 : decode cL_law 704 = .ok (.iload 4, 2) := by decide +kernel
theorem dL_law_706 : decode cL_law 706 = .ok (.iconst 2, 1) := by decide +kernel
theorem dL_law_707 : decode cL_law 707 = .ok (.iadd, 1) := by decide +kernel
theorem dL_law_708 : decode cL_law 708 = .ok (.iaload, 1) := by decide +kernel
theorem dL_law_709 : decode cL_law 709 = .ok (.aload_n 3, 1) := by decide +kernel
theorem dL_law_710 : decode cL_law 710 = .ok (.invokestatic 115, 3) := by decide +kernel
theorem dL_law_713 : decode cL_law 713 = .ok (.istore 5, 2) := by decide +kernel
theorem dL_law_715 : decode cL_law 715 = .ok (.aload_n 2, 1) := by decide +kernel
theorem dL_law_716 : decode cL_law 716 = .ok (.aload_n 0, 1) := by decide +kernel
theorem dL_law_717 : decode cL_law 717 = .ok (.iload 4, 2) := by decide +kernel
theorem dL_law_719 : decode cL_law 719 = .ok (.iconst 1, 1) := by decide +kernel
theorem dL_law_720 : decode cL_law 720 = .ok (.iadd, 1) := by decide +kernel
theorem dL_law_721 : decode cL_law 721 = .ok (.iaload, 1) := by decide +kernel
theorem dL_law_722 : decode cL_law 722 = .ok (.aload_n 0, 1) := by decide +kernel
theorem dL_law_723 : decode cL_law 723 = .ok (.iload 4, 2) := by decide +kernel
theorem dL_law_725 : decode cL_law 725 = .ok (.iconst 2, 1) := by decide +kernel
theorem dL_law_726 : decode cL_law 726 = .ok (.iadd, 1) := by decide +kernel
theorem dL_law_727 : decode cL_law 727 = .ok (.iaload, 1) := by decide +kernel
theorem dL_law_728 : decode cL_law 728 = .ok (.invokevirtual 117, 3) := by decide +kernel
theorem dL_law_731 : decode cL_law 731 = .ok (.istore 6, 2) := by decide +kernel
theorem dL_law_733 : decode cL_law 733 = .ok (.aload_n 2, 1) := by decide +kernel
theorem dL_law_734 : decode cL_law 734 = .ok (.invokevirtual 88, 3) := by decide +kernel
theorem dL_law_737 : decode cL_law 737 = .ok (.iload 5, 2) := by decide +kernel
theorem dL_law_739 : decode cL_law 739 = .ok (.if_icmp .eq 5, 3) := by decide +kernel
theorem dL_law_742 : decode cL_law 742 = .ok (.iconst 0, 1) := by decide +kernel
theorem dL_law_743 : decode cL_law 743 = .ok (.ireturn, 1) := by decide +kernel
theorem dL_law_744 : decode cL_law 744 = .ok (.iload 5, 2) := by decide +kernel
theorem dL_law_746 : decode cL_law 746 = .ok (.ifCond .ne 15, 3) := by decide +kernel
theorem dL_law_749 : decode cL_law 749 = .ok (.aload_n 3, 1) := by decide +kernel
theorem dL_law_750 : decode cL_law 750 = .ok (.iconst 0, 1) := by decide +kernel
theorem dL_law_751 : decode cL_law 751 = .ok (.laload, 1) := by decide +kernel
theorem dL_law_752 : decode cL_law 752 = .ok (.iload 6, 2) := by decide +kernel
theorem dL_law_754 : decode cL_law 754 = .ok (.i2l, 1) := by decide +kernel
theorem dL_law_755 : decode cL_law 755 = .ok (.lcmp, 1) := by decide +kernel
theorem dL_law_756 : decode cL_law 756 = .ok (.ifCond .eq 5, 3) := by decide +kernel
theorem dL_law_759 : decode cL_law 759 = .ok (.iconst 0, 1) := by decide +kernel
theorem dL_law_760 : decode cL_law 760 = .ok (.ireturn, 1) := by decide +kernel
theorem dL_law_761 : decode cL_law 761 = .ok (.goto 734, 3) := by decide +kernel
theorem dL_law_764 : decode cL_law 764 = .ok (.aload_n 1, 1) := by decide +kernel
theorem dL_law_765 : decode cL_law 765 = .ok (.aload_n 0, 1) := by decide +kernel
theorem dL_law_766 : decode cL_law 766 = .ok (.iload 4, 2) := by decide +kernel
theorem dL_law_768 : decode cL_law 768 = .ok (.iconst 1, 1) := by decide +kernel
theorem dL_law_769 : decode cL_law 769 = .ok (.iadd, 1) := by decide +kernel
theorem dL_law_770 : decode cL_law 770 = .ok (.iaload, 1) := by decide +kernel
theorem dL_law_771 : decode cL_law 771 = .ok (.aload_n 0, 1) := by decide +kernel
theorem dL_law_772 : decode cL_law 772 = .ok (.iload 4, 2) := by decide +kernel
theorem dL_law_774 : decode cL_law 774 = .ok (.iconst 2, 1) := by decide +kernel
theorem dL_law_775 : decode cL_law 775 = .ok (.iadd, 1) := by decide +kernel
theorem dL_law_776 : decode cL_law 776 = .ok (.iaload, 1) := by decide +kernel
theorem dL_law_777 : decode cL_law 777 = .ok (.aload_n 3, 1) := by decide +kernel
theorem dL_law_778 : decode cL_law 778 = .ok (.invokestatic 118, 3) := by decide +kernel
theorem dL_law_781 : decode cL_law 781 = .ok (.istore 5, 2) := by decide +kernel
theorem dL_law_783 : decode cL_law 783 = .ok (.aload_n 2, 1) := by decide +kernel
theorem dL_law_784 : decode cL_law 784 = .ok (.aload_n 0, 1) := by decide +kernel
theorem dL_law_785 : decode cL_law 785 = .ok (.iload 4, 2) := by decide +kernel
theorem dL_law_787 : decode cL_law 787 = .ok (.iconst 1, 1) := by decide +kernel
theorem dL_law_788 : decode cL_law 788 = .ok (.iadd, 1) := by decide +kernel
theorem dL_law_789 : decode cL_law 789 = .ok (.iaload, 1) := by decide +kernel
theorem dL_law_790 : decode cL_law 790 = .ok (.aload_n 0, 1) := by decide +kernel
theorem dL_law_791 : decode cL_law 791 = .ok (.iload 4, 2) := by decide +kernel
theorem dL_law_793 : decode cL_law 793 = .ok (.iconst 2, 1) := by decide +kernel
theorem dL_law_794 : decode cL_law 794 = .ok (.iadd, 1) := by decide +kernel
theorem dL_law_795 : decode cL_law 795 = .ok (.iaload, 1) := by decide +kernel
theorem dL_law_796 : decode cL_law 796 = .ok (.invokevirtual 120, 3) := by decide +kernel
theorem dL_law_799 : decode cL_law 799 = .ok (.istore 6, 2) := by decide +kernel
theorem dL_law_801 : decode cL_law 801 = .ok (.aload_n 2, 1) := by decide +kernel
theorem dL_law_802 : decode cL_law 802 = .ok (.invokevirtual 88, 3) := by decide +kernel
theorem dL_law_805 : decode cL_law 805 = .ok (.iload 5, 2) := by decide +kernel
theorem dL_law_807 : decode cL_law 807 = .ok (.if_icmp .eq 5, 3) := by decide +kernel
theorem dL_law_810 : decode cL_law 810 = .ok (.iconst 0, 1) := by decide +kernel
theorem dL_law_811 : decode cL_law 811 = .ok (.ireturn, 1) := by decide +kernel
theorem dL_law_812 : decode cL_law 812 = .ok (.iload 5, 2) := by decide +kernel
theorem dL_law_814 : decode cL_law 814 = .ok (.ifCond .ne 15, 3) := by decide +kernel
theorem dL_law_817 : decode cL_law 817 = .ok (.aload_n 3, 1) := by decide +kernel
theorem dL_law_818 : decode cL_law 818 = .ok (.iconst 0, 1) := by decide +kernel
theorem dL_law_819 : decode cL_law 819 = .ok (.laload, 1) := by decide +kernel
theorem dL_law_820 : decode cL_law 820 = .ok (.iload 6, 2) := by decide +kernel
theorem dL_law_822 : decode cL_law 822 = .ok (.i2l, 1) := by decide +kernel
theorem dL_law_823 : decode cL_law 823 = .ok (.lcmp, 1) := by decide +kernel
theorem dL_law_824 : decode cL_law 824 = .ok (.ifCond .eq 5, 3) := by decide +kernel
theorem dL_law_827 : decode cL_law 827 = .ok (.iconst 0, 1) := by decide +kernel
theorem dL_law_828 : decode cL_law 828 = .ok (.ireturn, 1) := by decide +kernel
theorem dL_law_829 : decode cL_law 829 = .ok (.goto 666, 3) := by decide +kernel
theorem dL_law_832 : decode cL_law 832 = .ok (.aload_n 1, 1) := by decide +kernel
theorem dL_law_833 : decode cL_law 833 = .ok (.aload_n 0, 1) := by decide +kernel
theorem dL_law_834 : decode cL_law 834 = .ok (.iload 4, 2) := by decide +kernel
theorem dL_law_836 : decode cL_law 836 = .ok (.iconst 1, 1) := by decide +kernel
theorem dL_law_837 : decode cL_law 837 = .ok (.iadd, 1) := by decide +kernel
theorem dL_law_838 : decode cL_law 838 = .ok (.iaload, 1) := by decide +kernel
theorem dL_law_839 : decode cL_law 839 = .ok (.aload_n 0, 1) := by decide +kernel
theorem dL_law_840 : decode cL_law 840 = .ok (.iload 4, 2) := by decide +kernel
theorem dL_law_842 : decode cL_law 842 = .ok (.iconst 2, 1) := by decide +kernel
theorem dL_law_843 : decode cL_law 843 = .ok (.iadd, 1) := by decide +kernel
theorem dL_law_844 : decode cL_law 844 = .ok (.iaload, 1) := by decide +kernel
theorem dL_law_845 : decode cL_law 845 = .ok (.aload_n 3, 1) := by decide +kernel
theorem dL_law_846 : decode cL_law 846 = .ok (.invokestatic 121, 3) := by decide +kernel
theorem dL_law_849 : decode cL_law 849 = .ok (.istore 5, 2) := by decide +kernel
theorem dL_law_851 : decode cL_law 851 = .ok (.aload_n 2, 1) := by decide +kernel
theorem dL_law_852 : decode cL_law 852 = .ok (.aload_n 0, 1) := by decide +kernel
theorem dL_law_853 : decode cL_law 853 = .ok (.iload 4, 2) := by decide +kernel
theorem dL_law_855 : decode cL_law 855 = .ok (.iconst 1, 1) := by decide +kernel
theorem dL_law_856 : decode cL_law 856 = .ok (.iadd, 1) := by decide +kernel
theorem dL_law_857 : decode cL_law 857 = .ok (.iaload, 1) := by decide +kernel
theorem dL_law_858 : decode cL_law 858 = .ok (.aload_n 0, 1) := by decide +kernel
theorem dL_law_859 : decode cL_law 859 = .ok (.iload 4, 2) := by decide +kernel
theorem dL_law_861 : decode cL_law 861 = .ok (.iconst 2, 1) := by decide +kernel
theorem dL_law_862 : decode cL_law 862 = .ok (.iadd, 1) := by decide +kernel
theorem dL_law_863 : decode cL_law 863 = .ok (.iaload, 1) := by decide +kernel
theorem dL_law_864 : decode cL_law 864 = .ok (.invokevirtual 123, 3) := by decide +kernel
theorem dL_law_867 : decode cL_law 867 = .ok (.istore 6, 2) := by decide +kernel
theorem dL_law_869 : decode cL_law 869 = .ok (.aload_n 2, 1) := by decide +kernel
theorem dL_law_870 : decode cL_law 870 = .ok (.invokevirtual 88, 3) := by decide +kernel
theorem dL_law_873 : decode cL_law 873 = .ok (.iload 5, 2) := by decide +kernel
theorem dL_law_875 : decode cL_law 875 = .ok (.if_icmp .eq 5, 3) := by decide +kernel
theorem dL_law_878 : decode cL_law 878 = .ok (.iconst 0, 1) := by decide +kernel
theorem dL_law_879 : decode cL_law 879 = .ok (.ireturn, 1) := by decide +kernel
theorem dL_law_880 : decode cL_law 880 = .ok (.iload 5, 2) := by decide +kernel
theorem dL_law_882 : decode cL_law 882 = .ok (.ifCond .ne 15, 3) := by decide +kernel
theorem dL_law_885 : decode cL_law 885 = .ok (.aload_n 3, 1) := by decide +kernel
theorem dL_law_886 : decode cL_law 886 = .ok (.iconst 0, 1) := by decide +kernel
theorem dL_law_887 : decode cL_law 887 = .ok (.laload, 1) := by decide +kernel
theorem dL_law_888 : decode cL_law 888 = .ok (.iload 6, 2) := by decide +kernel
theorem dL_law_890 : decode cL_law 890 = .ok (.i2l, 1) := by decide +kernel
theorem dL_law_891 : decode cL_law 891 = .ok (.lcmp, 1) := by decide +kernel
theorem dL_law_892 : decode cL_law 892 = .ok (.ifCond .eq 5, 3) := by decide +kernel
theorem dL_law_895 : decode cL_law 895 = .ok (.iconst 0, 1) := by decide +kernel
theorem dL_law_896 : decode cL_law 896 = .ok (.ireturn, 1) := by decide +kernel
theorem dL_law_897 : decode cL_law 897 = .ok (.goto 598, 3) := by decide +kernel
theorem dL_law_900 : decode cL_law 900 = .ok (.aload_n 1, 1) := by decide +kernel
theorem dL_law_901 : decode cL_law 901 = .ok (.aload_n 0, 1) := by decide +kernel
theorem dL_law_902 : decode cL_law 902 = .ok (.iload 4, 2) := by decide +kernel
theorem dL_law_904 : decode cL_law 904 = .ok (.iconst 1, 1) := by decide +kernel
theorem dL_law_905 : decode cL_law 905 = .ok (.iadd, 1) := by decide +kernel
theorem dL_law_906 : decode cL_law 906 = .ok (.iaload, 1) := by decide +kernel
theorem dL_law_907 : decode cL_law 907 = .ok (.aload_n 0, 1) := by decide +kernel
theorem dL_law_908 : decode cL_law 908 = .ok (.iload 4, 2) := by decide +kernel
theorem dL_law_910 : decode cL_law 910 = .ok (.iconst 2, 1) := by decide +kernel
theorem dL_law_911 : decode cL_law 911 = .ok (.iadd, 1) := by decide +kernel
theorem dL_law_912 : decode cL_law 912 = .ok (.iaload, 1) := by decide +kernel
theorem dL_law_913 : decode cL_law 913 = .ok (.aload_n 3, 1) := by decide +kernel
theorem dL_law_914 : decode cL_law 914 = .ok (.invokestatic 124, 3) := by decide +kernel
theorem dL_law_917 : decode cL_law 917 = .ok (.istore 5, 2) := by decide +kernel
theorem dL_law_919 : decode cL_law 919 = .ok (.aload_n 2, 1) := by decide +kernel
theorem dL_law_920 : decode cL_law 920 = .ok (.aload_n 0, 1) := by decide +kernel
theorem dL_law_921 : decode cL_law 921 = .ok (.iload 4, 2) := by decide +kernel
theorem dL_law_923 : decode cL_law 923 = .ok (.iconst 1, 1) := by decide +kernel
theorem dL_law_924 : decode cL_law 924 = .ok (.iadd, 1) := by decide +kernel
theorem dL_law_925 : decode cL_law 925 = .ok (.iaload, 1) := by decide +kernel
theorem dL_law_926 : decode cL_law 926 = .ok (.aload_n 0, 1) := by decide +kernel
theorem dL_law_927 : decode cL_law 927 = .ok (.iload 4, 2) := by decide +kernel
theorem dL_law_929 : decode cL_law 929 = .ok (.iconst 2, 1) := by decide +kernel
theorem dL_law_930 : decode cL_law 930 = .ok (.iadd, 1) := by decide +kernel
theorem dL_law_931 : decode cL_law 931 = .ok (.iaload, 1) := by decide +kernel
theorem dL_law_932 : decode cL_law 932 = .ok (.invokevirtual 126, 3) := by decide +kernel
theorem dL_law_935 : decode cL_law 935 = .ok (.istore 6, 2) := by decide +kernel
theorem dL_law_937 : decode cL_law 937 = .ok (.aload_n 2, 1) := by decide +kernel
theorem dL_law_938 : decode cL_law 938 = .ok (.invokevirtual 88, 3) := by decide +kernel
theorem dL_law_941 : decode cL_law 941 = .ok (.iload 5, 2) := by decide +kernel
theorem dL_law_943 : decode cL_law 943 = .ok (.if_icmp .eq 5, 3) := by decide +kernel
theorem dL_law_946 : decode cL_law 946 = .ok (.iconst 0, 1) := by decide +kernel
theorem dL_law_947 : decode cL_law 947 = .ok (.ireturn, 1) := by decide +kernel
theorem dL_law_948 : decode cL_law 948 = .ok (.iload 5, 2) := by decide +kernel
theorem dL_law_950 : decode cL_law 950 = .ok (.ifCond .ne 15, 3) := by decide +kernel
theorem dL_law_953 : decode cL_law 953 = .ok (.aload_n 3, 1) := by decide +kernel
theorem dL_law_954 : decode cL_law 954 = .ok (.iconst 0, 1) := by decide +kernel
theorem dL_law_955 : decode cL_law 955 = .ok (.laload, 1) := by decide +kernel
theorem dL_law_956 : decode cL_law 956 = .ok (.iload 6, 2) := by decide +kernel
theorem dL_law_958 : decode cL_law 958 = .ok (.i2l, 1) := by decide +kernel
theorem dL_law_959 : decode cL_law 959 = .ok (.lcmp, 1) := by decide +kernel
theorem dL_law_960 : decode cL_law 960 = .ok (.ifCond .eq 5, 3) := by decide +kernel
theorem dL_law_963 : decode cL_law 963 = .ok (.iconst 0, 1) := by decide +kernel
theorem dL_law_964 : decode cL_law 964 = .ok (.ireturn, 1) := by decide +kernel
theorem dL_law_965 : decode cL_law 965 = .ok (.goto 530, 3) := by decide +kernel
theorem dL_law_968 : decode cL_law 968 = .ok (.aload_n 1, 1) := by decide +kernel
theorem dL_law_969 : decode cL_law 969 = .ok (.aload_n 0, 1) := by decide +kernel
theorem dL_law_970 : decode cL_law 970 = .ok (.iload 4, 2) := by decide +kernel
theorem dL_law_972 : decode cL_law 972 = .ok (.iconst 1, 1) := by decide +kernel
theorem dL_law_973 : decode cL_law 973 = .ok (.iadd, 1) := by decide +kernel
theorem dL_law_974 : decode cL_law 974 = .ok (.iaload, 1) := by decide +kernel
theorem dL_law_975 : decode cL_law 975 = .ok (.aload_n 0, 1) := by decide +kernel
theorem dL_law_976 : decode cL_law 976 = .ok (.iload 4, 2) := by decide +kernel
theorem dL_law_978 : decode cL_law 978 = .ok (.iconst 2, 1) := by decide +kernel
theorem dL_law_979 : decode cL_law 979 = .ok (.iadd, 1) := by decide +kernel
theorem dL_law_980 : decode cL_law 980 = .ok (.iaload, 1) := by decide +kernel
theorem dL_law_981 : decode cL_law 981 = .ok (.aload_n 3, 1) := by decide +kernel
theorem dL_law_982 : decode cL_law 982 = .ok (.invokestatic 127, 3) := by decide +kernel
theorem dL_law_985 : decode cL_law 985 = .ok (.istore 5, 2) := by decide +kernel
theorem dL_law_987 : decode cL_law 987 = .ok (.aload_n 2, 1) := by decide +kernel
theorem dL_law_988 : decode cL_law 988 = .ok (.aload_n 0, 1) := by decide +kernel
theorem dL_law_989 : decode cL_law 989 = .ok (.iload 4, 2) := by decide +kernel
theorem dL_law_991 : decode cL_law 991 = .ok (.iconst 1, 1) := by decide +kernel
theorem dL_law_992 : decode cL_law 992 = .ok (.iadd, 1) := by decide +kernel
theorem dL_law_993 : decode cL_law 993 = .ok (.iaload, 1) := by decide +kernel
theorem dL_law_994 : decode cL_law 994 = .ok (.aload_n 0, 1) := by decide +kernel
theorem dL_law_995 : decode cL_law 995 = .ok (.iload 4, 2) := by decide +kernel
theorem dL_law_997 : decode cL_law 997 = .ok (.iconst 2, 1) := by decide +kernel
theorem dL_law_998 : decode cL_law 998 = .ok (.iadd, 1) := by decide +kernel
theorem dL_law_999 : decode cL_law 999 = .ok (.iaload, 1) := by decide +kernel
theorem dL_law_1000 : decode cL_law 1000 = .ok (.invokevirtual 129, 3) := by decide +kernel
theorem dL_law_1003 : decode cL_law 1003 = .ok (.istore 6, 2) := by decide +kernel
theorem dL_law_1005 : decode cL_law 1005 = .ok (.aload_n 2, 1) := by decide +kernel
theorem dL_law_1006 : decode cL_law 1006 = .ok (.invokevirtual 88, 3) := by decide +kernel
theorem dL_law_1009 : decode cL_law 1009 = .ok (.iload 5, 2) := by decide +kernel
theorem dL_law_1011 : decode cL_law 1011 = .ok (.if_icmp .eq 5, 3) := by decide +kernel
theorem dL_law_1014 : decode cL_law 1014 = .ok (.iconst 0, 1) := by decide +kernel
theorem dL_law_1015 : decode cL_law 1015 = .ok (.ireturn, 1) := by decide +kernel
theorem dL_law_1016 : decode cL_law 1016 = .ok (.iload 5, 2) := by decide +kernel
theorem dL_law_1018 : decode cL_law 1018 = .ok (.ifCond .ne 15, 3) := by decide +kernel
theorem dL_law_1021 : decode cL_law 1021 = .ok (.aload_n 3, 1) := by decide +kernel
theorem dL_law_1022 : decode cL_law 1022 = .ok (.iconst 0, 1) := by decide +kernel
theorem dL_law_1023 : decode cL_law 1023 = .ok (.laload, 1) := by decide +kernel
theorem dL_law_1024 : decode cL_law 1024 = .ok (.iload 6, 2) := by decide +kernel
theorem dL_law_1026 : decode cL_law 1026 = .ok (.i2l, 1) := by decide +kernel
theorem dL_law_1027 : decode cL_law 1027 = .ok (.lcmp, 1) := by decide +kernel
theorem dL_law_1028 : decode cL_law 1028 = .ok (.ifCond .eq 5, 3) := by decide +kernel
theorem dL_law_1031 : decode cL_law 1031 = .ok (.iconst 0, 1) := by decide +kernel
theorem dL_law_1032 : decode cL_law 1032 = .ok (.ireturn, 1) := by decide +kernel
theorem dL_law_1033 : decode cL_law 1033 = .ok (.goto 462, 3) := by decide +kernel
theorem dL_law_1036 : decode cL_law 1036 = .ok (.aload_n 1, 1) := by decide +kernel
theorem dL_law_1037 : decode cL_law 1037 = .ok (.aload_n 0, 1) := by decide +kernel
theorem dL_law_1038 : decode cL_law 1038 = .ok (.iload 4, 2) := by decide +kernel
theorem dL_law_1040 : decode cL_law 1040 = .ok (.iconst 1, 1) := by decide +kernel
theorem dL_law_1041 : decode cL_law 1041 = .ok (.iadd, 1) := by decide +kernel
theorem dL_law_1042 : decode cL_law 1042 = .ok (.iaload, 1) := by decide +kernel
theorem dL_law_1043 : decode cL_law 1043 = .ok (.aload_n 3, 1) := by decide +kernel
theorem dL_law_1044 : decode cL_law 1044 = .ok (.invokestatic 130, 3) := by decide +kernel
theorem dL_law_1047 : decode cL_law 1047 = .ok (.istore 5, 2) := by decide +kernel
theorem dL_law_1049 : decode cL_law 1049 = .ok (.aload_n 2, 1) := by decide +kernel
theorem dL_law_1050 : decode cL_law 1050 = .ok (.aload_n 0, 1) := by decide +kernel
theorem dL_law_1051 : decode cL_law 1051 = .ok (.iload 4, 2) := by decide +kernel
theorem dL_law_1053 : decode cL_law 1053 = .ok (.iconst 1, 1) := by decide +kernel
theorem dL_law_1054 : decode cL_law 1054 = .ok (.iadd, 1) := by decide +kernel
theorem dL_law_1055 : decode cL_law 1055 = .ok (.iaload, 1) := by decide +kernel
theorem dL_law_1056 : decode cL_law 1056 = .ok (.invokevirtual 132, 3) := by decide +kernel
theorem dL_law_1059 : decode cL_law 1059 = .ok (.istore 6, 2) := by decide +kernel
theorem dL_law_1061 : decode cL_law 1061 = .ok (.aload_n 2, 1) := by decide +kernel
theorem dL_law_1062 : decode cL_law 1062 = .ok (.invokevirtual 88, 3) := by decide +kernel
theorem dL_law_1065 : decode cL_law 1065 = .ok (.iload 5, 2) := by decide +kernel
theorem dL_law_1067 : decode cL_law 1067 = .ok (.if_icmp .eq 5, 3) := by decide +kernel
theorem dL_law_1070 : decode cL_law 1070 = .ok (.iconst 0, 1) := by decide +kernel
theorem dL_law_1071 : decode cL_law 1071 = .ok (.ireturn, 1) := by decide +kernel
theorem dL_law_1072 : decode cL_law 1072 = .ok (.iload 5, 2) := by decide +kernel
theorem dL_law_1074 : decode cL_law 1074 = .ok (.ifCond .ne 15, 3) := by decide +kernel
theorem dL_law_1077 : decode cL_law 1077 = .ok (.aload_n 3, 1) := by decide +kernel
theorem dL_law_1078 : decode cL_law 1078 = .ok (.iconst 0, 1) := by decide +kernel
theorem dL_law_1079 : decode cL_law 1079 = .ok (.laload, 1) := by decide +kernel
theorem dL_law_1080 : decode cL_law 1080 = .ok (.iload 6, 2) := by decide +kernel
theorem dL_law_1082 : decode cL_law 1082 = .ok (.i2l, 1) := by decide +kernel
theorem dL_law_1083 : decode cL_law 1083 = .ok (.lcmp, 1) := by decide +kernel
theorem dL_law_1084 : decode cL_law 1084 = .ok (.ifCond .eq 5, 3) := by decide +kernel
theorem dL_law_1087 : decode cL_law 1087 = .ok (.iconst 0, 1) := by decide +kernel
theorem dL_law_1088 : decode cL_law 1088 = .ok (.ireturn, 1) := by decide +kernel
theorem dL_law_1089 : decode cL_law 1089 = .ok (.goto 406, 3) := by decide +kernel
theorem dL_law_1092 : decode cL_law 1092 = .ok (.aload_n 1, 1) := by decide +kernel
theorem dL_law_1093 : decode cL_law 1093 = .ok (.aload_n 0, 1) := by decide +kernel
theorem dL_law_1094 : decode cL_law 1094 = .ok (.iload 4, 2) := by decide +kernel
theorem dL_law_1096 : decode cL_law 1096 = .ok (.iconst 1, 1) := by decide +kernel
theorem dL_law_1097 : decode cL_law 1097 = .ok (.iadd, 1) := by decide +kernel
theorem dL_law_1098 : decode cL_law 1098 = .ok (.iaload, 1) := by decide +kernel
theorem dL_law_1099 : decode cL_law 1099 = .ok (.aload_n 3, 1) := by decide +kernel
theorem dL_law_1100 : decode cL_law 1100 = .ok (.invokestatic 133, 3) := by decide +kernel
theorem dL_law_1103 : decode cL_law 1103 = .ok (.istore 5, 2) := by decide +kernel
theorem dL_law_1105 : decode cL_law 1105 = .ok (.aload_n 2, 1) := by decide +kernel
theorem dL_law_1106 : decode cL_law 1106 = .ok (.aload_n 0, 1) := by decide +kernel
theorem dL_law_1107 : decode cL_law 1107 = .ok (.iload 4, 2) := by decide +kernel
theorem dL_law_1109 : decode cL_law 1109 = .ok (.iconst 1, 1) := by decide +kernel
theorem dL_law_1110 : decode cL_law 1110 = .ok (.iadd, 1) := by decide +kernel
theorem dL_law_1111 : decode cL_law 1111 = .ok (.iaload, 1) := by decide +kernel
theorem dL_law_1112 : decode cL_law 1112 = .ok (.invokevirtual 135, 3) := by decide +kernel
theorem dL_law_1115 : decode cL_law 1115 = .ok (.istore 6, 2) := by decide +kernel
theorem dL_law_1117 : decode cL_law 1117 = .ok (.aload_n 2, 1) := by decide +kernel
theorem dL_law_1118 : decode cL_law 1118 = .ok (.invokevirtual 88, 3) := by decide +kernel
theorem dL_law_1121 : decode cL_law 1121 = .ok (.iload 5, 2) := by decide +kernel
theorem dL_law_1123 : decode cL_law 1123 = .ok (.if_icmp .eq 5, 3) := by decide +kernel
theorem dL_law_1126 : decode cL_law 1126 = .ok (.iconst 0, 1) := by decide +kernel
theorem dL_law_1127 : decode cL_law 1127 = .ok (.ireturn, 1) := by decide +kernel
theorem dL_law_1128 : decode cL_law 1128 = .ok (.iload 5, 2) := by decide +kernel
theorem dL_law_1130 : decode cL_law 1130 = .ok (.ifCond .ne 15, 3) := by decide +kernel
theorem dL_law_1133 : decode cL_law 1133 = .ok (.aload_n 3, 1) := by decide +kernel
theorem dL_law_1134 : decode cL_law 1134 = .ok (.iconst 0, 1) := by decide +kernel
theorem dL_law_1135 : decode cL_law 1135 = .ok (.laload, 1) := by decide +kernel
theorem dL_law_1136 : decode cL_law 1136 = .ok (.iload 6, 2) := by decide +kernel
theorem dL_law_1138 : decode cL_law 1138 = .ok (.i2l, 1) := by decide +kernel
theorem dL_law_1139 : decode cL_law 1139 = .ok (.lcmp, 1) := by decide +kernel
theorem dL_law_1140 : decode cL_law 1140 = .ok (.ifCond .eq 5, 3) := by decide +kernel
theorem dL_law_1143 : decode cL_law 1143 = .ok (.iconst 0, 1) := by decide +kernel
theorem dL_law_1144 : decode cL_law 1144 = .ok (.ireturn, 1) := by decide +kernel
theorem dL_law_1145 : decode cL_law 1145 = .ok (.goto 350, 3) := by decide +kernel
theorem dL_law_1148 : decode cL_law 1148 = .ok (.aload_n 1, 1) := by decide +kernel
theorem dL_law_1149 : decode cL_law 1149 = .ok (.aload_n 0, 1) := by decide +kernel
theorem dL_law_1150 : decode cL_law 1150 = .ok (.iload 4, 2) := by decide +kernel
theorem dL_law_1152 : decode cL_law 1152 = .ok (.iconst 1, 1) := by decide +kernel
theorem dL_law_1153 : decode cL_law 1153 = .ok (.iadd, 1) := by decide +kernel
theorem dL_law_1154 : decode cL_law 1154 = .ok (.iaload, 1) := by decide +kernel
theorem dL_law_1155 : decode cL_law 1155 = .ok (.aload_n 3, 1) := by decide +kernel
theorem dL_law_1156 : decode cL_law 1156 = .ok (.invokestatic 136, 3) := by decide +kernel
theorem dL_law_1159 : decode cL_law 1159 = .ok (.istore 5, 2) := by decide +kernel
theorem dL_law_1161 : decode cL_law 1161 = .ok (.aload_n 2, 1) := by decide +kernel
theorem dL_law_1162 : decode cL_law 1162 = .ok (.aload_n 0, 1) := by decide +kernel
theorem dL_law_1163 : decode cL_law 1163 = .ok (.iload 4, 2) := by decide +kernel
theorem dL_law_1165 : decode cL_law 1165 = .ok (.iconst 1, 1) := by decide +kernel
theorem dL_law_1166 : decode cL_law 1166 = .ok (.iadd, 1) := by decide +kernel
theorem dL_law_1167 : decode cL_law 1167 = .ok (.iaload, 1) := by decide +kernel
theorem dL_law_1168 : decode cL_law 1168 = .ok (.invokevirtual 138, 3) := by decide +kernel
theorem dL_law_1171 : decode cL_law 1171 = .ok (.istore 6, 2) := by decide +kernel
theorem dL_law_1173 : decode cL_law 1173 = .ok (.aload_n 2, 1) := by decide +kernel
theorem dL_law_1174 : decode cL_law 1174 = .ok (.invokevirtual 88, 3) := by decide +kernel
theorem dL_law_1177 : decode cL_law 1177 = .ok (.iload 5, 2) := by decide +kernel
theorem dL_law_1179 : decode cL_law 1179 = .ok (.if_icmp .eq 5, 3) := by decide +kernel
theorem dL_law_1182 : decode cL_law 1182 = .ok (.iconst 0, 1) := by decide +kernel
theorem dL_law_1183 : decode cL_law 1183 = .ok (.ireturn, 1) := by decide +kernel
theorem dL_law_1184 : decode cL_law 1184 = .ok (.iload 5, 2) := by decide +kernel
theorem dL_law_1186 : decode cL_law 1186 = .ok (.ifCond .ne 15, 3) := by decide +kernel
theorem dL_law_1189 : decode cL_law 1189 = .ok (.aload_n 3, 1) := by decide +kernel
theorem dL_law_1190 : decode cL_law 1190 = .ok (.iconst 0, 1) := by decide +kernel
theorem dL_law_1191 : decode cL_law 1191 = .ok (.laload, 1) := by decide +kernel
theorem dL_law_1192 : decode cL_law 1192 = .ok (.iload 6, 2) := by decide +kernel
theorem dL_law_1194 : decode cL_law 1194 = .ok (.i2l, 1) := by decide +kernel
theorem dL_law_1195 : decode cL_law 1195 = .ok (.lcmp, 1) := by decide +kernel
theorem dL_law_1196 : decode cL_law 1196 = .ok (.ifCond .eq 5, 3) := by decide +kernel
theorem dL_law_1199 : decode cL_law 1199 = .ok (.iconst 0, 1) := by decide +kernel
theorem dL_law_1200 : decode cL_law 1200 = .ok (.ireturn, 1) := by decide +kernel
theorem dL_law_1201 : decode cL_law 1201 = .ok (.goto 294, 3) := by decide +kernel
theorem dL_law_1204 : decode cL_law 1204 = .ok (.aload_n 1, 1) := by decide +kernel
theorem dL_law_1205 : decode cL_law 1205 = .ok (.aload_n 0, 1) := by decide +kernel
theorem dL_law_1206 : decode cL_law 1206 = .ok (.iload 4, 2) := by decide +kernel
theorem dL_law_1208 : decode cL_law 1208 = .ok (.iconst 1, 1) := by decide +kernel
theorem dL_law_1209 : decode cL_law 1209 = .ok (.iadd, 1) := by decide +kernel
theorem dL_law_1210 : decode cL_law 1210 = .ok (.iaload, 1) := by decide +kernel
theorem dL_law_1211 : decode cL_law 1211 = .ok (.aload_n 3, 1) := by decide +kernel
theorem dL_law_1212 : decode cL_law 1212 = .ok (.invokestatic 139, 3) := by decide +kernel
theorem dL_law_1215 : decode cL_law 1215 = .ok (.istore 5, 2) := by decide +kernel
theorem dL_law_1217 : decode cL_law 1217 = .ok (.aload_n 2, 1) := by decide +kernel
theorem dL_law_1218 : decode cL_law 1218 = .ok (.aload_n 0, 1) := by decide +kernel
theorem dL_law_1219 : decode cL_law 1219 = .ok (.iload 4, 2) := by decide +kernel
theorem dL_law_1221 : decode cL_law 1221 = .ok (.iconst 1, 1) := by decide +kernel
theorem dL_law_1222 : decode cL_law 1222 = .ok (.iadd, 1) := by decide +kernel
theorem dL_law_1223 : decode cL_law 1223 = .ok (.iaload, 1) := by decide +kernel
theorem dL_law_1224 : decode cL_law 1224 = .ok (.invokevirtual 141, 3) := by decide +kernel
theorem dL_law_1227 : decode cL_law 1227 = .ok (.istore 6, 2) := by decide +kernel
theorem dL_law_1229 : decode cL_law 1229 = .ok (.aload_n 2, 1) := by decide +kernel
theorem dL_law_1230 : decode cL_law 1230 = .ok (.invokevirtual 88, 3) := by decide +kernel
theorem dL_law_1233 : decode cL_law 1233 = .ok (.iload 5, 2) := by decide +kernel
theorem dL_law_1235 : decode cL_law 1235 = .ok (.if_icmp .eq 5, 3) := by decide +kernel
theorem dL_law_1238 : decode cL_law 1238 = .ok (.iconst 0, 1) := by decide +kernel
theorem dL_law_1239 : decode cL_law 1239 = .ok (.ireturn, 1) := by decide +kernel
theorem dL_law_1240 : decode cL_law 1240 = .ok (.iload 5, 2) := by decide +kernel
theorem dL_law_1242 : decode cL_law 1242 = .ok (.ifCond .ne 15, 3) := by decide +kernel
theorem dL_law_1245 : decode cL_law 1245 = .ok (.aload_n 3, 1) := by decide +kernel
theorem dL_law_1246 : decode cL_law 1246 = .ok (.iconst 0, 1) := by decide +kernel
theorem dL_law_1247 : decode cL_law 1247 = .ok (.laload, 1) := by decide +kernel
theorem dL_law_1248 : decode cL_law 1248 = .ok (.iload 6, 2) := by decide +kernel
theorem dL_law_1250 : decode cL_law 1250 = .ok (.i2l, 1) := by decide +kernel
theorem dL_law_1251 : decode cL_law 1251 = .ok (.lcmp, 1) := by decide +kernel
theorem dL_law_1252 : decode cL_law 1252 = .ok (.ifCond .eq 5, 3) := by decide +kernel
theorem dL_law_1255 : decode cL_law 1255 = .ok (.iconst 0, 1) := by decide +kernel
theorem dL_law_1256 : decode cL_law 1256 = .ok (.ireturn, 1) := by decide +kernel
theorem dL_law_1257 : decode cL_law 1257 = .ok (.goto 238, 3) := by decide +kernel
theorem dL_law_1260 : decode cL_law 1260 = .ok (.aload_n 1, 1) := by decide +kernel
theorem dL_law_1261 : decode cL_law 1261 = .ok (.aload_n 0, 1) := by decide +kernel
theorem dL_law_1262 : decode cL_law 1262 = .ok (.iload 4, 2) := by decide +kernel
theorem dL_law_1264 : decode cL_law 1264 = .ok (.iconst 1, 1) := by decide +kernel
theorem dL_law_1265 : decode cL_law 1265 = .ok (.iadd, 1) := by decide +kernel
theorem dL_law_1266 : decode cL_law 1266 = .ok (.iaload, 1) := by decide +kernel
theorem dL_law_1267 : decode cL_law 1267 = .ok (.aload_n 0, 1) := by decide +kernel
theorem dL_law_1268 : decode cL_law 1268 = .ok (.iload 4, 2) := by decide +kernel
theorem dL_law_1270 : decode cL_law 1270 = .ok (.iconst 2, 1) := by decide +kernel
theorem dL_law_1271 : decode cL_law 1271 = .ok (.iadd, 1) := by decide +kernel
theorem dL_law_1272 : decode cL_law 1272 = .ok (.iaload, 1) := by decide +kernel
theorem dL_law_1273 : decode cL_law 1273 = .ok (.aload_n 3, 1) := by decide +kernel
theorem dL_law_1274 : decode cL_law 1274 = .ok (.invokestatic 142, 3) := by decide +kernel
theorem dL_law_1277 : decode cL_law 1277 = .ok (.istore 5, 2) := by decide +kernel
theorem dL_law_1279 : decode cL_law 1279 = .ok (.aload_n 2, 1) := by decide +kernel
theorem dL_law_1280 : decode cL_law 1280 = .ok (.aload_n 0, 1) := by decide +kernel
theorem dL_law_1281 : decode cL_law 1281 = .ok (.iload 4, 2) := by decide +kernel
theorem dL_law_1283 : decode cL_law 1283 = .ok (.iconst 1, 1) := by decide +kernel
theorem dL_law_1284 : decode cL_law 1284 = .ok (.iadd, 1) := by decide +kernel
theorem dL_law_1285 : decode cL_law 1285 = .ok (.iaload, 1) := by decide +kernel
theorem dL_law_1286 : decode cL_law 1286 = .ok (.aload_n 0, 1) := by decide +kernel
theorem dL_law_1287 : decode cL_law 1287 = .ok (.iload 4, 2) := by decide +kernel
theorem dL_law_1289 : decode cL_law 1289 = .ok (.iconst 2, 1) := by decide +kernel
theorem dL_law_1290 : decode cL_law 1290 = .ok (.iadd, 1) := by decide +kernel
theorem dL_law_1291 : decode cL_law 1291 = .ok (.iaload, 1) := by decide +kernel
theorem dL_law_1292 : decode cL_law 1292 = .ok (.invokevirtual 144, 3) := by decide +kernel
theorem dL_law_1295 : decode cL_law 1295 = .ok (.istore 6, 2) := by decide +kernel
theorem dL_law_1297 : decode cL_law 1297 = .ok (.aload_n 2, 1) := by decide +kernel
theorem dL_law_1298 : decode cL_law 1298 = .ok (.invokevirtual 88, 3) := by decide +kernel
theorem dL_law_1301 : decode cL_law 1301 = .ok (.iload 5, 2) := by decide +kernel
theorem dL_law_1303 : decode cL_law 1303 = .ok (.if_icmp .eq 5, 3) := by decide +kernel
theorem dL_law_1306 : decode cL_law 1306 = .ok (.iconst 0, 1) := by decide +kernel
theorem dL_law_1307 : decode cL_law 1307 = .ok (.ireturn, 1) := by decide +kernel
theorem dL_law_1308 : decode cL_law 1308 = .ok (.iload 5, 2) := by decide +kernel
theorem dL_law_1310 : decode cL_law 1310 = .ok (.ifCond .ne 15, 3) := by decide +kernel
theorem dL_law_1313 : decode cL_law 1313 = .ok (.aload_n 3, 1) := by decide +kernel
theorem dL_law_1314 : decode cL_law 1314 = .ok (.iconst 0, 1) := by decide +kernel
theorem dL_law_1315 : decode cL_law 1315 = .ok (.laload, 1) := by decide +kernel
theorem dL_law_1316 : decode cL_law 1316 = .ok (.iload 6, 2) := by decide +kernel
theorem dL_law_1318 : decode cL_law 1318 = .ok (.i2l, 1) := by decide +kernel
theorem dL_law_1319 : decode cL_law 1319 = .ok (.lcmp, 1) := by decide +kernel
theorem dL_law_1320 : decode cL_law 1320 = .ok (.ifCond .eq 5, 3) := by decide +kernel
theorem dL_law_1323 : decode cL_law 1323 = .ok (.iconst 0, 1) := by decide +kernel
theorem dL_law_1324 : decode cL_law 1324 = .ok (.ireturn, 1) := by decide +kernel
theorem dL_law_1325 : decode cL_law 1325 = .ok (.goto 170, 3) := by decide +kernel
theorem dL_law_1328 : decode cL_law 1328 = .ok (.aload_n 1, 1) := by decide +kernel
theorem dL_law_1329 : decode cL_law 1329 = .ok (.aload_n 0, 1) := by decide +kernel
theorem dL_law_1330 : decode cL_law 1330 = .ok (.iload 4, 2) := by decide +kernel
theorem dL_law_1332 : decode cL_law 1332 = .ok (.iconst 1, 1) := by decide +kernel
theorem dL_law_1333 : decode cL_law 1333 = .ok (.iadd, 1) := by decide +kernel
theorem dL_law_1334 : decode cL_law 1334 = .ok (.iaload, 1) := by decide +kernel
theorem dL_law_1335 : decode cL_law 1335 = .ok (.aload_n 3, 1) := by decide +kernel
theorem dL_law_1336 : decode cL_law 1336 = .ok (.invokestatic 145, 3) := by decide +kernel
theorem dL_law_1339 : decode cL_law 1339 = .ok (.istore 5, 2) := by decide +kernel
theorem dL_law_1341 : decode cL_law 1341 = .ok (.aload_n 2, 1) := by decide +kernel
theorem dL_law_1342 : decode cL_law 1342 = .ok (.aload_n 0, 1) := by decide +kernel
theorem dL_law_1343 : decode cL_law 1343 = .ok (.iload 4, 2) := by decide +kernel
theorem dL_law_1345 : decode cL_law 1345 = .ok (.iconst 1, 1) := by decide +kernel
theorem dL_law_1346 : decode cL_law 1346 = .ok (.iadd, 1) := by decide +kernel
theorem dL_law_1347 : decode cL_law 1347 = .ok (.iaload, 1) := by decide +kernel
theorem dL_law_1348 : decode cL_law 1348 = .ok (.invokevirtual 147, 3) := by decide +kernel
theorem dL_law_1351 : decode cL_law 1351 = .ok (.istore 6, 2) := by decide +kernel
theorem dL_law_1353 : decode cL_law 1353 = .ok (.aload_n 2, 1) := by decide +kernel
theorem dL_law_1354 : decode cL_law 1354 = .ok (.invokevirtual 88, 3) := by decide +kernel
theorem dL_law_1357 : decode cL_law 1357 = .ok (.iload 5, 2) := by decide +kernel
theorem dL_law_1359 : decode cL_law 1359 = .ok (.if_icmp .eq 5, 3) := by decide +kernel
theorem dL_law_1362 : decode cL_law 1362 = .ok (.iconst 0, 1) := by decide +kernel
theorem dL_law_1363 : decode cL_law 1363 = .ok (.ireturn, 1) := by decide +kernel
theorem dL_law_1364 : decode cL_law 1364 = .ok (.iload 5, 2) := by decide +kernel
theorem dL_law_1366 : decode cL_law 1366 = .ok (.ifCond .ne 15, 3) := by decide +kernel
theorem dL_law_1369 : decode cL_law 1369 = .ok (.aload_n 3, 1) := by decide +kernel
theorem dL_law_1370 : decode cL_law 1370 = .ok (.iconst 0, 1) := by decide +kernel
theorem dL_law_1371 : decode cL_law 1371 = .ok (.laload, 1) := by decide +kernel
theorem dL_law_1372 : decode cL_law 1372 = .ok (.iload 6, 2) := by decide +kernel
theorem dL_law_1374 : decode cL_law 1374 = .ok (.i2l, 1) := by decide +kernel
theorem dL_law_1375 : decode cL_law 1375 = .ok (.lcmp, 1) := by decide +kernel
theorem dL_law_1376 : decode cL_law 1376 = .ok (.ifCond .eq 5, 3) := by decide +kernel
theorem dL_law_1379 : decode cL_law 1379 = .ok (.iconst 0, 1) := by decide +kernel
theorem dL_law_1380 : decode cL_law 1380 = .ok (.ireturn, 1) := by decide +kernel
theorem dL_law_1381 : decode cL_law 1381 = .ok (.goto 114, 3) := by decide +kernel
theorem dL_law_1384 : decode cL_law 1384 = .ok (.aload_n 1, 1) := by decide +kernel
theorem dL_law_1385 : decode cL_law 1385 = .ok (.aload_n 0, 1) := by decide +kernel
theorem dL_law_1386 : decode cL_law 1386 = .ok (.iload 4, 2) := by decide +kernel
theorem dL_law_1388 : decode cL_law 1388 = .ok (.iconst 1, 1) := by decide +kernel
theorem dL_law_1389 : decode cL_law 1389 = .ok (.iadd, 1) := by decide +kernel
theorem dL_law_1390 : decode cL_law 1390 = .ok (.iaload, 1) := by decide +kernel
theorem dL_law_1391 : decode cL_law 1391 = .ok (.aload_n 3, 1) := by decide +kernel
theorem dL_law_1392 : decode cL_law 1392 = .ok (.invokestatic 148, 3) := by decide +kernel
theorem dL_law_1395 : decode cL_law 1395 = .ok (.istore 5, 2) := by decide +kernel
theorem dL_law_1397 : decode cL_law 1397 = .ok (.aload_n 2, 1) := by decide +kernel
theorem dL_law_1398 : decode cL_law 1398 = .ok (.aload_n 0, 1) := by decide +kernel
theorem dL_law_1399 : decode cL_law 1399 = .ok (.iload 4, 2) := by decide +kernel
theorem dL_law_1401 : decode cL_law 1401 = .ok (.iconst 1, 1) := by decide +kernel
theorem dL_law_1402 : decode cL_law 1402 = .ok (.iadd, 1) := by decide +kernel
theorem dL_law_1403 : decode cL_law 1403 = .ok (.iaload, 1) := by decide +kernel
theorem dL_law_1404 : decode cL_law 1404 = .ok (.invokevirtual 150, 3) := by decide +kernel
theorem dL_law_1407 : decode cL_law 1407 = .ok (.istore 6, 2) := by decide +kernel
theorem dL_law_1409 : decode cL_law 1409 = .ok (.aload_n 2, 1) := by decide +kernel
theorem dL_law_1410 : decode cL_law 1410 = .ok (.invokevirtual 88, 3) := by decide +kernel
theorem dL_law_1413 : decode cL_law 1413 = .ok (.iload 5, 2) := by decide +kernel
theorem dL_law_1415 : decode cL_law 1415 = .ok (.if_icmp .eq 5, 3) := by decide +kernel
theorem dL_law_1418 : decode cL_law 1418 = .ok (.iconst 0, 1) := by decide +kernel
theorem dL_law_1419 : decode cL_law 1419 = .ok (.ireturn, 1) := by decide +kernel
theorem dL_law_1420 : decode cL_law 1420 = .ok (.iload 5, 2) := by decide +kernel
theorem dL_law_1422 : decode cL_law 1422 = .ok (.ifCond .ne 15, 3) := by decide +kernel
theorem dL_law_1425 : decode cL_law 1425 = .ok (.aload_n 3, 1) := by decide +kernel
theorem dL_law_1426 : decode cL_law 1426 = .ok (.iconst 0, 1) := by decide +kernel
theorem dL_law_1427 : decode cL_law 1427 = .ok (.laload, 1) := by decide +kernel
theorem dL_law_1428 : decode cL_law 1428 = .ok (.iload 6, 2) := by decide +kernel
theorem dL_law_1430 : decode cL_law 1430 = .ok (.i2l, 1) := by decide +kernel
theorem dL_law_1431 : decode cL_law 1431 = .ok (.lcmp, 1) := by decide +kernel
theorem dL_law_1432 : decode cL_law 1432 = .ok (.ifCond .eq 5, 3) := by decide +kernel
theorem dL_law_1435 : decode cL_law 1435 = .ok (.iconst 0, 1) := by decide +kernel
theorem dL_law_1436 : decode cL_law 1436 = .ok (.ireturn, 1) := by decide +kernel
theorem dL_law_1437 : decode cL_law 1437 = .ok (.goto 58, 3) := by decide +kernel
theorem dL_law_1440 : decode cL_law 1440 = .ok (.aload_n 1, 1) := by decide +kernel
theorem dL_law_1441 : decode cL_law 1441 = .ok (.invokevirtual 151, 3) := by decide +kernel
theorem dL_law_1444 : decode cL_law 1444 = .ok (.dstore 5, 2) := by decide +kernel
theorem dL_law_1446 : decode cL_law 1446 = .ok (.aload_n 2, 1) := by decide +kernel
theorem dL_law_1447 : decode cL_law 1447 = .ok (.invokevirtual 155, 3) := by decide +kernel
theorem dL_law_1450 : decode cL_law 1450 = .ok (.dstore 7, 2) := by decide +kernel
theorem dL_law_1452 : decode cL_law 1452 = .ok (.dload 5, 2) := by decide +kernel
theorem dL_law_1454 : decode cL_law 1454 = .ok (.dload 7, 2) := by decide +kernel
theorem dL_law_1456 : decode cL_law 1456 = .ok (.dcmp .l, 1) := by decide +kernel
theorem dL_law_1457 : decode cL_law 1457 = .ok (.ifCond .eq 21, 3) := by decide +kernel
theorem dL_law_1460 : decode cL_law 1460 = .ok (.dload 5, 2) := by decide +kernel
theorem dL_law_1462 : decode cL_law 1462 = .ok (.dload 5, 2) := by decide +kernel
theorem dL_law_1464 : decode cL_law 1464 = .ok (.dcmp .l, 1) := by decide +kernel
theorem dL_law_1465 : decode cL_law 1465 = .ok (.ifCond .eq 11, 3) := by decide +kernel
theorem dL_law_1468 : decode cL_law 1468 = .ok (.dload 7, 2) := by decide +kernel
theorem dL_law_1470 : decode cL_law 1470 = .ok (.dload 7, 2) := by decide +kernel
theorem dL_law_1472 : decode cL_law 1472 = .ok (.dcmp .l, 1) := by decide +kernel
theorem dL_law_1473 : decode cL_law 1473 = .ok (.ifCond .ne 5, 3) := by decide +kernel
theorem dL_law_1476 : decode cL_law 1476 = .ok (.iconst 0, 1) := by decide +kernel
theorem dL_law_1477 : decode cL_law 1477 = .ok (.ireturn, 1) := by decide +kernel
theorem dL_law_1478 : decode cL_law 1478 = .ok (.goto 17, 3) := by decide +kernel
theorem dL_law_1481 : decode cL_law 1481 = .ok (.aload_n 1, 1) := by decide +kernel
theorem dL_law_1482 : decode cL_law 1482 = .ok (.invokevirtual 156, 3) := by decide +kernel
theorem dL_law_1485 : decode cL_law 1485 = .ok (.aload_n 2, 1) := by decide +kernel
theorem dL_law_1486 : decode cL_law 1486 = .ok (.invokevirtual 160, 3) := by decide +kernel
theorem dL_law_1489 : decode cL_law 1489 = .ok (.lcmp, 1) := by decide +kernel
theorem dL_law_1490 : decode cL_law 1490 = .ok (.ifCond .eq 5, 3) := by decide +kernel
theorem dL_law_1493 : decode cL_law 1493 = .ok (.iconst 0, 1) := by decide +kernel
theorem dL_law_1494 : decode cL_law 1494 = .ok (.ireturn, 1) := by decide +kernel
theorem dL_law_1495 : decode cL_law 1495 = .ok (.iinc 4 4, 3) := by decide +kernel
theorem dL_law_1498 : decode cL_law 1498 = .ok (.goto (-1475), 3) := by decide +kernel
theorem dL_law_1501 : decode cL_law 1501 = .ok (.iconst 1, 1) := by decide +kernel
theorem dL_law_1502 : decode cL_law 1502 = .ok (.ireturn, 1) := by decide +kernel
