theorem dX0_init_0 : decode cX0_init 0 = .ok (.aload_n 0, 1) := by decide +kernel
theorem dX0_init_1 : decode cX0_init 1 = .ok (.invokespecial 3, 3) := by decide +kernel
theorem dX0_init_4 : decode cX0_init 4 = .ok (.return_, 1) := by decide +kernel
theorem dX0_begin_0 : decode cX0_begin 0 = .ok (.aload_n 0, 1) := by decide +kernel
theorem dX0_begin_1 : decode cX0_begin 1 = .ok (.iload_n 1, 1) := by decide +kernel
theorem dX0_begin_2 : decode cX0_begin 2 = .ok (.putfield 9, 3) := by decide +kernel
theorem dX0_begin_5 : decode cX0_begin 5 = .ok (.aload_n 0, 1) := by decide +kernel
theorem dX0_begin_6 : decode cX0_begin 6 = .ok (.iload_n 2, 1) := by decide +kernel
theorem dX0_begin_7 : decode cX0_begin 7 = .ok (.putfield 15, 3) := by decide +kernel
theorem dX0_begin_10 : decode cX0_begin 10 = .ok (.aload_n 0, 1) := by decide +kernel
theorem dX0_begin_11 : decode cX0_begin 11 = .ok (.iconst (-1), 1) := by decide +kernel
theorem dX0_begin_12 : decode cX0_begin 12 = .ok (.putfield 18, 3) := by decide +kernel
theorem dX0_begin_15 : decode cX0_begin 15 = .ok (.aload_n 0, 1) := by decide +kernel
theorem dX0_begin_16 : decode cX0_begin 16 = .ok (.iconst 0, 1) := by decide +kernel
theorem dX0_begin_17 : decode cX0_begin 17 = .ok (.putfield 21, 3) := by decide +kernel
theorem dX0_begin_20 : decode cX0_begin 20 = .ok (.aload_n 0, 1) := by decide +kernel
theorem dX0_begin_21 : decode cX0_begin 21 = .ok (.iconst 1, 1) := by decide +kernel
theorem dX0_begin_22 : decode cX0_begin 22 = .ok (.putfield 24, 3) := by decide +kernel
theorem dX0_begin_25 : decode cX0_begin 25 = .ok (.aload_n 0, 1) := by decide +kernel
theorem dX0_begin_26 : decode cX0_begin 26 = .ok (.iconst 0, 1) := by decide +kernel
theorem dX0_begin_27 : decode cX0_begin 27 = .ok (.putfield 28, 3) := by decide +kernel
theorem dX0_begin_30 : decode cX0_begin 30 = .ok (.aload_n 0, 1) := by decide +kernel
theorem dX0_begin_31 : decode cX0_begin 31 = .ok (.iconst 0, 1) := by decide +kernel
theorem dX0_begin_32 : decode cX0_begin 32 = .ok (.putfield 31, 3) := by decide +kernel
theorem dX0_begin_35 : decode cX0_begin 35 = .ok (.return_, 1) := by decide +kernel
theorem dX0_copyFrom_0 : decode cX0_copyFrom 0 = .ok (.aload_n 0, 1) := by decide +kernel
theorem dX0_copyFrom_1 : decode cX0_copyFrom 1 = .ok (.aload_n 1, 1) := by decide +kernel
theorem dX0_copyFrom_2 : decode cX0_copyFrom 2 = .ok (.getfield 9, 3) := by decide +kernel
theorem dX0_copyFrom_5 : decode cX0_copyFrom 5 = .ok (.putfield 9, 3) := by decide +kernel
theorem dX0_copyFrom_8 : decode cX0_copyFrom 8 = .ok (.aload_n 0, 1) := by decide +kernel
theorem dX0_copyFrom_9 : decode cX0_copyFrom 9 = .ok (.aload_n 1, 1) := by decide +kernel
theorem dX0_copyFrom_10 : decode cX0_copyFrom 10 = .ok (.getfield 15, 3) := by decide +kernel
theorem dX0_copyFrom_13 : decode cX0_copyFrom 13 = .ok (.putfield 15, 3) := by decide +kernel
theorem dX0_copyFrom_16 : decode cX0_copyFrom 16 = .ok (.aload_n 0, 1) := by decide +kernel
theorem dX0_copyFrom_17 : decode cX0_copyFrom 17 = .ok (.aload_n 1, 1) := by decide +kernel
theorem dX0_copyFrom_18 : decode cX0_copyFrom 18 = .ok (.getfield 18, 3) := by decide +kernel
theorem dX0_copyFrom_21 : decode cX0_copyFrom 21 = .ok (.putfield 18, 3) := by decide +kernel
theorem dX0_copyFrom_24 : decode cX0_copyFrom 24 = .ok (.aload_n 0, 1) := by decide +kernel
theorem dX0_copyFrom_25 : decode cX0_copyFrom 25 = .ok (.aload_n 1, 1) := by decide +kernel
theorem dX0_copyFrom_26 : decode cX0_copyFrom 26 = .ok (.getfield 21, 3) := by decide +kernel
theorem dX0_copyFrom_29 : decode cX0_copyFrom 29 = .ok (.putfield 21, 3) := by decide +kernel
theorem dX0_copyFrom_32 : decode cX0_copyFrom 32 = .ok (.aload_n 0, 1) := by decide +kernel
theorem dX0_copyFrom_33 : decode cX0_copyFrom 33 = .ok (.aload_n 1, 1) := by decide +kernel
theorem dX0_copyFrom_34 : decode cX0_copyFrom 34 = .ok (.getfield 24, 3) := by decide +kernel
theorem dX0_copyFrom_37 : decode cX0_copyFrom 37 = .ok (.putfield 24, 3) := by decide +kernel
theorem dX0_copyFrom_40 : decode cX0_copyFrom 40 = .ok (.aload_n 0, 1) := by decide +kernel
theorem dX0_copyFrom_41 : decode cX0_copyFrom 41 = .ok (.aload_n 1, 1) := by decide +kernel
theorem dX0_copyFrom_42 : decode cX0_copyFrom 42 = .ok (.getfield 28, 3) := by decide +kernel
theorem dX0_copyFrom_45 : decode cX0_copyFrom 45 = .ok (.putfield 28, 3) := by decide +kernel
theorem dX0_copyFrom_48 : decode cX0_copyFrom 48 = .ok (.aload_n 0, 1) := by decide +kernel
theorem dX0_copyFrom_49 : decode cX0_copyFrom 49 = .ok (.aload_n 1, 1) := by decide +kernel
theorem dX0_copyFrom_50 : decode cX0_copyFrom 50 = .ok (.getfield 31, 3) := by decide +kernel
theorem dX0_copyFrom_53 : decode cX0_copyFrom 53 = .ok (.putfield 31, 3) := by decide +kernel
theorem dX0_copyFrom_56 : decode cX0_copyFrom 56 = .ok (.return_, 1) := by decide +kernel
theorem dX0_sendTo_0 : decode cX0_sendTo 0 = .ok (.aload_n 0, 1) := by decide +kernel
theorem dX0_sendTo_1 : decode cX0_sendTo 1 = .ok (.iload_n 1, 1) := by decide +kernel
theorem dX0_sendTo_2 : decode cX0_sendTo 2 = .ok (.putfield 18, 3) := by decide +kernel
theorem dX0_sendTo_5 : decode cX0_sendTo 5 = .ok (.aload_n 0, 1) := by decide +kernel
theorem dX0_sendTo_6 : decode cX0_sendTo 6 = .ok (.iload_n 1, 1) := by decide +kernel
theorem dX0_sendTo_7 : decode cX0_sendTo 7 = .ok (.iconst (-1), 1) := by decide +kernel
theorem dX0_sendTo_8 : decode cX0_sendTo 8 = .ok (.if_icmp .ne 7, 3) := by decide +kernel
theorem dX0_sendTo_11 : decode cX0_sendTo 11 = .ok (.iconst 1, 1) := by decide +kernel
theorem dX0_sendTo_12 : decode cX0_sendTo 12 = .ok (.goto 4, 3) := by decide +kernel
theorem dX0_sendTo_15 : decode cX0_sendTo 15 = .ok (.iconst 0, 1) := by decide +kernel
theorem dX0_sendTo_16 : decode cX0_sendTo 16 = .ok (.putfield 24, 3) := by decide +kernel
theorem dX0_sendTo_19 : decode cX0_sendTo 19 = .ok (.aload_n 0, 1) := by decide +kernel
theorem dX0_sendTo_20 : decode cX0_sendTo 20 = .ok (.iconst 0, 1) := by decide +kernel
theorem dX0_sendTo_21 : decode cX0_sendTo 21 = .ok (.putfield 21, 3) := by decide +kernel
theorem dX0_sendTo_24 : decode cX0_sendTo 24 = .ok (.return_, 1) := by decide +kernel
theorem dX0_liesAtGoal_0 : decode cX0_liesAtGoal 0 = .ok (.aload_n 0, 1) := by decide +kernel
theorem dX0_liesAtGoal_1 : decode cX0_liesAtGoal 1 = .ok (.getfield 28, 3) := by decide +kernel
theorem dX0_liesAtGoal_4 : decode cX0_liesAtGoal 4 = .ok (.ifCond .ne 18, 3) := by decide +kernel
theorem dX0_liesAtGoal_7 : decode cX0_liesAtGoal 7 = .ok (.aload_n 0, 1) := by decide +kernel
theorem dX0_liesAtGoal_8 : decode cX0_liesAtGoal 8 = .ok (.getfield 18, 3) := by decide +kernel
theorem dX0_liesAtGoal_11 : decode cX0_liesAtGoal 11 = .ok (.aload_n 0, 1) := by decide +kernel
theorem dX0_liesAtGoal_12 : decode cX0_liesAtGoal 12 = .ok (.getfield 9, 3) := by decide +kernel
theorem dX0_liesAtGoal_15 : decode cX0_liesAtGoal 15 = .ok (.if_icmp .ne 7, 3) := by decide +kernel
theorem dX0_liesAtGoal_18 : decode cX0_liesAtGoal 18 = .ok (.iconst 1, 1) := by decide +kernel
theorem dX0_liesAtGoal_19 : decode cX0_liesAtGoal 19 = .ok (.goto 4, 3) := by decide +kernel
theorem dX0_liesAtGoal_22 : decode cX0_liesAtGoal 22 = .ok (.iconst 0, 1) := by decide +kernel
theorem dX0_liesAtGoal_23 : decode cX0_liesAtGoal 23 = .ok (.ireturn, 1) := by decide +kernel
theorem dX0_sail_0 : decode cX0_sail 0 = .ok (.aload_n 0, 1) := by decide +kernel
theorem dX0_sail_1 : decode cX0_sail 1 = .ok (.getfield 18, 3) := by decide +kernel
theorem dX0_sail_4 : decode cX0_sail 4 = .ok (.iconst (-1), 1) := by decide +kernel
theorem dX0_sail_5 : decode cX0_sail 5 = .ok (.if_icmp .ne 4, 3) := by decide +kernel
theorem dX0_sail_8 : decode cX0_sail 8 = .ok (.return_, 1) := by decide +kernel
theorem dX0_sail_9 : decode cX0_sail 9 = .ok (.aload_n 0, 1) := by decide +kernel
theorem dX0_sail_10 : decode cX0_sail 10 = .ok (.getfield 9, 3) := by decide +kernel
theorem dX0_sail_13 : decode cX0_sail 13 = .ok (.aload_n 0, 1) := by decide +kernel
theorem dX0_sail_14 : decode cX0_sail 14 = .ok (.getfield 18, 3) := by decide +kernel
theorem dX0_sail_17 : decode cX0_sail 17 = .ok (.invokestatic 34, 3) := by decide +kernel
theorem dX0_sail_20 : decode cX0_sail 20 = .ok (.istore_n 1, 1) := by decide +kernel
theorem dX0_sail_21 : decode cX0_sail 21 = .ok (.iload_n 1, 1) := by decide +kernel
theorem dX0_sail_22 : decode cX0_sail 22 = .ok (.iconst 2, 1) := by decide +kernel
theorem dX0_sail_23 : decode cX0_sail 23 = .ok (.if_icmp .ge 7, 3) := by decide +kernel
theorem dX0_sail_26 : decode cX0_sail 26 = .ok (.iload_n 1, 1) := by decide +kernel
theorem dX0_sail_27 : decode cX0_sail 27 = .ok (.goto 4, 3) := by decide +kernel
theorem dX0_sail_30 : decode cX0_sail 30 = .ok (.iconst 2, 1) := by decide +kernel
theorem dX0_sail_31 : decode cX0_sail 31 = .ok (.istore_n 2, 1) := by decide +kernel
theorem dX0_sail_32 : decode cX0_sail 32 = .ok (.aload_n 0, 1) := by decide +kernel
theorem dX0_sail_33 : decode cX0_sail 33 = .ok (.dup, 1) := by decide +kernel
theorem dX0_sail_34 : decode cX0_sail 34 = .ok (.getfield 9, 3) := by decide +kernel
theorem dX0_sail_37 : decode cX0_sail 37 = .ok (.aload_n 0, 1) := by decide +kernel
theorem dX0_sail_38 : decode cX0_sail 38 = .ok (.getfield 18, 3) := by decide +kernel
theorem dX0_sail_41 : decode cX0_sail 41 = .ok (.aload_n 0, 1) := by decide +kernel
theorem dX0_sail_42 : decode cX0_sail 42 = .ok (.getfield 9, 3) := by decide +kernel
theorem dX0_sail_45 : decode cX0_sail 45 = .ok (.if_icmp .ge 8, 3) := by decide +kernel
theorem dX0_sail_48 : decode cX0_sail 48 = .ok (.iload_n 2, 1) := by decide +kernel
theorem dX0_sail_49 : decode cX0_sail 49 = .ok (.ineg, 1) := by decide +kernel
theorem dX0_sail_50 : decode cX0_sail 50 = .ok (.goto 4, 3) := by decide +kernel
theorem dX0_sail_53 : decode cX0_sail 53 = .ok (.iload_n 2, 1) := by decide +kernel
theorem dX0_sail_54 : decode cX0_sail 54 = .ok (.iadd, 1) := by decide +kernel
theorem dX0_sail_55 : decode cX0_sail 55 = .ok (.putfield 9, 3) := by decide +kernel
theorem dX0_sail_58 : decode cX0_sail 58 = .ok (.return_, 1) := by decide +kernel
theorem dX0_stage_0 : decode cX0_stage 0 = .ok (.aload_n 0, 1) := by decide +kernel
theorem dX0_stage_1 : decode cX0_stage 1 = .ok (.getfield 28, 3) := by decide +kernel
theorem dX0_stage_4 : decode cX0_stage 4 = .ok (.iconst 1, 1) := by decide +kernel
theorem dX0_stage_5 : decode cX0_stage 5 = .ok (.if_icmp .ne 5, 3) := by decide +kernel
theorem dX0_stage_8 : decode cX0_stage 8 = .ok (.iconst 3, 1) := by decide +kernel
theorem dX0_stage_9 : decode cX0_stage 9 = .ok (.ireturn, 1) := by decide +kernel
theorem dX0_stage_10 : decode cX0_stage 10 = .ok (.aload_n 0, 1) := by decide +kernel
theorem dX0_stage_11 : decode cX0_stage 11 = .ok (.getfield 28, 3) := by decide +kernel
theorem dX0_stage_14 : decode cX0_stage 14 = .ok (.iconst 2, 1) := by decide +kernel
theorem dX0_stage_15 : decode cX0_stage 15 = .ok (.if_icmp .ne 5, 3) := by decide +kernel
theorem dX0_stage_18 : decode cX0_stage 18 = .ok (.iconst 4, 1) := by decide +kernel
theorem dX0_stage_19 : decode cX0_stage 19 = .ok (.ireturn, 1) := by decide +kernel
theorem dX0_stage_20 : decode cX0_stage 20 = .ok (.aload_n 0, 1) := by decide +kernel
theorem dX0_stage_21 : decode cX0_stage 21 = .ok (.getfield 18, 3) := by decide +kernel
theorem dX0_stage_24 : decode cX0_stage 24 = .ok (.iconst (-1), 1) := by decide +kernel
theorem dX0_stage_25 : decode cX0_stage 25 = .ok (.if_icmp .ne 5, 3) := by decide +kernel
theorem dX0_stage_28 : decode cX0_stage 28 = .ok (.iconst 0, 1) := by decide +kernel
theorem dX0_stage_29 : decode cX0_stage 29 = .ok (.ireturn, 1) := by decide +kernel
theorem dX0_stage_30 : decode cX0_stage 30 = .ok (.aload_n 0, 1) := by decide +kernel
theorem dX0_stage_31 : decode cX0_stage 31 = .ok (.getfield 18, 3) := by decide +kernel
theorem dX0_stage_34 : decode cX0_stage 34 = .ok (.aload_n 0, 1) := by decide +kernel
theorem dX0_stage_35 : decode cX0_stage 35 = .ok (.getfield 9, 3) := by decide +kernel
theorem dX0_stage_38 : decode cX0_stage 38 = .ok (.if_icmp .ne 7, 3) := by decide +kernel
theorem dX0_stage_41 : decode cX0_stage 41 = .ok (.iconst 2, 1) := by decide +kernel
theorem dX0_stage_42 : decode cX0_stage 42 = .ok (.goto 4, 3) := by decide +kernel
theorem dX0_stage_45 : decode cX0_stage 45 = .ok (.iconst 1, 1) := by decide +kernel
theorem dX0_stage_46 : decode cX0_stage 46 = .ok (.ireturn, 1) := by decide +kernel
theorem dX0_tell_0 : decode cX0_tell 0 = .ok (.iload_n 1, 1) := by decide +kernel
theorem dX0_tell_1 : decode cX0_tell 1 = .ok (.tableswitch 69 0 5 #[39, 44, 49, 54, 59, 64], 39) := by decide +kernel
theorem dX0_tell_40 : decode cX0_tell 40 = .ok (.aload_n 0, 1) := by decide +kernel
theorem dX0_tell_41 : decode cX0_tell 41 = .ok (.getfield 9, 3) := by decide +kernel
theorem dX0_tell_44 : decode cX0_tell 44 = .ok (.ireturn, 1) := by decide +kernel
theorem dX0_tell_45 : decode cX0_tell 45 = .ok (.aload_n 0, 1) := by decide +kernel
theorem dX0_tell_46 : decode cX0_tell 46 = .ok (.getfield 15, 3) := by decide +kernel
theorem dX0_tell_49 : decode cX0_tell 49 = .ok (.ireturn, 1) := by decide +kernel
theorem dX0_tell_50 : decode cX0_tell 50 = .ok (.aload_n 0, 1) := by decide +kernel
theorem dX0_tell_51 : decode cX0_tell 51 = .ok (.getfield 18, 3) := by decide +kernel
theorem dX0_tell_54 : decode cX0_tell 54 = .ok (.ireturn, 1) := by decide +kernel
theorem dX0_tell_55 : decode cX0_tell 55 = .ok (.aload_n 0, 1) := by decide +kernel
theorem dX0_tell_56 : decode cX0_tell 56 = .ok (.invokevirtual 38, 3) := by decide +kernel
theorem dX0_tell_59 : decode cX0_tell 59 = .ok (.ireturn, 1) := by decide +kernel
theorem dX0_tell_60 : decode cX0_tell 60 = .ok (.aload_n 0, 1) := by decide +kernel
theorem dX0_tell_61 : decode cX0_tell 61 = .ok (.getfield 31, 3) := by decide +kernel
theorem dX0_tell_64 : decode cX0_tell 64 = .ok (.ireturn, 1) := by decide +kernel
theorem dX0_tell_65 : decode cX0_tell 65 = .ok (.aload_n 0, 1) := by decide +kernel
theorem dX0_tell_66 : decode cX0_tell 66 = .ok (.getfield 21, 3) := by decide +kernel
theorem dX0_tell_69 : decode cX0_tell 69 = .ok (.ireturn, 1) := by decide +kernel
theorem dX0_tell_70 : decode cX0_tell 70 = .ok (.aload_n 0, 1) := by decide +kernel
theorem dX0_tell_71 : decode cX0_tell 71 = .ok (.getfield 24, 3) := by decide +kernel
theorem dX0_tell_74 : decode cX0_tell 74 = .ok (.ifCond .eq 7, 3) := by decide +kernel
theorem dX0_tell_77 : decode cX0_tell 77 = .ok (.iconst 1, 1) := by decide +kernel
theorem dX0_tell_78 : decode cX0_tell 78 = .ok (.goto 4, 3) := by decide +kernel
theorem dX0_tell_81 : decode cX0_tell 81 = .ok (.iconst 0, 1) := by decide +kernel
theorem dX0_tell_82 : decode cX0_tell 82 = .ok (.ireturn, 1) := by decide +kernel
theorem dX1_init_0 : decode cX1_init 0 = .ok (.aload_n 0, 1) := by decide +kernel
theorem dX1_init_1 : decode cX1_init 1 = .ok (.invokespecial 3, 3) := by decide +kernel
theorem dX1_init_4 : decode cX1_init 4 = .ok (.aload_n 0, 1) := by decide +kernel
theorem dX1_init_5 : decode cX1_init 5 = .ok (.bipush 16, 2) := by decide +kernel
theorem dX1_init_7 : decode cX1_init 7 = .ok (.newarray .int, 2) := by decide +kernel
theorem dX1_init_9 : decode cX1_init 9 = .ok (.putfield 9, 3) := by decide +kernel
theorem dX1_init_12 : decode cX1_init 12 = .ok (.aload_n 0, 1) := by decide +kernel
theorem dX1_init_13 : decode cX1_init 13 = .ok (.bipush 16, 2) := by decide +kernel
theorem dX1_init_15 : decode cX1_init 15 = .ok (.newarray .int, 2) := by decide +kernel
theorem dX1_init_17 : decode cX1_init 17 = .ok (.putfield 15, 3) := by decide +kernel
theorem dX1_init_20 : decode cX1_init 20 = .ok (.aload_n 0, 1) := by decide +kernel
theorem dX1_init_21 : decode cX1_init 21 = .ok (.bipush 8, 2) := by decide +kernel
theorem dX1_init_23 : decode cX1_init 23 = .ok (.newarray .int, 2) := by decide +kernel
theorem dX1_init_25 : decode cX1_init 25 = .ok (.putfield 18, 3) := by decide +kernel
theorem dX1_init_28 : decode cX1_init 28 = .ok (.aload_n 0, 1) := by decide +kernel
theorem dX1_init_29 : decode cX1_init 29 = .ok (.bipush 8, 2) := by decide +kernel
theorem dX1_init_31 : decode cX1_init 31 = .ok (.newarray .int, 2) := by decide +kernel
theorem dX1_init_33 : decode cX1_init 33 = .ok (.putfield 21, 3) := by decide +kernel
theorem dX1_init_36 : decode cX1_init 36 = .ok (.aload_n 0, 1) := by decide +kernel
theorem dX1_init_37 : decode cX1_init 37 = .ok (.iconst 5, 1) := by decide +kernel
theorem dX1_init_38 : decode cX1_init 38 = .ok (.anewarray 24, 3) := by decide +kernel
theorem dX1_init_41 : decode cX1_init 41 = .ok (.putfield 26, 3) := by decide +kernel
theorem dX1_init_44 : decode cX1_init 44 = .ok (.aload_n 0, 1) := by decide +kernel
theorem dX1_init_45 : decode cX1_init 45 = .ok (.iconst 4, 1) := by decide +kernel
theorem dX1_init_46 : decode cX1_init 46 = .ok (.anewarray 30, 3) := by decide +kernel
theorem dX1_init_49 : decode cX1_init 49 = .ok (.putfield 32, 3) := by decide +kernel
theorem dX1_init_52 : decode cX1_init 52 = .ok (.aload_n 0, 1) := by decide +kernel
theorem dX1_init_53 : decode cX1_init 53 = .ok (.bipush 6, 2) := by decide +kernel
theorem dX1_init_55 : decode cX1_init 55 = .ok (.anewarray 36, 3) := by decide +kernel
theorem dX1_init_58 : decode cX1_init 58 = .ok (.putfield 38, 3) := by decide +kernel
theorem dX1_init_61 : decode cX1_init 61 = .ok (.iconst 0, 1) := by decide +kernel
theorem dX1_init_62 : decode cX1_init 62 = .ok (.istore_n 1, 1) := by decide +kernel
theorem dX1_init_63 : decode cX1_init 63 = .ok (.iload_n 1, 1) := by decide +kernel
theorem dX1_init_64 : decode cX1_init 64 = .ok (.bipush 7, 2) := by decide +kernel
theorem dX1_init_66 : decode cX1_init 66 = .ok (.if_icmp .gt 16, 3) := by decide +kernel
theorem dX1_init_69 : decode cX1_init 69 = .ok (.aload_n 0, 1) := by decide +kernel
theorem dX1_init_70 : decode cX1_init 70 = .ok (.getfield 18, 3) := by decide +kernel
theorem dX1_init_73 : decode cX1_init 73 = .ok (.iload_n 1, 1) := by decide +kernel
theorem dX1_init_74 : decode cX1_init 74 = .ok (.iconst (-1), 1) := by decide +kernel
theorem dX1_init_75 : decode cX1_init 75 = .ok (.iastore, 1) := by decide +kernel
theorem dX1_init_76 : decode cX1_init 76 = .ok (.iinc 1 1, 3) := by decide +kernel
theorem dX1_init_79 : decode cX1_init 79 = .ok (.goto (-16), 3) := by decide +kernel
theorem dX1_init_82 : decode cX1_init 82 = .ok (.iconst 0, 1) := by decide +kernel
theorem dX1_init_83 : decode cX1_init 83 = .ok (.istore_n 1, 1) := by decide +kernel
theorem dX1_init_84 : decode cX1_init 84 = .ok (.iload_n 1, 1) := by decide +kernel
theorem dX1_init_85 : decode cX1_init 85 = .ok (.iconst 5, 1) := by decide +kernel
theorem dX1_init_86 : decode cX1_init 86 = .ok (.if_icmp .ge 22, 3) := by decide +kernel
theorem dX1_init_89 : decode cX1_init 89 = .ok (.aload_n 0, 1) := by decide +kernel
theorem dX1_init_90 : decode cX1_init 90 = .ok (.getfield 26, 3) := by decide +kernel
theorem dX1_init_93 : decode cX1_init 93 = .ok (.iload_n 1, 1) := by decide +kernel
theorem dX1_init_94 : decode cX1_init 94 = .ok (.new 24, 3) := by decide +kernel
theorem dX1_init_97 : decode cX1_init 97 = .ok (.dup, 1) := by decide +kernel
theorem dX1_init_98 : decode cX1_init 98 = .ok (.invokespecial 42, 3) := by decide +kernel
theorem dX1_init_101 : decode cX1_init 101 = .ok (.aastore, 1) := by decide +kernel
theorem dX1_init_102 : decode cX1_init 102 = .ok (.iinc 1 1, 3) := by decide +kernel
theorem dX1_init_105 : decode cX1_init 105 = .ok (.goto (-21), 3) := by decide +kernel
theorem dX1_init_108 : decode cX1_init 108 = .ok (.iconst 0, 1) := by decide +kernel
theorem dX1_init_109 : decode cX1_init 109 = .ok (.istore_n 1, 1) := by decide +kernel
theorem dX1_init_110 : decode cX1_init 110 = .ok (.iload_n 1, 1) := by decide +kernel
theorem dX1_init_111 : decode cX1_init 111 = .ok (.iconst 4, 1) := by decide +kernel
theorem dX1_init_112 : decode cX1_init 112 = .ok (.if_icmp .ge 22, 3) := by decide +kernel
theorem dX1_init_115 : decode cX1_init 115 = .ok (.aload_n 0, 1) := by decide +kernel
theorem dX1_init_116 : decode cX1_init 116 = .ok (.getfield 32, 3) := by decide +kernel
theorem dX1_init_119 : decode cX1_init 119 = .ok (.iload_n 1, 1) := by decide +kernel
theorem dX1_init_120 : decode cX1_init 120 = .ok (.new 30, 3) := by decide +kernel
theorem dX1_init_123 : decode cX1_init 123 = .ok (.dup, 1) := by decide +kernel
theorem dX1_init_124 : decode cX1_init 124 = .ok (.invokespecial 43, 3) := by decide +kernel
theorem dX1_init_127 : decode cX1_init 127 = .ok (.aastore, 1) := by decide +kernel
theorem dX1_init_128 : decode cX1_init 128 = .ok (.iinc 1 1, 3) := by decide +kernel
theorem dX1_init_131 : decode cX1_init 131 = .ok (.goto (-21), 3) := by decide +kernel
theorem dX1_init_134 : decode cX1_init 134 = .ok (.iconst 0, 1) := by decide +kernel
theorem dX1_init_135 : decode cX1_init 135 = .ok (.istore_n 1, 1) := by decide +kernel
theorem dX1_init_136 : decode cX1_init 136 = .ok (.iload_n 1, 1) := by decide +kernel
theorem dX1_init_137 : decode cX1_init 137 = .ok (.bipush 6, 2) := by decide +kernel
theorem dX1_init_139 : decode cX1_init 139 = .ok (.if_icmp .ge 22, 3) := by decide +kernel
theorem dX1_init_142 : decode cX1_init 142 = .ok (.aload_n 0, 1) := by decide +kernel
theorem dX1_init_143 : decode cX1_init 143 = .ok (.getfield 38, 3) := by decide +kernel
theorem dX1_init_146 : decode cX1_init 146 = .ok (.iload_n 1, 1) := by decide +kernel
theorem dX1_init_147 : decode cX1_init 147 = .ok (.new 36, 3) := by decide +kernel
theorem dX1_init_150 : decode cX1_init 150 = .ok (.dup, 1) := by decide +kernel
theorem dX1_init_151 : decode cX1_init 151 = .ok (.invokespecial 44, 3) := by decide +kernel
theorem dX1_init_154 : decode cX1_init 154 = .ok (.aastore, 1) := by decide +kernel
theorem dX1_init_155 : decode cX1_init 155 = .ok (.iinc 1 1, 3) := by decide +kernel
theorem dX1_init_158 : decode cX1_init 158 = .ok (.goto (-22), 3) := by decide +kernel
theorem dX1_init_161 : decode cX1_init 161 = .ok (.return_, 1) := by decide +kernel
theorem dX1_copyFrom_0 : decode cX1_copyFrom 0 = .ok (.aload_n 1, 1) := by decide +kernel
theorem dX1_copyFrom_1 : decode cX1_copyFrom 1 = .ok (.getfield 9, 3) := by decide +kernel
theorem dX1_copyFrom_4 : decode cX1_copyFrom 4 = .ok (.iconst 0, 1) := by decide +kernel
theorem dX1_copyFrom_5 : decode cX1_copyFrom 5 = .ok (.aload_n 0, 1) := by decide +kernel
theorem dX1_copyFrom_6 : decode cX1_copyFrom 6 = .ok (.getfield 9, 3) := by decide +kernel
theorem dX1_copyFrom_9 : decode cX1_copyFrom 9 = .ok (.iconst 0, 1) := by decide +kernel
theorem dX1_copyFrom_10 : decode cX1_copyFrom 10 = .ok (.bipush 16, 2) := by decide +kernel
theorem dX1_copyFrom_12 : decode cX1_copyFrom 12 = .ok (.invokestatic 45, 3) := by decide +kernel
theorem dX1_copyFrom_15 : decode cX1_copyFrom 15 = .ok (.aload_n 1, 1) := by decide +kernel
theorem dX1_copyFrom_16 : decode cX1_copyFrom 16 = .ok (.getfield 15, 3) := by decide +kernel
theorem dX1_copyFrom_19 : decode cX1_copyFrom 19 = .ok (.iconst 0, 1) := by decide +kernel
theorem dX1_copyFrom_20 : decode cX1_copyFrom 20 = .ok (.aload_n 0, 1) := by decide +kernel
theorem dX1_copyFrom_21 : decode cX1_copyFrom 21 = .ok (.getfield 15, 3) := by decide +kernel
theorem dX1_copyFrom_24 : decode cX1_copyFrom 24 = .ok (.iconst 0, 1) := by decide +kernel
theorem dX1_copyFrom_25 : decode cX1_copyFrom 25 = .ok (.bipush 16, 2) := by decide +kernel
theorem dX1_copyFrom_27 : decode cX1_copyFrom 27 = .ok (.invokestatic 45, 3) := by decide +kernel
theorem dX1_copyFrom_30 : decode cX1_copyFrom 30 = .ok (.aload_n 1, 1) := by decide +kernel
theorem dX1_copyFrom_31 : decode cX1_copyFrom 31 = .ok (.getfield 18, 3) := by decide +kernel
theorem dX1_copyFrom_34 : decode cX1_copyFrom 34 = .ok (.iconst 0, 1) := by decide +kernel
theorem dX1_copyFrom_35 : decode cX1_copyFrom 35 = .ok (.aload_n 0, 1) := by decide +kernel
theorem dX1_copyFrom_36 : decode cX1_copyFrom 36 = .ok (.getfield 18, 3) := by decide +kernel
theorem dX1_copyFrom_39 : decode cX1_copyFrom 39 = .ok (.iconst 0, 1) := by decide +kernel
theorem dX1_copyFrom_40 : decode cX1_copyFrom 40 = .ok (.bipush 8, 2) := by decide +kernel
theorem dX1_copyFrom_42 : decode cX1_copyFrom 42 = .ok (.invokestatic 45, 3) := by decide +kernel
theorem dX1_copyFrom_45 : decode cX1_copyFrom 45 = .ok (.aload_n 1, 1) := by decide +kernel
theorem dX1_copyFrom_46 : decode cX1_copyFrom 46 = .ok (.getfield 21, 3) := by decide +kernel
theorem dX1_copyFrom_49 : decode cX1_copyFrom 49 = .ok (.iconst 0, 1) := by decide +kernel
theorem dX1_copyFrom_50 : decode cX1_copyFrom 50 = .ok (.aload_n 0, 1) := by decide +kernel
theorem dX1_copyFrom_51 : decode cX1_copyFrom 51 = .ok (.getfield 21, 3) := by decide +kernel
theorem dX1_copyFrom_54 : decode cX1_copyFrom 54 = .ok (.iconst 0, 1) := by decide +kernel
theorem dX1_copyFrom_55 : decode cX1_copyFrom 55 = .ok (.bipush 8, 2) := by decide +kernel
theorem dX1_copyFrom_57 : decode cX1_copyFrom 57 = .ok (.invokestatic 45, 3) := by decide +kernel
theorem dX1_copyFrom_60 : decode cX1_copyFrom 60 = .ok (.aload_n 0, 1) := by decide +kernel
theorem dX1_copyFrom_61 : decode cX1_copyFrom 61 = .ok (.aload_n 1, 1) := by decide +kernel
theorem dX1_copyFrom_62 : decode cX1_copyFrom 62 = .ok (.getfield 51, 3) := by decide +kernel
theorem dX1_copyFrom_65 : decode cX1_copyFrom 65 = .ok (.putfield 51, 3) := by decide +kernel
theorem dX1_copyFrom_68 : decode cX1_copyFrom 68 = .ok (.aload_n 0, 1) := by decide +kernel
theorem dX1_copyFrom_69 : decode cX1_copyFrom 69 = .ok (.aload_n 1, 1) := by decide +kernel
theorem dX1_copyFrom_70 : decode cX1_copyFrom 70 = .ok (.getfield 55, 3) := by decide +kernel
theorem dX1_copyFrom_73 : decode cX1_copyFrom 73 = .ok (.putfield 55, 3) := by decide +kernel
theorem dX1_copyFrom_76 : decode cX1_copyFrom 76 = .ok (.aload_n 0, 1) := by decide +kernel
theorem dX1_copyFrom_77 : decode cX1_copyFrom 77 = .ok (.aload_n 1, 1) := by decide +kernel
theorem dX1_copyFrom_78 : decode cX1_copyFrom 78 = .ok (.getfield 58, 3) := by decide +kernel
theorem dX1_copyFrom_81 : decode cX1_copyFrom 81 = .ok (.putfield 58, 3) := by decide +kernel
theorem dX1_copyFrom_84 : decode cX1_copyFrom 84 = .ok (.iconst 0, 1) := by decide +kernel
theorem dX1_copyFrom_85 : decode cX1_copyFrom 85 = .ok (.istore_n 2, 1) := by decide +kernel
theorem dX1_copyFrom_86 : decode cX1_copyFrom 86 = .ok (.iload_n 2, 1) := by decide +kernel
theorem dX1_copyFrom_87 : decode cX1_copyFrom 87 = .ok (.aload_n 0, 1) := by decide +kernel
theorem dX1_copyFrom_88 : decode cX1_copyFrom 88 = .ok (.getfield 51, 3) := by decide +kernel
theorem dX1_copyFrom_91 : decode cX1_copyFrom 91 = .ok (.if_icmp .ge 24, 3) := by decide +kernel
theorem dX1_copyFrom_94 : decode cX1_copyFrom 94 = .ok (.aload_n 0, 1) := by decide +kernel
theorem dX1_copyFrom_95 : decode cX1_copyFrom 95 = .ok (.getfield 26, 3) := by decide +kernel
theorem dX1_copyFrom_98 : decode cX1_copyFrom 98 = .ok (.iload_n 2, 1) := by decide +kernel
theorem dX1_copyFrom_99 : decode cX1_copyFrom 99 = .ok (.aaload, 1) := by decide +kernel
theorem dX1_copyFrom_100 : decode cX1_copyFrom 100 = .ok (.aload_n 1, 1) := by decide +kernel
theorem dX1_copyFrom_101 : decode cX1_copyFrom 101 = .ok (.getfield 26, 3) := by decide +kernel
theorem dX1_copyFrom_104 : decode cX1_copyFrom 104 = .ok (.iload_n 2, 1) := by decide +kernel
theorem dX1_copyFrom_105 : decode cX1_copyFrom 105 = .ok (.aaload, 1) := by decide +kernel
theorem dX1_copyFrom_106 : decode cX1_copyFrom 106 = .ok (.invokevirtual 61, 3) := by decide +kernel
theorem dX1_copyFrom_109 : decode cX1_copyFrom 109 = .ok (.iinc 2 1, 3) := by decide +kernel
theorem dX1_copyFrom_112 : decode cX1_copyFrom 112 = .ok (.goto (-26), 3) := by decide +kernel
theorem dX1_copyFrom_115 : decode cX1_copyFrom 115 = .ok (.iconst 0, 1) := by decide +kernel
theorem dX1_copyFrom_116 : decode cX1_copyFrom 116 = .ok (.istore_n 2, 1) := by decide +kernel
theorem dX1_copyFrom_117 : decode cX1_copyFrom 117 = .ok (.iload_n 2, 1) := by decide +kernel
theorem dX1_copyFrom_118 : decode cX1_copyFrom 118 = .ok (.aload_n 0, 1) := by decide +kernel
theorem dX1_copyFrom_119 : decode cX1_copyFrom 119 = .ok (.getfield 55, 3) := by decide +kernel
theorem dX1_copyFrom_122 : decode cX1_copyFrom 122 = .ok (.if_icmp .ge 24, 3) := by decide +kernel
theorem dX1_copyFrom_125 : decode cX1_copyFrom 125 = .ok (.aload_n 0, 1) := by decide +kernel
theorem dX1_copyFrom_126 : decode cX1_copyFrom 126 = .ok (.getfield 32, 3) := by decide +kernel
theorem dX1_copyFrom_129 : decode cX1_copyFrom 129 = .ok (.iload_n 2, 1) := by decide +kernel
theorem dX1_copyFrom_130 : decode cX1_copyFrom 130 = .ok (.aaload, 1) := by decide +kernel
theorem dX1_copyFrom_131 : decode cX1_copyFrom 131 = .ok (.aload_n 1, 1) := by decide +kernel
theorem dX1_copyFrom_132 : decode cX1_copyFrom 132 = .ok (.getfield 32, 3) := by decide +kernel
theorem dX1_copyFrom_135 : decode cX1_copyFrom 135 = .ok (.iload_n 2, 1) := by decide +kernel
theorem dX1_copyFrom_136 : decode cX1_copyFrom 136 = .ok (.aaload, 1) := by decide +kernel
theorem dX1_copyFrom_137 : decode cX1_copyFrom 137 = .ok (.invokevirtual 65, 3) := by decide +kernel
theorem dX1_copyFrom_140 : decode cX1_copyFrom 140 = .ok (.iinc 2 1, 3) := by decide +kernel
theorem dX1_copyFrom_143 : decode cX1_copyFrom 143 = .ok (.goto (-26), 3) := by decide +kernel
theorem dX1_copyFrom_146 : decode cX1_copyFrom 146 = .ok (.iconst 0, 1) := by decide +kernel
theorem dX1_copyFrom_147 : decode cX1_copyFrom 147 = .ok (.istore_n 2, 1) := by decide +kernel
theorem dX1_copyFrom_148 : decode cX1_copyFrom 148 = .ok (.iload_n 2, 1) := by decide +kernel
theorem dX1_copyFrom_149 : decode cX1_copyFrom 149 = .ok (.aload_n 0, 1) := by decide +kernel
theorem dX1_copyFrom_150 : decode cX1_copyFrom 150 = .ok (.getfield 58, 3) := by decide +kernel
theorem dX1_copyFrom_153 : decode cX1_copyFrom 153 = .ok (.if_icmp .ge 24, 3) := by decide +kernel
theorem dX1_copyFrom_156 : decode cX1_copyFrom 156 = .ok (.aload_n 0, 1) := by decide +kernel
theorem dX1_copyFrom_157 : decode cX1_copyFrom 157 = .ok (.getfield 38, 3) := by decide +kernel
theorem dX1_copyFrom_160 : decode cX1_copyFrom 160 = .ok (.iload_n 2, 1) := by decide +kernel
theorem dX1_copyFrom_161 : decode cX1_copyFrom 161 = .ok (.aaload, 1) := by decide +kernel
theorem dX1_copyFrom_162 : decode cX1_copyFrom 162 = .ok (.aload_n 1, 1) := by decide +kernel
theorem dX1_copyFrom_163 : decode cX1_copyFrom 163 = .ok (.getfield 38, 3) := by decide +kernel
theorem dX1_copyFrom_166 : decode cX1_copyFrom 166 = .ok (.iload_n 2, 1) := by decide +kernel
theorem dX1_copyFrom_167 : decode cX1_copyFrom 167 = .ok (.aaload, 1) := by decide +kernel
theorem dX1_copyFrom_168 : decode cX1_copyFrom 168 = .ok (.invokevirtual 68, 3) := by decide +kernel
theorem dX1_copyFrom_171 : decode cX1_copyFrom 171 = .ok (.iinc 2 1, 3) := by decide +kernel
theorem dX1_copyFrom_174 : decode cX1_copyFrom 174 = .ok (.goto (-26), 3) := by decide +kernel
theorem dX1_copyFrom_177 : decode cX1_copyFrom 177 = .ok (.aload_n 0, 1) := by decide +kernel
theorem dX1_copyFrom_178 : decode cX1_copyFrom 178 = .ok (.aload_n 1, 1) := by decide +kernel
theorem dX1_copyFrom_179 : decode cX1_copyFrom 179 = .ok (.getfield 71, 3) := by decide +kernel
theorem dX1_copyFrom_182 : decode cX1_copyFrom 182 = .ok (.putfield 71, 3) := by decide +kernel
theorem dX1_copyFrom_185 : decode cX1_copyFrom 185 = .ok (.aload_n 0, 1) := by decide +kernel
theorem dX1_copyFrom_186 : decode cX1_copyFrom 186 = .ok (.aload_n 1, 1) := by decide +kernel
theorem dX1_copyFrom_187 : decode cX1_copyFrom 187 = .ok (.getfield 74, 3) := by decide +kernel
theorem dX1_copyFrom_190 : decode cX1_copyFrom 190 = .ok (.putfield 74, 3) := by decide +kernel
theorem dX1_copyFrom_193 : decode cX1_copyFrom 193 = .ok (.aload_n 0, 1) := by decide +kernel
theorem dX1_copyFrom_194 : decode cX1_copyFrom 194 = .ok (.aload_n 1, 1) := by decide +kernel
theorem dX1_copyFrom_195 : decode cX1_copyFrom 195 = .ok (.getfield 77, 3) := by decide +kernel
theorem dX1_copyFrom_198 : decode cX1_copyFrom 198 = .ok (.putfield 77, 3) := by decide +kernel
theorem dX1_copyFrom_201 : decode cX1_copyFrom 201 = .ok (.return_, 1) := by decide +kernel
theorem dX1_moonNow_0 : decode cX1_moonNow 0 = .ok (.aload_n 0, 1) := by decide +kernel
theorem dX1_moonNow_1 : decode cX1_moonNow 1 = .ok (.getfield 71, 3) := by decide +kernel
theorem dX1_moonNow_4 : decode cX1_moonNow 4 = .ok (.bipush 10, 2) := by decide +kernel
theorem dX1_moonNow_6 : decode cX1_moonNow 6 = .ok (.idiv, 1) := by decide +kernel
theorem dX1_moonNow_7 : decode cX1_moonNow 7 = .ok (.invokestatic 80, 3) := by decide +kernel
theorem dX1_moonNow_10 : decode cX1_moonNow 10 = .ok (.ireturn, 1) := by decide +kernel
theorem dX1_hourOfNight_0 : decode cX1_hourOfNight 0 = .ok (.aload_n 0, 1) := by decide +kernel
theorem dX1_hourOfNight_1 : decode cX1_hourOfNight 1 = .ok (.getfield 71, 3) := by decide +kernel
theorem dX1_hourOfNight_4 : decode cX1_hourOfNight 4 = .ok (.bipush 10, 2) := by decide +kernel
theorem dX1_hourOfNight_6 : decode cX1_hourOfNight 6 = .ok (.invokestatic 84, 3) := by decide +kernel
theorem dX1_hourOfNight_9 : decode cX1_hourOfNight 9 = .ok (.ireturn, 1) := by decide +kernel
theorem dX1_isKnown_0 : decode cX1_isKnown 0 = .ok (.aload_n 0, 1) := by decide +kernel
theorem dX1_isKnown_1 : decode cX1_isKnown 1 = .ok (.getfield 21, 3) := by decide +kernel
theorem dX1_isKnown_4 : decode cX1_isKnown 4 = .ok (.iload_n 1, 1) := by decide +kernel
theorem dX1_isKnown_5 : decode cX1_isKnown 5 = .ok (.iaload, 1) := by decide +kernel
theorem dX1_isKnown_6 : decode cX1_isKnown 6 = .ok (.iconst 3, 1) := by decide +kernel
theorem dX1_isKnown_7 : decode cX1_isKnown 7 = .ok (.if_icmp .lt 7, 3) := by decide +kernel
theorem dX1_isKnown_10 : decode cX1_isKnown 10 = .ok (.iconst 1, 1) := by decide +kernel
theorem dX1_isKnown_11 : decode cX1_isKnown 11 = .ok (.goto 4, 3) := by decide +kernel
theorem dX1_isKnown_14 : decode cX1_isKnown 14 = .ok (.iconst 0, 1) := by decide +kernel
theorem dX1_isKnown_15 : decode cX1_isKnown 15 = .ok (.ireturn, 1) := by decide +kernel
theorem dX1_hasLanternAt_0 : decode cX1_hasLanternAt 0 = .ok (.iconst 0, 1) := by decide +kernel
theorem dX1_hasLanternAt_1 : decode cX1_hasLanternAt 1 = .ok (.istore_n 2, 1) := by decide +kernel
theorem dX1_hasLanternAt_2 : decode cX1_hasLanternAt 2 = .ok (.iload_n 2, 1) := by decide +kernel
theorem dX1_hasLanternAt_3 : decode cX1_hasLanternAt 3 = .ok (.aload_n 0, 1) := by decide +kernel
theorem dX1_hasLanternAt_4 : decode cX1_hasLanternAt 4 = .ok (.getfield 51, 3) := by decide +kernel
theorem dX1_hasLanternAt_7 : decode cX1_hasLanternAt 7 = .ok (.if_icmp .ge 24, 3) := by decide +kernel
theorem dX1_hasLanternAt_10 : decode cX1_hasLanternAt 10 = .ok (.aload_n 0, 1) := by decide +kernel
theorem dX1_hasLanternAt_11 : decode cX1_hasLanternAt 11 = .ok (.getfield 26, 3) := by decide +kernel
theorem dX1_hasLanternAt_14 : decode cX1_hasLanternAt 14 = .ok (.iload_n 2, 1) := by decide +kernel
theorem dX1_hasLanternAt_15 : decode cX1_hasLanternAt 15 = .ok (.aaload, 1) := by decide +kernel
theorem dX1_hasLanternAt_16 : decode cX1_hasLanternAt 16 = .ok (.getfield 90, 3) := by decide +kernel
theorem dX1_hasLanternAt_19 : decode cX1_hasLanternAt 19 = .ok (.iload_n 1, 1) := by decide +kernel
theorem dX1_hasLanternAt_20 : decode cX1_hasLanternAt 20 = .ok (.if_icmp .ne 5, 3) := by decide +kernel
theorem dX1_hasLanternAt_23 : decode cX1_hasLanternAt 23 = .ok (.iconst 1, 1) := by decide +kernel
theorem dX1_hasLanternAt_24 : decode cX1_hasLanternAt 24 = .ok (.ireturn, 1) := by decide +kernel
theorem dX1_hasLanternAt_25 : decode cX1_hasLanternAt 25 = .ok (.iinc 2 1, 3) := by decide +kernel
theorem dX1_hasLanternAt_28 : decode cX1_hasLanternAt 28 = .ok (.goto (-26), 3) := by decide +kernel
theorem dX1_hasLanternAt_31 : decode cX1_hasLanternAt 31 = .ok (.iconst 0, 1) := by decide +kernel
theorem dX1_hasLanternAt_32 : decode cX1_hasLanternAt 32 = .ok (.ireturn, 1) := by decide +kernel
theorem dX1_letGoBy_0 : decode cX1_letGoBy 0 = .ok (.iconst 0, 1) := by decide +kernel
theorem dX1_letGoBy_1 : decode cX1_letGoBy 1 = .ok (.istore_n 2, 1) := by decide +kernel
theorem dX1_letGoBy_2 : decode cX1_letGoBy 2 = .ok (.iload_n 2, 1) := by decide +kernel
theorem dX1_letGoBy_3 : decode cX1_letGoBy 3 = .ok (.iload_n 1, 1) := by decide +kernel
theorem dX1_letGoBy_4 : decode cX1_letGoBy 4 = .ok (.if_icmp .ge 13, 3) := by decide +kernel
theorem dX1_letGoBy_7 : decode cX1_letGoBy 7 = .ok (.aload_n 0, 1) := by decide +kernel
theorem dX1_letGoBy_8 : decode cX1_letGoBy 8 = .ok (.invokevirtual 93, 3) := by decide +kernel
theorem dX1_letGoBy_11 : decode cX1_letGoBy 11 = .ok (.iinc 2 1, 3) := by decide +kernel
theorem dX1_letGoBy_14 : decode cX1_letGoBy 14 = .ok (.goto (-12), 3) := by decide +kernel
theorem dX1_letGoBy_17 : decode cX1_letGoBy 17 = .ok (.return_, 1) := by decide +kernel
theorem dX1_passHour_0 : decode cX1_passHour 0 = .ok (.aload_n 0, 1) := by decide +kernel
theorem dX1_passHour_1 : decode cX1_passHour 1 = .ok (.invokevirtual 96, 3) := by decide +kernel
theorem dX1_passHour_4 : decode cX1_passHour 4 = .ok (.istore_n 1, 1) := by decide +kernel
theorem dX1_passHour_5 : decode cX1_passHour 5 = .ok (.aload_n 0, 1) := by decide +kernel
theorem dX1_passHour_6 : decode cX1_passHour 6 = .ok (.invokevirtual 100, 3) := by decide +kernel
theorem dX1_passHour_9 : decode cX1_passHour 9 = .ok (.istore_n 2, 1) := by decide +kernel
theorem dX1_passHour_10 : decode cX1_passHour 10 = .ok (.aload_n 0, 1) := by decide +kernel
theorem dX1_passHour_11 : decode cX1_passHour 11 = .ok (.iload_n 2, 1) := by decide +kernel
theorem dX1_passHour_12 : decode cX1_passHour 12 = .ok (.iload_n 1, 1) := by decide +kernel
theorem dX1_passHour_13 : decode cX1_passHour 13 = .ok (.invokevirtual 103, 3) := by decide +kernel
theorem dX1_passHour_16 : decode cX1_passHour 16 = .ok (.aload_n 0, 1) := by decide +kernel
theorem dX1_passHour_17 : decode cX1_passHour 17 = .ok (.iload_n 2, 1) := by decide +kernel
theorem dX1_passHour_18 : decode cX1_passHour 18 = .ok (.iload_n 1, 1) := by decide +kernel
theorem dX1_passHour_19 : decode cX1_passHour 19 = .ok (.invokevirtual 107, 3) := by decide +kernel
theorem dX1_passHour_22 : decode cX1_passHour 22 = .ok (.aload_n 0, 1) := by decide +kernel
theorem dX1_passHour_23 : decode cX1_passHour 23 = .ok (.iload_n 1, 1) := by decide +kernel
theorem dX1_passHour_24 : decode cX1_passHour 24 = .ok (.invokevirtual 110, 3) := by decide +kernel
theorem dX1_passHour_27 : decode cX1_passHour 27 = .ok (.aload_n 0, 1) := by decide +kernel
theorem dX1_passHour_28 : decode cX1_passHour 28 = .ok (.dup, 1) := by decide +kernel
theorem dX1_passHour_29 : decode cX1_passHour 29 = .ok (.getfield 71, 3) := by decide +kernel
theorem dX1_passHour_32 : decode cX1_passHour 32 = .ok (.iconst 1, 1) := by decide +kernel
theorem dX1_passHour_33 : decode cX1_passHour 33 = .ok (.iadd, 1) := by decide +kernel
theorem dX1_passHour_34 : decode cX1_passHour 34 = .ok (.putfield 71, 3) := by decide +kernel
theorem dX1_passHour_37 : decode cX1_passHour 37 = .ok (.return_, 1) := by decide +kernel
theorem dX1_noteLanterns_0 : decode cX1_noteLanterns 0 = .ok (.iconst 0, 1) := by decide +kernel
theorem dX1_noteLanterns_1 : decode cX1_noteLanterns 1 = .ok (.istore_n 3, 1) := by decide +kernel
theorem dX1_noteLanterns_2 : decode cX1_noteLanterns 2 = .ok (.iload_n 3, 1) := by decide +kernel
theorem dX1_noteLanterns_3 : decode cX1_noteLanterns 3 = .ok (.aload_n 0, 1) := by decide +kernel
theorem dX1_noteLanterns_4 : decode cX1_noteLanterns 4 = .ok (.getfield 51, 3) := by decide +kernel
theorem dX1_noteLanterns_7 : decode cX1_noteLanterns 7 = .ok (.if_icmp .ge 66, 3) := by decide +kernel
theorem dX1_noteLanterns_10 : decode cX1_noteLanterns 10 = .ok (.aload_n 0, 1) := by decide +kernel
theorem dX1_noteLanterns_11 : decode cX1_noteLanterns 11 = .ok (.getfield 26, 3) := by decide +kernel
theorem dX1_noteLanterns_14 : decode cX1_noteLanterns 14 = .ok (.iload_n 3, 1) := by decide +kernel
theorem dX1_noteLanterns_15 : decode cX1_noteLanterns 15 = .ok (.aaload, 1) := by decide +kernel
theorem dX1_noteLanterns_16 : decode cX1_noteLanterns 16 = .ok (.astore 4, 2) := by decide +kernel
theorem dX1_noteLanterns_18 : decode cX1_noteLanterns 18 = .ok (.aload 4, 2) := by decide +kernel
theorem dX1_noteLanterns_20 : decode cX1_noteLanterns 20 = .ok (.getfield 114, 3) := by decide +kernel
theorem dX1_noteLanterns_23 : decode cX1_noteLanterns 23 = .ok (.iload_n 1, 1) := by decide +kernel
theorem dX1_noteLanterns_24 : decode cX1_noteLanterns 24 = .ok (.iaload, 1) := by decide +kernel
theorem dX1_noteLanterns_25 : decode cX1_noteLanterns 25 = .ok (.istore 5, 2) := by decide +kernel
theorem dX1_noteLanterns_27 : decode cX1_noteLanterns 27 = .ok (.iload 5, 2) := by decide +kernel
theorem dX1_noteLanterns_29 : decode cX1_noteLanterns 29 = .ok (.ifCond .eq 38, 3) := by decide +kernel
theorem dX1_noteLanterns_32 : decode cX1_noteLanterns 32 = .ok (.aload_n 0, 1) := by decide +kernel
theorem dX1_noteLanterns_33 : decode cX1_noteLanterns 33 = .ok (.aload 4, 2) := by decide +kernel
theorem dX1_noteLanterns_35 : decode cX1_noteLanterns 35 = .ok (.getfield 90, 3) := by decide +kernel
theorem dX1_noteLanterns_38 : decode cX1_noteLanterns 38 = .ok (.iload_n 2, 1) := by decide +kernel
theorem dX1_noteLanterns_39 : decode cX1_noteLanterns 39 = .ok (.invokevirtual 117, 3) := by decide +kernel
theorem dX1_noteLanterns_42 : decode cX1_noteLanterns 42 = .ok (.ifCond .le 25, 3) := by decide +kernel
theorem dX1_noteLanterns_45 : decode cX1_noteLanterns 45 = .ok (.aload_n 0, 1) := by decide +kernel
theorem dX1_noteLanterns_46 : decode cX1_noteLanterns 46 = .ok (.getfield 21, 3) := by decide +kernel
theorem dX1_noteLanterns_49 : decode cX1_noteLanterns 49 = .ok (.iload 5, 2) := by decide +kernel
theorem dX1_noteLanterns_51 : decode cX1_noteLanterns 51 = .ok (.dup2, 1) := by decide +kernel
theorem dX1_noteLanterns_52 : decode cX1_noteLanterns 52 = .ok (.iaload, 1) := by decide +kernel
theorem dX1_noteLanterns_53 : decode cX1_noteLanterns 53 = .ok (.iconst 1, 1) := by decide +kernel
theorem dX1_noteLanterns_54 : decode cX1_noteLanterns 54 = .ok (.iadd, 1) := by decide +kernel
theorem dX1_noteLanterns_55 : decode cX1_noteLanterns 55 = .ok (.iastore, 1) := by decide +kernel
theorem dX1_noteLanterns_56 : decode cX1_noteLanterns 56 = .ok (.aload 4, 2) := by decide +kernel
theorem dX1_noteLanterns_58 : decode cX1_noteLanterns 58 = .ok (.dup, 1) := by decide +kernel
theorem dX1_noteLanterns_59 : decode cX1_noteLanterns 59 = .ok (.getfield 120, 3) := by decide +kernel
theorem dX1_noteLanterns_62 : decode cX1_noteLanterns 62 = .ok (.iconst 1, 1) := by decide +kernel
theorem dX1_noteLanterns_63 : decode cX1_noteLanterns 63 = .ok (.iadd, 1) := by decide +kernel
theorem dX1_noteLanterns_64 : decode cX1_noteLanterns 64 = .ok (.putfield 120, 3) := by decide +kernel
theorem dX1_noteLanterns_67 : decode cX1_noteLanterns 67 = .ok (.iinc 3 1, 3) := by decide +kernel
theorem dX1_noteLanterns_70 : decode cX1_noteLanterns 70 = .ok (.goto (-68), 3) := by decide +kernel
theorem dX1_noteLanterns_73 : decode cX1_noteLanterns 73 = .ok (.return_, 1) := by decide +kernel
theorem dX1_moveBoats_0 : decode cX1_moveBoats 0 = .ok (.iconst 0, 1) := by decide +kernel
theorem dX1_moveBoats_1 : decode cX1_moveBoats 1 = .ok (.istore_n 3, 1) := by decide +kernel
theorem dX1_moveBoats_2 : decode cX1_moveBoats 2 = .ok (.iload_n 3, 1) := by decide +kernel
theorem dX1_moveBoats_3 : decode cX1_moveBoats 3 = .ok (.aload_n 0, 1) := by decide +kernel
theorem dX1_moveBoats_4 : decode cX1_moveBoats 4 = .ok (.getfield 58, 3) := by decide +kernel
theorem dX1_moveBoats_7 : decode cX1_moveBoats 7 = .ok (.if_icmp .ge 63, 3) := by decide +kernel
theorem dX1_moveBoats_10 : decode cX1_moveBoats 10 = .ok (.aload_n 0, 1) := by decide +kernel
theorem dX1_moveBoats_11 : decode cX1_moveBoats 11 = .ok (.getfield 38, 3) := by decide +kernel
theorem dX1_moveBoats_14 : decode cX1_moveBoats 14 = .ok (.iload_n 3, 1) := by decide +kernel
theorem dX1_moveBoats_15 : decode cX1_moveBoats 15 = .ok (.aaload, 1) := by decide +kernel
theorem dX1_moveBoats_16 : decode cX1_moveBoats 16 = .ok (.astore 4, 2) := by decide +kernel
theorem dX1_moveBoats_18 : decode cX1_moveBoats 18 = .ok (.aload 4, 2) := by decide +kernel
theorem dX1_moveBoats_20 : decode cX1_moveBoats 20 = .ok (.invokevirtual 123, 3) := by decide +kernel
theorem dX1_moveBoats_23 : decode cX1_moveBoats 23 = .ok (.ifCond .eq 12, 3) := by decide +kernel
theorem dX1_moveBoats_26 : decode cX1_moveBoats 26 = .ok (.aload_n 0, 1) := by decide +kernel
theorem dX1_moveBoats_27 : decode cX1_moveBoats 27 = .ok (.aload 4, 2) := by decide +kernel
theorem dX1_moveBoats_29 : decode cX1_moveBoats 29 = .ok (.invokevirtual 127, 3) := by decide +kernel
theorem dX1_moveBoats_32 : decode cX1_moveBoats 32 = .ok (.goto 32, 3) := by decide +kernel
theorem dX1_moveBoats_35 : decode cX1_moveBoats 35 = .ok (.aload 4, 2) := by decide +kernel
theorem dX1_moveBoats_37 : decode cX1_moveBoats 37 = .ok (.getfield 130, 3) := by decide +kernel
theorem dX1_moveBoats_40 : decode cX1_moveBoats 40 = .ok (.ifCond .ne 24, 3) := by decide +kernel
theorem dX1_moveBoats_43 : decode cX1_moveBoats 43 = .ok (.aload 4, 2) := by decide +kernel
theorem dX1_moveBoats_45 : decode cX1_moveBoats 45 = .ok (.getfield 133, 3) := by decide +kernel
theorem dX1_moveBoats_48 : decode cX1_moveBoats 48 = .ok (.ifCond .eq 11, 3) := by decide +kernel
theorem dX1_moveBoats_51 : decode cX1_moveBoats 51 = .ok (.aload_n 0, 1) := by decide +kernel
theorem dX1_moveBoats_52 : decode cX1_moveBoats 52 = .ok (.aload 4, 2) := by decide +kernel
theorem dX1_moveBoats_54 : decode cX1_moveBoats 54 = .ok (.iload_n 1, 1) := by decide +kernel
theorem dX1_moveBoats_55 : decode cX1_moveBoats 55 = .ok (.iload_n 2, 1) := by decide +kernel
theorem dX1_moveBoats_56 : decode cX1_moveBoats 56 = .ok (.invokevirtual 137, 3) := by decide +kernel
theorem dX1_moveBoats_59 : decode cX1_moveBoats 59 = .ok (.aload 4, 2) := by decide +kernel
theorem dX1_moveBoats_61 : decode cX1_moveBoats 61 = .ok (.invokevirtual 141, 3) := by decide +kernel
theorem dX1_moveBoats_64 : decode cX1_moveBoats 64 = .ok (.iinc 3 1, 3) := by decide +kernel
theorem dX1_moveBoats_67 : decode cX1_moveBoats 67 = .ok (.goto (-65), 3) := by decide +kernel
theorem dX1_moveBoats_70 : decode cX1_moveBoats 70 = .ok (.return_, 1) := by decide +kernel
theorem dX1_unload_0 : decode cX1_unload 0 = .ok (.aload_n 0, 1) := by decide +kernel
theorem dX1_unload_1 : decode cX1_unload 1 = .ok (.getfield 9, 3) := by decide +kernel
theorem dX1_unload_4 : decode cX1_unload 4 = .ok (.aload_n 1, 1) := by decide +kernel
theorem dX1_unload_5 : decode cX1_unload 5 = .ok (.getfield 144, 3) := by decide +kernel
theorem dX1_unload_8 : decode cX1_unload 8 = .ok (.iaload, 1) := by decide +kernel
theorem dX1_unload_9 : decode cX1_unload 9 = .ok (.aload_n 0, 1) := by decide +kernel
theorem dX1_unload_10 : decode cX1_unload 10 = .ok (.getfield 15, 3) := by decide +kernel
theorem dX1_unload_13 : decode cX1_unload 13 = .ok (.aload_n 1, 1) := by decide +kernel
theorem dX1_unload_14 : decode cX1_unload 14 = .ok (.getfield 144, 3) := by decide +kernel
theorem dX1_unload_17 : decode cX1_unload 17 = .ok (.iaload, 1) := by decide +kernel
theorem dX1_unload_18 : decode cX1_unload 18 = .ok (.isub, 1) := by decide +kernel
theorem dX1_unload_19 : decode cX1_unload 19 = .ok (.istore_n 2, 1) := by decide +kernel
theorem dX1_unload_20 : decode cX1_unload 20 = .ok (.iload_n 2, 1) := by decide +kernel
theorem dX1_unload_21 : decode cX1_unload 21 = .ok (.iconst 4, 1) := by decide +kernel
theorem dX1_unload_22 : decode cX1_unload 22 = .ok (.if_icmp .ge 7, 3) := by decide +kernel
theorem dX1_unload_25 : decode cX1_unload 25 = .ok (.iload_n 2, 1) := by decide +kernel
theorem dX1_unload_26 : decode cX1_unload 26 = .ok (.goto 4, 3) := by decide +kernel
theorem dX1_unload_29 : decode cX1_unload 29 = .ok (.iconst 4, 1) := by decide +kernel
theorem dX1_unload_30 : decode cX1_unload 30 = .ok (.istore_n 3, 1) := by decide +kernel
theorem dX1_unload_31 : decode cX1_unload 31 = .ok (.aload_n 1, 1) := by decide +kernel
theorem dX1_unload_32 : decode cX1_unload 32 = .ok (.getfield 145, 3) := by decide +kernel
theorem dX1_unload_35 : decode cX1_unload 35 = .ok (.iload_n 3, 1) := by decide +kernel
theorem dX1_unload_36 : decode cX1_unload 36 = .ok (.if_icmp .ge 10, 3) := by decide +kernel
theorem dX1_unload_39 : decode cX1_unload 39 = .ok (.aload_n 1, 1) := by decide +kernel
theorem dX1_unload_40 : decode cX1_unload 40 = .ok (.getfield 145, 3) := by decide +kernel
theorem dX1_unload_43 : decode cX1_unload 43 = .ok (.goto 4, 3) := by decide +kernel
theorem dX1_unload_46 : decode cX1_unload 46 = .ok (.iload_n 3, 1) := by decide +kernel
theorem dX1_unload_47 : decode cX1_unload 47 = .ok (.istore 4, 2) := by decide +kernel
theorem dX1_unload_49 : decode cX1_unload 49 = .ok (.aload_n 0, 1) := by decide +kernel
theorem dX1_unload_50 : decode cX1_unload 50 = .ok (.getfield 15, 3) := by decide +kernel
theorem dX1_unload_53 : decode cX1_unload 53 = .ok (.aload_n 1, 1) := by decide +kernel
theorem dX1_unload_54 : decode cX1_unload 54 = .ok (.getfield 144, 3) := by decide +kernel
theorem dX1_unload_57 : decode cX1_unload 57 = .ok (.dup2, 1) := by decide +kernel
theorem dX1_unload_58 : decode cX1_unload 58 = .ok (.iaload, 1) := by decide +kernel
theorem dX1_unload_59 : decode cX1_unload 59 = .ok (.iload 4, 2) := by decide +kernel
theorem dX1_unload_61 : decode cX1_unload 61 = .ok (.iadd, 1) := by decide +kernel
theorem dX1_unload_62 : decode cX1_unload 62 = .ok (.iastore, 1) := by decide +kernel
theorem dX1_unload_63 : decode cX1_unload 63 = .ok (.aload_n 1, 1) := by decide +kernel
theorem dX1_unload_64 : decode cX1_unload 64 = .ok (.dup, 1) := by decide +kernel
theorem dX1_unload_65 : decode cX1_unload 65 = .ok (.getfield 145, 3) := by decide +kernel
theorem dX1_unload_68 : decode cX1_unload 68 = .ok (.iload 4, 2) := by decide +kernel
theorem dX1_unload_70 : decode cX1_unload 70 = .ok (.isub, 1) := by decide +kernel
theorem dX1_unload_71 : decode cX1_unload 71 = .ok (.putfield 145, 3) := by decide +kernel
theorem dX1_unload_74 : decode cX1_unload 74 = .ok (.aload_n 1, 1) := by decide +kernel
theorem dX1_unload_75 : decode cX1_unload 75 = .ok (.dup, 1) := by decide +kernel
theorem dX1_unload_76 : decode cX1_unload 76 = .ok (.getfield 148, 3) := by decide +kernel
theorem dX1_unload_79 : decode cX1_unload 79 = .ok (.iload 4, 2) := by decide +kernel
theorem dX1_unload_81 : decode cX1_unload 81 = .ok (.iadd, 1) := by decide +kernel
theorem dX1_unload_82 : decode cX1_unload 82 = .ok (.putfield 148, 3) := by decide +kernel
theorem dX1_unload_85 : decode cX1_unload 85 = .ok (.aload_n 1, 1) := by decide +kernel
theorem dX1_unload_86 : decode cX1_unload 86 = .ok (.getfield 145, 3) := by decide +kernel
theorem dX1_unload_89 : decode cX1_unload 89 = .ok (.ifCond .ne 8, 3) := by decide +kernel
theorem dX1_unload_92 : decode cX1_unload 92 = .ok (.aload_n 1, 1) := by decide +kernel
theorem dX1_unload_93 : decode cX1_unload 93 = .ok (.iconst 1, 1) := by decide +kernel
theorem dX1_unload_94 : decode cX1_unload 94 = .ok (.putfield 130, 3) := by decide +kernel
theorem dX1_unload_97 : decode cX1_unload 97 = .ok (.return_, 1) := by decide +kernel
theorem dX1_followLantern_0 : decode cX1_followLantern 0 = .ok (.bipush 9, 2) := by decide +kernel
theorem dX1_followLantern_2 : decode cX1_followLantern 2 = .ok (.iload_n 3, 1) := by decide +kernel
theorem dX1_followLantern_3 : decode cX1_followLantern 3 = .ok (.isub, 1) := by decide +kernel
theorem dX1_followLantern_4 : decode cX1_followLantern 4 = .ok (.iconst 1, 1) := by decide +kernel
theorem dX1_followLantern_5 : decode cX1_followLantern 5 = .ok (.iadd, 1) := by decide +kernel
theorem dX1_followLantern_6 : decode cX1_followLantern 6 = .ok (.istore 4, 2) := by decide +kernel
theorem dX1_followLantern_8 : decode cX1_followLantern 8 = .ok (.iconst 0, 1) := by decide +kernel
theorem dX1_followLantern_9 : decode cX1_followLantern 9 = .ok (.istore 5, 2) := by decide +kernel
theorem dX1_followLantern_11 : decode cX1_followLantern 11 = .ok (.iconst 0, 1) := by decide +kernel
theorem dX1_followLantern_12 : decode cX1_followLantern 12 = .ok (.istore 6, 2) := by decide +kernel
theorem dX1_followLantern_14 : decode cX1_followLantern 14 = .ok (.iload 6, 2) := by decide +kernel
theorem dX1_followLantern_16 : decode cX1_followLantern 16 = .ok (.aload_n 0, 1) := by decide +kernel
theorem dX1_followLantern_17 : decode cX1_followLantern 17 = .ok (.getfield 51, 3) := by decide +kernel
theorem dX1_followLantern_20 : decode cX1_followLantern 20 = .ok (.if_icmp .ge 73, 3) := by decide +kernel
theorem dX1_followLantern_23 : decode cX1_followLantern 23 = .ok (.aload_n 0, 1) := by decide +kernel
theorem dX1_followLantern_24 : decode cX1_followLantern 24 = .ok (.getfield 26, 3) := by decide +kernel
theorem dX1_followLantern_27 : decode cX1_followLantern 27 = .ok (.iload 6, 2) := by decide +kernel
theorem dX1_followLantern_29 : decode cX1_followLantern 29 = .ok (.aaload, 1) := by decide +kernel
theorem dX1_followLantern_30 : decode cX1_followLantern 30 = .ok (.getfield 114, 3) := by decide +kernel
theorem dX1_followLantern_33 : decode cX1_followLantern 33 = .ok (.iload_n 2, 1) := by decide +kernel
theorem dX1_followLantern_34 : decode cX1_followLantern 34 = .ok (.iaload, 1) := by decide +kernel
theorem dX1_followLantern_35 : decode cX1_followLantern 35 = .ok (.istore 7, 2) := by decide +kernel
theorem dX1_followLantern_37 : decode cX1_followLantern 37 = .ok (.aload_n 0, 1) := by decide +kernel
theorem dX1_followLantern_38 : decode cX1_followLantern 38 = .ok (.getfield 26, 3) := by decide +kernel
theorem dX1_followLantern_41 : decode cX1_followLantern 41 = .ok (.iload 6, 2) := by decide +kernel
theorem dX1_followLantern_43 : decode cX1_followLantern 43 = .ok (.aaload, 1) := by decide +kernel
theorem dX1_followLantern_44 : decode cX1_followLantern 44 = .ok (.getfield 90, 3) := by decide +kernel
theorem dX1_followLantern_47 : decode cX1_followLantern 47 = .ok (.aload_n 1, 1) := by decide +kernel
theorem dX1_followLantern_48 : decode cX1_followLantern 48 = .ok (.getfield 144, 3) := by decide +kernel
theorem dX1_followLantern_51 : decode cX1_followLantern 51 = .ok (.invokestatic 151, 3) := by decide +kernel
theorem dX1_followLantern_54 : decode cX1_followLantern 54 = .ok (.istore 8, 2) := by decide +kernel
theorem dX1_followLantern_56 : decode cX1_followLantern 56 = .ok (.iload 7, 2) := by decide +kernel
theorem dX1_followLantern_58 : decode cX1_followLantern 58 = .ok (.ifCond .eq 29, 3) := by decide +kernel
theorem dX1_followLantern_61 : decode cX1_followLantern 61 = .ok (.aload_n 0, 1) := by decide +kernel
theorem dX1_followLantern_62 : decode cX1_followLantern 62 = .ok (.getfield 18, 3) := by decide +kernel
theorem dX1_followLantern_65 : decode cX1_followLantern 65 = .ok (.iload 7, 2) := by decide +kernel
theorem dX1_followLantern_67 : decode cX1_followLantern 67 = .ok (.iaload, 1) := by decide +kernel
theorem dX1_followLantern_68 : decode cX1_followLantern 68 = .ok (.iconst (-1), 1) := by decide +kernel
theorem dX1_followLantern_69 : decode cX1_followLantern 69 = .ok (.if_icmp .eq 18, 3) := by decide +kernel
theorem dX1_followLantern_72 : decode cX1_followLantern 72 = .ok (.iload 8, 2) := by decide +kernel
theorem dX1_followLantern_74 : decode cX1_followLantern 74 = .ok (.iload 4, 2) := by decide +kernel
theorem dX1_followLantern_76 : decode cX1_followLantern 76 = .ok (.if_icmp .ge 11, 3) := by decide +kernel
theorem dX1_followLantern_79 : decode cX1_followLantern 79 = .ok (.iload 8, 2) := by decide +kernel
theorem dX1_followLantern_81 : decode cX1_followLantern 81 = .ok (.istore 4, 2) := by decide +kernel
theorem dX1_followLantern_83 : decode cX1_followLantern 83 = .ok (.iload 7, 2) := by decide +kernel
theorem dX1_followLantern_85 : decode cX1_followLantern 85 = .ok (.istore 5, 2) := by decide +kernel
theorem dX1_followLantern_87 : decode cX1_followLantern 87 = .ok (.iinc 6 1, 3) := by decide +kernel
theorem dX1_followLantern_90 : decode cX1_followLantern 90 = .ok (.goto (-76), 3) := by decide +kernel
theorem dX1_followLantern_93 : decode cX1_followLantern 93 = .ok (.iload 5, 2) := by decide +kernel
theorem dX1_followLantern_95 : decode cX1_followLantern 95 = .ok (.ifCond .eq 20, 3) := by decide +kernel
theorem dX1_followLantern_98 : decode cX1_followLantern 98 = .ok (.aload_n 1, 1) := by decide +kernel
theorem dX1_followLantern_99 : decode cX1_followLantern 99 = .ok (.aload_n 0, 1) := by decide +kernel
theorem dX1_followLantern_100 : decode cX1_followLantern 100 = .ok (.getfield 18, 3) := by decide +kernel
theorem dX1_followLantern_103 : decode cX1_followLantern 103 = .ok (.iload 5, 2) := by decide +kernel
theorem dX1_followLantern_105 : decode cX1_followLantern 105 = .ok (.iaload, 1) := by decide +kernel
theorem dX1_followLantern_106 : decode cX1_followLantern 106 = .ok (.putfield 154, 3) := by decide +kernel
theorem dX1_followLantern_109 : decode cX1_followLantern 109 = .ok (.aload_n 1, 1) := by decide +kernel
theorem dX1_followLantern_110 : decode cX1_followLantern 110 = .ok (.iload 5, 2) := by decide +kernel
theorem dX1_followLantern_112 : decode cX1_followLantern 112 = .ok (.putfield 157, 3) := by decide +kernel
theorem dX1_followLantern_115 : decode cX1_followLantern 115 = .ok (.return_, 1) := by decide +kernel
theorem dX1_moveWatchmen_0 : decode cX1_moveWatchmen 0 = .ok (.iconst 0, 1) := by decide +kernel
theorem dX1_moveWatchmen_1 : decode cX1_moveWatchmen 1 = .ok (.istore_n 2, 1) := by decide +kernel
theorem dX1_moveWatchmen_2 : decode cX1_moveWatchmen 2 = .ok (.iload_n 2, 1) := by decide +kernel
theorem dX1_moveWatchmen_3 : decode cX1_moveWatchmen 3 = .ok (.aload_n 0, 1) := by decide +kernel
theorem dX1_moveWatchmen_4 : decode cX1_moveWatchmen 4 = .ok (.getfield 55, 3) := by decide +kernel
theorem dX1_moveWatchmen_7 : decode cX1_moveWatchmen 7 = .ok (.if_icmp .ge 29, 3) := by decide +kernel
theorem dX1_moveWatchmen_10 : decode cX1_moveWatchmen 10 = .ok (.aload_n 0, 1) := by decide +kernel
theorem dX1_moveWatchmen_11 : decode cX1_moveWatchmen 11 = .ok (.getfield 32, 3) := by decide +kernel
theorem dX1_moveWatchmen_14 : decode cX1_moveWatchmen 14 = .ok (.iload_n 2, 1) := by decide +kernel
theorem dX1_moveWatchmen_15 : decode cX1_moveWatchmen 15 = .ok (.aaload, 1) := by decide +kernel
theorem dX1_moveWatchmen_16 : decode cX1_moveWatchmen 16 = .ok (.invokevirtual 160, 3) := by decide +kernel
theorem dX1_moveWatchmen_19 : decode cX1_moveWatchmen 19 = .ok (.aload_n 0, 1) := by decide +kernel
theorem dX1_moveWatchmen_20 : decode cX1_moveWatchmen 20 = .ok (.aload_n 0, 1) := by decide +kernel
theorem dX1_moveWatchmen_21 : decode cX1_moveWatchmen 21 = .ok (.getfield 32, 3) := by decide +kernel
theorem dX1_moveWatchmen_24 : decode cX1_moveWatchmen 24 = .ok (.iload_n 2, 1) := by decide +kernel
theorem dX1_moveWatchmen_25 : decode cX1_moveWatchmen 25 = .ok (.aaload, 1) := by decide +kernel
theorem dX1_moveWatchmen_26 : decode cX1_moveWatchmen 26 = .ok (.iload_n 1, 1) := by decide +kernel
theorem dX1_moveWatchmen_27 : decode cX1_moveWatchmen 27 = .ok (.invokevirtual 163, 3) := by decide +kernel
theorem dX1_moveWatchmen_30 : decode cX1_moveWatchmen 30 = .ok (.iinc 2 1, 3) := by decide +kernel
theorem dX1_moveWatchmen_33 : decode cX1_moveWatchmen 33 = .ok (.goto (-31), 3) := by decide +kernel
theorem dX1_moveWatchmen_36 : decode cX1_moveWatchmen 36 = .ok (.return_, 1) := by decide +kernel
theorem dX1_seizeFirst_0 : decode cX1_seizeFirst 0 = .ok (.aload_n 1, 1) := by decide +kernel
theorem dX1_seizeFirst_1 : decode cX1_seizeFirst 1 = .ok (.iload_n 2, 1) := by decide +kernel
theorem dX1_seizeFirst_2 : decode cX1_seizeFirst 2 = .ok (.invokevirtual 167, 3) := by decide +kernel
theorem dX1_seizeFirst_5 : decode cX1_seizeFirst 5 = .ok (.istore_n 3, 1) := by decide +kernel
theorem dX1_seizeFirst_6 : decode cX1_seizeFirst 6 = .ok (.iconst 0, 1) := by decide +kernel
theorem dX1_seizeFirst_7 : decode cX1_seizeFirst 7 = .ok (.istore 4, 2) := by decide +kernel
theorem dX1_seizeFirst_9 : decode cX1_seizeFirst 9 = .ok (.iload 4, 2) := by decide +kernel
theorem dX1_seizeFirst_11 : decode cX1_seizeFirst 11 = .ok (.aload_n 0, 1) := by decide +kernel
theorem dX1_seizeFirst_12 : decode cX1_seizeFirst 12 = .ok (.getfield 58, 3) := by decide +kernel
theorem dX1_seizeFirst_15 : decode cX1_seizeFirst 15 = .ok (.if_icmp .ge 101, 3) := by decide +kernel
theorem dX1_seizeFirst_18 : decode cX1_seizeFirst 18 = .ok (.aload_n 0, 1) := by decide +kernel
theorem dX1_seizeFirst_19 : decode cX1_seizeFirst 19 = .ok (.getfield 38, 3) := by decide +kernel
theorem dX1_seizeFirst_22 : decode cX1_seizeFirst 22 = .ok (.iload 4, 2) := by decide +kernel
theorem dX1_seizeFirst_24 : decode cX1_seizeFirst 24 = .ok (.aaload, 1) := by decide +kernel
theorem dX1_seizeFirst_25 : decode cX1_seizeFirst 25 = .ok (.astore 5, 2) := by decide +kernel
theorem dX1_seizeFirst_27 : decode cX1_seizeFirst 27 = .ok (.aload_n 0, 1) := by decide +kernel
theorem dX1_seizeFirst_28 : decode cX1_seizeFirst 28 = .ok (.aload 5, 2) := by decide +kernel
theorem dX1_seizeFirst_30 : decode cX1_seizeFirst 30 = .ok (.getfield 157, 3) := by decide +kernel
theorem dX1_seizeFirst_33 : decode cX1_seizeFirst 33 = .ok (.invokevirtual 170, 3) := by decide +kernel
theorem dX1_seizeFirst_36 : decode cX1_seizeFirst 36 = .ok (.ifCond .eq 7, 3) := by decide +kernel
theorem dX1_seizeFirst_39 : decode cX1_seizeFirst 39 = .ok (.iconst 3, 1) := by decide +kernel
theorem dX1_seizeFirst_40 : decode cX1_seizeFirst 40 = .ok (.goto 4, 3) := by decide +kernel
theorem dX1_seizeFirst_43 : decode cX1_seizeFirst 43 = .ok (.iconst 0, 1) := by decide +kernel
theorem dX1_seizeFirst_44 : decode cX1_seizeFirst 44 = .ok (.istore 6, 2) := by decide +kernel
theorem dX1_seizeFirst_46 : decode cX1_seizeFirst 46 = .ok (.aload 5, 2) := by decide +kernel
theorem dX1_seizeFirst_48 : decode cX1_seizeFirst 48 = .ok (.invokevirtual 123, 3) := by decide +kernel
theorem dX1_seizeFirst_51 : decode cX1_seizeFirst 51 = .ok (.ifCond .eq 59, 3) := by decide +kernel
theorem dX1_seizeFirst_54 : decode cX1_seizeFirst 54 = .ok (.aload_n 1, 1) := by decide +kernel
theorem dX1_seizeFirst_55 : decode cX1_seizeFirst 55 = .ok (.getfield 174, 3) := by decide +kernel
theorem dX1_seizeFirst_58 : decode cX1_seizeFirst 58 = .ok (.aload 5, 2) := by decide +kernel
theorem dX1_seizeFirst_60 : decode cX1_seizeFirst 60 = .ok (.getfield 144, 3) := by decide +kernel
theorem dX1_seizeFirst_63 : decode cX1_seizeFirst 63 = .ok (.invokestatic 151, 3) := by decide +kernel
theorem dX1_seizeFirst_66 : decode cX1_seizeFirst 66 = .ok (.iload_n 3, 1) := by decide +kernel
theorem dX1_seizeFirst_67 : decode cX1_seizeFirst 67 = .ok (.iload 6, 2) := by decide +kernel
theorem dX1_seizeFirst_69 : decode cX1_seizeFirst 69 = .ok (.iadd, 1) := by decide +kernel
theorem dX1_seizeFirst_70 : decode cX1_seizeFirst 70 = .ok (.if_icmp .gt 40, 3) := by decide +kernel
theorem dX1_seizeFirst_73 : decode cX1_seizeFirst 73 = .ok (.aload_n 0, 1) := by decide +kernel
theorem dX1_seizeFirst_74 : decode cX1_seizeFirst 74 = .ok (.dup, 1) := by decide +kernel
theorem dX1_seizeFirst_75 : decode cX1_seizeFirst 75 = .ok (.getfield 74, 3) := by decide +kernel
theorem dX1_seizeFirst_78 : decode cX1_seizeFirst 78 = .ok (.aload 5, 2) := by decide +kernel
theorem dX1_seizeFirst_80 : decode cX1_seizeFirst 80 = .ok (.getfield 145, 3) := by decide +kernel
theorem dX1_seizeFirst_83 : decode cX1_seizeFirst 83 = .ok (.iadd, 1) := by decide +kernel
theorem dX1_seizeFirst_84 : decode cX1_seizeFirst 84 = .ok (.putfield 74, 3) := by decide +kernel
theorem dX1_seizeFirst_87 : decode cX1_seizeFirst 87 = .ok (.aload 5, 2) := by decide +kernel
theorem dX1_seizeFirst_89 : decode cX1_seizeFirst 89 = .ok (.iconst 0, 1) := by decide +kernel
theorem dX1_seizeFirst_90 : decode cX1_seizeFirst 90 = .ok (.putfield 145, 3) := by decide +kernel
theorem dX1_seizeFirst_93 : decode cX1_seizeFirst 93 = .ok (.aload 5, 2) := by decide +kernel
theorem dX1_seizeFirst_95 : decode cX1_seizeFirst 95 = .ok (.iconst 2, 1) := by decide +kernel
theorem dX1_seizeFirst_96 : decode cX1_seizeFirst 96 = .ok (.putfield 130, 3) := by decide +kernel
theorem dX1_seizeFirst_99 : decode cX1_seizeFirst 99 = .ok (.aload_n 1, 1) := by decide +kernel
theorem dX1_seizeFirst_100 : decode cX1_seizeFirst 100 = .ok (.dup, 1) := by decide +kernel
theorem dX1_seizeFirst_101 : decode cX1_seizeFirst 101 = .ok (.getfield 175, 3) := by decide +kernel
theorem dX1_seizeFirst_104 : decode cX1_seizeFirst 104 = .ok (.iconst 1, 1) := by decide +kernel
theorem dX1_seizeFirst_105 : decode cX1_seizeFirst 105 = .ok (.iadd, 1) := by decide +kernel
theorem dX1_seizeFirst_106 : decode cX1_seizeFirst 106 = .ok (.putfield 175, 3) := by decide +kernel
theorem dX1_seizeFirst_109 : decode cX1_seizeFirst 109 = .ok (.return_, 1) := by decide +kernel
theorem dX1_seizeFirst_110 : decode cX1_seizeFirst 110 = .ok (.iinc 4 1, 3) := by decide +kernel
theorem dX1_seizeFirst_113 : decode cX1_seizeFirst 113 = .ok (.goto (-104), 3) := by decide +kernel
theorem dX1_seizeFirst_116 : decode cX1_seizeFirst 116 = .ok (.return_, 1) := by decide +kernel
theorem dX1_watchmenSeeingLantern_0 : decode cX1_watchmenSeeingLantern 0 = .ok (.iconst 0, 1) := by decide +kernel
theorem dX1_watchmenSeeingLantern_1 : decode cX1_watchmenSeeingLantern 1 = .ok (.istore_n 3, 1) := by decide +kernel
theorem dX1_watchmenSeeingLantern_2 : decode cX1_watchmenSeeingLantern 2 = .ok (.iconst 0, 1) := by decide +kernel
theorem dX1_watchmenSeeingLantern_3 : decode cX1_watchmenSeeingLantern 3 = .ok (.istore 4, 2) := by decide +kernel
theorem dX1_watchmenSeeingLantern_5 : decode cX1_watchmenSeeingLantern 5 = .ok (.iload 4, 2) := by decide +kernel
theorem dX1_watchmenSeeingLantern_7 : decode cX1_watchmenSeeingLantern 7 = .ok (.aload_n 0, 1) := by decide +kernel
theorem dX1_watchmenSeeingLantern_8 : decode cX1_watchmenSeeingLantern 8 = .ok (.getfield 55, 3) := by decide +kernel
theorem dX1_watchmenSeeingLantern_11 : decode cX1_watchmenSeeingLantern 11 = .ok (.if_icmp .ge 40, 3) := by decide +kernel
theorem dX1_watchmenSeeingLantern_14 : decode cX1_watchmenSeeingLantern 14 = .ok (.aload_n 0, 1) := by decide +kernel
theorem dX1_watchmenSeeingLantern_15 : decode cX1_watchmenSeeingLantern 15 = .ok (.getfield 32, 3) := by decide +kernel
theorem dX1_watchmenSeeingLantern_18 : decode cX1_watchmenSeeingLantern 18 = .ok (.iload 4, 2) := by decide +kernel
theorem dX1_watchmenSeeingLantern_20 : decode cX1_watchmenSeeingLantern 20 = .ok (.aaload, 1) := by decide +kernel
theorem dX1_watchmenSeeingLantern_21 : decode cX1_watchmenSeeingLantern 21 = .ok (.getfield 174, 3) := by decide +kernel
theorem dX1_watchmenSeeingLantern_24 : decode cX1_watchmenSeeingLantern 24 = .ok (.iload_n 1, 1) := by decide +kernel
theorem dX1_watchmenSeeingLantern_25 : decode cX1_watchmenSeeingLantern 25 = .ok (.invokestatic 151, 3) := by decide +kernel
theorem dX1_watchmenSeeingLantern_28 : decode cX1_watchmenSeeingLantern 28 = .ok (.aload_n 0, 1) := by decide +kernel
theorem dX1_watchmenSeeingLantern_29 : decode cX1_watchmenSeeingLantern 29 = .ok (.getfield 32, 3) := by decide +kernel
theorem dX1_watchmenSeeingLantern_32 : decode cX1_watchmenSeeingLantern 32 = .ok (.iload 4, 2) := by decide +kernel
theorem dX1_watchmenSeeingLantern_34 : decode cX1_watchmenSeeingLantern 34 = .ok (.aaload, 1) := by decide +kernel
theorem dX1_watchmenSeeingLantern_35 : decode cX1_watchmenSeeingLantern 35 = .ok (.iload_n 2, 1) := by decide +kernel
theorem dX1_watchmenSeeingLantern_36 : decode cX1_watchmenSeeingLantern 36 = .ok (.invokevirtual 178, 3) := by decide +kernel
theorem dX1_watchmenSeeingLantern_39 : decode cX1_watchmenSeeingLantern 39 = .ok (.if_icmp .gt 6, 3) := by decide +kernel
theorem dX1_watchmenSeeingLantern_42 : decode cX1_watchmenSeeingLantern 42 = .ok (.iinc 3 1, 3) := by decide +kernel
theorem dX1_watchmenSeeingLantern_45 : decode cX1_watchmenSeeingLantern 45 = .ok (.iinc 4 1, 3) := by decide +kernel
theorem dX1_watchmenSeeingLantern_48 : decode cX1_watchmenSeeingLantern 48 = .ok (.goto (-43), 3) := by decide +kernel
theorem dX1_watchmenSeeingLantern_51 : decode cX1_watchmenSeeingLantern 51 = .ok (.iload_n 3, 1) := by decide +kernel
theorem dX1_watchmenSeeingLantern_52 : decode cX1_watchmenSeeingLantern 52 = .ok (.ireturn, 1) := by decide +kernel
theorem dX1_watchmenSeeingPlace_0 : decode cX1_watchmenSeeingPlace 0 = .ok (.aload_n 0, 1) := by decide +kernel
theorem dX1_watchmenSeeingPlace_1 : decode cX1_watchmenSeeingPlace 1 = .ok (.invokevirtual 96, 3) := by decide +kernel
theorem dX1_watchmenSeeingPlace_4 : decode cX1_watchmenSeeingPlace 4 = .ok (.istore_n 2, 1) := by decide +kernel
theorem dX1_watchmenSeeingPlace_5 : decode cX1_watchmenSeeingPlace 5 = .ok (.iconst 0, 1) := by decide +kernel
theorem dX1_watchmenSeeingPlace_6 : decode cX1_watchmenSeeingPlace 6 = .ok (.istore_n 3, 1) := by decide +kernel
theorem dX1_watchmenSeeingPlace_7 : decode cX1_watchmenSeeingPlace 7 = .ok (.iconst 0, 1) := by decide +kernel
theorem dX1_watchmenSeeingPlace_8 : decode cX1_watchmenSeeingPlace 8 = .ok (.istore 4, 2) := by decide +kernel
theorem dX1_watchmenSeeingPlace_10 : decode cX1_watchmenSeeingPlace 10 = .ok (.iload 4, 2) := by decide +kernel
theorem dX1_watchmenSeeingPlace_12 : decode cX1_watchmenSeeingPlace 12 = .ok (.aload_n 0, 1) := by decide +kernel
theorem dX1_watchmenSeeingPlace_13 : decode cX1_watchmenSeeingPlace 13 = .ok (.getfield 55, 3) := by decide +kernel
theorem dX1_watchmenSeeingPlace_16 : decode cX1_watchmenSeeingPlace 16 = .ok (.if_icmp .ge 40, 3) := by decide +kernel
theorem dX1_watchmenSeeingPlace_19 : decode cX1_watchmenSeeingPlace 19 = .ok (.aload_n 0, 1) := by decide +kernel
theorem dX1_watchmenSeeingPlace_20 : decode cX1_watchmenSeeingPlace 20 = .ok (.getfield 32, 3) := by decide +kernel
theorem dX1_watchmenSeeingPlace_23 : decode cX1_watchmenSeeingPlace 23 = .ok (.iload 4, 2) := by decide +kernel
theorem dX1_watchmenSeeingPlace_25 : decode cX1_watchmenSeeingPlace 25 = .ok (.aaload, 1) := by decide +kernel
theorem dX1_watchmenSeeingPlace_26 : decode cX1_watchmenSeeingPlace 26 = .ok (.getfield 174, 3) := by decide +kernel
theorem dX1_watchmenSeeingPlace_29 : decode cX1_watchmenSeeingPlace 29 = .ok (.iload_n 1, 1) := by decide +kernel
theorem dX1_watchmenSeeingPlace_30 : decode cX1_watchmenSeeingPlace 30 = .ok (.invokestatic 151, 3) := by decide +kernel
theorem dX1_watchmenSeeingPlace_33 : decode cX1_watchmenSeeingPlace 33 = .ok (.aload_n 0, 1) := by decide +kernel
theorem dX1_watchmenSeeingPlace_34 : decode cX1_watchmenSeeingPlace 34 = .ok (.getfield 32, 3) := by decide +kernel
theorem dX1_watchmenSeeingPlace_37 : decode cX1_watchmenSeeingPlace 37 = .ok (.iload 4, 2) := by decide +kernel
theorem dX1_watchmenSeeingPlace_39 : decode cX1_watchmenSeeingPlace 39 = .ok (.aaload, 1) := by decide +kernel
theorem dX1_watchmenSeeingPlace_40 : decode cX1_watchmenSeeingPlace 40 = .ok (.iload_n 2, 1) := by decide +kernel
theorem dX1_watchmenSeeingPlace_41 : decode cX1_watchmenSeeingPlace 41 = .ok (.invokevirtual 167, 3) := by decide +kernel
theorem dX1_watchmenSeeingPlace_44 : decode cX1_watchmenSeeingPlace 44 = .ok (.if_icmp .gt 6, 3) := by decide +kernel
theorem dX1_watchmenSeeingPlace_47 : decode cX1_watchmenSeeingPlace 47 = .ok (.iinc 3 1, 3) := by decide +kernel
theorem dX1_watchmenSeeingPlace_50 : decode cX1_watchmenSeeingPlace 50 = .ok (.iinc 4 1, 3) := by decide +kernel
theorem dX1_watchmenSeeingPlace_53 : decode cX1_watchmenSeeingPlace 53 = .ok (.goto (-43), 3) := by decide +kernel
theorem dX1_watchmenSeeingPlace_56 : decode cX1_watchmenSeeingPlace 56 = .ok (.iload_n 3, 1) := by decide +kernel
theorem dX1_watchmenSeeingPlace_57 : decode cX1_watchmenSeeingPlace 57 = .ok (.ireturn, 1) := by decide +kernel
theorem dX1_watchmenAt_0 : decode cX1_watchmenAt 0 = .ok (.iconst 0, 1) := by decide +kernel
theorem dX1_watchmenAt_1 : decode cX1_watchmenAt 1 = .ok (.istore_n 2, 1) := by decide +kernel
theorem dX1_watchmenAt_2 : decode cX1_watchmenAt 2 = .ok (.iconst 0, 1) := by decide +kernel
theorem dX1_watchmenAt_3 : decode cX1_watchmenAt 3 = .ok (.istore_n 3, 1) := by decide +kernel
theorem dX1_watchmenAt_4 : decode cX1_watchmenAt 4 = .ok (.iload_n 3, 1) := by decide +kernel
theorem dX1_watchmenAt_5 : decode cX1_watchmenAt 5 = .ok (.aload_n 0, 1) := by decide +kernel
theorem dX1_watchmenAt_6 : decode cX1_watchmenAt 6 = .ok (.getfield 55, 3) := by decide +kernel
theorem dX1_watchmenAt_9 : decode cX1_watchmenAt 9 = .ok (.if_icmp .ge 25, 3) := by decide +kernel
theorem dX1_watchmenAt_12 : decode cX1_watchmenAt 12 = .ok (.aload_n 0, 1) := by decide +kernel
theorem dX1_watchmenAt_13 : decode cX1_watchmenAt 13 = .ok (.getfield 32, 3) := by decide +kernel
theorem dX1_watchmenAt_16 : decode cX1_watchmenAt 16 = .ok (.iload_n 3, 1) := by decide +kernel
theorem dX1_watchmenAt_17 : decode cX1_watchmenAt 17 = .ok (.aaload, 1) := by decide +kernel
theorem dX1_watchmenAt_18 : decode cX1_watchmenAt 18 = .ok (.getfield 174, 3) := by decide +kernel
theorem dX1_watchmenAt_21 : decode cX1_watchmenAt 21 = .ok (.iload_n 1, 1) := by decide +kernel
theorem dX1_watchmenAt_22 : decode cX1_watchmenAt 22 = .ok (.if_icmp .ne 6, 3) := by decide +kernel
theorem dX1_watchmenAt_25 : decode cX1_watchmenAt 25 = .ok (.iinc 2 1, 3) := by decide +kernel
theorem dX1_watchmenAt_28 : decode cX1_watchmenAt 28 = .ok (.iinc 3 1, 3) := by decide +kernel
theorem dX1_watchmenAt_31 : decode cX1_watchmenAt 31 = .ok (.goto (-27), 3) := by decide +kernel
theorem dX1_watchmenAt_34 : decode cX1_watchmenAt 34 = .ok (.iload_n 2, 1) := by decide +kernel
theorem dX1_watchmenAt_35 : decode cX1_watchmenAt 35 = .ok (.ireturn, 1) := by decide +kernel
theorem dX1_boatsAtSeaAt_0 : decode cX1_boatsAtSeaAt 0 = .ok (.iconst 0, 1) := by decide +kernel
theorem dX1_boatsAtSeaAt_1 : decode cX1_boatsAtSeaAt 1 = .ok (.istore_n 2, 1) := by decide +kernel
theorem dX1_boatsAtSeaAt_2 : decode cX1_boatsAtSeaAt 2 = .ok (.iconst 0, 1) := by decide +kernel
theorem dX1_boatsAtSeaAt_3 : decode cX1_boatsAtSeaAt 3 = .ok (.istore_n 3, 1) := by decide +kernel
theorem dX1_boatsAtSeaAt_4 : decode cX1_boatsAtSeaAt 4 = .ok (.iload_n 3, 1) := by decide +kernel
theorem dX1_boatsAtSeaAt_5 : decode cX1_boatsAtSeaAt 5 = .ok (.aload_n 0, 1) := by decide +kernel
theorem dX1_boatsAtSeaAt_6 : decode cX1_boatsAtSeaAt 6 = .ok (.getfield 58, 3) := by decide +kernel
theorem dX1_boatsAtSeaAt_9 : decode cX1_boatsAtSeaAt 9 = .ok (.if_icmp .ge 37, 3) := by decide +kernel
theorem dX1_boatsAtSeaAt_12 : decode cX1_boatsAtSeaAt 12 = .ok (.aload_n 0, 1) := by decide +kernel
theorem dX1_boatsAtSeaAt_13 : decode cX1_boatsAtSeaAt 13 = .ok (.getfield 38, 3) := by decide +kernel
theorem dX1_boatsAtSeaAt_16 : decode cX1_boatsAtSeaAt 16 = .ok (.iload_n 3, 1) := by decide +kernel
theorem dX1_boatsAtSeaAt_17 : decode cX1_boatsAtSeaAt 17 = .ok (.aaload, 1) := by decide +kernel
theorem dX1_boatsAtSeaAt_18 : decode cX1_boatsAtSeaAt 18 = .ok (.getfield 130, 3) := by decide +kernel
theorem dX1_boatsAtSeaAt_21 : decode cX1_boatsAtSeaAt 21 = .ok (.ifCond .ne 19, 3) := by decide +kernel
theorem dX1_boatsAtSeaAt_24 : decode cX1_boatsAtSeaAt 24 = .ok (.aload_n 0, 1) := by decide +kernel
theorem dX1_boatsAtSeaAt_25 : decode cX1_boatsAtSeaAt 25 = .ok (.getfield 38, 3) := by decide +kernel
theorem dX1_boatsAtSeaAt_28 : decode cX1_boatsAtSeaAt 28 = .ok (.iload_n 3, 1) := by decide +kernel
theorem dX1_boatsAtSeaAt_29 : decode cX1_boatsAtSeaAt 29 = .ok (.aaload, 1) := by decide +kernel
theorem dX1_boatsAtSeaAt_30 : decode cX1_boatsAtSeaAt 30 = .ok (.getfield 144, 3) := by decide +kernel
theorem dX1_boatsAtSeaAt_33 : decode cX1_boatsAtSeaAt 33 = .ok (.iload_n 1, 1) := by decide +kernel
theorem dX1_boatsAtSeaAt_34 : decode cX1_boatsAtSeaAt 34 = .ok (.if_icmp .ne 6, 3) := by decide +kernel
theorem dX1_boatsAtSeaAt_37 : decode cX1_boatsAtSeaAt 37 = .ok (.iinc 2 1, 3) := by decide +kernel
theorem dX1_boatsAtSeaAt_40 : decode cX1_boatsAtSeaAt 40 = .ok (.iinc 3 1, 3) := by decide +kernel
theorem dX1_boatsAtSeaAt_43 : decode cX1_boatsAtSeaAt 43 = .ok (.goto (-39), 3) := by decide +kernel
theorem dX1_boatsAtSeaAt_46 : decode cX1_boatsAtSeaAt 46 = .ok (.iload_n 2, 1) := by decide +kernel
theorem dX1_boatsAtSeaAt_47 : decode cX1_boatsAtSeaAt 47 = .ok (.ireturn, 1) := by decide +kernel
theorem dX1_boatsAtSeaLedBy_0 : decode cX1_boatsAtSeaLedBy 0 = .ok (.iconst 0, 1) := by decide +kernel
theorem dX1_boatsAtSeaLedBy_1 : decode cX1_boatsAtSeaLedBy 1 = .ok (.istore_n 2, 1) := by decide +kernel
theorem dX1_boatsAtSeaLedBy_2 : decode cX1_boatsAtSeaLedBy 2 = .ok (.iconst 0, 1) := by decide +kernel
theorem dX1_boatsAtSeaLedBy_3 : decode cX1_boatsAtSeaLedBy 3 = .ok (.istore_n 3, 1) := by decide +kernel
theorem dX1_boatsAtSeaLedBy_4 : decode cX1_boatsAtSeaLedBy 4 = .ok (.iload_n 3, 1) := by decide +kernel
theorem dX1_boatsAtSeaLedBy_5 : decode cX1_boatsAtSeaLedBy 5 = .ok (.aload_n 0, 1) := by decide +kernel
theorem dX1_boatsAtSeaLedBy_6 : decode cX1_boatsAtSeaLedBy 6 = .ok (.getfield 58, 3) := by decide +kernel
theorem dX1_boatsAtSeaLedBy_9 : decode cX1_boatsAtSeaLedBy 9 = .ok (.if_icmp .ge 37, 3) := by decide +kernel
theorem dX1_boatsAtSeaLedBy_12 : decode cX1_boatsAtSeaLedBy 12 = .ok (.aload_n 0, 1) := by decide +kernel
theorem dX1_boatsAtSeaLedBy_13 : decode cX1_boatsAtSeaLedBy 13 = .ok (.getfield 38, 3) := by decide +kernel
theorem dX1_boatsAtSeaLedBy_16 : decode cX1_boatsAtSeaLedBy 16 = .ok (.iload_n 3, 1) := by decide +kernel
theorem dX1_boatsAtSeaLedBy_17 : decode cX1_boatsAtSeaLedBy 17 = .ok (.aaload, 1) := by decide +kernel
theorem dX1_boatsAtSeaLedBy_18 : decode cX1_boatsAtSeaLedBy 18 = .ok (.getfield 130, 3) := by decide +kernel
theorem dX1_boatsAtSeaLedBy_21 : decode cX1_boatsAtSeaLedBy 21 = .ok (.ifCond .ne 19, 3) := by decide +kernel
theorem dX1_boatsAtSeaLedBy_24 : decode cX1_boatsAtSeaLedBy 24 = .ok (.aload_n 0, 1) := by decide +kernel
theorem dX1_boatsAtSeaLedBy_25 : decode cX1_boatsAtSeaLedBy 25 = .ok (.getfield 38, 3) := by decide +kernel
theorem dX1_boatsAtSeaLedBy_28 : decode cX1_boatsAtSeaLedBy 28 = .ok (.iload_n 3, 1) := by decide +kernel
theorem dX1_boatsAtSeaLedBy_29 : decode cX1_boatsAtSeaLedBy 29 = .ok (.aaload, 1) := by decide +kernel
theorem dX1_boatsAtSeaLedBy_30 : decode cX1_boatsAtSeaLedBy 30 = .ok (.getfield 157, 3) := by decide +kernel
theorem dX1_boatsAtSeaLedBy_33 : decode cX1_boatsAtSeaLedBy 33 = .ok (.iload_n 1, 1) := by decide +kernel
theorem dX1_boatsAtSeaLedBy_34 : decode cX1_boatsAtSeaLedBy 34 = .ok (.if_icmp .ne 6, 3) := by decide +kernel
theorem dX1_boatsAtSeaLedBy_37 : decode cX1_boatsAtSeaLedBy 37 = .ok (.iinc 2 1, 3) := by decide +kernel
theorem dX1_boatsAtSeaLedBy_40 : decode cX1_boatsAtSeaLedBy 40 = .ok (.iinc 3 1, 3) := by decide +kernel
theorem dX1_boatsAtSeaLedBy_43 : decode cX1_boatsAtSeaLedBy 43 = .ok (.goto (-39), 3) := by decide +kernel
theorem dX1_boatsAtSeaLedBy_46 : decode cX1_boatsAtSeaLedBy 46 = .ok (.iload_n 2, 1) := by decide +kernel
theorem dX1_boatsAtSeaLedBy_47 : decode cX1_boatsAtSeaLedBy 47 = .ok (.ireturn, 1) := by decide +kernel
theorem dX1_boatsOfFate_0 : decode cX1_boatsOfFate 0 = .ok (.iconst 0, 1) := by decide +kernel
theorem dX1_boatsOfFate_1 : decode cX1_boatsOfFate 1 = .ok (.istore_n 2, 1) := by decide +kernel
theorem dX1_boatsOfFate_2 : decode cX1_boatsOfFate 2 = .ok (.iconst 0, 1) := by decide +kernel
theorem dX1_boatsOfFate_3 : decode cX1_boatsOfFate 3 = .ok (.istore_n 3, 1) := by decide +kernel
theorem dX1_boatsOfFate_4 : decode cX1_boatsOfFate 4 = .ok (.iload_n 3, 1) := by decide +kernel
theorem dX1_boatsOfFate_5 : decode cX1_boatsOfFate 5 = .ok (.aload_n 0, 1) := by decide +kernel
theorem dX1_boatsOfFate_6 : decode cX1_boatsOfFate 6 = .ok (.getfield 58, 3) := by decide +kernel
theorem dX1_boatsOfFate_9 : decode cX1_boatsOfFate 9 = .ok (.if_icmp .ge 25, 3) := by decide +kernel
theorem dX1_boatsOfFate_12 : decode cX1_boatsOfFate 12 = .ok (.aload_n 0, 1) := by decide +kernel
theorem dX1_boatsOfFate_13 : decode cX1_boatsOfFate 13 = .ok (.getfield 38, 3) := by decide +kernel
theorem dX1_boatsOfFate_16 : decode cX1_boatsOfFate 16 = .ok (.iload_n 3, 1) := by decide +kernel
theorem dX1_boatsOfFate_17 : decode cX1_boatsOfFate 17 = .ok (.aaload, 1) := by decide +kernel
theorem dX1_boatsOfFate_18 : decode cX1_boatsOfFate 18 = .ok (.getfield 130, 3) := by decide +kernel
theorem dX1_boatsOfFate_21 : decode cX1_boatsOfFate 21 = .ok (.iload_n 1, 1) := by decide +kernel
theorem dX1_boatsOfFate_22 : decode cX1_boatsOfFate 22 = .ok (.if_icmp .ne 6, 3) := by decide +kernel
theorem dX1_boatsOfFate_25 : decode cX1_boatsOfFate 25 = .ok (.iinc 2 1, 3) := by decide +kernel
theorem dX1_boatsOfFate_28 : decode cX1_boatsOfFate 28 = .ok (.iinc 3 1, 3) := by decide +kernel
theorem dX1_boatsOfFate_31 : decode cX1_boatsOfFate 31 = .ok (.goto (-27), 3) := by decide +kernel
theorem dX1_boatsOfFate_34 : decode cX1_boatsOfFate 34 = .ok (.iload_n 2, 1) := by decide +kernel
theorem dX1_boatsOfFate_35 : decode cX1_boatsOfFate 35 = .ok (.ireturn, 1) := by decide +kernel
theorem dX1_balesAtSea_0 : decode cX1_balesAtSea 0 = .ok (.iconst 0, 1) := by decide +kernel
theorem dX1_balesAtSea_1 : decode cX1_balesAtSea 1 = .ok (.istore_n 1, 1) := by decide +kernel
theorem dX1_balesAtSea_2 : decode cX1_balesAtSea 2 = .ok (.iconst 0, 1) := by decide +kernel
theorem dX1_balesAtSea_3 : decode cX1_balesAtSea 3 = .ok (.istore_n 2, 1) := by decide +kernel
theorem dX1_balesAtSea_4 : decode cX1_balesAtSea 4 = .ok (.iload_n 2, 1) := by decide +kernel
theorem dX1_balesAtSea_5 : decode cX1_balesAtSea 5 = .ok (.aload_n 0, 1) := by decide +kernel
theorem dX1_balesAtSea_6 : decode cX1_balesAtSea 6 = .ok (.getfield 58, 3) := by decide +kernel
theorem dX1_balesAtSea_9 : decode cX1_balesAtSea 9 = .ok (.if_icmp .ge 21, 3) := by decide +kernel
theorem dX1_balesAtSea_12 : decode cX1_balesAtSea 12 = .ok (.iload_n 1, 1) := by decide +kernel
theorem dX1_balesAtSea_13 : decode cX1_balesAtSea 13 = .ok (.aload_n 0, 1) := by decide +kernel
theorem dX1_balesAtSea_14 : decode cX1_balesAtSea 14 = .ok (.getfield 38, 3) := by decide +kernel
theorem dX1_balesAtSea_17 : decode cX1_balesAtSea 17 = .ok (.iload_n 2, 1) := by decide +kernel
theorem dX1_balesAtSea_18 : decode cX1_balesAtSea 18 = .ok (.aaload, 1) := by decide +kernel
theorem dX1_balesAtSea_19 : decode cX1_balesAtSea 19 = .ok (.getfield 145, 3) := by decide +kernel
theorem dX1_balesAtSea_22 : decode cX1_balesAtSea 22 = .ok (.iadd, 1) := by decide +kernel
theorem dX1_balesAtSea_23 : decode cX1_balesAtSea 23 = .ok (.istore_n 1, 1) := by decide +kernel
theorem dX1_balesAtSea_24 : decode cX1_balesAtSea 24 = .ok (.iinc 2 1, 3) := by decide +kernel
theorem dX1_balesAtSea_27 : decode cX1_balesAtSea 27 = .ok (.goto (-23), 3) := by decide +kernel
theorem dX1_balesAtSea_30 : decode cX1_balesAtSea 30 = .ok (.iload_n 1, 1) := by decide +kernel
theorem dX1_balesAtSea_31 : decode cX1_balesAtSea 31 = .ok (.ireturn, 1) := by decide +kernel
theorem dX1_balesUnloaded_0 : decode cX1_balesUnloaded 0 = .ok (.iconst 0, 1) := by decide +kernel
theorem dX1_balesUnloaded_1 : decode cX1_balesUnloaded 1 = .ok (.istore_n 1, 1) := by decide +kernel
theorem dX1_balesUnloaded_2 : decode cX1_balesUnloaded 2 = .ok (.iconst 0, 1) := by decide +kernel
theorem dX1_balesUnloaded_3 : decode cX1_balesUnloaded 3 = .ok (.istore_n 2, 1) := by decide +kernel
theorem dX1_balesUnloaded_4 : decode cX1_balesUnloaded 4 = .ok (.iload_n 2, 1) := by decide +kernel
theorem dX1_balesUnloaded_5 : decode cX1_balesUnloaded 5 = .ok (.aload_n 0, 1) := by decide +kernel
theorem dX1_balesUnloaded_6 : decode cX1_balesUnloaded 6 = .ok (.getfield 58, 3) := by decide +kernel
theorem dX1_balesUnloaded_9 : decode cX1_balesUnloaded 9 = .ok (.if_icmp .ge 21, 3) := by decide +kernel
theorem dX1_balesUnloaded_12 : decode cX1_balesUnloaded 12 = .ok (.iload_n 1, 1) := by decide +kernel
theorem dX1_balesUnloaded_13 : decode cX1_balesUnloaded 13 = .ok (.aload_n 0, 1) := by decide +kernel
theorem dX1_balesUnloaded_14 : decode cX1_balesUnloaded 14 = .ok (.getfield 38, 3) := by decide +kernel
theorem dX1_balesUnloaded_17 : decode cX1_balesUnloaded 17 = .ok (.iload_n 2, 1) := by decide +kernel
theorem dX1_balesUnloaded_18 : decode cX1_balesUnloaded 18 = .ok (.aaload, 1) := by decide +kernel
theorem dX1_balesUnloaded_19 : decode cX1_balesUnloaded 19 = .ok (.getfield 148, 3) := by decide +kernel
theorem dX1_balesUnloaded_22 : decode cX1_balesUnloaded 22 = .ok (.iadd, 1) := by decide +kernel
theorem dX1_balesUnloaded_23 : decode cX1_balesUnloaded 23 = .ok (.istore_n 1, 1) := by decide +kernel
theorem dX1_balesUnloaded_24 : decode cX1_balesUnloaded 24 = .ok (.iinc 2 1, 3) := by decide +kernel
theorem dX1_balesUnloaded_27 : decode cX1_balesUnloaded 27 = .ok (.goto (-23), 3) := by decide +kernel
theorem dX1_balesUnloaded_30 : decode cX1_balesUnloaded 30 = .ok (.iload_n 1, 1) := by decide +kernel
theorem dX1_balesUnloaded_31 : decode cX1_balesUnloaded 31 = .ok (.ireturn, 1) := by decide +kernel
theorem dX1_balesInCaves_0 : decode cX1_balesInCaves 0 = .ok (.iconst 0, 1) := by decide +kernel
theorem dX1_balesInCaves_1 : decode cX1_balesInCaves 1 = .ok (.istore_n 1, 1) := by decide +kernel
theorem dX1_balesInCaves_2 : decode cX1_balesInCaves 2 = .ok (.iconst 0, 1) := by decide +kernel
theorem dX1_balesInCaves_3 : decode cX1_balesInCaves 3 = .ok (.istore_n 2, 1) := by decide +kernel
theorem dX1_balesInCaves_4 : decode cX1_balesInCaves 4 = .ok (.iload_n 2, 1) := by decide +kernel
theorem dX1_balesInCaves_5 : decode cX1_balesInCaves 5 = .ok (.bipush 16, 2) := by decide +kernel
theorem dX1_balesInCaves_7 : decode cX1_balesInCaves 7 = .ok (.if_icmp .ge 18, 3) := by decide +kernel
theorem dX1_balesInCaves_10 : decode cX1_balesInCaves 10 = .ok (.iload_n 1, 1) := by decide +kernel
theorem dX1_balesInCaves_11 : decode cX1_balesInCaves 11 = .ok (.aload_n 0, 1) := by decide +kernel
theorem dX1_balesInCaves_12 : decode cX1_balesInCaves 12 = .ok (.getfield 15, 3) := by decide +kernel
theorem dX1_balesInCaves_15 : decode cX1_balesInCaves 15 = .ok (.iload_n 2, 1) := by decide +kernel
theorem dX1_balesInCaves_16 : decode cX1_balesInCaves 16 = .ok (.iaload, 1) := by decide +kernel
theorem dX1_balesInCaves_17 : decode cX1_balesInCaves 17 = .ok (.iadd, 1) := by decide +kernel
theorem dX1_balesInCaves_18 : decode cX1_balesInCaves 18 = .ok (.istore_n 1, 1) := by decide +kernel
theorem dX1_balesInCaves_19 : decode cX1_balesInCaves 19 = .ok (.iinc 2 1, 3) := by decide +kernel
theorem dX1_balesInCaves_22 : decode cX1_balesInCaves 22 = .ok (.goto (-18), 3) := by decide +kernel
theorem dX1_balesInCaves_25 : decode cX1_balesInCaves 25 = .ok (.iload_n 1, 1) := by decide +kernel
theorem dX1_balesInCaves_26 : decode cX1_balesInCaves 26 = .ok (.ireturn, 1) := by decide +kernel
theorem dX1_knownCodes_0 : decode cX1_knownCodes 0 = .ok (.iconst 0, 1) := by decide +kernel
theorem dX1_knownCodes_1 : decode cX1_knownCodes 1 = .ok (.istore_n 1, 1) := by decide +kernel
theorem dX1_knownCodes_2 : decode cX1_knownCodes 2 = .ok (.iconst 1, 1) := by decide +kernel
theorem dX1_knownCodes_3 : decode cX1_knownCodes 3 = .ok (.istore_n 2, 1) := by decide +kernel
theorem dX1_knownCodes_4 : decode cX1_knownCodes 4 = .ok (.iload_n 2, 1) := by decide +kernel
theorem dX1_knownCodes_5 : decode cX1_knownCodes 5 = .ok (.bipush 7, 2) := by decide +kernel
theorem dX1_knownCodes_7 : decode cX1_knownCodes 7 = .ok (.if_icmp .gt 20, 3) := by decide +kernel
theorem dX1_knownCodes_10 : decode cX1_knownCodes 10 = .ok (.aload_n 0, 1) := by decide +kernel
theorem dX1_knownCodes_11 : decode cX1_knownCodes 11 = .ok (.iload_n 2, 1) := by decide +kernel
theorem dX1_knownCodes_12 : decode cX1_knownCodes 12 = .ok (.invokevirtual 170, 3) := by decide +kernel
theorem dX1_knownCodes_15 : decode cX1_knownCodes 15 = .ok (.ifCond .eq 6, 3) := by decide +kernel
theorem dX1_knownCodes_18 : decode cX1_knownCodes 18 = .ok (.iinc 1 1, 3) := by decide +kernel
theorem dX1_knownCodes_21 : decode cX1_knownCodes 21 = .ok (.iinc 2 1, 3) := by decide +kernel
theorem dX1_knownCodes_24 : decode cX1_knownCodes 24 = .ok (.goto (-20), 3) := by decide +kernel
theorem dX1_knownCodes_27 : decode cX1_knownCodes 27 = .ok (.iload_n 1, 1) := by decide +kernel
theorem dX1_knownCodes_28 : decode cX1_knownCodes 28 = .ok (.ireturn, 1) := by decide +kernel
theorem dX1_tellLantern_0 : decode cX1_tellLantern 0 = .ok (.iload_n 2, 1) := by decide +kernel
theorem dX1_tellLantern_1 : decode cX1_tellLantern 1 = .ok (.tableswitch 55 0 2 #[27, 32, 42], 27) := by decide +kernel
theorem dX1_tellLantern_28 : decode cX1_tellLantern 28 = .ok (.aload_n 1, 1) := by decide +kernel
theorem dX1_tellLantern_29 : decode cX1_tellLantern 29 = .ok (.getfield 90, 3) := by decide +kernel
theorem dX1_tellLantern_32 : decode cX1_tellLantern 32 = .ok (.ireturn, 1) := by decide +kernel
theorem dX1_tellLantern_33 : decode cX1_tellLantern 33 = .ok (.aload_n 1, 1) := by decide +kernel
theorem dX1_tellLantern_34 : decode cX1_tellLantern 34 = .ok (.getfield 114, 3) := by decide +kernel
theorem dX1_tellLantern_37 : decode cX1_tellLantern 37 = .ok (.aload_n 0, 1) := by decide +kernel
theorem dX1_tellLantern_38 : decode cX1_tellLantern 38 = .ok (.invokevirtual 100, 3) := by decide +kernel
theorem dX1_tellLantern_41 : decode cX1_tellLantern 41 = .ok (.iaload, 1) := by decide +kernel
theorem dX1_tellLantern_42 : decode cX1_tellLantern 42 = .ok (.ireturn, 1) := by decide +kernel
theorem dX1_tellLantern_43 : decode cX1_tellLantern 43 = .ok (.aload_n 0, 1) := by decide +kernel
theorem dX1_tellLantern_44 : decode cX1_tellLantern 44 = .ok (.aload_n 1, 1) := by decide +kernel
theorem dX1_tellLantern_45 : decode cX1_tellLantern 45 = .ok (.getfield 90, 3) := by decide +kernel
theorem dX1_tellLantern_48 : decode cX1_tellLantern 48 = .ok (.aload_n 0, 1) := by decide +kernel
theorem dX1_tellLantern_49 : decode cX1_tellLantern 49 = .ok (.invokevirtual 96, 3) := by decide +kernel
theorem dX1_tellLantern_52 : decode cX1_tellLantern 52 = .ok (.invokevirtual 117, 3) := by decide +kernel
theorem dX1_tellLantern_55 : decode cX1_tellLantern 55 = .ok (.ireturn, 1) := by decide +kernel
theorem dX1_tellLantern_56 : decode cX1_tellLantern 56 = .ok (.aload_n 1, 1) := by decide +kernel
theorem dX1_tellLantern_57 : decode cX1_tellLantern 57 = .ok (.getfield 120, 3) := by decide +kernel
theorem dX1_tellLantern_60 : decode cX1_tellLantern 60 = .ok (.ireturn, 1) := by decide +kernel
theorem dX1_tellCode_0 : decode cX1_tellCode 0 = .ok (.iload_n 2, 1) := by decide +kernel
theorem dX1_tellCode_1 : decode cX1_tellCode 1 = .ok (.tableswitch 55 0 2 #[27, 34, 41], 27) := by decide +kernel
theorem dX1_tellCode_28 : decode cX1_tellCode 28 = .ok (.aload_n 0, 1) := by decide +kernel
theorem dX1_tellCode_29 : decode cX1_tellCode 29 = .ok (.getfield 18, 3) := by decide +kernel
theorem dX1_tellCode_32 : decode cX1_tellCode 32 = .ok (.iload_n 1, 1) := by decide +kernel
theorem dX1_tellCode_33 : decode cX1_tellCode 33 = .ok (.iaload, 1) := by decide +kernel
theorem dX1_tellCode_34 : decode cX1_tellCode 34 = .ok (.ireturn, 1) := by decide +kernel
theorem dX1_tellCode_35 : decode cX1_tellCode 35 = .ok (.aload_n 0, 1) := by decide +kernel
theorem dX1_tellCode_36 : decode cX1_tellCode 36 = .ok (.getfield 21, 3) := by decide +kernel
theorem dX1_tellCode_39 : decode cX1_tellCode 39 = .ok (.iload_n 1, 1) := by decide +kernel
theorem dX1_tellCode_40 : decode cX1_tellCode 40 = .ok (.iaload, 1) := by decide +kernel
theorem dX1_tellCode_41 : decode cX1_tellCode 41 = .ok (.ireturn, 1) := by decide +kernel
theorem dX1_tellCode_42 : decode cX1_tellCode 42 = .ok (.aload_n 0, 1) := by decide +kernel
theorem dX1_tellCode_43 : decode cX1_tellCode 43 = .ok (.iload_n 1, 1) := by decide +kernel
theorem dX1_tellCode_44 : decode cX1_tellCode 44 = .ok (.invokevirtual 170, 3) := by decide +kernel
theorem dX1_tellCode_47 : decode cX1_tellCode 47 = .ok (.ifCond .eq 7, 3) := by decide +kernel
theorem dX1_tellCode_50 : decode cX1_tellCode 50 = .ok (.iconst 1, 1) := by decide +kernel
theorem dX1_tellCode_51 : decode cX1_tellCode 51 = .ok (.goto 4, 3) := by decide +kernel
theorem dX1_tellCode_54 : decode cX1_tellCode 54 = .ok (.iconst 0, 1) := by decide +kernel
theorem dX1_tellCode_55 : decode cX1_tellCode 55 = .ok (.ireturn, 1) := by decide +kernel
theorem dX1_tellCode_56 : decode cX1_tellCode 56 = .ok (.aload_n 0, 1) := by decide +kernel
theorem dX1_tellCode_57 : decode cX1_tellCode 57 = .ok (.iload_n 1, 1) := by decide +kernel
theorem dX1_tellCode_58 : decode cX1_tellCode 58 = .ok (.invokevirtual 181, 3) := by decide +kernel
theorem dX1_tellCode_61 : decode cX1_tellCode 61 = .ok (.ireturn, 1) := by decide +kernel
theorem dX1_tellPlace_0 : decode cX1_tellPlace 0 = .ok (.iload_n 2, 1) := by decide +kernel
theorem dX1_tellPlace_1 : decode cX1_tellPlace 1 = .ok (.tableswitch 57 0 3 #[31, 38, 45, 51], 31) := by decide +kernel
theorem dX1_tellPlace_32 : decode cX1_tellPlace 32 = .ok (.aload_n 0, 1) := by decide +kernel
theorem dX1_tellPlace_33 : decode cX1_tellPlace 33 = .ok (.getfield 9, 3) := by decide +kernel
theorem dX1_tellPlace_36 : decode cX1_tellPlace 36 = .ok (.iload_n 1, 1) := by decide +kernel
theorem dX1_tellPlace_37 : decode cX1_tellPlace 37 = .ok (.iaload, 1) := by decide +kernel
theorem dX1_tellPlace_38 : decode cX1_tellPlace 38 = .ok (.ireturn, 1) := by decide +kernel
theorem dX1_tellPlace_39 : decode cX1_tellPlace 39 = .ok (.aload_n 0, 1) := by decide +kernel
theorem dX1_tellPlace_40 : decode cX1_tellPlace 40 = .ok (.getfield 15, 3) := by decide +kernel
theorem dX1_tellPlace_43 : decode cX1_tellPlace 43 = .ok (.iload_n 1, 1) := by decide +kernel
theorem dX1_tellPlace_44 : decode cX1_tellPlace 44 = .ok (.iaload, 1) := by decide +kernel
theorem dX1_tellPlace_45 : decode cX1_tellPlace 45 = .ok (.ireturn, 1) := by decide +kernel
theorem dX1_tellPlace_46 : decode cX1_tellPlace 46 = .ok (.aload_n 0, 1) := by decide +kernel
theorem dX1_tellPlace_47 : decode cX1_tellPlace 47 = .ok (.iload_n 1, 1) := by decide +kernel
theorem dX1_tellPlace_48 : decode cX1_tellPlace 48 = .ok (.invokevirtual 184, 3) := by decide +kernel
theorem dX1_tellPlace_51 : decode cX1_tellPlace 51 = .ok (.ireturn, 1) := by decide +kernel
theorem dX1_tellPlace_52 : decode cX1_tellPlace 52 = .ok (.aload_n 0, 1) := by decide +kernel
theorem dX1_tellPlace_53 : decode cX1_tellPlace 53 = .ok (.iload_n 1, 1) := by decide +kernel
theorem dX1_tellPlace_54 : decode cX1_tellPlace 54 = .ok (.invokevirtual 187, 3) := by decide +kernel
theorem dX1_tellPlace_57 : decode cX1_tellPlace 57 = .ok (.ireturn, 1) := by decide +kernel
theorem dX1_tellPlace_58 : decode cX1_tellPlace 58 = .ok (.aload_n 0, 1) := by decide +kernel
theorem dX1_tellPlace_59 : decode cX1_tellPlace 59 = .ok (.iload_n 1, 1) := by decide +kernel
theorem dX1_tellPlace_60 : decode cX1_tellPlace 60 = .ok (.invokevirtual 190, 3) := by decide +kernel
theorem dX1_tellPlace_63 : decode cX1_tellPlace 63 = .ok (.ireturn, 1) := by decide +kernel
theorem dX1_tally_0 : decode cX1_tally 0 = .ok (.iload_n 1, 1) := by decide +kernel
theorem dX1_tally_1 : decode cX1_tally 1 = .ok (.tableswitch 108 0 9 #[55, 60, 65, 70, 75, 81, 87, 93, 98, 103], 55) := by decide +kernel
theorem dX1_tally_56 : decode cX1_tally 56 = .ok (.aload_n 0, 1) := by decide +kernel
theorem dX1_tally_57 : decode cX1_tally 57 = .ok (.getfield 71, 3) := by decide +kernel
theorem dX1_tally_60 : decode cX1_tally 60 = .ok (.ireturn, 1) := by decide +kernel
theorem dX1_tally_61 : decode cX1_tally 61 = .ok (.aload_n 0, 1) := by decide +kernel
theorem dX1_tally_62 : decode cX1_tally 62 = .ok (.getfield 51, 3) := by decide +kernel
theorem dX1_tally_65 : decode cX1_tally 65 = .ok (.ireturn, 1) := by decide +kernel
theorem dX1_tally_66 : decode cX1_tally 66 = .ok (.aload_n 0, 1) := by decide +kernel
theorem dX1_tally_67 : decode cX1_tally 67 = .ok (.getfield 55, 3) := by decide +kernel
theorem dX1_tally_70 : decode cX1_tally 70 = .ok (.ireturn, 1) := by decide +kernel
theorem dX1_tally_71 : decode cX1_tally 71 = .ok (.aload_n 0, 1) := by decide +kernel
theorem dX1_tally_72 : decode cX1_tally 72 = .ok (.getfield 58, 3) := by decide +kernel
theorem dX1_tally_75 : decode cX1_tally 75 = .ok (.ireturn, 1) := by decide +kernel
theorem dX1_tally_76 : decode cX1_tally 76 = .ok (.aload_n 0, 1) := by decide +kernel
theorem dX1_tally_77 : decode cX1_tally 77 = .ok (.iconst 0, 1) := by decide +kernel
theorem dX1_tally_78 : decode cX1_tally 78 = .ok (.invokevirtual 193, 3) := by decide +kernel
theorem dX1_tally_81 : decode cX1_tally 81 = .ok (.ireturn, 1) := by decide +kernel
theorem dX1_tally_82 : decode cX1_tally 82 = .ok (.aload_n 0, 1) := by decide +kernel
theorem dX1_tally_83 : decode cX1_tally 83 = .ok (.iconst 1, 1) := by decide +kernel
theorem dX1_tally_84 : decode cX1_tally 84 = .ok (.invokevirtual 193, 3) := by decide +kernel
theorem dX1_tally_87 : decode cX1_tally 87 = .ok (.ireturn, 1) := by decide +kernel
theorem dX1_tally_88 : decode cX1_tally 88 = .ok (.aload_n 0, 1) := by decide +kernel
theorem dX1_tally_89 : decode cX1_tally 89 = .ok (.iconst 2, 1) := by decide +kernel
theorem dX1_tally_90 : decode cX1_tally 90 = .ok (.invokevirtual 193, 3) := by decide +kernel
theorem dX1_tally_93 : decode cX1_tally 93 = .ok (.ireturn, 1) := by decide +kernel
theorem dX1_tally_94 : decode cX1_tally 94 = .ok (.aload_n 0, 1) := by decide +kernel
theorem dX1_tally_95 : decode cX1_tally 95 = .ok (.invokevirtual 196, 3) := by decide +kernel
theorem dX1_tally_98 : decode cX1_tally 98 = .ok (.ireturn, 1) := by decide +kernel
theorem dX1_tally_99 : decode cX1_tally 99 = .ok (.aload_n 0, 1) := by decide +kernel
theorem dX1_tally_100 : decode cX1_tally 100 = .ok (.getfield 74, 3) := by decide +kernel
theorem dX1_tally_103 : decode cX1_tally 103 = .ok (.ireturn, 1) := by decide +kernel
theorem dX1_tally_104 : decode cX1_tally 104 = .ok (.aload_n 0, 1) := by decide +kernel
theorem dX1_tally_105 : decode cX1_tally 105 = .ok (.getfield 77, 3) := by decide +kernel
theorem dX1_tally_108 : decode cX1_tally 108 = .ok (.ireturn, 1) := by decide +kernel
theorem dX1_tally_109 : decode cX1_tally 109 = .ok (.aload_n 0, 1) := by decide +kernel
theorem dX1_tally_110 : decode cX1_tally 110 = .ok (.invokevirtual 199, 3) := by decide +kernel
theorem dX1_tally_113 : decode cX1_tally 113 = .ok (.ireturn, 1) := by decide +kernel
theorem dX2_init_0 : decode cX2_init 0 = .ok (.aload_n 0, 1) := by decide +kernel
theorem dX2_init_1 : decode cX2_init 1 = .ok (.invokespecial 3, 3) := by decide +kernel
theorem dX2_init_4 : decode cX2_init 4 = .ok (.aload_n 0, 1) := by decide +kernel
theorem dX2_init_5 : decode cX2_init 5 = .ok (.bipush 10, 2) := by decide +kernel
theorem dX2_init_7 : decode cX2_init 7 = .ok (.newarray .int, 2) := by decide +kernel
theorem dX2_init_9 : decode cX2_init 9 = .ok (.putfield 9, 3) := by decide +kernel
theorem dX2_init_12 : decode cX2_init 12 = .ok (.return_, 1) := by decide +kernel
theorem dX2_copyFrom_0 : decode cX2_copyFrom 0 = .ok (.aload_n 1, 1) := by decide +kernel
theorem dX2_copyFrom_1 : decode cX2_copyFrom 1 = .ok (.getfield 9, 3) := by decide +kernel
theorem dX2_copyFrom_4 : decode cX2_copyFrom 4 = .ok (.iconst 0, 1) := by decide +kernel
theorem dX2_copyFrom_5 : decode cX2_copyFrom 5 = .ok (.aload_n 0, 1) := by decide +kernel
theorem dX2_copyFrom_6 : decode cX2_copyFrom 6 = .ok (.getfield 9, 3) := by decide +kernel
theorem dX2_copyFrom_9 : decode cX2_copyFrom 9 = .ok (.iconst 0, 1) := by decide +kernel
theorem dX2_copyFrom_10 : decode cX2_copyFrom 10 = .ok (.bipush 10, 2) := by decide +kernel
theorem dX2_copyFrom_12 : decode cX2_copyFrom 12 = .ok (.invokestatic 15, 3) := by decide +kernel
theorem dX2_copyFrom_15 : decode cX2_copyFrom 15 = .ok (.aload_n 0, 1) := by decide +kernel
theorem dX2_copyFrom_16 : decode cX2_copyFrom 16 = .ok (.aload_n 1, 1) := by decide +kernel
theorem dX2_copyFrom_17 : decode cX2_copyFrom 17 = .ok (.getfield 21, 3) := by decide +kernel
theorem dX2_copyFrom_20 : decode cX2_copyFrom 20 = .ok (.putfield 21, 3) := by decide +kernel
theorem dX2_copyFrom_23 : decode cX2_copyFrom 23 = .ok (.aload_n 0, 1) := by decide +kernel
theorem dX2_copyFrom_24 : decode cX2_copyFrom 24 = .ok (.aload_n 1, 1) := by decide +kernel
theorem dX2_copyFrom_25 : decode cX2_copyFrom 25 = .ok (.getfield 25, 3) := by decide +kernel
theorem dX2_copyFrom_28 : decode cX2_copyFrom 28 = .ok (.putfield 25, 3) := by decide +kernel
theorem dX2_copyFrom_31 : decode cX2_copyFrom 31 = .ok (.return_, 1) := by decide +kernel
theorem dX3_init_0 : decode cX3_init 0 = .ok (.aload_n 0, 1) := by decide +kernel
theorem dX3_init_1 : decode cX3_init 1 = .ok (.invokespecial 1, 3) := by decide +kernel
theorem dX3_init_4 : decode cX3_init 4 = .ok (.return_, 1) := by decide +kernel
theorem dX3_begin_0 : decode cX3_begin 0 = .ok (.aload_n 0, 1) := by decide +kernel
theorem dX3_begin_1 : decode cX3_begin 1 = .ok (.iload_n 1, 1) := by decide +kernel
theorem dX3_begin_2 : decode cX3_begin 2 = .ok (.putfield 7, 3) := by decide +kernel
theorem dX3_begin_5 : decode cX3_begin 5 = .ok (.aload_n 0, 1) := by decide +kernel
theorem dX3_begin_6 : decode cX3_begin 6 = .ok (.iload_n 2, 1) := by decide +kernel
theorem dX3_begin_7 : decode cX3_begin 7 = .ok (.putfield 13, 3) := by decide +kernel
theorem dX3_begin_10 : decode cX3_begin 10 = .ok (.aload_n 0, 1) := by decide +kernel
theorem dX3_begin_11 : decode cX3_begin 11 = .ok (.iload_n 3, 1) := by decide +kernel
theorem dX3_begin_12 : decode cX3_begin 12 = .ok (.putfield 16, 3) := by decide +kernel
theorem dX3_begin_15 : decode cX3_begin 15 = .ok (.aload_n 0, 1) := by decide +kernel
theorem dX3_begin_16 : decode cX3_begin 16 = .ok (.iload_n 1, 1) := by decide +kernel
theorem dX3_begin_17 : decode cX3_begin 17 = .ok (.putfield 19, 3) := by decide +kernel
theorem dX3_begin_20 : decode cX3_begin 20 = .ok (.aload_n 0, 1) := by decide +kernel
theorem dX3_begin_21 : decode cX3_begin 21 = .ok (.iconst 1, 1) := by decide +kernel
theorem dX3_begin_22 : decode cX3_begin 22 = .ok (.putfield 22, 3) := by decide +kernel
theorem dX3_begin_25 : decode cX3_begin 25 = .ok (.aload_n 0, 1) := by decide +kernel
theorem dX3_begin_26 : decode cX3_begin 26 = .ok (.iconst 0, 1) := by decide +kernel
theorem dX3_begin_27 : decode cX3_begin 27 = .ok (.putfield 25, 3) := by decide +kernel
theorem dX3_begin_30 : decode cX3_begin 30 = .ok (.return_, 1) := by decide +kernel
theorem dX3_copyFrom_0 : decode cX3_copyFrom 0 = .ok (.aload_n 0, 1) := by decide +kernel
theorem dX3_copyFrom_1 : decode cX3_copyFrom 1 = .ok (.aload_n 1, 1) := by decide +kernel
theorem dX3_copyFrom_2 : decode cX3_copyFrom 2 = .ok (.getfield 7, 3) := by decide +kernel
theorem dX3_copyFrom_5 : decode cX3_copyFrom 5 = .ok (.putfield 7, 3) := by decide +kernel
theorem dX3_copyFrom_8 : decode cX3_copyFrom 8 = .ok (.aload_n 0, 1) := by decide +kernel
theorem dX3_copyFrom_9 : decode cX3_copyFrom 9 = .ok (.aload_n 1, 1) := by decide +kernel
theorem dX3_copyFrom_10 : decode cX3_copyFrom 10 = .ok (.getfield 13, 3) := by decide +kernel
theorem dX3_copyFrom_13 : decode cX3_copyFrom 13 = .ok (.putfield 13, 3) := by decide +kernel
theorem dX3_copyFrom_16 : decode cX3_copyFrom 16 = .ok (.aload_n 0, 1) := by decide +kernel
theorem dX3_copyFrom_17 : decode cX3_copyFrom 17 = .ok (.aload_n 1, 1) := by decide +kernel
theorem dX3_copyFrom_18 : decode cX3_copyFrom 18 = .ok (.getfield 16, 3) := by decide +kernel
theorem dX3_copyFrom_21 : decode cX3_copyFrom 21 = .ok (.putfield 16, 3) := by decide +kernel
theorem dX3_copyFrom_24 : decode cX3_copyFrom 24 = .ok (.aload_n 0, 1) := by decide +kernel
theorem dX3_copyFrom_25 : decode cX3_copyFrom 25 = .ok (.aload_n 1, 1) := by decide +kernel
theorem dX3_copyFrom_26 : decode cX3_copyFrom 26 = .ok (.getfield 19, 3) := by decide +kernel
theorem dX3_copyFrom_29 : decode cX3_copyFrom 29 = .ok (.putfield 19, 3) := by decide +kernel
theorem dX3_copyFrom_32 : decode cX3_copyFrom 32 = .ok (.aload_n 0, 1) := by decide +kernel
theorem dX3_copyFrom_33 : decode cX3_copyFrom 33 = .ok (.aload_n 1, 1) := by decide +kernel
theorem dX3_copyFrom_34 : decode cX3_copyFrom 34 = .ok (.getfield 22, 3) := by decide +kernel
theorem dX3_copyFrom_37 : decode cX3_copyFrom 37 = .ok (.putfield 22, 3) := by decide +kernel
theorem dX3_copyFrom_40 : decode cX3_copyFrom 40 = .ok (.aload_n 0, 1) := by decide +kernel
theorem dX3_copyFrom_41 : decode cX3_copyFrom 41 = .ok (.aload_n 1, 1) := by decide +kernel
theorem dX3_copyFrom_42 : decode cX3_copyFrom 42 = .ok (.getfield 25, 3) := by decide +kernel
theorem dX3_copyFrom_45 : decode cX3_copyFrom 45 = .ok (.putfield 25, 3) := by decide +kernel
theorem dX3_copyFrom_48 : decode cX3_copyFrom 48 = .ok (.return_, 1) := by decide +kernel
theorem dX3_sightOfPlaces_0 : decode cX3_sightOfPlaces 0 = .ok (.aload_n 0, 1) := by decide +kernel
theorem dX3_sightOfPlaces_1 : decode cX3_sightOfPlaces 1 = .ok (.getfield 16, 3) := by decide +kernel
theorem dX3_sightOfPlaces_4 : decode cX3_sightOfPlaces 4 = .ok (.iload_n 1, 1) := by decide +kernel
theorem dX3_sightOfPlaces_5 : decode cX3_sightOfPlaces 5 = .ok (.iconst 2, 1) := by decide +kernel
theorem dX3_sightOfPlaces_6 : decode cX3_sightOfPlaces 6 = .ok (.idiv, 1) := by decide +kernel
theorem dX3_sightOfPlaces_7 : decode cX3_sightOfPlaces 7 = .ok (.iadd, 1) := by decide +kernel
theorem dX3_sightOfPlaces_8 : decode cX3_sightOfPlaces 8 = .ok (.ireturn, 1) := by decide +kernel
theorem dX3_sightOfLanterns_0 : decode cX3_sightOfLanterns 0 = .ok (.iconst 2, 1) := by decide +kernel
theorem dX3_sightOfLanterns_1 : decode cX3_sightOfLanterns 1 = .ok (.aload_n 0, 1) := by decide +kernel
theorem dX3_sightOfLanterns_2 : decode cX3_sightOfLanterns 2 = .ok (.getfield 16, 3) := by decide +kernel
theorem dX3_sightOfLanterns_5 : decode cX3_sightOfLanterns 5 = .ok (.imul, 1) := by decide +kernel
theorem dX3_sightOfLanterns_6 : decode cX3_sightOfLanterns 6 = .ok (.bipush 6, 2) := by decide +kernel
theorem dX3_sightOfLanterns_8 : decode cX3_sightOfLanterns 8 = .ok (.iadd, 1) := by decide +kernel
theorem dX3_sightOfLanterns_9 : decode cX3_sightOfLanterns 9 = .ok (.iload_n 1, 1) := by decide +kernel
theorem dX3_sightOfLanterns_10 : decode cX3_sightOfLanterns 10 = .ok (.isub, 1) := by decide +kernel
theorem dX3_sightOfLanterns_11 : decode cX3_sightOfLanterns 11 = .ok (.ireturn, 1) := by decide +kernel
theorem dX3_walk_0 : decode cX3_walk 0 = .ok (.aload_n 0, 1) := by decide +kernel
theorem dX3_walk_1 : decode cX3_walk 1 = .ok (.getfield 7, 3) := by decide +kernel
theorem dX3_walk_4 : decode cX3_walk 4 = .ok (.aload_n 0, 1) := by decide +kernel
theorem dX3_walk_5 : decode cX3_walk 5 = .ok (.getfield 13, 3) := by decide +kernel
theorem dX3_walk_8 : decode cX3_walk 8 = .ok (.if_icmp .ne 4, 3) := by decide +kernel
theorem dX3_walk_11 : decode cX3_walk 11 = .ok (.return_, 1) := by decide +kernel
theorem dX3_walk_12 : decode cX3_walk 12 = .ok (.aload_n 0, 1) := by decide +kernel
theorem dX3_walk_13 : decode cX3_walk 13 = .ok (.getfield 22, 3) := by decide +kernel
theorem dX3_walk_16 : decode cX3_walk 16 = .ok (.ifCond .le 14, 3) := by decide +kernel
theorem dX3_walk_19 : decode cX3_walk 19 = .ok (.aload_n 0, 1) := by decide +kernel
theorem dX3_walk_20 : decode cX3_walk 20 = .ok (.getfield 19, 3) := by decide +kernel
theorem dX3_walk_23 : decode cX3_walk 23 = .ok (.aload_n 0, 1) := by decide +kernel
theorem dX3_walk_24 : decode cX3_walk 24 = .ok (.getfield 13, 3) := by decide +kernel
theorem dX3_walk_27 : decode cX3_walk 27 = .ok (.if_icmp .eq 21, 3) := by decide +kernel
theorem dX3_walk_30 : decode cX3_walk 30 = .ok (.aload_n 0, 1) := by decide +kernel
theorem dX3_walk_31 : decode cX3_walk 31 = .ok (.getfield 22, 3) := by decide +kernel
theorem dX3_walk_34 : decode cX3_walk 34 = .ok (.ifCond .ge 23, 3) := by decide +kernel
theorem dX3_walk_37 : decode cX3_walk 37 = .ok (.aload_n 0, 1) := by decide +kernel
theorem dX3_walk_38 : decode cX3_walk 38 = .ok (.getfield 19, 3) := by decide +kernel
theorem dX3_walk_41 : decode cX3_walk 41 = .ok (.aload_n 0, 1) := by decide +kernel
theorem dX3_walk_42 : decode cX3_walk 42 = .ok (.getfield 7, 3) := by decide +kernel
theorem dX3_walk_45 : decode cX3_walk 45 = .ok (.if_icmp .ne 12, 3) := by decide +kernel
theorem dX3_walk_48 : decode cX3_walk 48 = .ok (.aload_n 0, 1) := by decide +kernel
theorem dX3_walk_49 : decode cX3_walk 49 = .ok (.aload_n 0, 1) := by decide +kernel
theorem dX3_walk_50 : decode cX3_walk 50 = .ok (.getfield 22, 3) := by decide +kernel
theorem dX3_walk_53 : decode cX3_walk 53 = .ok (.ineg, 1) := by decide +kernel
theorem dX3_walk_54 : decode cX3_walk 54 = .ok (.putfield 22, 3) := by decide +kernel
theorem dX3_walk_57 : decode cX3_walk 57 = .ok (.aload_n 0, 1) := by decide +kernel
theorem dX3_walk_58 : decode cX3_walk 58 = .ok (.dup, 1) := by decide +kernel
theorem dX3_walk_59 : decode cX3_walk 59 = .ok (.getfield 19, 3) := by decide +kernel
theorem dX3_walk_62 : decode cX3_walk 62 = .ok (.aload_n 0, 1) := by decide +kernel
theorem dX3_walk_63 : decode cX3_walk 63 = .ok (.getfield 22, 3) := by decide +kernel
theorem dX3_walk_66 : decode cX3_walk 66 = .ok (.iadd, 1) := by decide +kernel
theorem dX3_walk_67 : decode cX3_walk 67 = .ok (.putfield 19, 3) := by decide +kernel
theorem dX3_walk_70 : decode cX3_walk 70 = .ok (.return_, 1) := by decide +kernel
theorem dX3_tell_0 : decode cX3_tell 0 = .ok (.iload_n 1, 1) := by decide +kernel
theorem dX3_tell_1 : decode cX3_tell 1 = .ok (.tableswitch 53 0 3 #[31, 36, 41, 47], 31) := by decide +kernel
theorem dX3_tell_32 : decode cX3_tell 32 = .ok (.aload_n 0, 1) := by decide +kernel
theorem dX3_tell_33 : decode cX3_tell 33 = .ok (.getfield 19, 3) := by decide +kernel
theorem dX3_tell_36 : decode cX3_tell 36 = .ok (.ireturn, 1) := by decide +kernel
theorem dX3_tell_37 : decode cX3_tell 37 = .ok (.aload_n 0, 1) := by decide +kernel
theorem dX3_tell_38 : decode cX3_tell 38 = .ok (.getfield 22, 3) := by decide +kernel
theorem dX3_tell_41 : decode cX3_tell 41 = .ok (.ireturn, 1) := by decide +kernel
theorem dX3_tell_42 : decode cX3_tell 42 = .ok (.aload_n 0, 1) := by decide +kernel
theorem dX3_tell_43 : decode cX3_tell 43 = .ok (.iload_n 2, 1) := by decide +kernel
theorem dX3_tell_44 : decode cX3_tell 44 = .ok (.invokevirtual 28, 3) := by decide +kernel
theorem dX3_tell_47 : decode cX3_tell 47 = .ok (.ireturn, 1) := by decide +kernel
theorem dX3_tell_48 : decode cX3_tell 48 = .ok (.aload_n 0, 1) := by decide +kernel
theorem dX3_tell_49 : decode cX3_tell 49 = .ok (.iload_n 2, 1) := by decide +kernel
theorem dX3_tell_50 : decode cX3_tell 50 = .ok (.invokevirtual 32, 3) := by decide +kernel
theorem dX3_tell_53 : decode cX3_tell 53 = .ok (.ireturn, 1) := by decide +kernel
theorem dX3_tell_54 : decode cX3_tell 54 = .ok (.aload_n 0, 1) := by decide +kernel
theorem dX3_tell_55 : decode cX3_tell 55 = .ok (.getfield 25, 3) := by decide +kernel
theorem dX3_tell_58 : decode cX3_tell 58 = .ok (.ireturn, 1) := by decide +kernel
theorem dX4_init_0 : decode cX4_init 0 = .ok (.aload_n 0, 1) := by decide +kernel
theorem dX4_init_1 : decode cX4_init 1 = .ok (.invokespecial 1, 3) := by decide +kernel
theorem dX4_init_4 : decode cX4_init 4 = .ok (.aload_n 0, 1) := by decide +kernel
theorem dX4_init_5 : decode cX4_init 5 = .ok (.new 7, 3) := by decide +kernel
theorem dX4_init_8 : decode cX4_init 8 = .ok (.dup, 1) := by decide +kernel
theorem dX4_init_9 : decode cX4_init 9 = .ok (.invokespecial 9, 3) := by decide +kernel
theorem dX4_init_12 : decode cX4_init 12 = .ok (.putfield 10, 3) := by decide +kernel
theorem dX4_init_15 : decode cX4_init 15 = .ok (.aload_n 0, 1) := by decide +kernel
theorem dX4_init_16 : decode cX4_init 16 = .ok (.new 7, 3) := by decide +kernel
theorem dX4_init_19 : decode cX4_init 19 = .ok (.dup, 1) := by decide +kernel
theorem dX4_init_20 : decode cX4_init 20 = .ok (.invokespecial 9, 3) := by decide +kernel
theorem dX4_init_23 : decode cX4_init 23 = .ok (.putfield 16, 3) := by decide +kernel
theorem dX4_init_26 : decode cX4_init 26 = .ok (.return_, 1) := by decide +kernel
theorem dX4_setRoom_0 : decode cX4_setRoom 0 = .ok (.iload_n 1, 1) := by decide +kernel
theorem dX4_setRoom_1 : decode cX4_setRoom 1 = .ok (.invokestatic 19, 3) := by decide +kernel
theorem dX4_setRoom_4 : decode cX4_setRoom 4 = .ok (.iload_n 2, 1) := by decide +kernel
theorem dX4_setRoom_5 : decode cX4_setRoom 5 = .ok (.ifCond .lt 9, 3) := by decide +kernel
theorem dX4_setRoom_8 : decode cX4_setRoom 8 = .ok (.iload_n 2, 1) := by decide +kernel
theorem dX4_setRoom_9 : decode cX4_setRoom 9 = .ok (.bipush 30, 2) := by decide +kernel
theorem dX4_setRoom_11 : decode cX4_setRoom 11 = .ok (.if_icmp .le 13, 3) := by decide +kernel
theorem dX4_setRoom_14 : decode cX4_setRoom 14 = .ok (.new 23, 3) := by decide +kernel
theorem dX4_setRoom_17 : decode cX4_setRoom 17 = .ok (.dup, 1) := by decide +kernel
theorem dX4_setRoom_18 : decode cX4_setRoom 18 = .ok (.ldc 25, 2) := by decide +kernel
theorem dX4_setRoom_20 : decode cX4_setRoom 20 = .ok (.invokespecial 27, 3) := by decide +kernel
theorem dX4_setRoom_23 : decode cX4_setRoom 23 = .ok (.athrow, 1) := by decide +kernel
theorem dX4_setRoom_24 : decode cX4_setRoom 24 = .ok (.aload_n 0, 1) := by decide +kernel
theorem dX4_setRoom_25 : decode cX4_setRoom 25 = .ok (.getfield 10, 3) := by decide +kernel
theorem dX4_setRoom_28 : decode cX4_setRoom 28 = .ok (.getfield 30, 3) := by decide +kernel
theorem dX4_setRoom_31 : decode cX4_setRoom 31 = .ok (.iload_n 1, 1) := by decide +kernel
theorem dX4_setRoom_32 : decode cX4_setRoom 32 = .ok (.iaload, 1) := by decide +kernel
theorem dX4_setRoom_33 : decode cX4_setRoom 33 = .ok (.iload_n 2, 1) := by decide +kernel
theorem dX4_setRoom_34 : decode cX4_setRoom 34 = .ok (.if_icmp .le 13, 3) := by decide +kernel
theorem dX4_setRoom_37 : decode cX4_setRoom 37 = .ok (.new 34, 3) := by decide +kernel
theorem dX4_setRoom_40 : decode cX4_setRoom 40 = .ok (.dup, 1) := by decide +kernel
theorem dX4_setRoom_41 : decode cX4_setRoom 41 = .ok (.ldc 36, 2) := by decide +kernel
theorem dX4_setRoom_43 : decode cX4_setRoom 43 = .ok (.invokespecial 38, 3) := by decide +kernel
theorem dX4_setRoom_46 : decode cX4_setRoom 46 = .ok (.athrow, 1) := by decide +kernel
theorem dX4_setRoom_47 : decode cX4_setRoom 47 = .ok (.aload_n 0, 1) := by decide +kernel
theorem dX4_setRoom_48 : decode cX4_setRoom 48 = .ok (.getfield 10, 3) := by decide +kernel
theorem dX4_setRoom_51 : decode cX4_setRoom 51 = .ok (.getfield 39, 3) := by decide +kernel
theorem dX4_setRoom_54 : decode cX4_setRoom 54 = .ok (.iload_n 1, 1) := by decide +kernel
theorem dX4_setRoom_55 : decode cX4_setRoom 55 = .ok (.iaload, 1) := by decide +kernel
theorem dX4_setRoom_56 : decode cX4_setRoom 56 = .ok (.istore_n 3, 1) := by decide +kernel
theorem dX4_setRoom_57 : decode cX4_setRoom 57 = .ok (.aload_n 0, 1) := by decide +kernel
theorem dX4_setRoom_58 : decode cX4_setRoom 58 = .ok (.getfield 10, 3) := by decide +kernel
theorem dX4_setRoom_61 : decode cX4_setRoom 61 = .ok (.getfield 39, 3) := by decide +kernel
theorem dX4_setRoom_64 : decode cX4_setRoom 64 = .ok (.iload_n 1, 1) := by decide +kernel
theorem dX4_setRoom_65 : decode cX4_setRoom 65 = .ok (.iload_n 2, 1) := by decide +kernel
theorem dX4_setRoom_66 : decode cX4_setRoom 66 = .ok (.iastore, 1) := by decide +kernel
theorem dX4_setRoom_67 : decode cX4_setRoom 67 = .ok (.iload_n 3, 1) := by decide +kernel
theorem dX4_setRoom_68 : decode cX4_setRoom 68 = .ok (.ireturn, 1) := by decide +kernel
theorem dX4_setCode_0 : decode cX4_setCode 0 = .ok (.iload_n 1, 1) := by decide +kernel
theorem dX4_setCode_1 : decode cX4_setCode 1 = .ok (.invokestatic 42, 3) := by decide +kernel
theorem dX4_setCode_4 : decode cX4_setCode 4 = .ok (.iload_n 2, 1) := by decide +kernel
theorem dX4_setCode_5 : decode cX4_setCode 5 = .ok (.invokestatic 45, 3) := by decide +kernel
theorem dX4_setCode_8 : decode cX4_setCode 8 = .ok (.aload_n 0, 1) := by decide +kernel
theorem dX4_setCode_9 : decode cX4_setCode 9 = .ok (.getfield 10, 3) := by decide +kernel
theorem dX4_setCode_12 : decode cX4_setCode 12 = .ok (.getfield 48, 3) := by decide +kernel
theorem dX4_setCode_15 : decode cX4_setCode 15 = .ok (.iload_n 1, 1) := by decide +kernel
theorem dX4_setCode_16 : decode cX4_setCode 16 = .ok (.iaload, 1) := by decide +kernel
theorem dX4_setCode_17 : decode cX4_setCode 17 = .ok (.istore_n 3, 1) := by decide +kernel
theorem dX4_setCode_18 : decode cX4_setCode 18 = .ok (.aload_n 0, 1) := by decide +kernel
theorem dX4_setCode_19 : decode cX4_setCode 19 = .ok (.getfield 10, 3) := by decide +kernel
theorem dX4_setCode_22 : decode cX4_setCode 22 = .ok (.getfield 48, 3) := by decide +kernel
theorem dX4_setCode_25 : decode cX4_setCode 25 = .ok (.iload_n 1, 1) := by decide +kernel
theorem dX4_setCode_26 : decode cX4_setCode 26 = .ok (.iload_n 2, 1) := by decide +kernel
theorem dX4_setCode_27 : decode cX4_setCode 27 = .ok (.iastore, 1) := by decide +kernel
theorem dX4_setCode_28 : decode cX4_setCode 28 = .ok (.aload_n 0, 1) := by decide +kernel
theorem dX4_setCode_29 : decode cX4_setCode 29 = .ok (.getfield 10, 3) := by decide +kernel
theorem dX4_setCode_32 : decode cX4_setCode 32 = .ok (.getfield 51, 3) := by decide +kernel
theorem dX4_setCode_35 : decode cX4_setCode 35 = .ok (.iload_n 1, 1) := by decide +kernel
theorem dX4_setCode_36 : decode cX4_setCode 36 = .ok (.iconst 0, 1) := by decide +kernel
theorem dX4_setCode_37 : decode cX4_setCode 37 = .ok (.iastore, 1) := by decide +kernel
theorem dX4_setCode_38 : decode cX4_setCode 38 = .ok (.iload_n 3, 1) := by decide +kernel
theorem dX4_setCode_39 : decode cX4_setCode 39 = .ok (.ireturn, 1) := by decide +kernel
theorem dX4_lantern_0 : decode cX4_lantern 0 = .ok (.iload_n 1, 1) := by decide +kernel
theorem dX4_lantern_1 : decode cX4_lantern 1 = .ok (.invokestatic 19, 3) := by decide +kernel
theorem dX4_lantern_4 : decode cX4_lantern 4 = .ok (.aload_n 0, 1) := by decide +kernel
theorem dX4_lantern_5 : decode cX4_lantern 5 = .ok (.getfield 10, 3) := by decide +kernel
theorem dX4_lantern_8 : decode cX4_lantern 8 = .ok (.getfield 54, 3) := by decide +kernel
theorem dX4_lantern_11 : decode cX4_lantern 11 = .ok (.iconst 5, 1) := by decide +kernel
theorem dX4_lantern_12 : decode cX4_lantern 12 = .ok (.if_icmp .lt 13, 3) := by decide +kernel
theorem dX4_lantern_15 : decode cX4_lantern 15 = .ok (.new 34, 3) := by decide +kernel
theorem dX4_lantern_18 : decode cX4_lantern 18 = .ok (.dup, 1) := by decide +kernel
theorem dX4_lantern_19 : decode cX4_lantern 19 = .ok (.ldc 58, 2) := by decide +kernel
theorem dX4_lantern_21 : decode cX4_lantern 21 = .ok (.invokespecial 38, 3) := by decide +kernel
theorem dX4_lantern_24 : decode cX4_lantern 24 = .ok (.athrow, 1) := by decide +kernel
theorem dX4_lantern_25 : decode cX4_lantern 25 = .ok (.aload_n 0, 1) := by decide +kernel
theorem dX4_lantern_26 : decode cX4_lantern 26 = .ok (.getfield 10, 3) := by decide +kernel
theorem dX4_lantern_29 : decode cX4_lantern 29 = .ok (.iload_n 1, 1) := by decide +kernel
theorem dX4_lantern_30 : decode cX4_lantern 30 = .ok (.invokevirtual 60, 3) := by decide +kernel
theorem dX4_lantern_33 : decode cX4_lantern 33 = .ok (.ifCond .eq 13, 3) := by decide +kernel
theorem dX4_lantern_36 : decode cX4_lantern 36 = .ok (.new 34, 3) := by decide +kernel
theorem dX4_lantern_39 : decode cX4_lantern 39 = .ok (.dup, 1) := by decide +kernel
theorem dX4_lantern_40 : decode cX4_lantern 40 = .ok (.ldc 64, 2) := by decide +kernel
theorem dX4_lantern_42 : decode cX4_lantern 42 = .ok (.invokespecial 38, 3) := by decide +kernel
theorem dX4_lantern_45 : decode cX4_lantern 45 = .ok (.athrow, 1) := by decide +kernel
theorem dX4_lantern_46 : decode cX4_lantern 46 = .ok (.aload_n 0, 1) := by decide +kernel
theorem dX4_lantern_47 : decode cX4_lantern 47 = .ok (.getfield 10, 3) := by decide +kernel
theorem dX4_lantern_50 : decode cX4_lantern 50 = .ok (.getfield 54, 3) := by decide +kernel
theorem dX4_lantern_53 : decode cX4_lantern 53 = .ok (.istore_n 2, 1) := by decide +kernel
theorem dX4_lantern_54 : decode cX4_lantern 54 = .ok (.aload_n 0, 1) := by decide +kernel
theorem dX4_lantern_55 : decode cX4_lantern 55 = .ok (.getfield 10, 3) := by decide +kernel
theorem dX4_lantern_58 : decode cX4_lantern 58 = .ok (.getfield 66, 3) := by decide +kernel
theorem dX4_lantern_61 : decode cX4_lantern 61 = .ok (.iload_n 2, 1) := by decide +kernel
theorem dX4_lantern_62 : decode cX4_lantern 62 = .ok (.aaload, 1) := by decide +kernel
theorem dX4_lantern_63 : decode cX4_lantern 63 = .ok (.iload_n 1, 1) := by decide +kernel
theorem dX4_lantern_64 : decode cX4_lantern 64 = .ok (.putfield 70, 3) := by decide +kernel
theorem dX4_lantern_67 : decode cX4_lantern 67 = .ok (.aload_n 0, 1) := by decide +kernel
theorem dX4_lantern_68 : decode cX4_lantern 68 = .ok (.getfield 10, 3) := by decide +kernel
theorem dX4_lantern_71 : decode cX4_lantern 71 = .ok (.iload_n 2, 1) := by decide +kernel
theorem dX4_lantern_72 : decode cX4_lantern 72 = .ok (.iconst 1, 1) := by decide +kernel
theorem dX4_lantern_73 : decode cX4_lantern 73 = .ok (.iadd, 1) := by decide +kernel
theorem dX4_lantern_74 : decode cX4_lantern 74 = .ok (.putfield 54, 3) := by decide +kernel
theorem dX4_lantern_77 : decode cX4_lantern 77 = .ok (.iload_n 2, 1) := by decide +kernel
theorem dX4_lantern_78 : decode cX4_lantern 78 = .ok (.ireturn, 1) := by decide +kernel
theorem dX4_setShow_0 : decode cX4_setShow 0 = .ok (.aload_n 0, 1) := by decide +kernel
theorem dX4_setShow_1 : decode cX4_setShow 1 = .ok (.iload_n 1, 1) := by decide +kernel
theorem dX4_setShow_2 : decode cX4_setShow 2 = .ok (.invokevirtual 75, 3) := by decide +kernel
theorem dX4_setShow_5 : decode cX4_setShow 5 = .ok (.iload_n 2, 1) := by decide +kernel
theorem dX4_setShow_6 : decode cX4_setShow 6 = .ok (.ifCond .lt 9, 3) := by decide +kernel
theorem dX4_setShow_9 : decode cX4_setShow 9 = .ok (.iload_n 2, 1) := by decide +kernel
theorem dX4_setShow_10 : decode cX4_setShow 10 = .ok (.bipush 10, 2) := by decide +kernel
theorem dX4_setShow_12 : decode cX4_setShow 12 = .ok (.if_icmp .lt 13, 3) := by decide +kernel
theorem dX4_setShow_15 : decode cX4_setShow 15 = .ok (.new 78, 3) := by decide +kernel
theorem dX4_setShow_18 : decode cX4_setShow 18 = .ok (.dup, 1) := by decide +kernel
theorem dX4_setShow_19 : decode cX4_setShow 19 = .ok (.ldc 80, 2) := by decide +kernel
theorem dX4_setShow_21 : decode cX4_setShow 21 = .ok (.invokespecial 82, 3) := by decide +kernel
theorem dX4_setShow_24 : decode cX4_setShow 24 = .ok (.athrow, 1) := by decide +kernel
theorem dX4_setShow_25 : decode cX4_setShow 25 = .ok (.iload_n 3, 1) := by decide +kernel
theorem dX4_setShow_26 : decode cX4_setShow 26 = .ok (.ifCond .lt 9, 3) := by decide +kernel
theorem dX4_setShow_29 : decode cX4_setShow 29 = .ok (.iload_n 3, 1) := by decide +kernel
theorem dX4_setShow_30 : decode cX4_setShow 30 = .ok (.bipush 7, 2) := by decide +kernel
theorem dX4_setShow_32 : decode cX4_setShow 32 = .ok (.if_icmp .le 13, 3) := by decide +kernel
theorem dX4_setShow_35 : decode cX4_setShow 35 = .ok (.new 23, 3) := by decide +kernel
theorem dX4_setShow_38 : decode cX4_setShow 38 = .ok (.dup, 1) := by decide +kernel
theorem dX4_setShow_39 : decode cX4_setShow 39 = .ok (.ldc 83, 2) := by decide +kernel
theorem dX4_setShow_41 : decode cX4_setShow 41 = .ok (.invokespecial 27, 3) := by decide +kernel
theorem dX4_setShow_44 : decode cX4_setShow 44 = .ok (.athrow, 1) := by decide +kernel
theorem dX4_setShow_45 : decode cX4_setShow 45 = .ok (.aload_n 0, 1) := by decide +kernel
theorem dX4_setShow_46 : decode cX4_setShow 46 = .ok (.getfield 10, 3) := by decide +kernel
theorem dX4_setShow_49 : decode cX4_setShow 49 = .ok (.getfield 66, 3) := by decide +kernel
theorem dX4_setShow_52 : decode cX4_setShow 52 = .ok (.iload_n 1, 1) := by decide +kernel
theorem dX4_setShow_53 : decode cX4_setShow 53 = .ok (.aaload, 1) := by decide +kernel
theorem dX4_setShow_54 : decode cX4_setShow 54 = .ok (.getfield 85, 3) := by decide +kernel
theorem dX4_setShow_57 : decode cX4_setShow 57 = .ok (.astore 4, 2) := by decide +kernel
theorem dX4_setShow_59 : decode cX4_setShow 59 = .ok (.aload 4, 2) := by decide +kernel
theorem dX4_setShow_61 : decode cX4_setShow 61 = .ok (.iload_n 2, 1) := by decide +kernel
theorem dX4_setShow_62 : decode cX4_setShow 62 = .ok (.iaload, 1) := by decide +kernel
theorem dX4_setShow_63 : decode cX4_setShow 63 = .ok (.istore 5, 2) := by decide +kernel
theorem dX4_setShow_65 : decode cX4_setShow 65 = .ok (.aload 4, 2) := by decide +kernel
theorem dX4_setShow_67 : decode cX4_setShow 67 = .ok (.iload_n 2, 1) := by decide +kernel
theorem dX4_setShow_68 : decode cX4_setShow 68 = .ok (.iload_n 3, 1) := by decide +kernel
theorem dX4_setShow_69 : decode cX4_setShow 69 = .ok (.iastore, 1) := by decide +kernel
theorem dX4_setShow_70 : decode cX4_setShow 70 = .ok (.iload 5, 2) := by decide +kernel
theorem dX4_setShow_72 : decode cX4_setShow 72 = .ok (.ireturn, 1) := by decide +kernel
theorem dX4_watchman_0 : decode cX4_watchman 0 = .ok (.iload_n 1, 1) := by decide +kernel
theorem dX4_watchman_1 : decode cX4_watchman 1 = .ok (.invokestatic 19, 3) := by decide +kernel
theorem dX4_watchman_4 : decode cX4_watchman 4 = .ok (.iload_n 2, 1) := by decide +kernel
theorem dX4_watchman_5 : decode cX4_watchman 5 = .ok (.invokestatic 19, 3) := by decide +kernel
theorem dX4_watchman_8 : decode cX4_watchman 8 = .ok (.iload_n 1, 1) := by decide +kernel
theorem dX4_watchman_9 : decode cX4_watchman 9 = .ok (.iload_n 2, 1) := by decide +kernel
theorem dX4_watchman_10 : decode cX4_watchman 10 = .ok (.if_icmp .le 13, 3) := by decide +kernel
theorem dX4_watchman_13 : decode cX4_watchman 13 = .ok (.new 23, 3) := by decide +kernel
theorem dX4_watchman_16 : decode cX4_watchman 16 = .ok (.dup, 1) := by decide +kernel
theorem dX4_watchman_17 : decode cX4_watchman 17 = .ok (.ldc 88, 2) := by decide +kernel
theorem dX4_watchman_19 : decode cX4_watchman 19 = .ok (.invokespecial 27, 3) := by decide +kernel
theorem dX4_watchman_22 : decode cX4_watchman 22 = .ok (.athrow, 1) := by decide +kernel
theorem dX4_watchman_23 : decode cX4_watchman 23 = .ok (.iload_n 3, 1) := by decide +kernel
theorem dX4_watchman_24 : decode cX4_watchman 24 = .ok (.ifCond .lt 8, 3) := by decide +kernel
theorem dX4_watchman_27 : decode cX4_watchman 27 = .ok (.iload_n 3, 1) := by decide +kernel
theorem dX4_watchman_28 : decode cX4_watchman 28 = .ok (.iconst 3, 1) := by decide +kernel
theorem dX4_watchman_29 : decode cX4_watchman 29 = .ok (.if_icmp .le 13, 3) := by decide +kernel
theorem dX4_watchman_32 : decode cX4_watchman 32 = .ok (.new 23, 3) := by decide +kernel
theorem dX4_watchman_35 : decode cX4_watchman 35 = .ok (.dup, 1) := by decide +kernel
theorem dX4_watchman_36 : decode cX4_watchman 36 = .ok (.ldc 90, 2) := by decide +kernel
theorem dX4_watchman_38 : decode cX4_watchman 38 = .ok (.invokespecial 27, 3) := by decide +kernel
theorem dX4_watchman_41 : decode cX4_watchman 41 = .ok (.athrow, 1) := by decide +kernel
theorem dX4_watchman_42 : decode cX4_watchman 42 = .ok (.aload_n 0, 1) := by decide +kernel
theorem dX4_watchman_43 : decode cX4_watchman 43 = .ok (.getfield 10, 3) := by decide +kernel
theorem dX4_watchman_46 : decode cX4_watchman 46 = .ok (.getfield 92, 3) := by decide +kernel
theorem dX4_watchman_49 : decode cX4_watchman 49 = .ok (.iconst 4, 1) := by decide +kernel
theorem dX4_watchman_50 : decode cX4_watchman 50 = .ok (.if_icmp .lt 13, 3) := by decide +kernel
theorem dX4_watchman_53 : decode cX4_watchman 53 = .ok (.new 34, 3) := by decide +kernel
theorem dX4_watchman_56 : decode cX4_watchman 56 = .ok (.dup, 1) := by decide +kernel
theorem dX4_watchman_57 : decode cX4_watchman 57 = .ok (.ldc 95, 2) := by decide +kernel
theorem dX4_watchman_59 : decode cX4_watchman 59 = .ok (.invokespecial 38, 3) := by decide +kernel
theorem dX4_watchman_62 : decode cX4_watchman 62 = .ok (.athrow, 1) := by decide +kernel
theorem dX4_watchman_63 : decode cX4_watchman 63 = .ok (.aload_n 0, 1) := by decide +kernel
theorem dX4_watchman_64 : decode cX4_watchman 64 = .ok (.getfield 10, 3) := by decide +kernel
theorem dX4_watchman_67 : decode cX4_watchman 67 = .ok (.getfield 92, 3) := by decide +kernel
theorem dX4_watchman_70 : decode cX4_watchman 70 = .ok (.istore 4, 2) := by decide +kernel
theorem dX4_watchman_72 : decode cX4_watchman 72 = .ok (.aload_n 0, 1) := by decide +kernel
theorem dX4_watchman_73 : decode cX4_watchman 73 = .ok (.getfield 10, 3) := by decide +kernel
theorem dX4_watchman_76 : decode cX4_watchman 76 = .ok (.getfield 97, 3) := by decide +kernel
theorem dX4_watchman_79 : decode cX4_watchman 79 = .ok (.iload 4, 2) := by decide +kernel
theorem dX4_watchman_81 : decode cX4_watchman 81 = .ok (.aaload, 1) := by decide +kernel
theorem dX4_watchman_82 : decode cX4_watchman 82 = .ok (.iload_n 1, 1) := by decide +kernel
theorem dX4_watchman_83 : decode cX4_watchman 83 = .ok (.iload_n 2, 1) := by decide +kernel
theorem dX4_watchman_84 : decode cX4_watchman 84 = .ok (.iload_n 3, 1) := by decide +kernel
theorem dX4_watchman_85 : decode cX4_watchman 85 = .ok (.invokevirtual 101, 3) := by decide +kernel
theorem dX4_watchman_88 : decode cX4_watchman 88 = .ok (.aload_n 0, 1) := by decide +kernel
theorem dX4_watchman_89 : decode cX4_watchman 89 = .ok (.getfield 10, 3) := by decide +kernel
theorem dX4_watchman_92 : decode cX4_watchman 92 = .ok (.iload 4, 2) := by decide +kernel
theorem dX4_watchman_94 : decode cX4_watchman 94 = .ok (.iconst 1, 1) := by decide +kernel
theorem dX4_watchman_95 : decode cX4_watchman 95 = .ok (.iadd, 1) := by decide +kernel
theorem dX4_watchman_96 : decode cX4_watchman 96 = .ok (.putfield 92, 3) := by decide +kernel
theorem dX4_watchman_99 : decode cX4_watchman 99 = .ok (.iload 4, 2) := by decide +kernel
theorem dX4_watchman_101 : decode cX4_watchman 101 = .ok (.ireturn, 1) := by decide +kernel
theorem dX4_boat_0 : decode cX4_boat 0 = .ok (.iload_n 1, 1) := by decide +kernel
theorem dX4_boat_1 : decode cX4_boat 1 = .ok (.invokestatic 19, 3) := by decide +kernel
theorem dX4_boat_4 : decode cX4_boat 4 = .ok (.iload_n 2, 1) := by decide +kernel
theorem dX4_boat_5 : decode cX4_boat 5 = .ok (.iconst 1, 1) := by decide +kernel
theorem dX4_boat_6 : decode cX4_boat 6 = .ok (.if_icmp .lt 9, 3) := by decide +kernel
theorem dX4_boat_9 : decode cX4_boat 9 = .ok (.iload_n 2, 1) := by decide +kernel
theorem dX4_boat_10 : decode cX4_boat 10 = .ok (.bipush 20, 2) := by decide +kernel
theorem dX4_boat_12 : decode cX4_boat 12 = .ok (.if_icmp .le 13, 3) := by decide +kernel
theorem dX4_boat_15 : decode cX4_boat 15 = .ok (.new 23, 3) := by decide +kernel
theorem dX4_boat_18 : decode cX4_boat 18 = .ok (.dup, 1) := by decide +kernel
theorem dX4_boat_19 : decode cX4_boat 19 = .ok (.ldc 107, 2) := by decide +kernel
theorem dX4_boat_21 : decode cX4_boat 21 = .ok (.invokespecial 27, 3) := by decide +kernel
theorem dX4_boat_24 : decode cX4_boat 24 = .ok (.athrow, 1) := by decide +kernel
theorem dX4_boat_25 : decode cX4_boat 25 = .ok (.aload_n 0, 1) := by decide +kernel
theorem dX4_boat_26 : decode cX4_boat 26 = .ok (.getfield 10, 3) := by decide +kernel
theorem dX4_boat_29 : decode cX4_boat 29 = .ok (.getfield 109, 3) := by decide +kernel
theorem dX4_boat_32 : decode cX4_boat 32 = .ok (.bipush 6, 2) := by decide +kernel
theorem dX4_boat_34 : decode cX4_boat 34 = .ok (.if_icmp .lt 13, 3) := by decide +kernel
theorem dX4_boat_37 : decode cX4_boat 37 = .ok (.new 34, 3) := by decide +kernel
theorem dX4_boat_40 : decode cX4_boat 40 = .ok (.dup, 1) := by decide +kernel
theorem dX4_boat_41 : decode cX4_boat 41 = .ok (.ldc 112, 2) := by decide +kernel
theorem dX4_boat_43 : decode cX4_boat 43 = .ok (.invokespecial 38, 3) := by decide +kernel
theorem dX4_boat_46 : decode cX4_boat 46 = .ok (.athrow, 1) := by decide +kernel
theorem dX4_boat_47 : decode cX4_boat 47 = .ok (.aload_n 0, 1) := by decide +kernel
theorem dX4_boat_48 : decode cX4_boat 48 = .ok (.getfield 10, 3) := by decide +kernel
theorem dX4_boat_51 : decode cX4_boat 51 = .ok (.getfield 109, 3) := by decide +kernel
theorem dX4_boat_54 : decode cX4_boat 54 = .ok (.istore_n 3, 1) := by decide +kernel
theorem dX4_boat_55 : decode cX4_boat 55 = .ok (.aload_n 0, 1) := by decide +kernel
theorem dX4_boat_56 : decode cX4_boat 56 = .ok (.getfield 10, 3) := by decide +kernel
theorem dX4_boat_59 : decode cX4_boat 59 = .ok (.getfield 114, 3) := by decide +kernel
theorem dX4_boat_62 : decode cX4_boat 62 = .ok (.iload_n 3, 1) := by decide +kernel
theorem dX4_boat_63 : decode cX4_boat 63 = .ok (.aaload, 1) := by decide +kernel
theorem dX4_boat_64 : decode cX4_boat 64 = .ok (.iload_n 1, 1) := by decide +kernel
theorem dX4_boat_65 : decode cX4_boat 65 = .ok (.iload_n 2, 1) := by decide +kernel
theorem dX4_boat_66 : decode cX4_boat 66 = .ok (.invokevirtual 118, 3) := by decide +kernel
theorem dX4_boat_69 : decode cX4_boat 69 = .ok (.aload_n 0, 1) := by decide +kernel
theorem dX4_boat_70 : decode cX4_boat 70 = .ok (.getfield 10, 3) := by decide +kernel
theorem dX4_boat_73 : decode cX4_boat 73 = .ok (.iload_n 3, 1) := by decide +kernel
theorem dX4_boat_74 : decode cX4_boat 74 = .ok (.iconst 1, 1) := by decide +kernel
theorem dX4_boat_75 : decode cX4_boat 75 = .ok (.iadd, 1) := by decide +kernel
theorem dX4_boat_76 : decode cX4_boat 76 = .ok (.putfield 109, 3) := by decide +kernel
theorem dX4_boat_79 : decode cX4_boat 79 = .ok (.iload_n 3, 1) := by decide +kernel
theorem dX4_boat_80 : decode cX4_boat 80 = .ok (.ireturn, 1) := by decide +kernel
theorem dX4_send_0 : decode cX4_send 0 = .ok (.aload_n 0, 1) := by decide +kernel
theorem dX4_send_1 : decode cX4_send 1 = .ok (.iload_n 1, 1) := by decide +kernel
theorem dX4_send_2 : decode cX4_send 2 = .ok (.invokevirtual 123, 3) := by decide +kernel
theorem dX4_send_5 : decode cX4_send 5 = .ok (.iload_n 2, 1) := by decide +kernel
theorem dX4_send_6 : decode cX4_send 6 = .ok (.invokestatic 45, 3) := by decide +kernel
theorem dX4_send_9 : decode cX4_send 9 = .ok (.aload_n 0, 1) := by decide +kernel
theorem dX4_send_10 : decode cX4_send 10 = .ok (.iload_n 1, 1) := by decide +kernel
theorem dX4_send_11 : decode cX4_send 11 = .ok (.invokevirtual 126, 3) := by decide +kernel
theorem dX4_send_14 : decode cX4_send 14 = .ok (.aload_n 0, 1) := by decide +kernel
theorem dX4_send_15 : decode cX4_send 15 = .ok (.getfield 10, 3) := by decide +kernel
theorem dX4_send_18 : decode cX4_send 18 = .ok (.getfield 114, 3) := by decide +kernel
theorem dX4_send_21 : decode cX4_send 21 = .ok (.iload_n 1, 1) := by decide +kernel
theorem dX4_send_22 : decode cX4_send 22 = .ok (.aaload, 1) := by decide +kernel
theorem dX4_send_23 : decode cX4_send 23 = .ok (.getfield 129, 3) := by decide +kernel
theorem dX4_send_26 : decode cX4_send 26 = .ok (.istore_n 3, 1) := by decide +kernel
theorem dX4_send_27 : decode cX4_send 27 = .ok (.aload_n 0, 1) := by decide +kernel
theorem dX4_send_28 : decode cX4_send 28 = .ok (.getfield 10, 3) := by decide +kernel
theorem dX4_send_31 : decode cX4_send 31 = .ok (.getfield 114, 3) := by decide +kernel
theorem dX4_send_34 : decode cX4_send 34 = .ok (.iload_n 1, 1) := by decide +kernel
theorem dX4_send_35 : decode cX4_send 35 = .ok (.aaload, 1) := by decide +kernel
theorem dX4_send_36 : decode cX4_send 36 = .ok (.iload_n 2, 1) := by decide +kernel
theorem dX4_send_37 : decode cX4_send 37 = .ok (.invokevirtual 132, 3) := by decide +kernel
theorem dX4_send_40 : decode cX4_send 40 = .ok (.iload_n 3, 1) := by decide +kernel
theorem dX4_send_41 : decode cX4_send 41 = .ok (.ireturn, 1) := by decide +kernel
theorem dX4_carry_0 : decode cX4_carry 0 = .ok (.iload_n 1, 1) := by decide +kernel
theorem dX4_carry_1 : decode cX4_carry 1 = .ok (.invokestatic 19, 3) := by decide +kernel
theorem dX4_carry_4 : decode cX4_carry 4 = .ok (.iload_n 2, 1) := by decide +kernel
theorem dX4_carry_5 : decode cX4_carry 5 = .ok (.iconst 1, 1) := by decide +kernel
theorem dX4_carry_6 : decode cX4_carry 6 = .ok (.if_icmp .lt 9, 3) := by decide +kernel
theorem dX4_carry_9 : decode cX4_carry 9 = .ok (.iload_n 2, 1) := by decide +kernel
theorem dX4_carry_10 : decode cX4_carry 10 = .ok (.bipush 30, 2) := by decide +kernel
theorem dX4_carry_12 : decode cX4_carry 12 = .ok (.if_icmp .le 13, 3) := by decide +kernel
theorem dX4_carry_15 : decode cX4_carry 15 = .ok (.new 23, 3) := by decide +kernel
theorem dX4_carry_18 : decode cX4_carry 18 = .ok (.dup, 1) := by decide +kernel
theorem dX4_carry_19 : decode cX4_carry 19 = .ok (.ldc 135, 2) := by decide +kernel
theorem dX4_carry_21 : decode cX4_carry 21 = .ok (.invokespecial 27, 3) := by decide +kernel
theorem dX4_carry_24 : decode cX4_carry 24 = .ok (.athrow, 1) := by decide +kernel
theorem dX4_carry_25 : decode cX4_carry 25 = .ok (.aload_n 0, 1) := by decide +kernel
theorem dX4_carry_26 : decode cX4_carry 26 = .ok (.getfield 10, 3) := by decide +kernel
theorem dX4_carry_29 : decode cX4_carry 29 = .ok (.getfield 30, 3) := by decide +kernel
theorem dX4_carry_32 : decode cX4_carry 32 = .ok (.iload_n 1, 1) := by decide +kernel
theorem dX4_carry_33 : decode cX4_carry 33 = .ok (.iaload, 1) := by decide +kernel
theorem dX4_carry_34 : decode cX4_carry 34 = .ok (.iload_n 2, 1) := by decide +kernel
theorem dX4_carry_35 : decode cX4_carry 35 = .ok (.if_icmp .ge 13, 3) := by decide +kernel
theorem dX4_carry_38 : decode cX4_carry 38 = .ok (.new 34, 3) := by decide +kernel
theorem dX4_carry_41 : decode cX4_carry 41 = .ok (.dup, 1) := by decide +kernel
theorem dX4_carry_42 : decode cX4_carry 42 = .ok (.ldc 137, 2) := by decide +kernel
theorem dX4_carry_44 : decode cX4_carry 44 = .ok (.invokespecial 38, 3) := by decide +kernel
theorem dX4_carry_47 : decode cX4_carry 47 = .ok (.athrow, 1) := by decide +kernel
theorem dX4_carry_48 : decode cX4_carry 48 = .ok (.aload_n 0, 1) := by decide +kernel
theorem dX4_carry_49 : decode cX4_carry 49 = .ok (.getfield 10, 3) := by decide +kernel
theorem dX4_carry_52 : decode cX4_carry 52 = .ok (.getfield 30, 3) := by decide +kernel
theorem dX4_carry_55 : decode cX4_carry 55 = .ok (.iload_n 1, 1) := by decide +kernel
theorem dX4_carry_56 : decode cX4_carry 56 = .ok (.dup2, 1) := by decide +kernel
theorem dX4_carry_57 : decode cX4_carry 57 = .ok (.iaload, 1) := by decide +kernel
theorem dX4_carry_58 : decode cX4_carry 58 = .ok (.iload_n 2, 1) := by decide +kernel
theorem dX4_carry_59 : decode cX4_carry 59 = .ok (.isub, 1) := by decide +kernel
theorem dX4_carry_60 : decode cX4_carry 60 = .ok (.iastore, 1) := by decide +kernel
theorem dX4_carry_61 : decode cX4_carry 61 = .ok (.aload_n 0, 1) := by decide +kernel
theorem dX4_carry_62 : decode cX4_carry 62 = .ok (.getfield 10, 3) := by decide +kernel
theorem dX4_carry_65 : decode cX4_carry 65 = .ok (.dup, 1) := by decide +kernel
theorem dX4_carry_66 : decode cX4_carry 66 = .ok (.getfield 139, 3) := by decide +kernel
theorem dX4_carry_69 : decode cX4_carry 69 = .ok (.iload_n 2, 1) := by decide +kernel
theorem dX4_carry_70 : decode cX4_carry 70 = .ok (.iadd, 1) := by decide +kernel
theorem dX4_carry_71 : decode cX4_carry 71 = .ok (.putfield 139, 3) := by decide +kernel
theorem dX4_carry_74 : decode cX4_carry 74 = .ok (.aload_n 0, 1) := by decide +kernel
theorem dX4_carry_75 : decode cX4_carry 75 = .ok (.getfield 10, 3) := by decide +kernel
theorem dX4_carry_78 : decode cX4_carry 78 = .ok (.getfield 30, 3) := by decide +kernel
theorem dX4_carry_81 : decode cX4_carry 81 = .ok (.iload_n 1, 1) := by decide +kernel
theorem dX4_carry_82 : decode cX4_carry 82 = .ok (.iaload, 1) := by decide +kernel
theorem dX4_carry_83 : decode cX4_carry 83 = .ok (.ireturn, 1) := by decide +kernel
theorem dX4_told_0 : decode cX4_told 0 = .ok (.aload_n 0, 1) := by decide +kernel
theorem dX4_told_1 : decode cX4_told 1 = .ok (.iload_n 1, 1) := by decide +kernel
theorem dX4_told_2 : decode cX4_told 2 = .ok (.invokevirtual 123, 3) := by decide +kernel
theorem dX4_told_5 : decode cX4_told 5 = .ok (.iload_n 2, 1) := by decide +kernel
theorem dX4_told_6 : decode cX4_told 6 = .ok (.iconst 0, 1) := by decide +kernel
theorem dX4_told_7 : decode cX4_told 7 = .ok (.bipush 6, 2) := by decide +kernel
theorem dX4_told_9 : decode cX4_told 9 = .ok (.invokestatic 142, 3) := by decide +kernel
theorem dX4_told_12 : decode cX4_told 12 = .ok (.aload_n 0, 1) := by decide +kernel
theorem dX4_told_13 : decode cX4_told 13 = .ok (.getfield 10, 3) := by decide +kernel
theorem dX4_told_16 : decode cX4_told 16 = .ok (.getfield 114, 3) := by decide +kernel
theorem dX4_told_19 : decode cX4_told 19 = .ok (.iload_n 1, 1) := by decide +kernel
theorem dX4_told_20 : decode cX4_told 20 = .ok (.aaload, 1) := by decide +kernel
theorem dX4_told_21 : decode cX4_told 21 = .ok (.iload_n 2, 1) := by decide +kernel
theorem dX4_told_22 : decode cX4_told 22 = .ok (.invokevirtual 145, 3) := by decide +kernel
theorem dX4_told_25 : decode cX4_told 25 = .ok (.ireturn, 1) := by decide +kernel
theorem dX4_about_0 : decode cX4_about 0 = .ok (.iload_n 1, 1) := by decide +kernel
theorem dX4_about_1 : decode cX4_about 1 = .ok (.ifCond .lt 14, 3) := by decide +kernel
theorem dX4_about_4 : decode cX4_about 4 = .ok (.iload_n 1, 1) := by decide +kernel
theorem dX4_about_5 : decode cX4_about 5 = .ok (.aload_n 0, 1) := by decide +kernel
theorem dX4_about_6 : decode cX4_about 6 = .ok (.getfield 10, 3) := by decide +kernel
theorem dX4_about_9 : decode cX4_about 9 = .ok (.getfield 92, 3) := by decide +kernel
theorem dX4_about_12 : decode cX4_about 12 = .ok (.if_icmp .lt 13, 3) := by decide +kernel
theorem dX4_about_15 : decode cX4_about 15 = .ok (.new 78, 3) := by decide +kernel
theorem dX4_about_18 : decode cX4_about 18 = .ok (.dup, 1) := by decide +kernel
theorem dX4_about_19 : decode cX4_about 19 = .ok (.ldc 149, 2) := by decide +kernel
theorem dX4_about_21 : decode cX4_about 21 = .ok (.invokespecial 82, 3) := by decide +kernel
theorem dX4_about_24 : decode cX4_about 24 = .ok (.athrow, 1) := by decide +kernel
theorem dX4_about_25 : decode cX4_about 25 = .ok (.iload_n 2, 1) := by decide +kernel
theorem dX4_about_26 : decode cX4_about 26 = .ok (.iconst 0, 1) := by decide +kernel
theorem dX4_about_27 : decode cX4_about 27 = .ok (.iconst 4, 1) := by decide +kernel
theorem dX4_about_28 : decode cX4_about 28 = .ok (.invokestatic 142, 3) := by decide +kernel
theorem dX4_about_31 : decode cX4_about 31 = .ok (.aload_n 0, 1) := by decide +kernel
theorem dX4_about_32 : decode cX4_about 32 = .ok (.getfield 10, 3) := by decide +kernel
theorem dX4_about_35 : decode cX4_about 35 = .ok (.getfield 97, 3) := by decide +kernel
theorem dX4_about_38 : decode cX4_about 38 = .ok (.iload_n 1, 1) := by decide +kernel
theorem dX4_about_39 : decode cX4_about 39 = .ok (.aaload, 1) := by decide +kernel
theorem dX4_about_40 : decode cX4_about 40 = .ok (.iload_n 2, 1) := by decide +kernel
theorem dX4_about_41 : decode cX4_about 41 = .ok (.aload_n 0, 1) := by decide +kernel
theorem dX4_about_42 : decode cX4_about 42 = .ok (.getfield 10, 3) := by decide +kernel
theorem dX4_about_45 : decode cX4_about 45 = .ok (.invokevirtual 151, 3) := by decide +kernel
theorem dX4_about_48 : decode cX4_about 48 = .ok (.invokevirtual 155, 3) := by decide +kernel
theorem dX4_about_51 : decode cX4_about 51 = .ok (.ireturn, 1) := by decide +kernel
theorem dX4_light_0 : decode cX4_light 0 = .ok (.aload_n 0, 1) := by decide +kernel
theorem dX4_light_1 : decode cX4_light 1 = .ok (.iload_n 1, 1) := by decide +kernel
theorem dX4_light_2 : decode cX4_light 2 = .ok (.invokevirtual 75, 3) := by decide +kernel
theorem dX4_light_5 : decode cX4_light 5 = .ok (.iload_n 2, 1) := by decide +kernel
theorem dX4_light_6 : decode cX4_light 6 = .ok (.iconst 0, 1) := by decide +kernel
theorem dX4_light_7 : decode cX4_light 7 = .ok (.iconst 3, 1) := by decide +kernel
theorem dX4_light_8 : decode cX4_light 8 = .ok (.invokestatic 142, 3) := by decide +kernel
theorem dX4_light_11 : decode cX4_light 11 = .ok (.aload_n 0, 1) := by decide +kernel
theorem dX4_light_12 : decode cX4_light 12 = .ok (.getfield 10, 3) := by decide +kernel
theorem dX4_light_15 : decode cX4_light 15 = .ok (.aload_n 0, 1) := by decide +kernel
theorem dX4_light_16 : decode cX4_light 16 = .ok (.getfield 10, 3) := by decide +kernel
theorem dX4_light_19 : decode cX4_light 19 = .ok (.getfield 66, 3) := by decide +kernel
theorem dX4_light_22 : decode cX4_light 22 = .ok (.iload_n 1, 1) := by decide +kernel
theorem dX4_light_23 : decode cX4_light 23 = .ok (.aaload, 1) := by decide +kernel
theorem dX4_light_24 : decode cX4_light 24 = .ok (.iload_n 2, 1) := by decide +kernel
theorem dX4_light_25 : decode cX4_light 25 = .ok (.invokevirtual 158, 3) := by decide +kernel
theorem dX4_light_28 : decode cX4_light 28 = .ok (.ireturn, 1) := by decide +kernel
theorem dX4_code_0 : decode cX4_code 0 = .ok (.iload_n 1, 1) := by decide +kernel
theorem dX4_code_1 : decode cX4_code 1 = .ok (.invokestatic 42, 3) := by decide +kernel
theorem dX4_code_4 : decode cX4_code 4 = .ok (.iload_n 2, 1) := by decide +kernel
theorem dX4_code_5 : decode cX4_code 5 = .ok (.iconst 0, 1) := by decide +kernel
theorem dX4_code_6 : decode cX4_code 6 = .ok (.iconst 3, 1) := by decide +kernel
theorem dX4_code_7 : decode cX4_code 7 = .ok (.invokestatic 142, 3) := by decide +kernel
theorem dX4_code_10 : decode cX4_code 10 = .ok (.aload_n 0, 1) := by decide +kernel
theorem dX4_code_11 : decode cX4_code 11 = .ok (.getfield 10, 3) := by decide +kernel
theorem dX4_code_14 : decode cX4_code 14 = .ok (.iload_n 1, 1) := by decide +kernel
theorem dX4_code_15 : decode cX4_code 15 = .ok (.iload_n 2, 1) := by decide +kernel
theorem dX4_code_16 : decode cX4_code 16 = .ok (.invokevirtual 162, 3) := by decide +kernel
theorem dX4_code_19 : decode cX4_code 19 = .ok (.ireturn, 1) := by decide +kernel
